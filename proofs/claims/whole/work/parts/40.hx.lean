/-! printed by wip/whole/gen40.py: the cells of the class, as a function of groups of values -/
/-- a row read at an int; a row written at an int -/
def aG {α : Type} (xs : List α) (i : Int32) : Option α := if i < 0 ∨ xs.length ≤ i.toNatClampNeg then none else xs[i.toNatClampNeg]?
def aS {α β : Type} (xs : List α) (i : Int32) (x : α) (f : List α → β) : Option β := if i < 0 ∨ xs.length ≤ i.toNatClampNeg then none else some (f (xs.set i.toNatClampNeg x))
abbrev px_T : Type := List Int32 × Int32 × Int32 × List Int32 × List Int32 × List Int64 × Int32 × Int32 × Int32
abbrev px_D : Type := List Int32
abbrev px_S : Type := Int32 × Int32 × List Int32
abbrev px_K : Type := List Int32 × Int32 × List Int32 × Int32 × List Int32 × Int32
abbrev px_R : Type := List Int32 × Int32 × Int32 × List Int32 × List Int32 × Int32 × List Int32 × Int32 × List Int32 × List Int32 × List Int32
abbrev px_C : Type := List Int32 × List Int32 × List Int32 × Int32 × Int32
abbrev px_W : Type := List Int32 × Int32 × Int32 × List Int32 × List Int32 × List Int32 × List Int32 × List Int32 × List Int32
abbrev px_U : Type := List Int64 × List Int64 × List Int32 × Int32 × Int32
abbrev px_q : Type := List Int64 × Int32 × List Int64 × List Int32 × Int32 × List Int32 × List Int32 × List Int32 × Int32 × Int32 × List Int64 × List Int32 × List Int32 × List Int32 × List Int32 × List Int32 × Int32 × List Int32 × Int32 × List Int32 × Int32 × List Int32 × Int32
def px_ta (sw : Bool) : Nat := bif sw then 116 else 99
def px_ca (c2 : Bool) : Nat := bif c2 then 86 else 85
def px_wa (w2 : Bool) : Nat := bif w2 then 94 else 93
def px_q0 (b : Nat) (q : px_q) : List mm_C := [mm_O 8 [.ref (b + 1), .int q.2.1, .ref (b + 2), .ref (b + 3), .int q.2.2.2.2.1, .ref (b + 4), .ref (b + 5), .ref (b + 6), .int q.2.2.2.2.2.2.2.2.1, .int q.2.2.2.2.2.2.2.2.2.1, .ref (b + 7), .ref (b + 8), .ref (b + 9), .ref (b + 10), .ref (b + 11), .ref (b + 12), .int q.2.2.2.2.2.2.2.2.2.2.2.2.2.2.2.2.1, .ref (b + 13), .int q.2.2.2.2.2.2.2.2.2.2.2.2.2.2.2.2.2.2.1, .ref (b + 14)], mm_L q.1, mm_L q.2.2.1, mm_I 0 q.2.2.2.1, mm_I 0 q.2.2.2.2.2.1, mm_I 0 q.2.2.2.2.2.2.1, mm_I 0 q.2.2.2.2.2.2.2.1, mm_L q.2.2.2.2.2.2.2.2.2.2.1, mm_I 0 q.2.2.2.2.2.2.2.2.2.2.2.1, mm_I 0 q.2.2.2.2.2.2.2.2.2.2.2.2.1, mm_I 0 q.2.2.2.2.2.2.2.2.2.2.2.2.2.1, mm_I 0 q.2.2.2.2.2.2.2.2.2.2.2.2.2.2.1, mm_I 0 q.2.2.2.2.2.2.2.2.2.2.2.2.2.2.2.1, mm_I 0 q.2.2.2.2.2.2.2.2.2.2.2.2.2.2.2.2.2.1, mm_O 7 [.ref (b + 15), .int q.2.2.2.2.2.2.2.2.2.2.2.2.2.2.2.2.2.2.2.2.1, .ref (b + 16), .int q.2.2.2.2.2.2.2.2.2.2.2.2.2.2.2.2.2.2.2.2.2.2], mm_I 0 q.2.2.2.2.2.2.2.2.2.2.2.2.2.2.2.2.2.2.2.1, mm_I 0 q.2.2.2.2.2.2.2.2.2.2.2.2.2.2.2.2.2.2.2.2.2.1]
def px_l (sw c2 w2 : Bool) (T : px_T) (D : px_D) (S : px_S) (S1 : px_S) (K : px_K) (R : px_R) (C : px_C) (W : px_W) (U : px_U) (q : px_q) (q1 : px_q) (B0 : px_K) (B1 : px_K) (B2 : px_K) (B3 : px_K) : List mm_C :=
  [mm_O 9 [.ref 60, .ref 65, .ref 67, .ref 69, .ref 71, .ref 75, .ref 83, .ref 87, .ref 95, .ref 96, .ref 97, .ref 98, .ref (px_ta sw), .ref (px_ta (!sw)), .int U.2.2.2.1, .int U.2.2.2.2],
   mm_O 0 [.ref 61, .int T.2.1, .int T.2.2.1, .ref 62, .ref 63, .ref 64, .int T.2.2.2.2.2.2.1, .int T.2.2.2.2.2.2.2.1, .int T.2.2.2.2.2.2.2.2],
   mm_I 1 T.1,
   mm_I 0 T.2.2.2.1,
   mm_I 0 T.2.2.2.2.1,
   mm_L T.2.2.2.2.2.1,
   mm_O 1 [.ref 66],
   mm_I 0 D,
   mm_O 2 [.int S.1, .int S.2.1, .ref 68],
   mm_I 0 S.2.2,
   mm_O 2 [.int S1.1, .int S1.2.1, .ref 70],
   mm_I 0 S1.2.2,
   mm_O 3 [.ref 72, .int K.2.1, .ref 73, .int K.2.2.2.1, .ref 74, .int K.2.2.2.2.2],
   mm_I 0 K.1,
   mm_I 0 K.2.2.1,
   mm_I 0 K.2.2.2.2.1,
   mm_O 4 [.ref 76, .int R.2.1, .int R.2.2.1, .ref 77, .ref 78, .int R.2.2.2.2.2.1, .ref 79, .int R.2.2.2.2.2.2.2.1, .ref 80, .ref 81, .ref 82],
   mm_I 0 R.1,
   mm_I 0 R.2.2.2.1,
   mm_I 0 R.2.2.2.2.1,
   mm_I 0 R.2.2.2.2.2.2.1,
   mm_I 0 R.2.2.2.2.2.2.2.2.1,
   mm_I 0 R.2.2.2.2.2.2.2.2.2.1,
   mm_I 0 R.2.2.2.2.2.2.2.2.2.2,
   mm_O 5 [.ref 84, .ref (px_ca c2), .ref (px_ca (!c2)), .int C.2.2.2.1, .int C.2.2.2.2],
   mm_I 0 C.1,
   mm_I 0 (bif c2 then C.2.2.1 else C.2.1),
   mm_I 0 (bif c2 then C.2.1 else C.2.2.1),
   mm_O 6 [.ref 88, .int W.2.1, .int W.2.2.1, .ref 89, .ref 90, .ref 91, .ref 92, .ref (px_wa w2), .ref (px_wa (!w2))],
   mm_I 0 W.1,
   mm_I 0 W.2.2.2.1,
   mm_I 0 W.2.2.2.2.1,
   mm_I 0 W.2.2.2.2.2.1,
   mm_I 0 W.2.2.2.2.2.2.1,
   mm_I 0 (bif w2 then W.2.2.2.2.2.2.2.2 else W.2.2.2.2.2.2.2.1),
   mm_I 0 (bif w2 then W.2.2.2.2.2.2.2.1 else W.2.2.2.2.2.2.2.2),
   mm_L U.1,
   mm_L U.2.1,
   mm_O 1003 [.ref 133, .ref 137, .ref 141, .ref 145],
   mm_I 2 U.2.2.1] ++ (px_q0 99 (bif sw then q1 else q) ++ (px_q0 116 (bif sw then q else q1) ++ [mm_O 3 [.ref 134, .int B0.2.1, .ref 135, .int B0.2.2.2.1, .ref 136, .int B0.2.2.2.2.2],
   mm_I 0 B0.1,
   mm_I 0 B0.2.2.1,
   mm_I 0 B0.2.2.2.2.1,
   mm_O 3 [.ref 138, .int B1.2.1, .ref 139, .int B1.2.2.2.1, .ref 140, .int B1.2.2.2.2.2],
   mm_I 0 B1.1,
   mm_I 0 B1.2.2.1,
   mm_I 0 B1.2.2.2.2.1,
   mm_O 3 [.ref 142, .int B2.2.1, .ref 143, .int B2.2.2.2.1, .ref 144, .int B2.2.2.2.2.2],
   mm_I 0 B2.1,
   mm_I 0 B2.2.2.1,
   mm_I 0 B2.2.2.2.2.1,
   mm_O 3 [.ref 146, .int B3.2.1, .ref 147, .int B3.2.2.2.1, .ref 148, .int B3.2.2.2.2.2],
   mm_I 0 B3.1,
   mm_I 0 B3.2.2.1,
   mm_I 0 B3.2.2.2.2.1]))
/-- the heap: what stands ahead, the class's cells, what stands behind -/
def px_f (E M : Nat → mm_C) (L : List mm_C) : Nat → mm_C := fun j => if j < 59 then E j else if j < 149 then L.getD (j - 59) (mm_I 0 []) else M j
def px_h (z : Nat) (E M : Nat → mm_C) (L : List mm_C) : mm_H := (205, z, px_f E M L)
theorem px_at {z : Nat} {E M : Nat → mm_C} {L : List mm_C} {i : Nat} {c : mm_C} (hi : i < 90) (hc : L[i]? = some c) : (px_h z E M L).2.2 (59 + i) = c := by
  show px_f E M L (59 + i) = c
  unfold px_f
  rw [if_neg (by omega), if_pos (by omega), show 59 + i - 59 = i by omega, List.getD, hc]; rfl
theorem px_set {z : Nat} {E M : Nat → mm_C} {L : List mm_C} {i : Nat} {c : mm_C} (hi : i < 90) (hL : L.length = 90) : mm_hs (px_h z E M L) (59 + i) c = px_h z E M (L.set i c) := by
  unfold mm_hs px_h
  congr 2
  funext j
  show (if j = 59 + i then c else px_f E M L j) = px_f E M (L.set i c) j
  unfold px_f
  by_cases hj : j = 59 + i
  · rw [if_pos hj, if_neg (by omega), if_pos (by omega), hj, show 59 + i - 59 = i by omega, List.getD, List.getElem?_set_self (by omega)]; rfl
  · rw [if_neg hj]
    by_cases h1 : j < 59
    · rw [if_pos h1, if_pos h1]
    · rw [if_neg h1, if_neg h1]
      by_cases h2 : j < 149
      · rw [if_pos h2, if_pos h2, List.getD, List.getD, List.getElem?_set_ne (by omega)]
      · rw [if_neg h2, if_neg h2]
theorem aG_I {h : mm_H} {a t t' : Nat} {i : Int32} {xs : List Int32} (hc : h.2.2 a = mm_I t xs) (ht : t = t' ∨ t = t') : mm_gI h a t' t' i = aG xs i := by
  unfold mm_gI aG; rw [hc]; simp only []; rw [if_pos ht]
theorem aG_0 {h : mm_H} {a : Nat} {i : Int32} {xs : List Int32} (hc : h.2.2 a = mm_I 0 xs) : mm_gI h a 0 9 i = aG xs i := by
  unfold mm_gI aG; rw [hc]; simp only []; rw [if_pos (Or.inl trivial)]
theorem aG_1 {h : mm_H} {a : Nat} {i : Int32} {xs : List Int32} (hc : h.2.2 a = mm_I 1 xs) : mm_gI h a 1 1 i = aG xs i := by
  unfold mm_gI aG; rw [hc]; simp only []; rw [if_pos (Or.inl trivial)]
theorem aG_2 {h : mm_H} {a : Nat} {i : Int32} {xs : List Int32} (hc : h.2.2 a = mm_I 2 xs) : mm_gI h a 2 8 i = aG xs i := by
  unfold mm_gI aG; rw [hc]; simp only []; rw [if_pos (Or.inl trivial)]
theorem aG_L {h : mm_H} {a : Nat} {i : Int32} {xs : List Int64} (hc : h.2.2 a = mm_L xs) : mm_gL h a i = aG xs i := by
  unfold mm_gL aG; rw [hc]
theorem aS_I {h : mm_H} {a t : Nat} {i x : Int32} {xs : List Int32} {f : List Int32 → mm_H} (hc : h.2.2 a = mm_I t xs) (hf : ∀ l, mm_hs h a (mm_I t l) = f l) : mm_sI h a t i x = aS xs i x f := by
  unfold mm_sI aS; rw [hc]; simp only []; rw [if_pos trivial]; simp only [hf]
theorem aS_L {h : mm_H} {a : Nat} {i : Int32} {x : Int64} {xs : List Int64} {f : List Int64 → mm_H} (hc : h.2.2 a = mm_L xs) (hf : ∀ l, mm_hs h a (mm_L l) = f l) : mm_sL h a i x = aS xs i x f := by
  unfold mm_sL aS; rw [hc]; simp only [hf]
theorem aN_I {h : mm_H} {a t : Nat} {xs : List Int32} (hc : h.2.2 a = mm_I t xs) : mm_gN h a = some (nI xs.length) := by unfold mm_gN; rw [hc]; rfl
theorem aN_L {h : mm_H} {a : Nat} {xs : List Int64} (hc : h.2.2 a = mm_L xs) : mm_gN h a = some (nI xs.length) := by unfold mm_gN; rw [hc]; rfl
theorem aF_g {h : mm_H} {a c i : Nat} {fs : List Value} {v : Value} (hc : h.2.2 a = mm_O c fs) (h9 : c < 1000) (hv : fs[i]? = some v) : mm_gF h a c i = some v := (mm_gF_at hc h9).trans hv
theorem aF_s {P : mm_P} {h h' : mm_H} {a c i : Nat} {v : Value} {fs : List Value} (hc : h.2.2 a = mm_O c fs) (hk : (decide (c < 900) && (decide (i < fs.length) && mm_ok ((P.2.2.1 c).getD i .byte) v)) = true) (hw : mm_hs h a (mm_O c (fs.set i v)) = h') : mm_sF P h a c i v = some h' := (mm_sF_at hc hk).trans (congrArg some hw)
theorem aF_c {h : mm_H} {a c : Nat} {fs : List Value} (hc : h.2.2 a = mm_O c fs) : mm_cls h a = c := by unfold mm_cls; rw [hc]
section PX
variable {fx : List Value → mm_H → Option (List Value × mm_H)} {z : Nat} {E M : Nat → mm_C} {sw c2 w2 : Bool} {T : px_T} {D : px_D} {S : px_S} {S1 : px_S} {K : px_K} {R : px_R} {C : px_C} {W : px_W} {U : px_U} {q : px_q} {q1 : px_q} {B0 : px_K} {B1 : px_K} {B2 : px_K} {B3 : px_K}
theorem px_ll : (px_l sw c2 w2 T D S S1 K R C W U q q1 B0 B1 B2 B3).length = 90 := by cases sw <;> rfl
theorem pk_x : (px_h z E M (px_l sw c2 w2 T D S S1 K R C W U q q1 B0 B1 B2 B3)).2.2 59 = mm_O 9 [.ref 60, .ref 65, .ref 67, .ref 69, .ref 71, .ref 75, .ref 83, .ref 87, .ref 95, .ref 96, .ref 97, .ref 98, .ref (px_ta sw), .ref (px_ta (!sw)), .int U.2.2.2.1, .int U.2.2.2.2] := px_at (i := 0) (by decide) rfl
theorem xc_x : mm_cls (px_h z E M (px_l sw c2 w2 T D S S1 K R C W U q q1 B0 B1 B2 B3)) (59) = 9 := aF_c pk_x
theorem xg_x_0 : mm_gF (px_h z E M (px_l sw c2 w2 T D S S1 K R C W U q q1 B0 B1 B2 B3)) (59) 9 0 = some (.ref 60) := aF_g pk_x (by decide) rfl
theorem xg_x_1 : mm_gF (px_h z E M (px_l sw c2 w2 T D S S1 K R C W U q q1 B0 B1 B2 B3)) (59) 9 1 = some (.ref 65) := aF_g pk_x (by decide) rfl
theorem xg_x_2 : mm_gF (px_h z E M (px_l sw c2 w2 T D S S1 K R C W U q q1 B0 B1 B2 B3)) (59) 9 2 = some (.ref 67) := aF_g pk_x (by decide) rfl
theorem xg_x_3 : mm_gF (px_h z E M (px_l sw c2 w2 T D S S1 K R C W U q q1 B0 B1 B2 B3)) (59) 9 3 = some (.ref 69) := aF_g pk_x (by decide) rfl
theorem xg_x_4 : mm_gF (px_h z E M (px_l sw c2 w2 T D S S1 K R C W U q q1 B0 B1 B2 B3)) (59) 9 4 = some (.ref 71) := aF_g pk_x (by decide) rfl
theorem xg_x_5 : mm_gF (px_h z E M (px_l sw c2 w2 T D S S1 K R C W U q q1 B0 B1 B2 B3)) (59) 9 5 = some (.ref 75) := aF_g pk_x (by decide) rfl
theorem xg_x_6 : mm_gF (px_h z E M (px_l sw c2 w2 T D S S1 K R C W U q q1 B0 B1 B2 B3)) (59) 9 6 = some (.ref 83) := aF_g pk_x (by decide) rfl
theorem xg_x_7 : mm_gF (px_h z E M (px_l sw c2 w2 T D S S1 K R C W U q q1 B0 B1 B2 B3)) (59) 9 7 = some (.ref 87) := aF_g pk_x (by decide) rfl
theorem xg_x_8 : mm_gF (px_h z E M (px_l sw c2 w2 T D S S1 K R C W U q q1 B0 B1 B2 B3)) (59) 9 8 = some (.ref 95) := aF_g pk_x (by decide) rfl
theorem xg_x_9 : mm_gF (px_h z E M (px_l sw c2 w2 T D S S1 K R C W U q q1 B0 B1 B2 B3)) (59) 9 9 = some (.ref 96) := aF_g pk_x (by decide) rfl
theorem xg_x_10 : mm_gF (px_h z E M (px_l sw c2 w2 T D S S1 K R C W U q q1 B0 B1 B2 B3)) (59) 9 10 = some (.ref 97) := aF_g pk_x (by decide) rfl
theorem xg_x_11 : mm_gF (px_h z E M (px_l sw c2 w2 T D S S1 K R C W U q q1 B0 B1 B2 B3)) (59) 9 11 = some (.ref 98) := aF_g pk_x (by decide) rfl
theorem xg_x_12 : mm_gF (px_h z E M (px_l sw c2 w2 T D S S1 K R C W U q q1 B0 B1 B2 B3)) (59) 9 12 = some (.ref (px_ta sw)) := aF_g pk_x (by decide) rfl
theorem xg_x_13 : mm_gF (px_h z E M (px_l sw c2 w2 T D S S1 K R C W U q q1 B0 B1 B2 B3)) (59) 9 13 = some (.ref (px_ta (!sw))) := aF_g pk_x (by decide) rfl
theorem xg_x_14 : mm_gF (px_h z E M (px_l sw c2 w2 T D S S1 K R C W U q q1 B0 B1 B2 B3)) (59) 9 14 = some (.int U.2.2.2.1) := aF_g pk_x (by decide) rfl
theorem xs_x_14 {x : Int32} : mm_sF (mp_P fx) (px_h z E M (px_l sw c2 w2 T D S S1 K R C W U q q1 B0 B1 B2 B3)) (59) 9 14 (.int x) = some (px_h z E M (px_l sw c2 w2 T D S S1 K R C W (U.1, U.2.1, U.2.2.1, x, U.2.2.2.2) q q1 B0 B1 B2 B3)) := aF_s pk_x rfl (px_set (i := 0) (by decide) px_ll)
theorem xg_x_15 : mm_gF (px_h z E M (px_l sw c2 w2 T D S S1 K R C W U q q1 B0 B1 B2 B3)) (59) 9 15 = some (.int U.2.2.2.2) := aF_g pk_x (by decide) rfl
theorem xs_x_15 {x : Int32} : mm_sF (mp_P fx) (px_h z E M (px_l sw c2 w2 T D S S1 K R C W U q q1 B0 B1 B2 B3)) (59) 9 15 (.int x) = some (px_h z E M (px_l sw c2 w2 T D S S1 K R C W (U.1, U.2.1, U.2.2.1, U.2.2.2.1, x) q q1 B0 B1 B2 B3)) := aF_s pk_x rfl (px_set (i := 0) (by decide) px_ll)
theorem pk_T : (px_h z E M (px_l sw c2 w2 T D S S1 K R C W U q q1 B0 B1 B2 B3)).2.2 60 = mm_O 0 [.ref 61, .int T.2.1, .int T.2.2.1, .ref 62, .ref 63, .ref 64, .int T.2.2.2.2.2.2.1, .int T.2.2.2.2.2.2.2.1, .int T.2.2.2.2.2.2.2.2] := px_at (i := 1) (by decide) rfl
theorem xc_T : mm_cls (px_h z E M (px_l sw c2 w2 T D S S1 K R C W U q q1 B0 B1 B2 B3)) (60) = 0 := aF_c pk_T
theorem xg_T_0 : mm_gF (px_h z E M (px_l sw c2 w2 T D S S1 K R C W U q q1 B0 B1 B2 B3)) (60) 0 0 = some (.ref 61) := aF_g pk_T (by decide) rfl
theorem xg_T_1 : mm_gF (px_h z E M (px_l sw c2 w2 T D S S1 K R C W U q q1 B0 B1 B2 B3)) (60) 0 1 = some (.int T.2.1) := aF_g pk_T (by decide) rfl
theorem xs_T_1 {x : Int32} : mm_sF (mp_P fx) (px_h z E M (px_l sw c2 w2 T D S S1 K R C W U q q1 B0 B1 B2 B3)) (60) 0 1 (.int x) = some (px_h z E M (px_l sw c2 w2 (T.1, x, T.2.2.1, T.2.2.2.1, T.2.2.2.2.1, T.2.2.2.2.2.1, T.2.2.2.2.2.2.1, T.2.2.2.2.2.2.2.1, T.2.2.2.2.2.2.2.2) D S S1 K R C W U q q1 B0 B1 B2 B3)) := aF_s pk_T rfl (px_set (i := 1) (by decide) px_ll)
theorem xg_T_2 : mm_gF (px_h z E M (px_l sw c2 w2 T D S S1 K R C W U q q1 B0 B1 B2 B3)) (60) 0 2 = some (.int T.2.2.1) := aF_g pk_T (by decide) rfl
theorem xs_T_2 {x : Int32} : mm_sF (mp_P fx) (px_h z E M (px_l sw c2 w2 T D S S1 K R C W U q q1 B0 B1 B2 B3)) (60) 0 2 (.int x) = some (px_h z E M (px_l sw c2 w2 (T.1, T.2.1, x, T.2.2.2.1, T.2.2.2.2.1, T.2.2.2.2.2.1, T.2.2.2.2.2.2.1, T.2.2.2.2.2.2.2.1, T.2.2.2.2.2.2.2.2) D S S1 K R C W U q q1 B0 B1 B2 B3)) := aF_s pk_T rfl (px_set (i := 1) (by decide) px_ll)
theorem xg_T_3 : mm_gF (px_h z E M (px_l sw c2 w2 T D S S1 K R C W U q q1 B0 B1 B2 B3)) (60) 0 3 = some (.ref 62) := aF_g pk_T (by decide) rfl
theorem xg_T_4 : mm_gF (px_h z E M (px_l sw c2 w2 T D S S1 K R C W U q q1 B0 B1 B2 B3)) (60) 0 4 = some (.ref 63) := aF_g pk_T (by decide) rfl
theorem xg_T_5 : mm_gF (px_h z E M (px_l sw c2 w2 T D S S1 K R C W U q q1 B0 B1 B2 B3)) (60) 0 5 = some (.ref 64) := aF_g pk_T (by decide) rfl
theorem xg_T_6 : mm_gF (px_h z E M (px_l sw c2 w2 T D S S1 K R C W U q q1 B0 B1 B2 B3)) (60) 0 6 = some (.int T.2.2.2.2.2.2.1) := aF_g pk_T (by decide) rfl
theorem xs_T_6 {x : Int32} : mm_sF (mp_P fx) (px_h z E M (px_l sw c2 w2 T D S S1 K R C W U q q1 B0 B1 B2 B3)) (60) 0 6 (.int x) = some (px_h z E M (px_l sw c2 w2 (T.1, T.2.1, T.2.2.1, T.2.2.2.1, T.2.2.2.2.1, T.2.2.2.2.2.1, x, T.2.2.2.2.2.2.2.1, T.2.2.2.2.2.2.2.2) D S S1 K R C W U q q1 B0 B1 B2 B3)) := aF_s pk_T rfl (px_set (i := 1) (by decide) px_ll)
theorem xg_T_7 : mm_gF (px_h z E M (px_l sw c2 w2 T D S S1 K R C W U q q1 B0 B1 B2 B3)) (60) 0 7 = some (.int T.2.2.2.2.2.2.2.1) := aF_g pk_T (by decide) rfl
theorem xs_T_7 {x : Int32} : mm_sF (mp_P fx) (px_h z E M (px_l sw c2 w2 T D S S1 K R C W U q q1 B0 B1 B2 B3)) (60) 0 7 (.int x) = some (px_h z E M (px_l sw c2 w2 (T.1, T.2.1, T.2.2.1, T.2.2.2.1, T.2.2.2.2.1, T.2.2.2.2.2.1, T.2.2.2.2.2.2.1, x, T.2.2.2.2.2.2.2.2) D S S1 K R C W U q q1 B0 B1 B2 B3)) := aF_s pk_T rfl (px_set (i := 1) (by decide) px_ll)
theorem xg_T_8 : mm_gF (px_h z E M (px_l sw c2 w2 T D S S1 K R C W U q q1 B0 B1 B2 B3)) (60) 0 8 = some (.int T.2.2.2.2.2.2.2.2) := aF_g pk_T (by decide) rfl
theorem xs_T_8 {x : Int32} : mm_sF (mp_P fx) (px_h z E M (px_l sw c2 w2 T D S S1 K R C W U q q1 B0 B1 B2 B3)) (60) 0 8 (.int x) = some (px_h z E M (px_l sw c2 w2 (T.1, T.2.1, T.2.2.1, T.2.2.2.1, T.2.2.2.2.1, T.2.2.2.2.2.1, T.2.2.2.2.2.2.1, T.2.2.2.2.2.2.2.1, x) D S S1 K R C W U q q1 B0 B1 B2 B3)) := aF_s pk_T rfl (px_set (i := 1) (by decide) px_ll)
theorem pk_T_signs : (px_h z E M (px_l sw c2 w2 T D S S1 K R C W U q q1 B0 B1 B2 B3)).2.2 61 = mm_I 1 T.1 := px_at (i := 2) (by decide) rfl
theorem xa_T_signs {i : Int32} : mm_gI (px_h z E M (px_l sw c2 w2 T D S S1 K R C W U q q1 B0 B1 B2 B3)) (61) 1 1 i = aG T.1 i := aG_1 pk_T_signs
theorem xb_T_signs {i x : Int32} : mm_sI (px_h z E M (px_l sw c2 w2 T D S S1 K R C W U q q1 B0 B1 B2 B3)) (61) 1 i x = aS T.1 i x (fun l => px_h z E M (px_l sw c2 w2 (l, T.2.1, T.2.2.1, T.2.2.2.1, T.2.2.2.2.1, T.2.2.2.2.2.1, T.2.2.2.2.2.2.1, T.2.2.2.2.2.2.2.1, T.2.2.2.2.2.2.2.2) D S S1 K R C W U q q1 B0 B1 B2 B3)) := aS_I pk_T_signs (fun l => (px_set (i := 2) (by decide) px_ll))
theorem xn_T_signs : mm_gN (px_h z E M (px_l sw c2 w2 T D S S1 K R C W U q q1 B0 B1 B2 B3)) (61) = some (nI (T.1).length) := aN_I pk_T_signs
theorem pk_T_types : (px_h z E M (px_l sw c2 w2 T D S S1 K R C W U q q1 B0 B1 B2 B3)).2.2 62 = mm_I 0 T.2.2.2.1 := px_at (i := 3) (by decide) rfl
theorem xa_T_types {i : Int32} : mm_gI (px_h z E M (px_l sw c2 w2 T D S S1 K R C W U q q1 B0 B1 B2 B3)) (62) 0 9 i = aG T.2.2.2.1 i := aG_0 pk_T_types
theorem xb_T_types {i x : Int32} : mm_sI (px_h z E M (px_l sw c2 w2 T D S S1 K R C W U q q1 B0 B1 B2 B3)) (62) 0 i x = aS T.2.2.2.1 i x (fun l => px_h z E M (px_l sw c2 w2 (T.1, T.2.1, T.2.2.1, l, T.2.2.2.2.1, T.2.2.2.2.2.1, T.2.2.2.2.2.2.1, T.2.2.2.2.2.2.2.1, T.2.2.2.2.2.2.2.2) D S S1 K R C W U q q1 B0 B1 B2 B3)) := aS_I pk_T_types (fun l => (px_set (i := 3) (by decide) px_ll))
theorem xn_T_types : mm_gN (px_h z E M (px_l sw c2 w2 T D S S1 K R C W U q q1 B0 B1 B2 B3)) (62) = some (nI (T.2.2.2.1).length) := aN_I pk_T_types
theorem pk_T_starts : (px_h z E M (px_l sw c2 w2 T D S S1 K R C W U q q1 B0 B1 B2 B3)).2.2 63 = mm_I 0 T.2.2.2.2.1 := px_at (i := 4) (by decide) rfl
theorem xa_T_starts {i : Int32} : mm_gI (px_h z E M (px_l sw c2 w2 T D S S1 K R C W U q q1 B0 B1 B2 B3)) (63) 0 9 i = aG T.2.2.2.2.1 i := aG_0 pk_T_starts
theorem xb_T_starts {i x : Int32} : mm_sI (px_h z E M (px_l sw c2 w2 T D S S1 K R C W U q q1 B0 B1 B2 B3)) (63) 0 i x = aS T.2.2.2.2.1 i x (fun l => px_h z E M (px_l sw c2 w2 (T.1, T.2.1, T.2.2.1, T.2.2.2.1, l, T.2.2.2.2.2.1, T.2.2.2.2.2.2.1, T.2.2.2.2.2.2.2.1, T.2.2.2.2.2.2.2.2) D S S1 K R C W U q q1 B0 B1 B2 B3)) := aS_I pk_T_starts (fun l => (px_set (i := 4) (by decide) px_ll))
theorem xn_T_starts : mm_gN (px_h z E M (px_l sw c2 w2 T D S S1 K R C W U q q1 B0 B1 B2 B3)) (63) = some (nI (T.2.2.2.2.1).length) := aN_I pk_T_starts
theorem pk_T_values : (px_h z E M (px_l sw c2 w2 T D S S1 K R C W U q q1 B0 B1 B2 B3)).2.2 64 = mm_L T.2.2.2.2.2.1 := px_at (i := 5) (by decide) rfl
theorem xa_T_values {i : Int32} : mm_gL (px_h z E M (px_l sw c2 w2 T D S S1 K R C W U q q1 B0 B1 B2 B3)) (64) i = aG T.2.2.2.2.2.1 i := aG_L pk_T_values
theorem xb_T_values {i : Int32} {x : Int64} : mm_sL (px_h z E M (px_l sw c2 w2 T D S S1 K R C W U q q1 B0 B1 B2 B3)) (64) i x = aS T.2.2.2.2.2.1 i x (fun l => px_h z E M (px_l sw c2 w2 (T.1, T.2.1, T.2.2.1, T.2.2.2.1, T.2.2.2.2.1, l, T.2.2.2.2.2.2.1, T.2.2.2.2.2.2.2.1, T.2.2.2.2.2.2.2.2) D S S1 K R C W U q q1 B0 B1 B2 B3)) := aS_L pk_T_values (fun l => (px_set (i := 5) (by decide) px_ll))
theorem xn_T_values : mm_gN (px_h z E M (px_l sw c2 w2 T D S S1 K R C W U q q1 B0 B1 B2 B3)) (64) = some (nI (T.2.2.2.2.2.1).length) := aN_L pk_T_values
theorem pk_D : (px_h z E M (px_l sw c2 w2 T D S S1 K R C W U q q1 B0 B1 B2 B3)).2.2 65 = mm_O 1 [.ref 66] := px_at (i := 6) (by decide) rfl
theorem xc_D : mm_cls (px_h z E M (px_l sw c2 w2 T D S S1 K R C W U q q1 B0 B1 B2 B3)) (65) = 1 := aF_c pk_D
theorem xg_D_0 : mm_gF (px_h z E M (px_l sw c2 w2 T D S S1 K R C W U q q1 B0 B1 B2 B3)) (65) 1 0 = some (.ref 66) := aF_g pk_D (by decide) rfl
theorem pk_D_draft : (px_h z E M (px_l sw c2 w2 T D S S1 K R C W U q q1 B0 B1 B2 B3)).2.2 66 = mm_I 0 D := px_at (i := 7) (by decide) rfl
theorem xa_D_draft {i : Int32} : mm_gI (px_h z E M (px_l sw c2 w2 T D S S1 K R C W U q q1 B0 B1 B2 B3)) (66) 0 9 i = aG D i := aG_0 pk_D_draft
theorem xb_D_draft {i x : Int32} : mm_sI (px_h z E M (px_l sw c2 w2 T D S S1 K R C W U q q1 B0 B1 B2 B3)) (66) 0 i x = aS D i x (fun l => px_h z E M (px_l sw c2 w2 T l S S1 K R C W U q q1 B0 B1 B2 B3)) := aS_I pk_D_draft (fun l => (px_set (i := 7) (by decide) px_ll))
theorem xn_D_draft : mm_gN (px_h z E M (px_l sw c2 w2 T D S S1 K R C W U q q1 B0 B1 B2 B3)) (66) = some (nI (D).length) := aN_I pk_D_draft
theorem pk_S : (px_h z E M (px_l sw c2 w2 T D S S1 K R C W U q q1 B0 B1 B2 B3)).2.2 67 = mm_O 2 [.int S.1, .int S.2.1, .ref 68] := px_at (i := 8) (by decide) rfl
theorem xc_S : mm_cls (px_h z E M (px_l sw c2 w2 T D S S1 K R C W U q q1 B0 B1 B2 B3)) (67) = 2 := aF_c pk_S
theorem xg_S_0 : mm_gF (px_h z E M (px_l sw c2 w2 T D S S1 K R C W U q q1 B0 B1 B2 B3)) (67) 2 0 = some (.int S.1) := aF_g pk_S (by decide) rfl
theorem xs_S_0 {x : Int32} : mm_sF (mp_P fx) (px_h z E M (px_l sw c2 w2 T D S S1 K R C W U q q1 B0 B1 B2 B3)) (67) 2 0 (.int x) = some (px_h z E M (px_l sw c2 w2 T D (x, S.2.1, S.2.2) S1 K R C W U q q1 B0 B1 B2 B3)) := aF_s pk_S rfl (px_set (i := 8) (by decide) px_ll)
theorem xg_S_1 : mm_gF (px_h z E M (px_l sw c2 w2 T D S S1 K R C W U q q1 B0 B1 B2 B3)) (67) 2 1 = some (.int S.2.1) := aF_g pk_S (by decide) rfl
theorem xs_S_1 {x : Int32} : mm_sF (mp_P fx) (px_h z E M (px_l sw c2 w2 T D S S1 K R C W U q q1 B0 B1 B2 B3)) (67) 2 1 (.int x) = some (px_h z E M (px_l sw c2 w2 T D (S.1, x, S.2.2) S1 K R C W U q q1 B0 B1 B2 B3)) := aF_s pk_S rfl (px_set (i := 8) (by decide) px_ll)
theorem xg_S_2 : mm_gF (px_h z E M (px_l sw c2 w2 T D S S1 K R C W U q q1 B0 B1 B2 B3)) (67) 2 2 = some (.ref 68) := aF_g pk_S (by decide) rfl
theorem pk_S_places : (px_h z E M (px_l sw c2 w2 T D S S1 K R C W U q q1 B0 B1 B2 B3)).2.2 68 = mm_I 0 S.2.2 := px_at (i := 9) (by decide) rfl
theorem xa_S_places {i : Int32} : mm_gI (px_h z E M (px_l sw c2 w2 T D S S1 K R C W U q q1 B0 B1 B2 B3)) (68) 0 9 i = aG S.2.2 i := aG_0 pk_S_places
theorem xb_S_places {i x : Int32} : mm_sI (px_h z E M (px_l sw c2 w2 T D S S1 K R C W U q q1 B0 B1 B2 B3)) (68) 0 i x = aS S.2.2 i x (fun l => px_h z E M (px_l sw c2 w2 T D (S.1, S.2.1, l) S1 K R C W U q q1 B0 B1 B2 B3)) := aS_I pk_S_places (fun l => (px_set (i := 9) (by decide) px_ll))
theorem xn_S_places : mm_gN (px_h z E M (px_l sw c2 w2 T D S S1 K R C W U q q1 B0 B1 B2 B3)) (68) = some (nI (S.2.2).length) := aN_I pk_S_places
theorem pk_S1 : (px_h z E M (px_l sw c2 w2 T D S S1 K R C W U q q1 B0 B1 B2 B3)).2.2 69 = mm_O 2 [.int S1.1, .int S1.2.1, .ref 70] := px_at (i := 10) (by decide) rfl
theorem xc_S1 : mm_cls (px_h z E M (px_l sw c2 w2 T D S S1 K R C W U q q1 B0 B1 B2 B3)) (69) = 2 := aF_c pk_S1
theorem xg_S1_0 : mm_gF (px_h z E M (px_l sw c2 w2 T D S S1 K R C W U q q1 B0 B1 B2 B3)) (69) 2 0 = some (.int S1.1) := aF_g pk_S1 (by decide) rfl
theorem xs_S1_0 {x : Int32} : mm_sF (mp_P fx) (px_h z E M (px_l sw c2 w2 T D S S1 K R C W U q q1 B0 B1 B2 B3)) (69) 2 0 (.int x) = some (px_h z E M (px_l sw c2 w2 T D S (x, S1.2.1, S1.2.2) K R C W U q q1 B0 B1 B2 B3)) := aF_s pk_S1 rfl (px_set (i := 10) (by decide) px_ll)
theorem xg_S1_1 : mm_gF (px_h z E M (px_l sw c2 w2 T D S S1 K R C W U q q1 B0 B1 B2 B3)) (69) 2 1 = some (.int S1.2.1) := aF_g pk_S1 (by decide) rfl
theorem xs_S1_1 {x : Int32} : mm_sF (mp_P fx) (px_h z E M (px_l sw c2 w2 T D S S1 K R C W U q q1 B0 B1 B2 B3)) (69) 2 1 (.int x) = some (px_h z E M (px_l sw c2 w2 T D S (S1.1, x, S1.2.2) K R C W U q q1 B0 B1 B2 B3)) := aF_s pk_S1 rfl (px_set (i := 10) (by decide) px_ll)
theorem xg_S1_2 : mm_gF (px_h z E M (px_l sw c2 w2 T D S S1 K R C W U q q1 B0 B1 B2 B3)) (69) 2 2 = some (.ref 70) := aF_g pk_S1 (by decide) rfl
theorem pk_S1_places : (px_h z E M (px_l sw c2 w2 T D S S1 K R C W U q q1 B0 B1 B2 B3)).2.2 70 = mm_I 0 S1.2.2 := px_at (i := 11) (by decide) rfl
theorem xa_S1_places {i : Int32} : mm_gI (px_h z E M (px_l sw c2 w2 T D S S1 K R C W U q q1 B0 B1 B2 B3)) (70) 0 9 i = aG S1.2.2 i := aG_0 pk_S1_places
theorem xb_S1_places {i x : Int32} : mm_sI (px_h z E M (px_l sw c2 w2 T D S S1 K R C W U q q1 B0 B1 B2 B3)) (70) 0 i x = aS S1.2.2 i x (fun l => px_h z E M (px_l sw c2 w2 T D S (S1.1, S1.2.1, l) K R C W U q q1 B0 B1 B2 B3)) := aS_I pk_S1_places (fun l => (px_set (i := 11) (by decide) px_ll))
theorem xn_S1_places : mm_gN (px_h z E M (px_l sw c2 w2 T D S S1 K R C W U q q1 B0 B1 B2 B3)) (70) = some (nI (S1.2.2).length) := aN_I pk_S1_places
theorem pk_K : (px_h z E M (px_l sw c2 w2 T D S S1 K R C W U q q1 B0 B1 B2 B3)).2.2 71 = mm_O 3 [.ref 72, .int K.2.1, .ref 73, .int K.2.2.2.1, .ref 74, .int K.2.2.2.2.2] := px_at (i := 12) (by decide) rfl
theorem xc_K : mm_cls (px_h z E M (px_l sw c2 w2 T D S S1 K R C W U q q1 B0 B1 B2 B3)) (71) = 3 := aF_c pk_K
theorem xg_K_0 : mm_gF (px_h z E M (px_l sw c2 w2 T D S S1 K R C W U q q1 B0 B1 B2 B3)) (71) 3 0 = some (.ref 72) := aF_g pk_K (by decide) rfl
theorem xg_K_1 : mm_gF (px_h z E M (px_l sw c2 w2 T D S S1 K R C W U q q1 B0 B1 B2 B3)) (71) 3 1 = some (.int K.2.1) := aF_g pk_K (by decide) rfl
theorem xs_K_1 {x : Int32} : mm_sF (mp_P fx) (px_h z E M (px_l sw c2 w2 T D S S1 K R C W U q q1 B0 B1 B2 B3)) (71) 3 1 (.int x) = some (px_h z E M (px_l sw c2 w2 T D S S1 (K.1, x, K.2.2.1, K.2.2.2.1, K.2.2.2.2.1, K.2.2.2.2.2) R C W U q q1 B0 B1 B2 B3)) := aF_s pk_K rfl (px_set (i := 12) (by decide) px_ll)
theorem xg_K_2 : mm_gF (px_h z E M (px_l sw c2 w2 T D S S1 K R C W U q q1 B0 B1 B2 B3)) (71) 3 2 = some (.ref 73) := aF_g pk_K (by decide) rfl
theorem xg_K_3 : mm_gF (px_h z E M (px_l sw c2 w2 T D S S1 K R C W U q q1 B0 B1 B2 B3)) (71) 3 3 = some (.int K.2.2.2.1) := aF_g pk_K (by decide) rfl
theorem xs_K_3 {x : Int32} : mm_sF (mp_P fx) (px_h z E M (px_l sw c2 w2 T D S S1 K R C W U q q1 B0 B1 B2 B3)) (71) 3 3 (.int x) = some (px_h z E M (px_l sw c2 w2 T D S S1 (K.1, K.2.1, K.2.2.1, x, K.2.2.2.2.1, K.2.2.2.2.2) R C W U q q1 B0 B1 B2 B3)) := aF_s pk_K rfl (px_set (i := 12) (by decide) px_ll)
theorem xg_K_4 : mm_gF (px_h z E M (px_l sw c2 w2 T D S S1 K R C W U q q1 B0 B1 B2 B3)) (71) 3 4 = some (.ref 74) := aF_g pk_K (by decide) rfl
theorem xg_K_5 : mm_gF (px_h z E M (px_l sw c2 w2 T D S S1 K R C W U q q1 B0 B1 B2 B3)) (71) 3 5 = some (.int K.2.2.2.2.2) := aF_g pk_K (by decide) rfl
theorem xs_K_5 {x : Int32} : mm_sF (mp_P fx) (px_h z E M (px_l sw c2 w2 T D S S1 K R C W U q q1 B0 B1 B2 B3)) (71) 3 5 (.int x) = some (px_h z E M (px_l sw c2 w2 T D S S1 (K.1, K.2.1, K.2.2.1, K.2.2.2.1, K.2.2.2.2.1, x) R C W U q q1 B0 B1 B2 B3)) := aF_s pk_K rfl (px_set (i := 12) (by decide) px_ll)
theorem pk_K_lines : (px_h z E M (px_l sw c2 w2 T D S S1 K R C W U q q1 B0 B1 B2 B3)).2.2 72 = mm_I 0 K.1 := px_at (i := 13) (by decide) rfl
theorem xa_K_lines {i : Int32} : mm_gI (px_h z E M (px_l sw c2 w2 T D S S1 K R C W U q q1 B0 B1 B2 B3)) (72) 0 9 i = aG K.1 i := aG_0 pk_K_lines
theorem xb_K_lines {i x : Int32} : mm_sI (px_h z E M (px_l sw c2 w2 T D S S1 K R C W U q q1 B0 B1 B2 B3)) (72) 0 i x = aS K.1 i x (fun l => px_h z E M (px_l sw c2 w2 T D S S1 (l, K.2.1, K.2.2.1, K.2.2.2.1, K.2.2.2.2.1, K.2.2.2.2.2) R C W U q q1 B0 B1 B2 B3)) := aS_I pk_K_lines (fun l => (px_set (i := 13) (by decide) px_ll))
theorem xn_K_lines : mm_gN (px_h z E M (px_l sw c2 w2 T D S S1 K R C W U q q1 B0 B1 B2 B3)) (72) = some (nI (K.1).length) := aN_I pk_K_lines
theorem pk_K_wishes : (px_h z E M (px_l sw c2 w2 T D S S1 K R C W U q q1 B0 B1 B2 B3)).2.2 73 = mm_I 0 K.2.2.1 := px_at (i := 14) (by decide) rfl
theorem xa_K_wishes {i : Int32} : mm_gI (px_h z E M (px_l sw c2 w2 T D S S1 K R C W U q q1 B0 B1 B2 B3)) (73) 0 9 i = aG K.2.2.1 i := aG_0 pk_K_wishes
theorem xb_K_wishes {i x : Int32} : mm_sI (px_h z E M (px_l sw c2 w2 T D S S1 K R C W U q q1 B0 B1 B2 B3)) (73) 0 i x = aS K.2.2.1 i x (fun l => px_h z E M (px_l sw c2 w2 T D S S1 (K.1, K.2.1, l, K.2.2.2.1, K.2.2.2.2.1, K.2.2.2.2.2) R C W U q q1 B0 B1 B2 B3)) := aS_I pk_K_wishes (fun l => (px_set (i := 14) (by decide) px_ll))
theorem xn_K_wishes : mm_gN (px_h z E M (px_l sw c2 w2 T D S S1 K R C W U q q1 B0 B1 B2 B3)) (73) = some (nI (K.2.2.1).length) := aN_I pk_K_wishes
theorem pk_K_sights : (px_h z E M (px_l sw c2 w2 T D S S1 K R C W U q q1 B0 B1 B2 B3)).2.2 74 = mm_I 0 K.2.2.2.2.1 := px_at (i := 15) (by decide) rfl
theorem xa_K_sights {i : Int32} : mm_gI (px_h z E M (px_l sw c2 w2 T D S S1 K R C W U q q1 B0 B1 B2 B3)) (74) 0 9 i = aG K.2.2.2.2.1 i := aG_0 pk_K_sights
theorem xb_K_sights {i x : Int32} : mm_sI (px_h z E M (px_l sw c2 w2 T D S S1 K R C W U q q1 B0 B1 B2 B3)) (74) 0 i x = aS K.2.2.2.2.1 i x (fun l => px_h z E M (px_l sw c2 w2 T D S S1 (K.1, K.2.1, K.2.2.1, K.2.2.2.1, l, K.2.2.2.2.2) R C W U q q1 B0 B1 B2 B3)) := aS_I pk_K_sights (fun l => (px_set (i := 15) (by decide) px_ll))
theorem xn_K_sights : mm_gN (px_h z E M (px_l sw c2 w2 T D S S1 K R C W U q q1 B0 B1 B2 B3)) (74) = some (nI (K.2.2.2.2.1).length) := aN_I pk_K_sights
theorem pk_R : (px_h z E M (px_l sw c2 w2 T D S S1 K R C W U q q1 B0 B1 B2 B3)).2.2 75 = mm_O 4 [.ref 76, .int R.2.1, .int R.2.2.1, .ref 77, .ref 78, .int R.2.2.2.2.2.1, .ref 79, .int R.2.2.2.2.2.2.2.1, .ref 80, .ref 81, .ref 82] := px_at (i := 16) (by decide) rfl
theorem xc_R : mm_cls (px_h z E M (px_l sw c2 w2 T D S S1 K R C W U q q1 B0 B1 B2 B3)) (75) = 4 := aF_c pk_R
theorem xg_R_0 : mm_gF (px_h z E M (px_l sw c2 w2 T D S S1 K R C W U q q1 B0 B1 B2 B3)) (75) 4 0 = some (.ref 76) := aF_g pk_R (by decide) rfl
theorem xg_R_1 : mm_gF (px_h z E M (px_l sw c2 w2 T D S S1 K R C W U q q1 B0 B1 B2 B3)) (75) 4 1 = some (.int R.2.1) := aF_g pk_R (by decide) rfl
theorem xs_R_1 {x : Int32} : mm_sF (mp_P fx) (px_h z E M (px_l sw c2 w2 T D S S1 K R C W U q q1 B0 B1 B2 B3)) (75) 4 1 (.int x) = some (px_h z E M (px_l sw c2 w2 T D S S1 K (R.1, x, R.2.2.1, R.2.2.2.1, R.2.2.2.2.1, R.2.2.2.2.2.1, R.2.2.2.2.2.2.1, R.2.2.2.2.2.2.2.1, R.2.2.2.2.2.2.2.2.1, R.2.2.2.2.2.2.2.2.2.1, R.2.2.2.2.2.2.2.2.2.2) C W U q q1 B0 B1 B2 B3)) := aF_s pk_R rfl (px_set (i := 16) (by decide) px_ll)
theorem xg_R_2 : mm_gF (px_h z E M (px_l sw c2 w2 T D S S1 K R C W U q q1 B0 B1 B2 B3)) (75) 4 2 = some (.int R.2.2.1) := aF_g pk_R (by decide) rfl
theorem xs_R_2 {x : Int32} : mm_sF (mp_P fx) (px_h z E M (px_l sw c2 w2 T D S S1 K R C W U q q1 B0 B1 B2 B3)) (75) 4 2 (.int x) = some (px_h z E M (px_l sw c2 w2 T D S S1 K (R.1, R.2.1, x, R.2.2.2.1, R.2.2.2.2.1, R.2.2.2.2.2.1, R.2.2.2.2.2.2.1, R.2.2.2.2.2.2.2.1, R.2.2.2.2.2.2.2.2.1, R.2.2.2.2.2.2.2.2.2.1, R.2.2.2.2.2.2.2.2.2.2) C W U q q1 B0 B1 B2 B3)) := aF_s pk_R rfl (px_set (i := 16) (by decide) px_ll)
theorem xg_R_3 : mm_gF (px_h z E M (px_l sw c2 w2 T D S S1 K R C W U q q1 B0 B1 B2 B3)) (75) 4 3 = some (.ref 77) := aF_g pk_R (by decide) rfl
theorem xg_R_4 : mm_gF (px_h z E M (px_l sw c2 w2 T D S S1 K R C W U q q1 B0 B1 B2 B3)) (75) 4 4 = some (.ref 78) := aF_g pk_R (by decide) rfl
theorem xg_R_5 : mm_gF (px_h z E M (px_l sw c2 w2 T D S S1 K R C W U q q1 B0 B1 B2 B3)) (75) 4 5 = some (.int R.2.2.2.2.2.1) := aF_g pk_R (by decide) rfl
theorem xs_R_5 {x : Int32} : mm_sF (mp_P fx) (px_h z E M (px_l sw c2 w2 T D S S1 K R C W U q q1 B0 B1 B2 B3)) (75) 4 5 (.int x) = some (px_h z E M (px_l sw c2 w2 T D S S1 K (R.1, R.2.1, R.2.2.1, R.2.2.2.1, R.2.2.2.2.1, x, R.2.2.2.2.2.2.1, R.2.2.2.2.2.2.2.1, R.2.2.2.2.2.2.2.2.1, R.2.2.2.2.2.2.2.2.2.1, R.2.2.2.2.2.2.2.2.2.2) C W U q q1 B0 B1 B2 B3)) := aF_s pk_R rfl (px_set (i := 16) (by decide) px_ll)
theorem xg_R_6 : mm_gF (px_h z E M (px_l sw c2 w2 T D S S1 K R C W U q q1 B0 B1 B2 B3)) (75) 4 6 = some (.ref 79) := aF_g pk_R (by decide) rfl
theorem xg_R_7 : mm_gF (px_h z E M (px_l sw c2 w2 T D S S1 K R C W U q q1 B0 B1 B2 B3)) (75) 4 7 = some (.int R.2.2.2.2.2.2.2.1) := aF_g pk_R (by decide) rfl
theorem xs_R_7 {x : Int32} : mm_sF (mp_P fx) (px_h z E M (px_l sw c2 w2 T D S S1 K R C W U q q1 B0 B1 B2 B3)) (75) 4 7 (.int x) = some (px_h z E M (px_l sw c2 w2 T D S S1 K (R.1, R.2.1, R.2.2.1, R.2.2.2.1, R.2.2.2.2.1, R.2.2.2.2.2.1, R.2.2.2.2.2.2.1, x, R.2.2.2.2.2.2.2.2.1, R.2.2.2.2.2.2.2.2.2.1, R.2.2.2.2.2.2.2.2.2.2) C W U q q1 B0 B1 B2 B3)) := aF_s pk_R rfl (px_set (i := 16) (by decide) px_ll)
theorem xg_R_8 : mm_gF (px_h z E M (px_l sw c2 w2 T D S S1 K R C W U q q1 B0 B1 B2 B3)) (75) 4 8 = some (.ref 80) := aF_g pk_R (by decide) rfl
theorem xg_R_9 : mm_gF (px_h z E M (px_l sw c2 w2 T D S S1 K R C W U q q1 B0 B1 B2 B3)) (75) 4 9 = some (.ref 81) := aF_g pk_R (by decide) rfl
theorem xg_R_10 : mm_gF (px_h z E M (px_l sw c2 w2 T D S S1 K R C W U q q1 B0 B1 B2 B3)) (75) 4 10 = some (.ref 82) := aF_g pk_R (by decide) rfl
theorem pk_R_shown : (px_h z E M (px_l sw c2 w2 T D S S1 K R C W U q q1 B0 B1 B2 B3)).2.2 76 = mm_I 0 R.1 := px_at (i := 17) (by decide) rfl
theorem xa_R_shown {i : Int32} : mm_gI (px_h z E M (px_l sw c2 w2 T D S S1 K R C W U q q1 B0 B1 B2 B3)) (76) 0 9 i = aG R.1 i := aG_0 pk_R_shown
theorem xb_R_shown {i x : Int32} : mm_sI (px_h z E M (px_l sw c2 w2 T D S S1 K R C W U q q1 B0 B1 B2 B3)) (76) 0 i x = aS R.1 i x (fun l => px_h z E M (px_l sw c2 w2 T D S S1 K (l, R.2.1, R.2.2.1, R.2.2.2.1, R.2.2.2.2.1, R.2.2.2.2.2.1, R.2.2.2.2.2.2.1, R.2.2.2.2.2.2.2.1, R.2.2.2.2.2.2.2.2.1, R.2.2.2.2.2.2.2.2.2.1, R.2.2.2.2.2.2.2.2.2.2) C W U q q1 B0 B1 B2 B3)) := aS_I pk_R_shown (fun l => (px_set (i := 17) (by decide) px_ll))
theorem xn_R_shown : mm_gN (px_h z E M (px_l sw c2 w2 T D S S1 K R C W U q q1 B0 B1 B2 B3)) (76) = some (nI (R.1).length) := aN_I pk_R_shown
theorem pk_R_begins : (px_h z E M (px_l sw c2 w2 T D S S1 K R C W U q q1 B0 B1 B2 B3)).2.2 77 = mm_I 0 R.2.2.2.1 := px_at (i := 18) (by decide) rfl
theorem xa_R_begins {i : Int32} : mm_gI (px_h z E M (px_l sw c2 w2 T D S S1 K R C W U q q1 B0 B1 B2 B3)) (77) 0 9 i = aG R.2.2.2.1 i := aG_0 pk_R_begins
theorem xb_R_begins {i x : Int32} : mm_sI (px_h z E M (px_l sw c2 w2 T D S S1 K R C W U q q1 B0 B1 B2 B3)) (77) 0 i x = aS R.2.2.2.1 i x (fun l => px_h z E M (px_l sw c2 w2 T D S S1 K (R.1, R.2.1, R.2.2.1, l, R.2.2.2.2.1, R.2.2.2.2.2.1, R.2.2.2.2.2.2.1, R.2.2.2.2.2.2.2.1, R.2.2.2.2.2.2.2.2.1, R.2.2.2.2.2.2.2.2.2.1, R.2.2.2.2.2.2.2.2.2.2) C W U q q1 B0 B1 B2 B3)) := aS_I pk_R_begins (fun l => (px_set (i := 18) (by decide) px_ll))
theorem xn_R_begins : mm_gN (px_h z E M (px_l sw c2 w2 T D S S1 K R C W U q q1 B0 B1 B2 B3)) (77) = some (nI (R.2.2.2.1).length) := aN_I pk_R_begins
theorem pk_R_lengths : (px_h z E M (px_l sw c2 w2 T D S S1 K R C W U q q1 B0 B1 B2 B3)).2.2 78 = mm_I 0 R.2.2.2.2.1 := px_at (i := 19) (by decide) rfl
theorem xa_R_lengths {i : Int32} : mm_gI (px_h z E M (px_l sw c2 w2 T D S S1 K R C W U q q1 B0 B1 B2 B3)) (78) 0 9 i = aG R.2.2.2.2.1 i := aG_0 pk_R_lengths
theorem xb_R_lengths {i x : Int32} : mm_sI (px_h z E M (px_l sw c2 w2 T D S S1 K R C W U q q1 B0 B1 B2 B3)) (78) 0 i x = aS R.2.2.2.2.1 i x (fun l => px_h z E M (px_l sw c2 w2 T D S S1 K (R.1, R.2.1, R.2.2.1, R.2.2.2.1, l, R.2.2.2.2.2.1, R.2.2.2.2.2.2.1, R.2.2.2.2.2.2.2.1, R.2.2.2.2.2.2.2.2.1, R.2.2.2.2.2.2.2.2.2.1, R.2.2.2.2.2.2.2.2.2.2) C W U q q1 B0 B1 B2 B3)) := aS_I pk_R_lengths (fun l => (px_set (i := 19) (by decide) px_ll))
theorem xn_R_lengths : mm_gN (px_h z E M (px_l sw c2 w2 T D S S1 K R C W U q q1 B0 B1 B2 B3)) (78) = some (nI (R.2.2.2.2.1).length) := aN_I pk_R_lengths
theorem pk_R_order : (px_h z E M (px_l sw c2 w2 T D S S1 K R C W U q q1 B0 B1 B2 B3)).2.2 79 = mm_I 0 R.2.2.2.2.2.2.1 := px_at (i := 20) (by decide) rfl
theorem xa_R_order {i : Int32} : mm_gI (px_h z E M (px_l sw c2 w2 T D S S1 K R C W U q q1 B0 B1 B2 B3)) (79) 0 9 i = aG R.2.2.2.2.2.2.1 i := aG_0 pk_R_order
theorem xb_R_order {i x : Int32} : mm_sI (px_h z E M (px_l sw c2 w2 T D S S1 K R C W U q q1 B0 B1 B2 B3)) (79) 0 i x = aS R.2.2.2.2.2.2.1 i x (fun l => px_h z E M (px_l sw c2 w2 T D S S1 K (R.1, R.2.1, R.2.2.1, R.2.2.2.1, R.2.2.2.2.1, R.2.2.2.2.2.1, l, R.2.2.2.2.2.2.2.1, R.2.2.2.2.2.2.2.2.1, R.2.2.2.2.2.2.2.2.2.1, R.2.2.2.2.2.2.2.2.2.2) C W U q q1 B0 B1 B2 B3)) := aS_I pk_R_order (fun l => (px_set (i := 20) (by decide) px_ll))
theorem xn_R_order : mm_gN (px_h z E M (px_l sw c2 w2 T D S S1 K R C W U q q1 B0 B1 B2 B3)) (79) = some (nI (R.2.2.2.2.2.2.1).length) := aN_I pk_R_order
theorem pk_R_standing : (px_h z E M (px_l sw c2 w2 T D S S1 K R C W U q q1 B0 B1 B2 B3)).2.2 80 = mm_I 0 R.2.2.2.2.2.2.2.2.1 := px_at (i := 21) (by decide) rfl
theorem xa_R_standing {i : Int32} : mm_gI (px_h z E M (px_l sw c2 w2 T D S S1 K R C W U q q1 B0 B1 B2 B3)) (80) 0 9 i = aG R.2.2.2.2.2.2.2.2.1 i := aG_0 pk_R_standing
theorem xb_R_standing {i x : Int32} : mm_sI (px_h z E M (px_l sw c2 w2 T D S S1 K R C W U q q1 B0 B1 B2 B3)) (80) 0 i x = aS R.2.2.2.2.2.2.2.2.1 i x (fun l => px_h z E M (px_l sw c2 w2 T D S S1 K (R.1, R.2.1, R.2.2.1, R.2.2.2.1, R.2.2.2.2.1, R.2.2.2.2.2.1, R.2.2.2.2.2.2.1, R.2.2.2.2.2.2.2.1, l, R.2.2.2.2.2.2.2.2.2.1, R.2.2.2.2.2.2.2.2.2.2) C W U q q1 B0 B1 B2 B3)) := aS_I pk_R_standing (fun l => (px_set (i := 21) (by decide) px_ll))
theorem xn_R_standing : mm_gN (px_h z E M (px_l sw c2 w2 T D S S1 K R C W U q q1 B0 B1 B2 B3)) (80) = some (nI (R.2.2.2.2.2.2.2.2.1).length) := aN_I pk_R_standing
theorem pk_R_lovers : (px_h z E M (px_l sw c2 w2 T D S S1 K R C W U q q1 B0 B1 B2 B3)).2.2 81 = mm_I 0 R.2.2.2.2.2.2.2.2.2.1 := px_at (i := 22) (by decide) rfl
theorem xa_R_lovers {i : Int32} : mm_gI (px_h z E M (px_l sw c2 w2 T D S S1 K R C W U q q1 B0 B1 B2 B3)) (81) 0 9 i = aG R.2.2.2.2.2.2.2.2.2.1 i := aG_0 pk_R_lovers
theorem xb_R_lovers {i x : Int32} : mm_sI (px_h z E M (px_l sw c2 w2 T D S S1 K R C W U q q1 B0 B1 B2 B3)) (81) 0 i x = aS R.2.2.2.2.2.2.2.2.2.1 i x (fun l => px_h z E M (px_l sw c2 w2 T D S S1 K (R.1, R.2.1, R.2.2.1, R.2.2.2.1, R.2.2.2.2.1, R.2.2.2.2.2.1, R.2.2.2.2.2.2.1, R.2.2.2.2.2.2.2.1, R.2.2.2.2.2.2.2.2.1, l, R.2.2.2.2.2.2.2.2.2.2) C W U q q1 B0 B1 B2 B3)) := aS_I pk_R_lovers (fun l => (px_set (i := 22) (by decide) px_ll))
theorem xn_R_lovers : mm_gN (px_h z E M (px_l sw c2 w2 T D S S1 K R C W U q q1 B0 B1 B2 B3)) (81) = some (nI (R.2.2.2.2.2.2.2.2.2.1).length) := aN_I pk_R_lovers
theorem pk_R_lowest : (px_h z E M (px_l sw c2 w2 T D S S1 K R C W U q q1 B0 B1 B2 B3)).2.2 82 = mm_I 0 R.2.2.2.2.2.2.2.2.2.2 := px_at (i := 23) (by decide) rfl
theorem xa_R_lowest {i : Int32} : mm_gI (px_h z E M (px_l sw c2 w2 T D S S1 K R C W U q q1 B0 B1 B2 B3)) (82) 0 9 i = aG R.2.2.2.2.2.2.2.2.2.2 i := aG_0 pk_R_lowest
theorem xb_R_lowest {i x : Int32} : mm_sI (px_h z E M (px_l sw c2 w2 T D S S1 K R C W U q q1 B0 B1 B2 B3)) (82) 0 i x = aS R.2.2.2.2.2.2.2.2.2.2 i x (fun l => px_h z E M (px_l sw c2 w2 T D S S1 K (R.1, R.2.1, R.2.2.1, R.2.2.2.1, R.2.2.2.2.1, R.2.2.2.2.2.1, R.2.2.2.2.2.2.1, R.2.2.2.2.2.2.2.1, R.2.2.2.2.2.2.2.2.1, R.2.2.2.2.2.2.2.2.2.1, l) C W U q q1 B0 B1 B2 B3)) := aS_I pk_R_lowest (fun l => (px_set (i := 23) (by decide) px_ll))
theorem xn_R_lowest : mm_gN (px_h z E M (px_l sw c2 w2 T D S S1 K R C W U q q1 B0 B1 B2 B3)) (82) = some (nI (R.2.2.2.2.2.2.2.2.2.2).length) := aN_I pk_R_lowest
theorem pk_C : (px_h z E M (px_l sw c2 w2 T D S S1 K R C W U q q1 B0 B1 B2 B3)).2.2 83 = mm_O 5 [.ref 84, .ref (px_ca c2), .ref (px_ca (!c2)), .int C.2.2.2.1, .int C.2.2.2.2] := px_at (i := 24) (by decide) rfl
theorem xc_C : mm_cls (px_h z E M (px_l sw c2 w2 T D S S1 K R C W U q q1 B0 B1 B2 B3)) (83) = 5 := aF_c pk_C
theorem xg_C_0 : mm_gF (px_h z E M (px_l sw c2 w2 T D S S1 K R C W U q q1 B0 B1 B2 B3)) (83) 5 0 = some (.ref 84) := aF_g pk_C (by decide) rfl
theorem xg_C_1 : mm_gF (px_h z E M (px_l sw c2 w2 T D S S1 K R C W U q q1 B0 B1 B2 B3)) (83) 5 1 = some (.ref (px_ca c2)) := aF_g pk_C (by decide) rfl
theorem xg_C_2 : mm_gF (px_h z E M (px_l sw c2 w2 T D S S1 K R C W U q q1 B0 B1 B2 B3)) (83) 5 2 = some (.ref (px_ca (!c2))) := aF_g pk_C (by decide) rfl
theorem xg_C_3 : mm_gF (px_h z E M (px_l sw c2 w2 T D S S1 K R C W U q q1 B0 B1 B2 B3)) (83) 5 3 = some (.int C.2.2.2.1) := aF_g pk_C (by decide) rfl
theorem xs_C_3 {x : Int32} : mm_sF (mp_P fx) (px_h z E M (px_l sw c2 w2 T D S S1 K R C W U q q1 B0 B1 B2 B3)) (83) 5 3 (.int x) = some (px_h z E M (px_l sw c2 w2 T D S S1 K R (C.1, C.2.1, C.2.2.1, x, C.2.2.2.2) W U q q1 B0 B1 B2 B3)) := aF_s pk_C rfl (px_set (i := 24) (by decide) px_ll)
theorem xg_C_4 : mm_gF (px_h z E M (px_l sw c2 w2 T D S S1 K R C W U q q1 B0 B1 B2 B3)) (83) 5 4 = some (.int C.2.2.2.2) := aF_g pk_C (by decide) rfl
theorem xs_C_4 {x : Int32} : mm_sF (mp_P fx) (px_h z E M (px_l sw c2 w2 T D S S1 K R C W U q q1 B0 B1 B2 B3)) (83) 5 4 (.int x) = some (px_h z E M (px_l sw c2 w2 T D S S1 K R (C.1, C.2.1, C.2.2.1, C.2.2.2.1, x) W U q q1 B0 B1 B2 B3)) := aF_s pk_C rfl (px_set (i := 24) (by decide) px_ll)
theorem pk_C_ways : (px_h z E M (px_l sw c2 w2 T D S S1 K R C W U q q1 B0 B1 B2 B3)).2.2 84 = mm_I 0 C.1 := px_at (i := 25) (by decide) rfl
theorem xa_C_ways {i : Int32} : mm_gI (px_h z E M (px_l sw c2 w2 T D S S1 K R C W U q q1 B0 B1 B2 B3)) (84) 0 9 i = aG C.1 i := aG_0 pk_C_ways
theorem xb_C_ways {i x : Int32} : mm_sI (px_h z E M (px_l sw c2 w2 T D S S1 K R C W U q q1 B0 B1 B2 B3)) (84) 0 i x = aS C.1 i x (fun l => px_h z E M (px_l sw c2 w2 T D S S1 K R (l, C.2.1, C.2.2.1, C.2.2.2.1, C.2.2.2.2) W U q q1 B0 B1 B2 B3)) := aS_I pk_C_ways (fun l => (px_set (i := 25) (by decide) px_ll))
theorem xn_C_ways : mm_gN (px_h z E M (px_l sw c2 w2 T D S S1 K R C W U q q1 B0 B1 B2 B3)) (84) = some (nI (C.1).length) := aN_I pk_C_ways
theorem pk_C_rows : (px_h z E M (px_l sw c2 w2 T D S S1 K R C W U q q1 B0 B1 B2 B3)).2.2 (px_ca c2) = mm_I 0 C.2.1 := by
  cases c2
  · exact px_at (i := 26) (by decide) rfl
  · exact px_at (i := 27) (by decide) rfl
theorem xa_C_rows {i : Int32} : mm_gI (px_h z E M (px_l sw c2 w2 T D S S1 K R C W U q q1 B0 B1 B2 B3)) (px_ca c2) 0 9 i = aG C.2.1 i := aG_0 pk_C_rows
theorem xb_C_rows {i x : Int32} : mm_sI (px_h z E M (px_l sw c2 w2 T D S S1 K R C W U q q1 B0 B1 B2 B3)) (px_ca c2) 0 i x = aS C.2.1 i x (fun l => px_h z E M (px_l sw c2 w2 T D S S1 K R (C.1, l, C.2.2.1, C.2.2.2.1, C.2.2.2.2) W U q q1 B0 B1 B2 B3)) := aS_I pk_C_rows (fun l => (by cases c2 <;> first | exact px_set (i := 26) (by decide) px_ll | exact px_set (i := 27) (by decide) px_ll))
theorem xn_C_rows : mm_gN (px_h z E M (px_l sw c2 w2 T D S S1 K R C W U q q1 B0 B1 B2 B3)) (px_ca c2) = some (nI (C.2.1).length) := aN_I pk_C_rows
theorem pk_C_shallower : (px_h z E M (px_l sw c2 w2 T D S S1 K R C W U q q1 B0 B1 B2 B3)).2.2 (px_ca (!c2)) = mm_I 0 C.2.2.1 := by
  cases c2
  · exact px_at (i := 27) (by decide) rfl
  · exact px_at (i := 26) (by decide) rfl
theorem xa_C_shallower {i : Int32} : mm_gI (px_h z E M (px_l sw c2 w2 T D S S1 K R C W U q q1 B0 B1 B2 B3)) (px_ca (!c2)) 0 9 i = aG C.2.2.1 i := aG_0 pk_C_shallower
theorem xb_C_shallower {i x : Int32} : mm_sI (px_h z E M (px_l sw c2 w2 T D S S1 K R C W U q q1 B0 B1 B2 B3)) (px_ca (!c2)) 0 i x = aS C.2.2.1 i x (fun l => px_h z E M (px_l sw c2 w2 T D S S1 K R (C.1, C.2.1, l, C.2.2.2.1, C.2.2.2.2) W U q q1 B0 B1 B2 B3)) := aS_I pk_C_shallower (fun l => (by cases c2 <;> first | exact px_set (i := 27) (by decide) px_ll | exact px_set (i := 26) (by decide) px_ll))
theorem xn_C_shallower : mm_gN (px_h z E M (px_l sw c2 w2 T D S S1 K R C W U q q1 B0 B1 B2 B3)) (px_ca (!c2)) = some (nI (C.2.2.1).length) := aN_I pk_C_shallower
theorem pk_W : (px_h z E M (px_l sw c2 w2 T D S S1 K R C W U q q1 B0 B1 B2 B3)).2.2 87 = mm_O 6 [.ref 88, .int W.2.1, .int W.2.2.1, .ref 89, .ref 90, .ref 91, .ref 92, .ref (px_wa w2), .ref (px_wa (!w2))] := px_at (i := 28) (by decide) rfl
theorem xc_W : mm_cls (px_h z E M (px_l sw c2 w2 T D S S1 K R C W U q q1 B0 B1 B2 B3)) (87) = 6 := aF_c pk_W
theorem xg_W_0 : mm_gF (px_h z E M (px_l sw c2 w2 T D S S1 K R C W U q q1 B0 B1 B2 B3)) (87) 6 0 = some (.ref 88) := aF_g pk_W (by decide) rfl
theorem xg_W_1 : mm_gF (px_h z E M (px_l sw c2 w2 T D S S1 K R C W U q q1 B0 B1 B2 B3)) (87) 6 1 = some (.int W.2.1) := aF_g pk_W (by decide) rfl
theorem xs_W_1 {x : Int32} : mm_sF (mp_P fx) (px_h z E M (px_l sw c2 w2 T D S S1 K R C W U q q1 B0 B1 B2 B3)) (87) 6 1 (.int x) = some (px_h z E M (px_l sw c2 w2 T D S S1 K R C (W.1, x, W.2.2.1, W.2.2.2.1, W.2.2.2.2.1, W.2.2.2.2.2.1, W.2.2.2.2.2.2.1, W.2.2.2.2.2.2.2.1, W.2.2.2.2.2.2.2.2) U q q1 B0 B1 B2 B3)) := aF_s pk_W rfl (px_set (i := 28) (by decide) px_ll)
theorem xg_W_2 : mm_gF (px_h z E M (px_l sw c2 w2 T D S S1 K R C W U q q1 B0 B1 B2 B3)) (87) 6 2 = some (.int W.2.2.1) := aF_g pk_W (by decide) rfl
theorem xs_W_2 {x : Int32} : mm_sF (mp_P fx) (px_h z E M (px_l sw c2 w2 T D S S1 K R C W U q q1 B0 B1 B2 B3)) (87) 6 2 (.int x) = some (px_h z E M (px_l sw c2 w2 T D S S1 K R C (W.1, W.2.1, x, W.2.2.2.1, W.2.2.2.2.1, W.2.2.2.2.2.1, W.2.2.2.2.2.2.1, W.2.2.2.2.2.2.2.1, W.2.2.2.2.2.2.2.2) U q q1 B0 B1 B2 B3)) := aF_s pk_W rfl (px_set (i := 28) (by decide) px_ll)
theorem xg_W_3 : mm_gF (px_h z E M (px_l sw c2 w2 T D S S1 K R C W U q q1 B0 B1 B2 B3)) (87) 6 3 = some (.ref 89) := aF_g pk_W (by decide) rfl
theorem xg_W_4 : mm_gF (px_h z E M (px_l sw c2 w2 T D S S1 K R C W U q q1 B0 B1 B2 B3)) (87) 6 4 = some (.ref 90) := aF_g pk_W (by decide) rfl
theorem xg_W_5 : mm_gF (px_h z E M (px_l sw c2 w2 T D S S1 K R C W U q q1 B0 B1 B2 B3)) (87) 6 5 = some (.ref 91) := aF_g pk_W (by decide) rfl
theorem xg_W_6 : mm_gF (px_h z E M (px_l sw c2 w2 T D S S1 K R C W U q q1 B0 B1 B2 B3)) (87) 6 6 = some (.ref 92) := aF_g pk_W (by decide) rfl
theorem xg_W_7 : mm_gF (px_h z E M (px_l sw c2 w2 T D S S1 K R C W U q q1 B0 B1 B2 B3)) (87) 6 7 = some (.ref (px_wa w2)) := aF_g pk_W (by decide) rfl
theorem xg_W_8 : mm_gF (px_h z E M (px_l sw c2 w2 T D S S1 K R C W U q q1 B0 B1 B2 B3)) (87) 6 8 = some (.ref (px_wa (!w2))) := aF_g pk_W (by decide) rfl
theorem pk_W_row : (px_h z E M (px_l sw c2 w2 T D S S1 K R C W U q q1 B0 B1 B2 B3)).2.2 88 = mm_I 0 W.1 := px_at (i := 29) (by decide) rfl
theorem xa_W_row {i : Int32} : mm_gI (px_h z E M (px_l sw c2 w2 T D S S1 K R C W U q q1 B0 B1 B2 B3)) (88) 0 9 i = aG W.1 i := aG_0 pk_W_row
theorem xb_W_row {i x : Int32} : mm_sI (px_h z E M (px_l sw c2 w2 T D S S1 K R C W U q q1 B0 B1 B2 B3)) (88) 0 i x = aS W.1 i x (fun l => px_h z E M (px_l sw c2 w2 T D S S1 K R C (l, W.2.1, W.2.2.1, W.2.2.2.1, W.2.2.2.2.1, W.2.2.2.2.2.1, W.2.2.2.2.2.2.1, W.2.2.2.2.2.2.2.1, W.2.2.2.2.2.2.2.2) U q q1 B0 B1 B2 B3)) := aS_I pk_W_row (fun l => (px_set (i := 29) (by decide) px_ll))
theorem xn_W_row : mm_gN (px_h z E M (px_l sw c2 w2 T D S S1 K R C W U q q1 B0 B1 B2 B3)) (88) = some (nI (W.1).length) := aN_I pk_W_row
theorem pk_W_wanted : (px_h z E M (px_l sw c2 w2 T D S S1 K R C W U q q1 B0 B1 B2 B3)).2.2 89 = mm_I 0 W.2.2.2.1 := px_at (i := 30) (by decide) rfl
theorem xa_W_wanted {i : Int32} : mm_gI (px_h z E M (px_l sw c2 w2 T D S S1 K R C W U q q1 B0 B1 B2 B3)) (89) 0 9 i = aG W.2.2.2.1 i := aG_0 pk_W_wanted
theorem xb_W_wanted {i x : Int32} : mm_sI (px_h z E M (px_l sw c2 w2 T D S S1 K R C W U q q1 B0 B1 B2 B3)) (89) 0 i x = aS W.2.2.2.1 i x (fun l => px_h z E M (px_l sw c2 w2 T D S S1 K R C (W.1, W.2.1, W.2.2.1, l, W.2.2.2.2.1, W.2.2.2.2.2.1, W.2.2.2.2.2.2.1, W.2.2.2.2.2.2.2.1, W.2.2.2.2.2.2.2.2) U q q1 B0 B1 B2 B3)) := aS_I pk_W_wanted (fun l => (px_set (i := 30) (by decide) px_ll))
theorem xn_W_wanted : mm_gN (px_h z E M (px_l sw c2 w2 T D S S1 K R C W U q q1 B0 B1 B2 B3)) (89) = some (nI (W.2.2.2.1).length) := aN_I pk_W_wanted
theorem pk_W_shown : (px_h z E M (px_l sw c2 w2 T D S S1 K R C W U q q1 B0 B1 B2 B3)).2.2 90 = mm_I 0 W.2.2.2.2.1 := px_at (i := 31) (by decide) rfl
theorem xa_W_shown {i : Int32} : mm_gI (px_h z E M (px_l sw c2 w2 T D S S1 K R C W U q q1 B0 B1 B2 B3)) (90) 0 9 i = aG W.2.2.2.2.1 i := aG_0 pk_W_shown
theorem xb_W_shown {i x : Int32} : mm_sI (px_h z E M (px_l sw c2 w2 T D S S1 K R C W U q q1 B0 B1 B2 B3)) (90) 0 i x = aS W.2.2.2.2.1 i x (fun l => px_h z E M (px_l sw c2 w2 T D S S1 K R C (W.1, W.2.1, W.2.2.1, W.2.2.2.1, l, W.2.2.2.2.2.1, W.2.2.2.2.2.2.1, W.2.2.2.2.2.2.2.1, W.2.2.2.2.2.2.2.2) U q q1 B0 B1 B2 B3)) := aS_I pk_W_shown (fun l => (px_set (i := 31) (by decide) px_ll))
theorem xn_W_shown : mm_gN (px_h z E M (px_l sw c2 w2 T D S S1 K R C W U q q1 B0 B1 B2 B3)) (90) = some (nI (W.2.2.2.2.1).length) := aN_I pk_W_shown
theorem pk_W_places : (px_h z E M (px_l sw c2 w2 T D S S1 K R C W U q q1 B0 B1 B2 B3)).2.2 91 = mm_I 0 W.2.2.2.2.2.1 := px_at (i := 32) (by decide) rfl
theorem xa_W_places {i : Int32} : mm_gI (px_h z E M (px_l sw c2 w2 T D S S1 K R C W U q q1 B0 B1 B2 B3)) (91) 0 9 i = aG W.2.2.2.2.2.1 i := aG_0 pk_W_places
theorem xb_W_places {i x : Int32} : mm_sI (px_h z E M (px_l sw c2 w2 T D S S1 K R C W U q q1 B0 B1 B2 B3)) (91) 0 i x = aS W.2.2.2.2.2.1 i x (fun l => px_h z E M (px_l sw c2 w2 T D S S1 K R C (W.1, W.2.1, W.2.2.1, W.2.2.2.1, W.2.2.2.2.1, l, W.2.2.2.2.2.2.1, W.2.2.2.2.2.2.2.1, W.2.2.2.2.2.2.2.2) U q q1 B0 B1 B2 B3)) := aS_I pk_W_places (fun l => (px_set (i := 32) (by decide) px_ll))
theorem xn_W_places : mm_gN (px_h z E M (px_l sw c2 w2 T D S S1 K R C W U q q1 B0 B1 B2 B3)) (91) = some (nI (W.2.2.2.2.2.1).length) := aN_I pk_W_places
theorem pk_W_rest : (px_h z E M (px_l sw c2 w2 T D S S1 K R C W U q q1 B0 B1 B2 B3)).2.2 92 = mm_I 0 W.2.2.2.2.2.2.1 := px_at (i := 33) (by decide) rfl
theorem xa_W_rest {i : Int32} : mm_gI (px_h z E M (px_l sw c2 w2 T D S S1 K R C W U q q1 B0 B1 B2 B3)) (92) 0 9 i = aG W.2.2.2.2.2.2.1 i := aG_0 pk_W_rest
theorem xb_W_rest {i x : Int32} : mm_sI (px_h z E M (px_l sw c2 w2 T D S S1 K R C W U q q1 B0 B1 B2 B3)) (92) 0 i x = aS W.2.2.2.2.2.2.1 i x (fun l => px_h z E M (px_l sw c2 w2 T D S S1 K R C (W.1, W.2.1, W.2.2.1, W.2.2.2.1, W.2.2.2.2.1, W.2.2.2.2.2.1, l, W.2.2.2.2.2.2.2.1, W.2.2.2.2.2.2.2.2) U q q1 B0 B1 B2 B3)) := aS_I pk_W_rest (fun l => (px_set (i := 33) (by decide) px_ll))
theorem xn_W_rest : mm_gN (px_h z E M (px_l sw c2 w2 T D S S1 K R C W U q q1 B0 B1 B2 B3)) (92) = some (nI (W.2.2.2.2.2.2.1).length) := aN_I pk_W_rest
theorem pk_W_spent : (px_h z E M (px_l sw c2 w2 T D S S1 K R C W U q q1 B0 B1 B2 B3)).2.2 (px_wa w2) = mm_I 0 W.2.2.2.2.2.2.2.1 := by
  cases w2
  · exact px_at (i := 34) (by decide) rfl
  · exact px_at (i := 35) (by decide) rfl
theorem xa_W_spent {i : Int32} : mm_gI (px_h z E M (px_l sw c2 w2 T D S S1 K R C W U q q1 B0 B1 B2 B3)) (px_wa w2) 0 9 i = aG W.2.2.2.2.2.2.2.1 i := aG_0 pk_W_spent
theorem xb_W_spent {i x : Int32} : mm_sI (px_h z E M (px_l sw c2 w2 T D S S1 K R C W U q q1 B0 B1 B2 B3)) (px_wa w2) 0 i x = aS W.2.2.2.2.2.2.2.1 i x (fun l => px_h z E M (px_l sw c2 w2 T D S S1 K R C (W.1, W.2.1, W.2.2.1, W.2.2.2.1, W.2.2.2.2.1, W.2.2.2.2.2.1, W.2.2.2.2.2.2.1, l, W.2.2.2.2.2.2.2.2) U q q1 B0 B1 B2 B3)) := aS_I pk_W_spent (fun l => (by cases w2 <;> first | exact px_set (i := 34) (by decide) px_ll | exact px_set (i := 35) (by decide) px_ll))
theorem xn_W_spent : mm_gN (px_h z E M (px_l sw c2 w2 T D S S1 K R C W U q q1 B0 B1 B2 B3)) (px_wa w2) = some (nI (W.2.2.2.2.2.2.2.1).length) := aN_I pk_W_spent
theorem pk_W_tried : (px_h z E M (px_l sw c2 w2 T D S S1 K R C W U q q1 B0 B1 B2 B3)).2.2 (px_wa (!w2)) = mm_I 0 W.2.2.2.2.2.2.2.2 := by
  cases w2
  · exact px_at (i := 35) (by decide) rfl
  · exact px_at (i := 34) (by decide) rfl
theorem xa_W_tried {i : Int32} : mm_gI (px_h z E M (px_l sw c2 w2 T D S S1 K R C W U q q1 B0 B1 B2 B3)) (px_wa (!w2)) 0 9 i = aG W.2.2.2.2.2.2.2.2 i := aG_0 pk_W_tried
theorem xb_W_tried {i x : Int32} : mm_sI (px_h z E M (px_l sw c2 w2 T D S S1 K R C W U q q1 B0 B1 B2 B3)) (px_wa (!w2)) 0 i x = aS W.2.2.2.2.2.2.2.2 i x (fun l => px_h z E M (px_l sw c2 w2 T D S S1 K R C (W.1, W.2.1, W.2.2.1, W.2.2.2.1, W.2.2.2.2.1, W.2.2.2.2.2.1, W.2.2.2.2.2.2.1, W.2.2.2.2.2.2.2.1, l) U q q1 B0 B1 B2 B3)) := aS_I pk_W_tried (fun l => (by cases w2 <;> first | exact px_set (i := 35) (by decide) px_ll | exact px_set (i := 34) (by decide) px_ll))
theorem xn_W_tried : mm_gN (px_h z E M (px_l sw c2 w2 T D S S1 K R C W U q q1 B0 B1 B2 B3)) (px_wa (!w2)) = some (nI (W.2.2.2.2.2.2.2.2).length) := aN_I pk_W_tried
theorem pk_U_undoRows : (px_h z E M (px_l sw c2 w2 T D S S1 K R C W U q q1 B0 B1 B2 B3)).2.2 95 = mm_L U.1 := px_at (i := 36) (by decide) rfl
theorem xa_U_undoRows {i : Int32} : mm_gL (px_h z E M (px_l sw c2 w2 T D S S1 K R C W U q q1 B0 B1 B2 B3)) (95) i = aG U.1 i := aG_L pk_U_undoRows
theorem xb_U_undoRows {i : Int32} {x : Int64} : mm_sL (px_h z E M (px_l sw c2 w2 T D S S1 K R C W U q q1 B0 B1 B2 B3)) (95) i x = aS U.1 i x (fun l => px_h z E M (px_l sw c2 w2 T D S S1 K R C W (l, U.2.1, U.2.2.1, U.2.2.2.1, U.2.2.2.2) q q1 B0 B1 B2 B3)) := aS_L pk_U_undoRows (fun l => (px_set (i := 36) (by decide) px_ll))
theorem xn_U_undoRows : mm_gN (px_h z E M (px_l sw c2 w2 T D S S1 K R C W U q q1 B0 B1 B2 B3)) (95) = some (nI (U.1).length) := aN_L pk_U_undoRows
theorem pk_U_markScenes : (px_h z E M (px_l sw c2 w2 T D S S1 K R C W U q q1 B0 B1 B2 B3)).2.2 96 = mm_L U.2.1 := px_at (i := 37) (by decide) rfl
theorem xa_U_markScenes {i : Int32} : mm_gL (px_h z E M (px_l sw c2 w2 T D S S1 K R C W U q q1 B0 B1 B2 B3)) (96) i = aG U.2.1 i := aG_L pk_U_markScenes
theorem xb_U_markScenes {i : Int32} {x : Int64} : mm_sL (px_h z E M (px_l sw c2 w2 T D S S1 K R C W U q q1 B0 B1 B2 B3)) (96) i x = aS U.2.1 i x (fun l => px_h z E M (px_l sw c2 w2 T D S S1 K R C W (U.1, l, U.2.2.1, U.2.2.2.1, U.2.2.2.2) q q1 B0 B1 B2 B3)) := aS_L pk_U_markScenes (fun l => (px_set (i := 37) (by decide) px_ll))
theorem xn_U_markScenes : mm_gN (px_h z E M (px_l sw c2 w2 T D S S1 K R C W U q q1 B0 B1 B2 B3)) (96) = some (nI (U.2.1).length) := aN_L pk_U_markScenes
theorem pk_U_marksLaid : (px_h z E M (px_l sw c2 w2 T D S S1 K R C W U q q1 B0 B1 B2 B3)).2.2 98 = mm_I 2 U.2.2.1 := px_at (i := 39) (by decide) rfl
theorem xa_U_marksLaid {i : Int32} : mm_gI (px_h z E M (px_l sw c2 w2 T D S S1 K R C W U q q1 B0 B1 B2 B3)) (98) 2 8 i = aG U.2.2.1 i := aG_2 pk_U_marksLaid
theorem xb_U_marksLaid {i x : Int32} : mm_sI (px_h z E M (px_l sw c2 w2 T D S S1 K R C W U q q1 B0 B1 B2 B3)) (98) 2 i x = aS U.2.2.1 i x (fun l => px_h z E M (px_l sw c2 w2 T D S S1 K R C W (U.1, U.2.1, l, U.2.2.2.1, U.2.2.2.2) q q1 B0 B1 B2 B3)) := aS_I pk_U_marksLaid (fun l => (px_set (i := 39) (by decide) px_ll))
theorem xn_U_marksLaid : mm_gN (px_h z E M (px_l sw c2 w2 T D S S1 K R C W U q q1 B0 B1 B2 B3)) (98) = some (nI (U.2.2.1).length) := aN_I pk_U_marksLaid
theorem pk_B0 : (px_h z E M (px_l sw c2 w2 T D S S1 K R C W U q q1 B0 B1 B2 B3)).2.2 133 = mm_O 3 [.ref 134, .int B0.2.1, .ref 135, .int B0.2.2.2.1, .ref 136, .int B0.2.2.2.2.2] := px_at (i := 74) (by decide) rfl
theorem xc_B0 : mm_cls (px_h z E M (px_l sw c2 w2 T D S S1 K R C W U q q1 B0 B1 B2 B3)) (133) = 3 := aF_c pk_B0
theorem xg_B0_0 : mm_gF (px_h z E M (px_l sw c2 w2 T D S S1 K R C W U q q1 B0 B1 B2 B3)) (133) 3 0 = some (.ref 134) := aF_g pk_B0 (by decide) rfl
theorem xg_B0_1 : mm_gF (px_h z E M (px_l sw c2 w2 T D S S1 K R C W U q q1 B0 B1 B2 B3)) (133) 3 1 = some (.int B0.2.1) := aF_g pk_B0 (by decide) rfl
theorem xs_B0_1 {x : Int32} : mm_sF (mp_P fx) (px_h z E M (px_l sw c2 w2 T D S S1 K R C W U q q1 B0 B1 B2 B3)) (133) 3 1 (.int x) = some (px_h z E M (px_l sw c2 w2 T D S S1 K R C W U q q1 (B0.1, x, B0.2.2.1, B0.2.2.2.1, B0.2.2.2.2.1, B0.2.2.2.2.2) B1 B2 B3)) := aF_s pk_B0 rfl (px_set (i := 74) (by decide) px_ll)
theorem xg_B0_2 : mm_gF (px_h z E M (px_l sw c2 w2 T D S S1 K R C W U q q1 B0 B1 B2 B3)) (133) 3 2 = some (.ref 135) := aF_g pk_B0 (by decide) rfl
theorem xg_B0_3 : mm_gF (px_h z E M (px_l sw c2 w2 T D S S1 K R C W U q q1 B0 B1 B2 B3)) (133) 3 3 = some (.int B0.2.2.2.1) := aF_g pk_B0 (by decide) rfl
theorem xs_B0_3 {x : Int32} : mm_sF (mp_P fx) (px_h z E M (px_l sw c2 w2 T D S S1 K R C W U q q1 B0 B1 B2 B3)) (133) 3 3 (.int x) = some (px_h z E M (px_l sw c2 w2 T D S S1 K R C W U q q1 (B0.1, B0.2.1, B0.2.2.1, x, B0.2.2.2.2.1, B0.2.2.2.2.2) B1 B2 B3)) := aF_s pk_B0 rfl (px_set (i := 74) (by decide) px_ll)
theorem xg_B0_4 : mm_gF (px_h z E M (px_l sw c2 w2 T D S S1 K R C W U q q1 B0 B1 B2 B3)) (133) 3 4 = some (.ref 136) := aF_g pk_B0 (by decide) rfl
theorem xg_B0_5 : mm_gF (px_h z E M (px_l sw c2 w2 T D S S1 K R C W U q q1 B0 B1 B2 B3)) (133) 3 5 = some (.int B0.2.2.2.2.2) := aF_g pk_B0 (by decide) rfl
theorem xs_B0_5 {x : Int32} : mm_sF (mp_P fx) (px_h z E M (px_l sw c2 w2 T D S S1 K R C W U q q1 B0 B1 B2 B3)) (133) 3 5 (.int x) = some (px_h z E M (px_l sw c2 w2 T D S S1 K R C W U q q1 (B0.1, B0.2.1, B0.2.2.1, B0.2.2.2.1, B0.2.2.2.2.1, x) B1 B2 B3)) := aF_s pk_B0 rfl (px_set (i := 74) (by decide) px_ll)
theorem pk_B0_lines : (px_h z E M (px_l sw c2 w2 T D S S1 K R C W U q q1 B0 B1 B2 B3)).2.2 134 = mm_I 0 B0.1 := px_at (i := 75) (by decide) rfl
theorem xa_B0_lines {i : Int32} : mm_gI (px_h z E M (px_l sw c2 w2 T D S S1 K R C W U q q1 B0 B1 B2 B3)) (134) 0 9 i = aG B0.1 i := aG_0 pk_B0_lines
theorem xb_B0_lines {i x : Int32} : mm_sI (px_h z E M (px_l sw c2 w2 T D S S1 K R C W U q q1 B0 B1 B2 B3)) (134) 0 i x = aS B0.1 i x (fun l => px_h z E M (px_l sw c2 w2 T D S S1 K R C W U q q1 (l, B0.2.1, B0.2.2.1, B0.2.2.2.1, B0.2.2.2.2.1, B0.2.2.2.2.2) B1 B2 B3)) := aS_I pk_B0_lines (fun l => (px_set (i := 75) (by decide) px_ll))
theorem xn_B0_lines : mm_gN (px_h z E M (px_l sw c2 w2 T D S S1 K R C W U q q1 B0 B1 B2 B3)) (134) = some (nI (B0.1).length) := aN_I pk_B0_lines
theorem pk_B0_wishes : (px_h z E M (px_l sw c2 w2 T D S S1 K R C W U q q1 B0 B1 B2 B3)).2.2 135 = mm_I 0 B0.2.2.1 := px_at (i := 76) (by decide) rfl
theorem xa_B0_wishes {i : Int32} : mm_gI (px_h z E M (px_l sw c2 w2 T D S S1 K R C W U q q1 B0 B1 B2 B3)) (135) 0 9 i = aG B0.2.2.1 i := aG_0 pk_B0_wishes
theorem xb_B0_wishes {i x : Int32} : mm_sI (px_h z E M (px_l sw c2 w2 T D S S1 K R C W U q q1 B0 B1 B2 B3)) (135) 0 i x = aS B0.2.2.1 i x (fun l => px_h z E M (px_l sw c2 w2 T D S S1 K R C W U q q1 (B0.1, B0.2.1, l, B0.2.2.2.1, B0.2.2.2.2.1, B0.2.2.2.2.2) B1 B2 B3)) := aS_I pk_B0_wishes (fun l => (px_set (i := 76) (by decide) px_ll))
theorem xn_B0_wishes : mm_gN (px_h z E M (px_l sw c2 w2 T D S S1 K R C W U q q1 B0 B1 B2 B3)) (135) = some (nI (B0.2.2.1).length) := aN_I pk_B0_wishes
theorem pk_B0_sights : (px_h z E M (px_l sw c2 w2 T D S S1 K R C W U q q1 B0 B1 B2 B3)).2.2 136 = mm_I 0 B0.2.2.2.2.1 := px_at (i := 77) (by decide) rfl
theorem xa_B0_sights {i : Int32} : mm_gI (px_h z E M (px_l sw c2 w2 T D S S1 K R C W U q q1 B0 B1 B2 B3)) (136) 0 9 i = aG B0.2.2.2.2.1 i := aG_0 pk_B0_sights
theorem xb_B0_sights {i x : Int32} : mm_sI (px_h z E M (px_l sw c2 w2 T D S S1 K R C W U q q1 B0 B1 B2 B3)) (136) 0 i x = aS B0.2.2.2.2.1 i x (fun l => px_h z E M (px_l sw c2 w2 T D S S1 K R C W U q q1 (B0.1, B0.2.1, B0.2.2.1, B0.2.2.2.1, l, B0.2.2.2.2.2) B1 B2 B3)) := aS_I pk_B0_sights (fun l => (px_set (i := 77) (by decide) px_ll))
theorem xn_B0_sights : mm_gN (px_h z E M (px_l sw c2 w2 T D S S1 K R C W U q q1 B0 B1 B2 B3)) (136) = some (nI (B0.2.2.2.2.1).length) := aN_I pk_B0_sights
theorem pk_B1 : (px_h z E M (px_l sw c2 w2 T D S S1 K R C W U q q1 B0 B1 B2 B3)).2.2 137 = mm_O 3 [.ref 138, .int B1.2.1, .ref 139, .int B1.2.2.2.1, .ref 140, .int B1.2.2.2.2.2] := px_at (i := 78) (by decide) rfl
theorem xc_B1 : mm_cls (px_h z E M (px_l sw c2 w2 T D S S1 K R C W U q q1 B0 B1 B2 B3)) (137) = 3 := aF_c pk_B1
theorem xg_B1_0 : mm_gF (px_h z E M (px_l sw c2 w2 T D S S1 K R C W U q q1 B0 B1 B2 B3)) (137) 3 0 = some (.ref 138) := aF_g pk_B1 (by decide) rfl
theorem xg_B1_1 : mm_gF (px_h z E M (px_l sw c2 w2 T D S S1 K R C W U q q1 B0 B1 B2 B3)) (137) 3 1 = some (.int B1.2.1) := aF_g pk_B1 (by decide) rfl
theorem xs_B1_1 {x : Int32} : mm_sF (mp_P fx) (px_h z E M (px_l sw c2 w2 T D S S1 K R C W U q q1 B0 B1 B2 B3)) (137) 3 1 (.int x) = some (px_h z E M (px_l sw c2 w2 T D S S1 K R C W U q q1 B0 (B1.1, x, B1.2.2.1, B1.2.2.2.1, B1.2.2.2.2.1, B1.2.2.2.2.2) B2 B3)) := aF_s pk_B1 rfl (px_set (i := 78) (by decide) px_ll)
theorem xg_B1_2 : mm_gF (px_h z E M (px_l sw c2 w2 T D S S1 K R C W U q q1 B0 B1 B2 B3)) (137) 3 2 = some (.ref 139) := aF_g pk_B1 (by decide) rfl
theorem xg_B1_3 : mm_gF (px_h z E M (px_l sw c2 w2 T D S S1 K R C W U q q1 B0 B1 B2 B3)) (137) 3 3 = some (.int B1.2.2.2.1) := aF_g pk_B1 (by decide) rfl
theorem xs_B1_3 {x : Int32} : mm_sF (mp_P fx) (px_h z E M (px_l sw c2 w2 T D S S1 K R C W U q q1 B0 B1 B2 B3)) (137) 3 3 (.int x) = some (px_h z E M (px_l sw c2 w2 T D S S1 K R C W U q q1 B0 (B1.1, B1.2.1, B1.2.2.1, x, B1.2.2.2.2.1, B1.2.2.2.2.2) B2 B3)) := aF_s pk_B1 rfl (px_set (i := 78) (by decide) px_ll)
theorem xg_B1_4 : mm_gF (px_h z E M (px_l sw c2 w2 T D S S1 K R C W U q q1 B0 B1 B2 B3)) (137) 3 4 = some (.ref 140) := aF_g pk_B1 (by decide) rfl
theorem xg_B1_5 : mm_gF (px_h z E M (px_l sw c2 w2 T D S S1 K R C W U q q1 B0 B1 B2 B3)) (137) 3 5 = some (.int B1.2.2.2.2.2) := aF_g pk_B1 (by decide) rfl
theorem xs_B1_5 {x : Int32} : mm_sF (mp_P fx) (px_h z E M (px_l sw c2 w2 T D S S1 K R C W U q q1 B0 B1 B2 B3)) (137) 3 5 (.int x) = some (px_h z E M (px_l sw c2 w2 T D S S1 K R C W U q q1 B0 (B1.1, B1.2.1, B1.2.2.1, B1.2.2.2.1, B1.2.2.2.2.1, x) B2 B3)) := aF_s pk_B1 rfl (px_set (i := 78) (by decide) px_ll)
theorem pk_B1_lines : (px_h z E M (px_l sw c2 w2 T D S S1 K R C W U q q1 B0 B1 B2 B3)).2.2 138 = mm_I 0 B1.1 := px_at (i := 79) (by decide) rfl
theorem xa_B1_lines {i : Int32} : mm_gI (px_h z E M (px_l sw c2 w2 T D S S1 K R C W U q q1 B0 B1 B2 B3)) (138) 0 9 i = aG B1.1 i := aG_0 pk_B1_lines
theorem xb_B1_lines {i x : Int32} : mm_sI (px_h z E M (px_l sw c2 w2 T D S S1 K R C W U q q1 B0 B1 B2 B3)) (138) 0 i x = aS B1.1 i x (fun l => px_h z E M (px_l sw c2 w2 T D S S1 K R C W U q q1 B0 (l, B1.2.1, B1.2.2.1, B1.2.2.2.1, B1.2.2.2.2.1, B1.2.2.2.2.2) B2 B3)) := aS_I pk_B1_lines (fun l => (px_set (i := 79) (by decide) px_ll))
theorem xn_B1_lines : mm_gN (px_h z E M (px_l sw c2 w2 T D S S1 K R C W U q q1 B0 B1 B2 B3)) (138) = some (nI (B1.1).length) := aN_I pk_B1_lines
theorem pk_B1_wishes : (px_h z E M (px_l sw c2 w2 T D S S1 K R C W U q q1 B0 B1 B2 B3)).2.2 139 = mm_I 0 B1.2.2.1 := px_at (i := 80) (by decide) rfl
theorem xa_B1_wishes {i : Int32} : mm_gI (px_h z E M (px_l sw c2 w2 T D S S1 K R C W U q q1 B0 B1 B2 B3)) (139) 0 9 i = aG B1.2.2.1 i := aG_0 pk_B1_wishes
theorem xb_B1_wishes {i x : Int32} : mm_sI (px_h z E M (px_l sw c2 w2 T D S S1 K R C W U q q1 B0 B1 B2 B3)) (139) 0 i x = aS B1.2.2.1 i x (fun l => px_h z E M (px_l sw c2 w2 T D S S1 K R C W U q q1 B0 (B1.1, B1.2.1, l, B1.2.2.2.1, B1.2.2.2.2.1, B1.2.2.2.2.2) B2 B3)) := aS_I pk_B1_wishes (fun l => (px_set (i := 80) (by decide) px_ll))
theorem xn_B1_wishes : mm_gN (px_h z E M (px_l sw c2 w2 T D S S1 K R C W U q q1 B0 B1 B2 B3)) (139) = some (nI (B1.2.2.1).length) := aN_I pk_B1_wishes
theorem pk_B1_sights : (px_h z E M (px_l sw c2 w2 T D S S1 K R C W U q q1 B0 B1 B2 B3)).2.2 140 = mm_I 0 B1.2.2.2.2.1 := px_at (i := 81) (by decide) rfl
theorem xa_B1_sights {i : Int32} : mm_gI (px_h z E M (px_l sw c2 w2 T D S S1 K R C W U q q1 B0 B1 B2 B3)) (140) 0 9 i = aG B1.2.2.2.2.1 i := aG_0 pk_B1_sights
theorem xb_B1_sights {i x : Int32} : mm_sI (px_h z E M (px_l sw c2 w2 T D S S1 K R C W U q q1 B0 B1 B2 B3)) (140) 0 i x = aS B1.2.2.2.2.1 i x (fun l => px_h z E M (px_l sw c2 w2 T D S S1 K R C W U q q1 B0 (B1.1, B1.2.1, B1.2.2.1, B1.2.2.2.1, l, B1.2.2.2.2.2) B2 B3)) := aS_I pk_B1_sights (fun l => (px_set (i := 81) (by decide) px_ll))
theorem xn_B1_sights : mm_gN (px_h z E M (px_l sw c2 w2 T D S S1 K R C W U q q1 B0 B1 B2 B3)) (140) = some (nI (B1.2.2.2.2.1).length) := aN_I pk_B1_sights
theorem pk_B2 : (px_h z E M (px_l sw c2 w2 T D S S1 K R C W U q q1 B0 B1 B2 B3)).2.2 141 = mm_O 3 [.ref 142, .int B2.2.1, .ref 143, .int B2.2.2.2.1, .ref 144, .int B2.2.2.2.2.2] := px_at (i := 82) (by decide) rfl
theorem xc_B2 : mm_cls (px_h z E M (px_l sw c2 w2 T D S S1 K R C W U q q1 B0 B1 B2 B3)) (141) = 3 := aF_c pk_B2
theorem xg_B2_0 : mm_gF (px_h z E M (px_l sw c2 w2 T D S S1 K R C W U q q1 B0 B1 B2 B3)) (141) 3 0 = some (.ref 142) := aF_g pk_B2 (by decide) rfl
theorem xg_B2_1 : mm_gF (px_h z E M (px_l sw c2 w2 T D S S1 K R C W U q q1 B0 B1 B2 B3)) (141) 3 1 = some (.int B2.2.1) := aF_g pk_B2 (by decide) rfl
theorem xs_B2_1 {x : Int32} : mm_sF (mp_P fx) (px_h z E M (px_l sw c2 w2 T D S S1 K R C W U q q1 B0 B1 B2 B3)) (141) 3 1 (.int x) = some (px_h z E M (px_l sw c2 w2 T D S S1 K R C W U q q1 B0 B1 (B2.1, x, B2.2.2.1, B2.2.2.2.1, B2.2.2.2.2.1, B2.2.2.2.2.2) B3)) := aF_s pk_B2 rfl (px_set (i := 82) (by decide) px_ll)
theorem xg_B2_2 : mm_gF (px_h z E M (px_l sw c2 w2 T D S S1 K R C W U q q1 B0 B1 B2 B3)) (141) 3 2 = some (.ref 143) := aF_g pk_B2 (by decide) rfl
theorem xg_B2_3 : mm_gF (px_h z E M (px_l sw c2 w2 T D S S1 K R C W U q q1 B0 B1 B2 B3)) (141) 3 3 = some (.int B2.2.2.2.1) := aF_g pk_B2 (by decide) rfl
theorem xs_B2_3 {x : Int32} : mm_sF (mp_P fx) (px_h z E M (px_l sw c2 w2 T D S S1 K R C W U q q1 B0 B1 B2 B3)) (141) 3 3 (.int x) = some (px_h z E M (px_l sw c2 w2 T D S S1 K R C W U q q1 B0 B1 (B2.1, B2.2.1, B2.2.2.1, x, B2.2.2.2.2.1, B2.2.2.2.2.2) B3)) := aF_s pk_B2 rfl (px_set (i := 82) (by decide) px_ll)
theorem xg_B2_4 : mm_gF (px_h z E M (px_l sw c2 w2 T D S S1 K R C W U q q1 B0 B1 B2 B3)) (141) 3 4 = some (.ref 144) := aF_g pk_B2 (by decide) rfl
theorem xg_B2_5 : mm_gF (px_h z E M (px_l sw c2 w2 T D S S1 K R C W U q q1 B0 B1 B2 B3)) (141) 3 5 = some (.int B2.2.2.2.2.2) := aF_g pk_B2 (by decide) rfl
theorem xs_B2_5 {x : Int32} : mm_sF (mp_P fx) (px_h z E M (px_l sw c2 w2 T D S S1 K R C W U q q1 B0 B1 B2 B3)) (141) 3 5 (.int x) = some (px_h z E M (px_l sw c2 w2 T D S S1 K R C W U q q1 B0 B1 (B2.1, B2.2.1, B2.2.2.1, B2.2.2.2.1, B2.2.2.2.2.1, x) B3)) := aF_s pk_B2 rfl (px_set (i := 82) (by decide) px_ll)
theorem pk_B2_lines : (px_h z E M (px_l sw c2 w2 T D S S1 K R C W U q q1 B0 B1 B2 B3)).2.2 142 = mm_I 0 B2.1 := px_at (i := 83) (by decide) rfl
theorem xa_B2_lines {i : Int32} : mm_gI (px_h z E M (px_l sw c2 w2 T D S S1 K R C W U q q1 B0 B1 B2 B3)) (142) 0 9 i = aG B2.1 i := aG_0 pk_B2_lines
theorem xb_B2_lines {i x : Int32} : mm_sI (px_h z E M (px_l sw c2 w2 T D S S1 K R C W U q q1 B0 B1 B2 B3)) (142) 0 i x = aS B2.1 i x (fun l => px_h z E M (px_l sw c2 w2 T D S S1 K R C W U q q1 B0 B1 (l, B2.2.1, B2.2.2.1, B2.2.2.2.1, B2.2.2.2.2.1, B2.2.2.2.2.2) B3)) := aS_I pk_B2_lines (fun l => (px_set (i := 83) (by decide) px_ll))
theorem xn_B2_lines : mm_gN (px_h z E M (px_l sw c2 w2 T D S S1 K R C W U q q1 B0 B1 B2 B3)) (142) = some (nI (B2.1).length) := aN_I pk_B2_lines
theorem pk_B2_wishes : (px_h z E M (px_l sw c2 w2 T D S S1 K R C W U q q1 B0 B1 B2 B3)).2.2 143 = mm_I 0 B2.2.2.1 := px_at (i := 84) (by decide) rfl
theorem xa_B2_wishes {i : Int32} : mm_gI (px_h z E M (px_l sw c2 w2 T D S S1 K R C W U q q1 B0 B1 B2 B3)) (143) 0 9 i = aG B2.2.2.1 i := aG_0 pk_B2_wishes
theorem xb_B2_wishes {i x : Int32} : mm_sI (px_h z E M (px_l sw c2 w2 T D S S1 K R C W U q q1 B0 B1 B2 B3)) (143) 0 i x = aS B2.2.2.1 i x (fun l => px_h z E M (px_l sw c2 w2 T D S S1 K R C W U q q1 B0 B1 (B2.1, B2.2.1, l, B2.2.2.2.1, B2.2.2.2.2.1, B2.2.2.2.2.2) B3)) := aS_I pk_B2_wishes (fun l => (px_set (i := 84) (by decide) px_ll))
theorem xn_B2_wishes : mm_gN (px_h z E M (px_l sw c2 w2 T D S S1 K R C W U q q1 B0 B1 B2 B3)) (143) = some (nI (B2.2.2.1).length) := aN_I pk_B2_wishes
theorem pk_B2_sights : (px_h z E M (px_l sw c2 w2 T D S S1 K R C W U q q1 B0 B1 B2 B3)).2.2 144 = mm_I 0 B2.2.2.2.2.1 := px_at (i := 85) (by decide) rfl
theorem xa_B2_sights {i : Int32} : mm_gI (px_h z E M (px_l sw c2 w2 T D S S1 K R C W U q q1 B0 B1 B2 B3)) (144) 0 9 i = aG B2.2.2.2.2.1 i := aG_0 pk_B2_sights
theorem xb_B2_sights {i x : Int32} : mm_sI (px_h z E M (px_l sw c2 w2 T D S S1 K R C W U q q1 B0 B1 B2 B3)) (144) 0 i x = aS B2.2.2.2.2.1 i x (fun l => px_h z E M (px_l sw c2 w2 T D S S1 K R C W U q q1 B0 B1 (B2.1, B2.2.1, B2.2.2.1, B2.2.2.2.1, l, B2.2.2.2.2.2) B3)) := aS_I pk_B2_sights (fun l => (px_set (i := 85) (by decide) px_ll))
theorem xn_B2_sights : mm_gN (px_h z E M (px_l sw c2 w2 T D S S1 K R C W U q q1 B0 B1 B2 B3)) (144) = some (nI (B2.2.2.2.2.1).length) := aN_I pk_B2_sights
theorem pk_B3 : (px_h z E M (px_l sw c2 w2 T D S S1 K R C W U q q1 B0 B1 B2 B3)).2.2 145 = mm_O 3 [.ref 146, .int B3.2.1, .ref 147, .int B3.2.2.2.1, .ref 148, .int B3.2.2.2.2.2] := px_at (i := 86) (by decide) rfl
theorem xc_B3 : mm_cls (px_h z E M (px_l sw c2 w2 T D S S1 K R C W U q q1 B0 B1 B2 B3)) (145) = 3 := aF_c pk_B3
theorem xg_B3_0 : mm_gF (px_h z E M (px_l sw c2 w2 T D S S1 K R C W U q q1 B0 B1 B2 B3)) (145) 3 0 = some (.ref 146) := aF_g pk_B3 (by decide) rfl
theorem xg_B3_1 : mm_gF (px_h z E M (px_l sw c2 w2 T D S S1 K R C W U q q1 B0 B1 B2 B3)) (145) 3 1 = some (.int B3.2.1) := aF_g pk_B3 (by decide) rfl
theorem xs_B3_1 {x : Int32} : mm_sF (mp_P fx) (px_h z E M (px_l sw c2 w2 T D S S1 K R C W U q q1 B0 B1 B2 B3)) (145) 3 1 (.int x) = some (px_h z E M (px_l sw c2 w2 T D S S1 K R C W U q q1 B0 B1 B2 (B3.1, x, B3.2.2.1, B3.2.2.2.1, B3.2.2.2.2.1, B3.2.2.2.2.2))) := aF_s pk_B3 rfl (px_set (i := 86) (by decide) px_ll)
theorem xg_B3_2 : mm_gF (px_h z E M (px_l sw c2 w2 T D S S1 K R C W U q q1 B0 B1 B2 B3)) (145) 3 2 = some (.ref 147) := aF_g pk_B3 (by decide) rfl
theorem xg_B3_3 : mm_gF (px_h z E M (px_l sw c2 w2 T D S S1 K R C W U q q1 B0 B1 B2 B3)) (145) 3 3 = some (.int B3.2.2.2.1) := aF_g pk_B3 (by decide) rfl
theorem xs_B3_3 {x : Int32} : mm_sF (mp_P fx) (px_h z E M (px_l sw c2 w2 T D S S1 K R C W U q q1 B0 B1 B2 B3)) (145) 3 3 (.int x) = some (px_h z E M (px_l sw c2 w2 T D S S1 K R C W U q q1 B0 B1 B2 (B3.1, B3.2.1, B3.2.2.1, x, B3.2.2.2.2.1, B3.2.2.2.2.2))) := aF_s pk_B3 rfl (px_set (i := 86) (by decide) px_ll)
theorem xg_B3_4 : mm_gF (px_h z E M (px_l sw c2 w2 T D S S1 K R C W U q q1 B0 B1 B2 B3)) (145) 3 4 = some (.ref 148) := aF_g pk_B3 (by decide) rfl
theorem xg_B3_5 : mm_gF (px_h z E M (px_l sw c2 w2 T D S S1 K R C W U q q1 B0 B1 B2 B3)) (145) 3 5 = some (.int B3.2.2.2.2.2) := aF_g pk_B3 (by decide) rfl
theorem xs_B3_5 {x : Int32} : mm_sF (mp_P fx) (px_h z E M (px_l sw c2 w2 T D S S1 K R C W U q q1 B0 B1 B2 B3)) (145) 3 5 (.int x) = some (px_h z E M (px_l sw c2 w2 T D S S1 K R C W U q q1 B0 B1 B2 (B3.1, B3.2.1, B3.2.2.1, B3.2.2.2.1, B3.2.2.2.2.1, x))) := aF_s pk_B3 rfl (px_set (i := 86) (by decide) px_ll)
theorem pk_B3_lines : (px_h z E M (px_l sw c2 w2 T D S S1 K R C W U q q1 B0 B1 B2 B3)).2.2 146 = mm_I 0 B3.1 := px_at (i := 87) (by decide) rfl
theorem xa_B3_lines {i : Int32} : mm_gI (px_h z E M (px_l sw c2 w2 T D S S1 K R C W U q q1 B0 B1 B2 B3)) (146) 0 9 i = aG B3.1 i := aG_0 pk_B3_lines
theorem xb_B3_lines {i x : Int32} : mm_sI (px_h z E M (px_l sw c2 w2 T D S S1 K R C W U q q1 B0 B1 B2 B3)) (146) 0 i x = aS B3.1 i x (fun l => px_h z E M (px_l sw c2 w2 T D S S1 K R C W U q q1 B0 B1 B2 (l, B3.2.1, B3.2.2.1, B3.2.2.2.1, B3.2.2.2.2.1, B3.2.2.2.2.2))) := aS_I pk_B3_lines (fun l => (px_set (i := 87) (by decide) px_ll))
theorem xn_B3_lines : mm_gN (px_h z E M (px_l sw c2 w2 T D S S1 K R C W U q q1 B0 B1 B2 B3)) (146) = some (nI (B3.1).length) := aN_I pk_B3_lines
theorem pk_B3_wishes : (px_h z E M (px_l sw c2 w2 T D S S1 K R C W U q q1 B0 B1 B2 B3)).2.2 147 = mm_I 0 B3.2.2.1 := px_at (i := 88) (by decide) rfl
theorem xa_B3_wishes {i : Int32} : mm_gI (px_h z E M (px_l sw c2 w2 T D S S1 K R C W U q q1 B0 B1 B2 B3)) (147) 0 9 i = aG B3.2.2.1 i := aG_0 pk_B3_wishes
theorem xb_B3_wishes {i x : Int32} : mm_sI (px_h z E M (px_l sw c2 w2 T D S S1 K R C W U q q1 B0 B1 B2 B3)) (147) 0 i x = aS B3.2.2.1 i x (fun l => px_h z E M (px_l sw c2 w2 T D S S1 K R C W U q q1 B0 B1 B2 (B3.1, B3.2.1, l, B3.2.2.2.1, B3.2.2.2.2.1, B3.2.2.2.2.2))) := aS_I pk_B3_wishes (fun l => (px_set (i := 88) (by decide) px_ll))
theorem xn_B3_wishes : mm_gN (px_h z E M (px_l sw c2 w2 T D S S1 K R C W U q q1 B0 B1 B2 B3)) (147) = some (nI (B3.2.2.1).length) := aN_I pk_B3_wishes
theorem pk_B3_sights : (px_h z E M (px_l sw c2 w2 T D S S1 K R C W U q q1 B0 B1 B2 B3)).2.2 148 = mm_I 0 B3.2.2.2.2.1 := px_at (i := 89) (by decide) rfl
theorem xa_B3_sights {i : Int32} : mm_gI (px_h z E M (px_l sw c2 w2 T D S S1 K R C W U q q1 B0 B1 B2 B3)) (148) 0 9 i = aG B3.2.2.2.2.1 i := aG_0 pk_B3_sights
theorem xb_B3_sights {i x : Int32} : mm_sI (px_h z E M (px_l sw c2 w2 T D S S1 K R C W U q q1 B0 B1 B2 B3)) (148) 0 i x = aS B3.2.2.2.2.1 i x (fun l => px_h z E M (px_l sw c2 w2 T D S S1 K R C W U q q1 B0 B1 B2 (B3.1, B3.2.1, B3.2.2.1, B3.2.2.2.1, l, B3.2.2.2.2.2))) := aS_I pk_B3_sights (fun l => (px_set (i := 89) (by decide) px_ll))
theorem xn_B3_sights : mm_gN (px_h z E M (px_l sw c2 w2 T D S S1 K R C W U q q1 B0 B1 B2 B3)) (148) = some (nI (B3.2.2.2.2.1).length) := aN_I pk_B3_sights
theorem pk_q : (px_h z E M (px_l sw c2 w2 T D S S1 K R C W U q q1 B0 B1 B2 B3)).2.2 (px_ta sw) = mm_O 8 [.ref (px_ta sw + 1), .int q.2.1, .ref (px_ta sw + 2), .ref (px_ta sw + 3), .int q.2.2.2.2.1, .ref (px_ta sw + 4), .ref (px_ta sw + 5), .ref (px_ta sw + 6), .int q.2.2.2.2.2.2.2.2.1, .int q.2.2.2.2.2.2.2.2.2.1, .ref (px_ta sw + 7), .ref (px_ta sw + 8), .ref (px_ta sw + 9), .ref (px_ta sw + 10), .ref (px_ta sw + 11), .ref (px_ta sw + 12), .int q.2.2.2.2.2.2.2.2.2.2.2.2.2.2.2.2.1, .ref (px_ta sw + 13), .int q.2.2.2.2.2.2.2.2.2.2.2.2.2.2.2.2.2.2.1, .ref (px_ta sw + 14)] := by
  cases sw
  · exact px_at (i := 40) (by decide) rfl
  · exact px_at (i := 57) (by decide) rfl
theorem xc_q : mm_cls (px_h z E M (px_l sw c2 w2 T D S S1 K R C W U q q1 B0 B1 B2 B3)) (px_ta sw) = 8 := aF_c pk_q
theorem xg_q_0 : mm_gF (px_h z E M (px_l sw c2 w2 T D S S1 K R C W U q q1 B0 B1 B2 B3)) (px_ta sw) 8 0 = some (.ref (px_ta sw + 1)) := aF_g pk_q (by decide) rfl
theorem xg_q_1 : mm_gF (px_h z E M (px_l sw c2 w2 T D S S1 K R C W U q q1 B0 B1 B2 B3)) (px_ta sw) 8 1 = some (.int q.2.1) := aF_g pk_q (by decide) rfl
theorem xs_q_1 {x : Int32} : mm_sF (mp_P fx) (px_h z E M (px_l sw c2 w2 T D S S1 K R C W U q q1 B0 B1 B2 B3)) (px_ta sw) 8 1 (.int x) = some (px_h z E M (px_l sw c2 w2 T D S S1 K R C W U (q.1, x, q.2.2.1, q.2.2.2.1, q.2.2.2.2.1, q.2.2.2.2.2.1, q.2.2.2.2.2.2.1, q.2.2.2.2.2.2.2.1, q.2.2.2.2.2.2.2.2.1, q.2.2.2.2.2.2.2.2.2.1, q.2.2.2.2.2.2.2.2.2.2.1, q.2.2.2.2.2.2.2.2.2.2.2.1, q.2.2.2.2.2.2.2.2.2.2.2.2.1, q.2.2.2.2.2.2.2.2.2.2.2.2.2.1, q.2.2.2.2.2.2.2.2.2.2.2.2.2.2.1, q.2.2.2.2.2.2.2.2.2.2.2.2.2.2.2.1, q.2.2.2.2.2.2.2.2.2.2.2.2.2.2.2.2.1, q.2.2.2.2.2.2.2.2.2.2.2.2.2.2.2.2.2.1, q.2.2.2.2.2.2.2.2.2.2.2.2.2.2.2.2.2.2.1, q.2.2.2.2.2.2.2.2.2.2.2.2.2.2.2.2.2.2.2.1, q.2.2.2.2.2.2.2.2.2.2.2.2.2.2.2.2.2.2.2.2.1, q.2.2.2.2.2.2.2.2.2.2.2.2.2.2.2.2.2.2.2.2.2.1, q.2.2.2.2.2.2.2.2.2.2.2.2.2.2.2.2.2.2.2.2.2.2) q1 B0 B1 B2 B3)) := aF_s pk_q rfl (by cases sw <;> first | exact px_set (i := 40) (by decide) px_ll | exact px_set (i := 57) (by decide) px_ll)
theorem xg_q_2 : mm_gF (px_h z E M (px_l sw c2 w2 T D S S1 K R C W U q q1 B0 B1 B2 B3)) (px_ta sw) 8 2 = some (.ref (px_ta sw + 2)) := aF_g pk_q (by decide) rfl
theorem xg_q_3 : mm_gF (px_h z E M (px_l sw c2 w2 T D S S1 K R C W U q q1 B0 B1 B2 B3)) (px_ta sw) 8 3 = some (.ref (px_ta sw + 3)) := aF_g pk_q (by decide) rfl
theorem xg_q_4 : mm_gF (px_h z E M (px_l sw c2 w2 T D S S1 K R C W U q q1 B0 B1 B2 B3)) (px_ta sw) 8 4 = some (.int q.2.2.2.2.1) := aF_g pk_q (by decide) rfl
theorem xs_q_4 {x : Int32} : mm_sF (mp_P fx) (px_h z E M (px_l sw c2 w2 T D S S1 K R C W U q q1 B0 B1 B2 B3)) (px_ta sw) 8 4 (.int x) = some (px_h z E M (px_l sw c2 w2 T D S S1 K R C W U (q.1, q.2.1, q.2.2.1, q.2.2.2.1, x, q.2.2.2.2.2.1, q.2.2.2.2.2.2.1, q.2.2.2.2.2.2.2.1, q.2.2.2.2.2.2.2.2.1, q.2.2.2.2.2.2.2.2.2.1, q.2.2.2.2.2.2.2.2.2.2.1, q.2.2.2.2.2.2.2.2.2.2.2.1, q.2.2.2.2.2.2.2.2.2.2.2.2.1, q.2.2.2.2.2.2.2.2.2.2.2.2.2.1, q.2.2.2.2.2.2.2.2.2.2.2.2.2.2.1, q.2.2.2.2.2.2.2.2.2.2.2.2.2.2.2.1, q.2.2.2.2.2.2.2.2.2.2.2.2.2.2.2.2.1, q.2.2.2.2.2.2.2.2.2.2.2.2.2.2.2.2.2.1, q.2.2.2.2.2.2.2.2.2.2.2.2.2.2.2.2.2.2.1, q.2.2.2.2.2.2.2.2.2.2.2.2.2.2.2.2.2.2.2.1, q.2.2.2.2.2.2.2.2.2.2.2.2.2.2.2.2.2.2.2.2.1, q.2.2.2.2.2.2.2.2.2.2.2.2.2.2.2.2.2.2.2.2.2.1, q.2.2.2.2.2.2.2.2.2.2.2.2.2.2.2.2.2.2.2.2.2.2) q1 B0 B1 B2 B3)) := aF_s pk_q rfl (by cases sw <;> first | exact px_set (i := 40) (by decide) px_ll | exact px_set (i := 57) (by decide) px_ll)
theorem xg_q_5 : mm_gF (px_h z E M (px_l sw c2 w2 T D S S1 K R C W U q q1 B0 B1 B2 B3)) (px_ta sw) 8 5 = some (.ref (px_ta sw + 4)) := aF_g pk_q (by decide) rfl
theorem xg_q_6 : mm_gF (px_h z E M (px_l sw c2 w2 T D S S1 K R C W U q q1 B0 B1 B2 B3)) (px_ta sw) 8 6 = some (.ref (px_ta sw + 5)) := aF_g pk_q (by decide) rfl
theorem xg_q_7 : mm_gF (px_h z E M (px_l sw c2 w2 T D S S1 K R C W U q q1 B0 B1 B2 B3)) (px_ta sw) 8 7 = some (.ref (px_ta sw + 6)) := aF_g pk_q (by decide) rfl
theorem xg_q_8 : mm_gF (px_h z E M (px_l sw c2 w2 T D S S1 K R C W U q q1 B0 B1 B2 B3)) (px_ta sw) 8 8 = some (.int q.2.2.2.2.2.2.2.2.1) := aF_g pk_q (by decide) rfl
theorem xs_q_8 {x : Int32} : mm_sF (mp_P fx) (px_h z E M (px_l sw c2 w2 T D S S1 K R C W U q q1 B0 B1 B2 B3)) (px_ta sw) 8 8 (.int x) = some (px_h z E M (px_l sw c2 w2 T D S S1 K R C W U (q.1, q.2.1, q.2.2.1, q.2.2.2.1, q.2.2.2.2.1, q.2.2.2.2.2.1, q.2.2.2.2.2.2.1, q.2.2.2.2.2.2.2.1, x, q.2.2.2.2.2.2.2.2.2.1, q.2.2.2.2.2.2.2.2.2.2.1, q.2.2.2.2.2.2.2.2.2.2.2.1, q.2.2.2.2.2.2.2.2.2.2.2.2.1, q.2.2.2.2.2.2.2.2.2.2.2.2.2.1, q.2.2.2.2.2.2.2.2.2.2.2.2.2.2.1, q.2.2.2.2.2.2.2.2.2.2.2.2.2.2.2.1, q.2.2.2.2.2.2.2.2.2.2.2.2.2.2.2.2.1, q.2.2.2.2.2.2.2.2.2.2.2.2.2.2.2.2.2.1, q.2.2.2.2.2.2.2.2.2.2.2.2.2.2.2.2.2.2.1, q.2.2.2.2.2.2.2.2.2.2.2.2.2.2.2.2.2.2.2.1, q.2.2.2.2.2.2.2.2.2.2.2.2.2.2.2.2.2.2.2.2.1, q.2.2.2.2.2.2.2.2.2.2.2.2.2.2.2.2.2.2.2.2.2.1, q.2.2.2.2.2.2.2.2.2.2.2.2.2.2.2.2.2.2.2.2.2.2) q1 B0 B1 B2 B3)) := aF_s pk_q rfl (by cases sw <;> first | exact px_set (i := 40) (by decide) px_ll | exact px_set (i := 57) (by decide) px_ll)
theorem xg_q_9 : mm_gF (px_h z E M (px_l sw c2 w2 T D S S1 K R C W U q q1 B0 B1 B2 B3)) (px_ta sw) 8 9 = some (.int q.2.2.2.2.2.2.2.2.2.1) := aF_g pk_q (by decide) rfl
theorem xs_q_9 {x : Int32} : mm_sF (mp_P fx) (px_h z E M (px_l sw c2 w2 T D S S1 K R C W U q q1 B0 B1 B2 B3)) (px_ta sw) 8 9 (.int x) = some (px_h z E M (px_l sw c2 w2 T D S S1 K R C W U (q.1, q.2.1, q.2.2.1, q.2.2.2.1, q.2.2.2.2.1, q.2.2.2.2.2.1, q.2.2.2.2.2.2.1, q.2.2.2.2.2.2.2.1, q.2.2.2.2.2.2.2.2.1, x, q.2.2.2.2.2.2.2.2.2.2.1, q.2.2.2.2.2.2.2.2.2.2.2.1, q.2.2.2.2.2.2.2.2.2.2.2.2.1, q.2.2.2.2.2.2.2.2.2.2.2.2.2.1, q.2.2.2.2.2.2.2.2.2.2.2.2.2.2.1, q.2.2.2.2.2.2.2.2.2.2.2.2.2.2.2.1, q.2.2.2.2.2.2.2.2.2.2.2.2.2.2.2.2.1, q.2.2.2.2.2.2.2.2.2.2.2.2.2.2.2.2.2.1, q.2.2.2.2.2.2.2.2.2.2.2.2.2.2.2.2.2.2.1, q.2.2.2.2.2.2.2.2.2.2.2.2.2.2.2.2.2.2.2.1, q.2.2.2.2.2.2.2.2.2.2.2.2.2.2.2.2.2.2.2.2.1, q.2.2.2.2.2.2.2.2.2.2.2.2.2.2.2.2.2.2.2.2.2.1, q.2.2.2.2.2.2.2.2.2.2.2.2.2.2.2.2.2.2.2.2.2.2) q1 B0 B1 B2 B3)) := aF_s pk_q rfl (by cases sw <;> first | exact px_set (i := 40) (by decide) px_ll | exact px_set (i := 57) (by decide) px_ll)
theorem xg_q_10 : mm_gF (px_h z E M (px_l sw c2 w2 T D S S1 K R C W U q q1 B0 B1 B2 B3)) (px_ta sw) 8 10 = some (.ref (px_ta sw + 7)) := aF_g pk_q (by decide) rfl
theorem xg_q_11 : mm_gF (px_h z E M (px_l sw c2 w2 T D S S1 K R C W U q q1 B0 B1 B2 B3)) (px_ta sw) 8 11 = some (.ref (px_ta sw + 8)) := aF_g pk_q (by decide) rfl
theorem xg_q_12 : mm_gF (px_h z E M (px_l sw c2 w2 T D S S1 K R C W U q q1 B0 B1 B2 B3)) (px_ta sw) 8 12 = some (.ref (px_ta sw + 9)) := aF_g pk_q (by decide) rfl
theorem xg_q_13 : mm_gF (px_h z E M (px_l sw c2 w2 T D S S1 K R C W U q q1 B0 B1 B2 B3)) (px_ta sw) 8 13 = some (.ref (px_ta sw + 10)) := aF_g pk_q (by decide) rfl
theorem xg_q_14 : mm_gF (px_h z E M (px_l sw c2 w2 T D S S1 K R C W U q q1 B0 B1 B2 B3)) (px_ta sw) 8 14 = some (.ref (px_ta sw + 11)) := aF_g pk_q (by decide) rfl
theorem xg_q_15 : mm_gF (px_h z E M (px_l sw c2 w2 T D S S1 K R C W U q q1 B0 B1 B2 B3)) (px_ta sw) 8 15 = some (.ref (px_ta sw + 12)) := aF_g pk_q (by decide) rfl
theorem xg_q_16 : mm_gF (px_h z E M (px_l sw c2 w2 T D S S1 K R C W U q q1 B0 B1 B2 B3)) (px_ta sw) 8 16 = some (.int q.2.2.2.2.2.2.2.2.2.2.2.2.2.2.2.2.1) := aF_g pk_q (by decide) rfl
theorem xs_q_16 {x : Int32} : mm_sF (mp_P fx) (px_h z E M (px_l sw c2 w2 T D S S1 K R C W U q q1 B0 B1 B2 B3)) (px_ta sw) 8 16 (.int x) = some (px_h z E M (px_l sw c2 w2 T D S S1 K R C W U (q.1, q.2.1, q.2.2.1, q.2.2.2.1, q.2.2.2.2.1, q.2.2.2.2.2.1, q.2.2.2.2.2.2.1, q.2.2.2.2.2.2.2.1, q.2.2.2.2.2.2.2.2.1, q.2.2.2.2.2.2.2.2.2.1, q.2.2.2.2.2.2.2.2.2.2.1, q.2.2.2.2.2.2.2.2.2.2.2.1, q.2.2.2.2.2.2.2.2.2.2.2.2.1, q.2.2.2.2.2.2.2.2.2.2.2.2.2.1, q.2.2.2.2.2.2.2.2.2.2.2.2.2.2.1, q.2.2.2.2.2.2.2.2.2.2.2.2.2.2.2.1, x, q.2.2.2.2.2.2.2.2.2.2.2.2.2.2.2.2.2.1, q.2.2.2.2.2.2.2.2.2.2.2.2.2.2.2.2.2.2.1, q.2.2.2.2.2.2.2.2.2.2.2.2.2.2.2.2.2.2.2.1, q.2.2.2.2.2.2.2.2.2.2.2.2.2.2.2.2.2.2.2.2.1, q.2.2.2.2.2.2.2.2.2.2.2.2.2.2.2.2.2.2.2.2.2.1, q.2.2.2.2.2.2.2.2.2.2.2.2.2.2.2.2.2.2.2.2.2.2) q1 B0 B1 B2 B3)) := aF_s pk_q rfl (by cases sw <;> first | exact px_set (i := 40) (by decide) px_ll | exact px_set (i := 57) (by decide) px_ll)
theorem xg_q_17 : mm_gF (px_h z E M (px_l sw c2 w2 T D S S1 K R C W U q q1 B0 B1 B2 B3)) (px_ta sw) 8 17 = some (.ref (px_ta sw + 13)) := aF_g pk_q (by decide) rfl
theorem xg_q_18 : mm_gF (px_h z E M (px_l sw c2 w2 T D S S1 K R C W U q q1 B0 B1 B2 B3)) (px_ta sw) 8 18 = some (.int q.2.2.2.2.2.2.2.2.2.2.2.2.2.2.2.2.2.2.1) := aF_g pk_q (by decide) rfl
theorem xs_q_18 {x : Int32} : mm_sF (mp_P fx) (px_h z E M (px_l sw c2 w2 T D S S1 K R C W U q q1 B0 B1 B2 B3)) (px_ta sw) 8 18 (.int x) = some (px_h z E M (px_l sw c2 w2 T D S S1 K R C W U (q.1, q.2.1, q.2.2.1, q.2.2.2.1, q.2.2.2.2.1, q.2.2.2.2.2.1, q.2.2.2.2.2.2.1, q.2.2.2.2.2.2.2.1, q.2.2.2.2.2.2.2.2.1, q.2.2.2.2.2.2.2.2.2.1, q.2.2.2.2.2.2.2.2.2.2.1, q.2.2.2.2.2.2.2.2.2.2.2.1, q.2.2.2.2.2.2.2.2.2.2.2.2.1, q.2.2.2.2.2.2.2.2.2.2.2.2.2.1, q.2.2.2.2.2.2.2.2.2.2.2.2.2.2.1, q.2.2.2.2.2.2.2.2.2.2.2.2.2.2.2.1, q.2.2.2.2.2.2.2.2.2.2.2.2.2.2.2.2.1, q.2.2.2.2.2.2.2.2.2.2.2.2.2.2.2.2.2.1, x, q.2.2.2.2.2.2.2.2.2.2.2.2.2.2.2.2.2.2.2.1, q.2.2.2.2.2.2.2.2.2.2.2.2.2.2.2.2.2.2.2.2.1, q.2.2.2.2.2.2.2.2.2.2.2.2.2.2.2.2.2.2.2.2.2.1, q.2.2.2.2.2.2.2.2.2.2.2.2.2.2.2.2.2.2.2.2.2.2) q1 B0 B1 B2 B3)) := aF_s pk_q rfl (by cases sw <;> first | exact px_set (i := 40) (by decide) px_ll | exact px_set (i := 57) (by decide) px_ll)
theorem xg_q_19 : mm_gF (px_h z E M (px_l sw c2 w2 T D S S1 K R C W U q q1 B0 B1 B2 B3)) (px_ta sw) 8 19 = some (.ref (px_ta sw + 14)) := aF_g pk_q (by decide) rfl
theorem pk_q_sortNames : (px_h z E M (px_l sw c2 w2 T D S S1 K R C W U q q1 B0 B1 B2 B3)).2.2 (px_ta sw + 1) = mm_L q.1 := by
  cases sw
  · exact px_at (i := 41) (by decide) rfl
  · exact px_at (i := 58) (by decide) rfl
theorem xa_q_sortNames {i : Int32} : mm_gL (px_h z E M (px_l sw c2 w2 T D S S1 K R C W U q q1 B0 B1 B2 B3)) (px_ta sw + 1) i = aG q.1 i := aG_L pk_q_sortNames
theorem xb_q_sortNames {i : Int32} {x : Int64} : mm_sL (px_h z E M (px_l sw c2 w2 T D S S1 K R C W U q q1 B0 B1 B2 B3)) (px_ta sw + 1) i x = aS q.1 i x (fun l => px_h z E M (px_l sw c2 w2 T D S S1 K R C W U (l, q.2.1, q.2.2.1, q.2.2.2.1, q.2.2.2.2.1, q.2.2.2.2.2.1, q.2.2.2.2.2.2.1, q.2.2.2.2.2.2.2.1, q.2.2.2.2.2.2.2.2.1, q.2.2.2.2.2.2.2.2.2.1, q.2.2.2.2.2.2.2.2.2.2.1, q.2.2.2.2.2.2.2.2.2.2.2.1, q.2.2.2.2.2.2.2.2.2.2.2.2.1, q.2.2.2.2.2.2.2.2.2.2.2.2.2.1, q.2.2.2.2.2.2.2.2.2.2.2.2.2.2.1, q.2.2.2.2.2.2.2.2.2.2.2.2.2.2.2.1, q.2.2.2.2.2.2.2.2.2.2.2.2.2.2.2.2.1, q.2.2.2.2.2.2.2.2.2.2.2.2.2.2.2.2.2.1, q.2.2.2.2.2.2.2.2.2.2.2.2.2.2.2.2.2.2.1, q.2.2.2.2.2.2.2.2.2.2.2.2.2.2.2.2.2.2.2.1, q.2.2.2.2.2.2.2.2.2.2.2.2.2.2.2.2.2.2.2.2.1, q.2.2.2.2.2.2.2.2.2.2.2.2.2.2.2.2.2.2.2.2.2.1, q.2.2.2.2.2.2.2.2.2.2.2.2.2.2.2.2.2.2.2.2.2.2) q1 B0 B1 B2 B3)) := aS_L pk_q_sortNames (fun l => (by cases sw <;> first | exact px_set (i := 41) (by decide) px_ll | exact px_set (i := 58) (by decide) px_ll))
theorem xn_q_sortNames : mm_gN (px_h z E M (px_l sw c2 w2 T D S S1 K R C W U q q1 B0 B1 B2 B3)) (px_ta sw + 1) = some (nI (q.1).length) := aN_L pk_q_sortNames
theorem pk_q_colourNames : (px_h z E M (px_l sw c2 w2 T D S S1 K R C W U q q1 B0 B1 B2 B3)).2.2 (px_ta sw + 2) = mm_L q.2.2.1 := by
  cases sw
  · exact px_at (i := 42) (by decide) rfl
  · exact px_at (i := 59) (by decide) rfl
theorem xa_q_colourNames {i : Int32} : mm_gL (px_h z E M (px_l sw c2 w2 T D S S1 K R C W U q q1 B0 B1 B2 B3)) (px_ta sw + 2) i = aG q.2.2.1 i := aG_L pk_q_colourNames
theorem xb_q_colourNames {i : Int32} {x : Int64} : mm_sL (px_h z E M (px_l sw c2 w2 T D S S1 K R C W U q q1 B0 B1 B2 B3)) (px_ta sw + 2) i x = aS q.2.2.1 i x (fun l => px_h z E M (px_l sw c2 w2 T D S S1 K R C W U (q.1, q.2.1, l, q.2.2.2.1, q.2.2.2.2.1, q.2.2.2.2.2.1, q.2.2.2.2.2.2.1, q.2.2.2.2.2.2.2.1, q.2.2.2.2.2.2.2.2.1, q.2.2.2.2.2.2.2.2.2.1, q.2.2.2.2.2.2.2.2.2.2.1, q.2.2.2.2.2.2.2.2.2.2.2.1, q.2.2.2.2.2.2.2.2.2.2.2.2.1, q.2.2.2.2.2.2.2.2.2.2.2.2.2.1, q.2.2.2.2.2.2.2.2.2.2.2.2.2.2.1, q.2.2.2.2.2.2.2.2.2.2.2.2.2.2.2.1, q.2.2.2.2.2.2.2.2.2.2.2.2.2.2.2.2.1, q.2.2.2.2.2.2.2.2.2.2.2.2.2.2.2.2.2.1, q.2.2.2.2.2.2.2.2.2.2.2.2.2.2.2.2.2.2.1, q.2.2.2.2.2.2.2.2.2.2.2.2.2.2.2.2.2.2.2.1, q.2.2.2.2.2.2.2.2.2.2.2.2.2.2.2.2.2.2.2.2.1, q.2.2.2.2.2.2.2.2.2.2.2.2.2.2.2.2.2.2.2.2.2.1, q.2.2.2.2.2.2.2.2.2.2.2.2.2.2.2.2.2.2.2.2.2.2) q1 B0 B1 B2 B3)) := aS_L pk_q_colourNames (fun l => (by cases sw <;> first | exact px_set (i := 42) (by decide) px_ll | exact px_set (i := 59) (by decide) px_ll))
theorem xn_q_colourNames : mm_gN (px_h z E M (px_l sw c2 w2 T D S S1 K R C W U q q1 B0 B1 B2 B3)) (px_ta sw + 2) = some (nI (q.2.2.1).length) := aN_L pk_q_colourNames
theorem pk_q_colourSorts : (px_h z E M (px_l sw c2 w2 T D S S1 K R C W U q q1 B0 B1 B2 B3)).2.2 (px_ta sw + 3) = mm_I 0 q.2.2.2.1 := by
  cases sw
  · exact px_at (i := 43) (by decide) rfl
  · exact px_at (i := 60) (by decide) rfl
theorem xa_q_colourSorts {i : Int32} : mm_gI (px_h z E M (px_l sw c2 w2 T D S S1 K R C W U q q1 B0 B1 B2 B3)) (px_ta sw + 3) 0 9 i = aG q.2.2.2.1 i := aG_0 pk_q_colourSorts
theorem xb_q_colourSorts {i x : Int32} : mm_sI (px_h z E M (px_l sw c2 w2 T D S S1 K R C W U q q1 B0 B1 B2 B3)) (px_ta sw + 3) 0 i x = aS q.2.2.2.1 i x (fun l => px_h z E M (px_l sw c2 w2 T D S S1 K R C W U (q.1, q.2.1, q.2.2.1, l, q.2.2.2.2.1, q.2.2.2.2.2.1, q.2.2.2.2.2.2.1, q.2.2.2.2.2.2.2.1, q.2.2.2.2.2.2.2.2.1, q.2.2.2.2.2.2.2.2.2.1, q.2.2.2.2.2.2.2.2.2.2.1, q.2.2.2.2.2.2.2.2.2.2.2.1, q.2.2.2.2.2.2.2.2.2.2.2.2.1, q.2.2.2.2.2.2.2.2.2.2.2.2.2.1, q.2.2.2.2.2.2.2.2.2.2.2.2.2.2.1, q.2.2.2.2.2.2.2.2.2.2.2.2.2.2.2.1, q.2.2.2.2.2.2.2.2.2.2.2.2.2.2.2.2.1, q.2.2.2.2.2.2.2.2.2.2.2.2.2.2.2.2.2.1, q.2.2.2.2.2.2.2.2.2.2.2.2.2.2.2.2.2.2.1, q.2.2.2.2.2.2.2.2.2.2.2.2.2.2.2.2.2.2.2.1, q.2.2.2.2.2.2.2.2.2.2.2.2.2.2.2.2.2.2.2.2.1, q.2.2.2.2.2.2.2.2.2.2.2.2.2.2.2.2.2.2.2.2.2.1, q.2.2.2.2.2.2.2.2.2.2.2.2.2.2.2.2.2.2.2.2.2.2) q1 B0 B1 B2 B3)) := aS_I pk_q_colourSorts (fun l => (by cases sw <;> first | exact px_set (i := 43) (by decide) px_ll | exact px_set (i := 60) (by decide) px_ll))
theorem xn_q_colourSorts : mm_gN (px_h z E M (px_l sw c2 w2 T D S S1 K R C W U q q1 B0 B1 B2 B3)) (px_ta sw + 3) = some (nI (q.2.2.2.1).length) := aN_I pk_q_colourSorts
theorem pk_q_ruleMakes : (px_h z E M (px_l sw c2 w2 T D S S1 K R C W U q q1 B0 B1 B2 B3)).2.2 (px_ta sw + 4) = mm_I 0 q.2.2.2.2.2.1 := by
  cases sw
  · exact px_at (i := 44) (by decide) rfl
  · exact px_at (i := 61) (by decide) rfl
theorem xa_q_ruleMakes {i : Int32} : mm_gI (px_h z E M (px_l sw c2 w2 T D S S1 K R C W U q q1 B0 B1 B2 B3)) (px_ta sw + 4) 0 9 i = aG q.2.2.2.2.2.1 i := aG_0 pk_q_ruleMakes
theorem xb_q_ruleMakes {i x : Int32} : mm_sI (px_h z E M (px_l sw c2 w2 T D S S1 K R C W U q q1 B0 B1 B2 B3)) (px_ta sw + 4) 0 i x = aS q.2.2.2.2.2.1 i x (fun l => px_h z E M (px_l sw c2 w2 T D S S1 K R C W U (q.1, q.2.1, q.2.2.1, q.2.2.2.1, q.2.2.2.2.1, l, q.2.2.2.2.2.2.1, q.2.2.2.2.2.2.2.1, q.2.2.2.2.2.2.2.2.1, q.2.2.2.2.2.2.2.2.2.1, q.2.2.2.2.2.2.2.2.2.2.1, q.2.2.2.2.2.2.2.2.2.2.2.1, q.2.2.2.2.2.2.2.2.2.2.2.2.1, q.2.2.2.2.2.2.2.2.2.2.2.2.2.1, q.2.2.2.2.2.2.2.2.2.2.2.2.2.2.1, q.2.2.2.2.2.2.2.2.2.2.2.2.2.2.2.1, q.2.2.2.2.2.2.2.2.2.2.2.2.2.2.2.2.1, q.2.2.2.2.2.2.2.2.2.2.2.2.2.2.2.2.2.1, q.2.2.2.2.2.2.2.2.2.2.2.2.2.2.2.2.2.2.1, q.2.2.2.2.2.2.2.2.2.2.2.2.2.2.2.2.2.2.2.1, q.2.2.2.2.2.2.2.2.2.2.2.2.2.2.2.2.2.2.2.2.1, q.2.2.2.2.2.2.2.2.2.2.2.2.2.2.2.2.2.2.2.2.2.1, q.2.2.2.2.2.2.2.2.2.2.2.2.2.2.2.2.2.2.2.2.2.2) q1 B0 B1 B2 B3)) := aS_I pk_q_ruleMakes (fun l => (by cases sw <;> first | exact px_set (i := 44) (by decide) px_ll | exact px_set (i := 61) (by decide) px_ll))
theorem xn_q_ruleMakes : mm_gN (px_h z E M (px_l sw c2 w2 T D S S1 K R C W U q q1 B0 B1 B2 B3)) (px_ta sw + 4) = some (nI (q.2.2.2.2.2.1).length) := aN_I pk_q_ruleMakes
theorem pk_q_ruleFirsts : (px_h z E M (px_l sw c2 w2 T D S S1 K R C W U q q1 B0 B1 B2 B3)).2.2 (px_ta sw + 5) = mm_I 0 q.2.2.2.2.2.2.1 := by
  cases sw
  · exact px_at (i := 45) (by decide) rfl
  · exact px_at (i := 62) (by decide) rfl
theorem xa_q_ruleFirsts {i : Int32} : mm_gI (px_h z E M (px_l sw c2 w2 T D S S1 K R C W U q q1 B0 B1 B2 B3)) (px_ta sw + 5) 0 9 i = aG q.2.2.2.2.2.2.1 i := aG_0 pk_q_ruleFirsts
theorem xb_q_ruleFirsts {i x : Int32} : mm_sI (px_h z E M (px_l sw c2 w2 T D S S1 K R C W U q q1 B0 B1 B2 B3)) (px_ta sw + 5) 0 i x = aS q.2.2.2.2.2.2.1 i x (fun l => px_h z E M (px_l sw c2 w2 T D S S1 K R C W U (q.1, q.2.1, q.2.2.1, q.2.2.2.1, q.2.2.2.2.1, q.2.2.2.2.2.1, l, q.2.2.2.2.2.2.2.1, q.2.2.2.2.2.2.2.2.1, q.2.2.2.2.2.2.2.2.2.1, q.2.2.2.2.2.2.2.2.2.2.1, q.2.2.2.2.2.2.2.2.2.2.2.1, q.2.2.2.2.2.2.2.2.2.2.2.2.1, q.2.2.2.2.2.2.2.2.2.2.2.2.2.1, q.2.2.2.2.2.2.2.2.2.2.2.2.2.2.1, q.2.2.2.2.2.2.2.2.2.2.2.2.2.2.2.1, q.2.2.2.2.2.2.2.2.2.2.2.2.2.2.2.2.1, q.2.2.2.2.2.2.2.2.2.2.2.2.2.2.2.2.2.1, q.2.2.2.2.2.2.2.2.2.2.2.2.2.2.2.2.2.2.1, q.2.2.2.2.2.2.2.2.2.2.2.2.2.2.2.2.2.2.2.1, q.2.2.2.2.2.2.2.2.2.2.2.2.2.2.2.2.2.2.2.2.1, q.2.2.2.2.2.2.2.2.2.2.2.2.2.2.2.2.2.2.2.2.2.1, q.2.2.2.2.2.2.2.2.2.2.2.2.2.2.2.2.2.2.2.2.2.2) q1 B0 B1 B2 B3)) := aS_I pk_q_ruleFirsts (fun l => (by cases sw <;> first | exact px_set (i := 45) (by decide) px_ll | exact px_set (i := 62) (by decide) px_ll))
theorem xn_q_ruleFirsts : mm_gN (px_h z E M (px_l sw c2 w2 T D S S1 K R C W U q q1 B0 B1 B2 B3)) (px_ta sw + 5) = some (nI (q.2.2.2.2.2.2.1).length) := aN_I pk_q_ruleFirsts
theorem pk_q_ruleSeconds : (px_h z E M (px_l sw c2 w2 T D S S1 K R C W U q q1 B0 B1 B2 B3)).2.2 (px_ta sw + 6) = mm_I 0 q.2.2.2.2.2.2.2.1 := by
  cases sw
  · exact px_at (i := 46) (by decide) rfl
  · exact px_at (i := 63) (by decide) rfl
theorem xa_q_ruleSeconds {i : Int32} : mm_gI (px_h z E M (px_l sw c2 w2 T D S S1 K R C W U q q1 B0 B1 B2 B3)) (px_ta sw + 6) 0 9 i = aG q.2.2.2.2.2.2.2.1 i := aG_0 pk_q_ruleSeconds
theorem xb_q_ruleSeconds {i x : Int32} : mm_sI (px_h z E M (px_l sw c2 w2 T D S S1 K R C W U q q1 B0 B1 B2 B3)) (px_ta sw + 6) 0 i x = aS q.2.2.2.2.2.2.2.1 i x (fun l => px_h z E M (px_l sw c2 w2 T D S S1 K R C W U (q.1, q.2.1, q.2.2.1, q.2.2.2.1, q.2.2.2.2.1, q.2.2.2.2.2.1, q.2.2.2.2.2.2.1, l, q.2.2.2.2.2.2.2.2.1, q.2.2.2.2.2.2.2.2.2.1, q.2.2.2.2.2.2.2.2.2.2.1, q.2.2.2.2.2.2.2.2.2.2.2.1, q.2.2.2.2.2.2.2.2.2.2.2.2.1, q.2.2.2.2.2.2.2.2.2.2.2.2.2.1, q.2.2.2.2.2.2.2.2.2.2.2.2.2.2.1, q.2.2.2.2.2.2.2.2.2.2.2.2.2.2.2.1, q.2.2.2.2.2.2.2.2.2.2.2.2.2.2.2.2.1, q.2.2.2.2.2.2.2.2.2.2.2.2.2.2.2.2.2.1, q.2.2.2.2.2.2.2.2.2.2.2.2.2.2.2.2.2.2.1, q.2.2.2.2.2.2.2.2.2.2.2.2.2.2.2.2.2.2.2.1, q.2.2.2.2.2.2.2.2.2.2.2.2.2.2.2.2.2.2.2.2.1, q.2.2.2.2.2.2.2.2.2.2.2.2.2.2.2.2.2.2.2.2.2.1, q.2.2.2.2.2.2.2.2.2.2.2.2.2.2.2.2.2.2.2.2.2.2) q1 B0 B1 B2 B3)) := aS_I pk_q_ruleSeconds (fun l => (by cases sw <;> first | exact px_set (i := 46) (by decide) px_ll | exact px_set (i := 63) (by decide) px_ll))
theorem xn_q_ruleSeconds : mm_gN (px_h z E M (px_l sw c2 w2 T D S S1 K R C W U q q1 B0 B1 B2 B3)) (px_ta sw + 6) = some (nI (q.2.2.2.2.2.2.2.1).length) := aN_I pk_q_ruleSeconds
theorem pk_q_walkerNames : (px_h z E M (px_l sw c2 w2 T D S S1 K R C W U q q1 B0 B1 B2 B3)).2.2 (px_ta sw + 7) = mm_L q.2.2.2.2.2.2.2.2.2.2.1 := by
  cases sw
  · exact px_at (i := 47) (by decide) rfl
  · exact px_at (i := 64) (by decide) rfl
theorem xa_q_walkerNames {i : Int32} : mm_gL (px_h z E M (px_l sw c2 w2 T D S S1 K R C W U q q1 B0 B1 B2 B3)) (px_ta sw + 7) i = aG q.2.2.2.2.2.2.2.2.2.2.1 i := aG_L pk_q_walkerNames
theorem xb_q_walkerNames {i : Int32} {x : Int64} : mm_sL (px_h z E M (px_l sw c2 w2 T D S S1 K R C W U q q1 B0 B1 B2 B3)) (px_ta sw + 7) i x = aS q.2.2.2.2.2.2.2.2.2.2.1 i x (fun l => px_h z E M (px_l sw c2 w2 T D S S1 K R C W U (q.1, q.2.1, q.2.2.1, q.2.2.2.1, q.2.2.2.2.1, q.2.2.2.2.2.1, q.2.2.2.2.2.2.1, q.2.2.2.2.2.2.2.1, q.2.2.2.2.2.2.2.2.1, q.2.2.2.2.2.2.2.2.2.1, l, q.2.2.2.2.2.2.2.2.2.2.2.1, q.2.2.2.2.2.2.2.2.2.2.2.2.1, q.2.2.2.2.2.2.2.2.2.2.2.2.2.1, q.2.2.2.2.2.2.2.2.2.2.2.2.2.2.1, q.2.2.2.2.2.2.2.2.2.2.2.2.2.2.2.1, q.2.2.2.2.2.2.2.2.2.2.2.2.2.2.2.2.1, q.2.2.2.2.2.2.2.2.2.2.2.2.2.2.2.2.2.1, q.2.2.2.2.2.2.2.2.2.2.2.2.2.2.2.2.2.2.1, q.2.2.2.2.2.2.2.2.2.2.2.2.2.2.2.2.2.2.2.1, q.2.2.2.2.2.2.2.2.2.2.2.2.2.2.2.2.2.2.2.2.1, q.2.2.2.2.2.2.2.2.2.2.2.2.2.2.2.2.2.2.2.2.2.1, q.2.2.2.2.2.2.2.2.2.2.2.2.2.2.2.2.2.2.2.2.2.2) q1 B0 B1 B2 B3)) := aS_L pk_q_walkerNames (fun l => (by cases sw <;> first | exact px_set (i := 47) (by decide) px_ll | exact px_set (i := 64) (by decide) px_ll))
theorem xn_q_walkerNames : mm_gN (px_h z E M (px_l sw c2 w2 T D S S1 K R C W U q q1 B0 B1 B2 B3)) (px_ta sw + 7) = some (nI (q.2.2.2.2.2.2.2.2.2.2.1).length) := aN_L pk_q_walkerNames
theorem pk_q_kinds : (px_h z E M (px_l sw c2 w2 T D S S1 K R C W U q q1 B0 B1 B2 B3)).2.2 (px_ta sw + 8) = mm_I 0 q.2.2.2.2.2.2.2.2.2.2.2.1 := by
  cases sw
  · exact px_at (i := 48) (by decide) rfl
  · exact px_at (i := 65) (by decide) rfl
theorem xa_q_kinds {i : Int32} : mm_gI (px_h z E M (px_l sw c2 w2 T D S S1 K R C W U q q1 B0 B1 B2 B3)) (px_ta sw + 8) 0 9 i = aG q.2.2.2.2.2.2.2.2.2.2.2.1 i := aG_0 pk_q_kinds
theorem xb_q_kinds {i x : Int32} : mm_sI (px_h z E M (px_l sw c2 w2 T D S S1 K R C W U q q1 B0 B1 B2 B3)) (px_ta sw + 8) 0 i x = aS q.2.2.2.2.2.2.2.2.2.2.2.1 i x (fun l => px_h z E M (px_l sw c2 w2 T D S S1 K R C W U (q.1, q.2.1, q.2.2.1, q.2.2.2.1, q.2.2.2.2.1, q.2.2.2.2.2.1, q.2.2.2.2.2.2.1, q.2.2.2.2.2.2.2.1, q.2.2.2.2.2.2.2.2.1, q.2.2.2.2.2.2.2.2.2.1, q.2.2.2.2.2.2.2.2.2.2.1, l, q.2.2.2.2.2.2.2.2.2.2.2.2.1, q.2.2.2.2.2.2.2.2.2.2.2.2.2.1, q.2.2.2.2.2.2.2.2.2.2.2.2.2.2.1, q.2.2.2.2.2.2.2.2.2.2.2.2.2.2.2.1, q.2.2.2.2.2.2.2.2.2.2.2.2.2.2.2.2.1, q.2.2.2.2.2.2.2.2.2.2.2.2.2.2.2.2.2.1, q.2.2.2.2.2.2.2.2.2.2.2.2.2.2.2.2.2.2.1, q.2.2.2.2.2.2.2.2.2.2.2.2.2.2.2.2.2.2.2.1, q.2.2.2.2.2.2.2.2.2.2.2.2.2.2.2.2.2.2.2.2.1, q.2.2.2.2.2.2.2.2.2.2.2.2.2.2.2.2.2.2.2.2.2.1, q.2.2.2.2.2.2.2.2.2.2.2.2.2.2.2.2.2.2.2.2.2.2) q1 B0 B1 B2 B3)) := aS_I pk_q_kinds (fun l => (by cases sw <;> first | exact px_set (i := 48) (by decide) px_ll | exact px_set (i := 65) (by decide) px_ll))
theorem xn_q_kinds : mm_gN (px_h z E M (px_l sw c2 w2 T D S S1 K R C W U q q1 B0 B1 B2 B3)) (px_ta sw + 8) = some (nI (q.2.2.2.2.2.2.2.2.2.2.2.1).length) := aN_I pk_q_kinds
theorem pk_q_walkerColours : (px_h z E M (px_l sw c2 w2 T D S S1 K R C W U q q1 B0 B1 B2 B3)).2.2 (px_ta sw + 9) = mm_I 0 q.2.2.2.2.2.2.2.2.2.2.2.2.1 := by
  cases sw
  · exact px_at (i := 49) (by decide) rfl
  · exact px_at (i := 66) (by decide) rfl
theorem xa_q_walkerColours {i : Int32} : mm_gI (px_h z E M (px_l sw c2 w2 T D S S1 K R C W U q q1 B0 B1 B2 B3)) (px_ta sw + 9) 0 9 i = aG q.2.2.2.2.2.2.2.2.2.2.2.2.1 i := aG_0 pk_q_walkerColours
theorem xb_q_walkerColours {i x : Int32} : mm_sI (px_h z E M (px_l sw c2 w2 T D S S1 K R C W U q q1 B0 B1 B2 B3)) (px_ta sw + 9) 0 i x = aS q.2.2.2.2.2.2.2.2.2.2.2.2.1 i x (fun l => px_h z E M (px_l sw c2 w2 T D S S1 K R C W U (q.1, q.2.1, q.2.2.1, q.2.2.2.1, q.2.2.2.2.1, q.2.2.2.2.2.1, q.2.2.2.2.2.2.1, q.2.2.2.2.2.2.2.1, q.2.2.2.2.2.2.2.2.1, q.2.2.2.2.2.2.2.2.2.1, q.2.2.2.2.2.2.2.2.2.2.1, q.2.2.2.2.2.2.2.2.2.2.2.1, l, q.2.2.2.2.2.2.2.2.2.2.2.2.2.1, q.2.2.2.2.2.2.2.2.2.2.2.2.2.2.1, q.2.2.2.2.2.2.2.2.2.2.2.2.2.2.2.1, q.2.2.2.2.2.2.2.2.2.2.2.2.2.2.2.2.1, q.2.2.2.2.2.2.2.2.2.2.2.2.2.2.2.2.2.1, q.2.2.2.2.2.2.2.2.2.2.2.2.2.2.2.2.2.2.1, q.2.2.2.2.2.2.2.2.2.2.2.2.2.2.2.2.2.2.2.1, q.2.2.2.2.2.2.2.2.2.2.2.2.2.2.2.2.2.2.2.2.1, q.2.2.2.2.2.2.2.2.2.2.2.2.2.2.2.2.2.2.2.2.2.1, q.2.2.2.2.2.2.2.2.2.2.2.2.2.2.2.2.2.2.2.2.2.2) q1 B0 B1 B2 B3)) := aS_I pk_q_walkerColours (fun l => (by cases sw <;> first | exact px_set (i := 49) (by decide) px_ll | exact px_set (i := 66) (by decide) px_ll))
theorem xn_q_walkerColours : mm_gN (px_h z E M (px_l sw c2 w2 T D S S1 K R C W U q q1 B0 B1 B2 B3)) (px_ta sw + 9) = some (nI (q.2.2.2.2.2.2.2.2.2.2.2.2.1).length) := aN_I pk_q_walkerColours
theorem pk_q_starts : (px_h z E M (px_l sw c2 w2 T D S S1 K R C W U q q1 B0 B1 B2 B3)).2.2 (px_ta sw + 10) = mm_I 0 q.2.2.2.2.2.2.2.2.2.2.2.2.2.1 := by
  cases sw
  · exact px_at (i := 50) (by decide) rfl
  · exact px_at (i := 67) (by decide) rfl
theorem xa_q_starts {i : Int32} : mm_gI (px_h z E M (px_l sw c2 w2 T D S S1 K R C W U q q1 B0 B1 B2 B3)) (px_ta sw + 10) 0 9 i = aG q.2.2.2.2.2.2.2.2.2.2.2.2.2.1 i := aG_0 pk_q_starts
theorem xb_q_starts {i x : Int32} : mm_sI (px_h z E M (px_l sw c2 w2 T D S S1 K R C W U q q1 B0 B1 B2 B3)) (px_ta sw + 10) 0 i x = aS q.2.2.2.2.2.2.2.2.2.2.2.2.2.1 i x (fun l => px_h z E M (px_l sw c2 w2 T D S S1 K R C W U (q.1, q.2.1, q.2.2.1, q.2.2.2.1, q.2.2.2.2.1, q.2.2.2.2.2.1, q.2.2.2.2.2.2.1, q.2.2.2.2.2.2.2.1, q.2.2.2.2.2.2.2.2.1, q.2.2.2.2.2.2.2.2.2.1, q.2.2.2.2.2.2.2.2.2.2.1, q.2.2.2.2.2.2.2.2.2.2.2.1, q.2.2.2.2.2.2.2.2.2.2.2.2.1, l, q.2.2.2.2.2.2.2.2.2.2.2.2.2.2.1, q.2.2.2.2.2.2.2.2.2.2.2.2.2.2.2.1, q.2.2.2.2.2.2.2.2.2.2.2.2.2.2.2.2.1, q.2.2.2.2.2.2.2.2.2.2.2.2.2.2.2.2.2.1, q.2.2.2.2.2.2.2.2.2.2.2.2.2.2.2.2.2.2.1, q.2.2.2.2.2.2.2.2.2.2.2.2.2.2.2.2.2.2.2.1, q.2.2.2.2.2.2.2.2.2.2.2.2.2.2.2.2.2.2.2.2.1, q.2.2.2.2.2.2.2.2.2.2.2.2.2.2.2.2.2.2.2.2.2.1, q.2.2.2.2.2.2.2.2.2.2.2.2.2.2.2.2.2.2.2.2.2.2) q1 B0 B1 B2 B3)) := aS_I pk_q_starts (fun l => (by cases sw <;> first | exact px_set (i := 50) (by decide) px_ll | exact px_set (i := 67) (by decide) px_ll))
theorem xn_q_starts : mm_gN (px_h z E M (px_l sw c2 w2 T D S S1 K R C W U q q1 B0 B1 B2 B3)) (px_ta sw + 10) = some (nI (q.2.2.2.2.2.2.2.2.2.2.2.2.2.1).length) := aN_I pk_q_starts
theorem pk_q_stepRows : (px_h z E M (px_l sw c2 w2 T D S S1 K R C W U q q1 B0 B1 B2 B3)).2.2 (px_ta sw + 11) = mm_I 0 q.2.2.2.2.2.2.2.2.2.2.2.2.2.2.1 := by
  cases sw
  · exact px_at (i := 51) (by decide) rfl
  · exact px_at (i := 68) (by decide) rfl
theorem xa_q_stepRows {i : Int32} : mm_gI (px_h z E M (px_l sw c2 w2 T D S S1 K R C W U q q1 B0 B1 B2 B3)) (px_ta sw + 11) 0 9 i = aG q.2.2.2.2.2.2.2.2.2.2.2.2.2.2.1 i := aG_0 pk_q_stepRows
theorem xb_q_stepRows {i x : Int32} : mm_sI (px_h z E M (px_l sw c2 w2 T D S S1 K R C W U q q1 B0 B1 B2 B3)) (px_ta sw + 11) 0 i x = aS q.2.2.2.2.2.2.2.2.2.2.2.2.2.2.1 i x (fun l => px_h z E M (px_l sw c2 w2 T D S S1 K R C W U (q.1, q.2.1, q.2.2.1, q.2.2.2.1, q.2.2.2.2.1, q.2.2.2.2.2.1, q.2.2.2.2.2.2.1, q.2.2.2.2.2.2.2.1, q.2.2.2.2.2.2.2.2.1, q.2.2.2.2.2.2.2.2.2.1, q.2.2.2.2.2.2.2.2.2.2.1, q.2.2.2.2.2.2.2.2.2.2.2.1, q.2.2.2.2.2.2.2.2.2.2.2.2.1, q.2.2.2.2.2.2.2.2.2.2.2.2.2.1, l, q.2.2.2.2.2.2.2.2.2.2.2.2.2.2.2.1, q.2.2.2.2.2.2.2.2.2.2.2.2.2.2.2.2.1, q.2.2.2.2.2.2.2.2.2.2.2.2.2.2.2.2.2.1, q.2.2.2.2.2.2.2.2.2.2.2.2.2.2.2.2.2.2.1, q.2.2.2.2.2.2.2.2.2.2.2.2.2.2.2.2.2.2.2.1, q.2.2.2.2.2.2.2.2.2.2.2.2.2.2.2.2.2.2.2.2.1, q.2.2.2.2.2.2.2.2.2.2.2.2.2.2.2.2.2.2.2.2.2.1, q.2.2.2.2.2.2.2.2.2.2.2.2.2.2.2.2.2.2.2.2.2.2) q1 B0 B1 B2 B3)) := aS_I pk_q_stepRows (fun l => (by cases sw <;> first | exact px_set (i := 51) (by decide) px_ll | exact px_set (i := 68) (by decide) px_ll))
theorem xn_q_stepRows : mm_gN (px_h z E M (px_l sw c2 w2 T D S S1 K R C W U q q1 B0 B1 B2 B3)) (px_ta sw + 11) = some (nI (q.2.2.2.2.2.2.2.2.2.2.2.2.2.2.1).length) := aN_I pk_q_stepRows
theorem pk_q_stepCounts : (px_h z E M (px_l sw c2 w2 T D S S1 K R C W U q q1 B0 B1 B2 B3)).2.2 (px_ta sw + 12) = mm_I 0 q.2.2.2.2.2.2.2.2.2.2.2.2.2.2.2.1 := by
  cases sw
  · exact px_at (i := 52) (by decide) rfl
  · exact px_at (i := 69) (by decide) rfl
theorem xa_q_stepCounts {i : Int32} : mm_gI (px_h z E M (px_l sw c2 w2 T D S S1 K R C W U q q1 B0 B1 B2 B3)) (px_ta sw + 12) 0 9 i = aG q.2.2.2.2.2.2.2.2.2.2.2.2.2.2.2.1 i := aG_0 pk_q_stepCounts
theorem xb_q_stepCounts {i x : Int32} : mm_sI (px_h z E M (px_l sw c2 w2 T D S S1 K R C W U q q1 B0 B1 B2 B3)) (px_ta sw + 12) 0 i x = aS q.2.2.2.2.2.2.2.2.2.2.2.2.2.2.2.1 i x (fun l => px_h z E M (px_l sw c2 w2 T D S S1 K R C W U (q.1, q.2.1, q.2.2.1, q.2.2.2.1, q.2.2.2.2.1, q.2.2.2.2.2.1, q.2.2.2.2.2.2.1, q.2.2.2.2.2.2.2.1, q.2.2.2.2.2.2.2.2.1, q.2.2.2.2.2.2.2.2.2.1, q.2.2.2.2.2.2.2.2.2.2.1, q.2.2.2.2.2.2.2.2.2.2.2.1, q.2.2.2.2.2.2.2.2.2.2.2.2.1, q.2.2.2.2.2.2.2.2.2.2.2.2.2.1, q.2.2.2.2.2.2.2.2.2.2.2.2.2.2.1, l, q.2.2.2.2.2.2.2.2.2.2.2.2.2.2.2.2.1, q.2.2.2.2.2.2.2.2.2.2.2.2.2.2.2.2.2.1, q.2.2.2.2.2.2.2.2.2.2.2.2.2.2.2.2.2.2.1, q.2.2.2.2.2.2.2.2.2.2.2.2.2.2.2.2.2.2.2.1, q.2.2.2.2.2.2.2.2.2.2.2.2.2.2.2.2.2.2.2.2.1, q.2.2.2.2.2.2.2.2.2.2.2.2.2.2.2.2.2.2.2.2.2.1, q.2.2.2.2.2.2.2.2.2.2.2.2.2.2.2.2.2.2.2.2.2.2) q1 B0 B1 B2 B3)) := aS_I pk_q_stepCounts (fun l => (by cases sw <;> first | exact px_set (i := 52) (by decide) px_ll | exact px_set (i := 69) (by decide) px_ll))
theorem xn_q_stepCounts : mm_gN (px_h z E M (px_l sw c2 w2 T D S S1 K R C W U q q1 B0 B1 B2 B3)) (px_ta sw + 12) = some (nI (q.2.2.2.2.2.2.2.2.2.2.2.2.2.2.2.1).length) := aN_I pk_q_stepCounts
theorem pk_q_gusts : (px_h z E M (px_l sw c2 w2 T D S S1 K R C W U q q1 B0 B1 B2 B3)).2.2 (px_ta sw + 13) = mm_I 0 q.2.2.2.2.2.2.2.2.2.2.2.2.2.2.2.2.2.1 := by
  cases sw
  · exact px_at (i := 53) (by decide) rfl
  · exact px_at (i := 70) (by decide) rfl
theorem xa_q_gusts {i : Int32} : mm_gI (px_h z E M (px_l sw c2 w2 T D S S1 K R C W U q q1 B0 B1 B2 B3)) (px_ta sw + 13) 0 9 i = aG q.2.2.2.2.2.2.2.2.2.2.2.2.2.2.2.2.2.1 i := aG_0 pk_q_gusts
theorem xb_q_gusts {i x : Int32} : mm_sI (px_h z E M (px_l sw c2 w2 T D S S1 K R C W U q q1 B0 B1 B2 B3)) (px_ta sw + 13) 0 i x = aS q.2.2.2.2.2.2.2.2.2.2.2.2.2.2.2.2.2.1 i x (fun l => px_h z E M (px_l sw c2 w2 T D S S1 K R C W U (q.1, q.2.1, q.2.2.1, q.2.2.2.1, q.2.2.2.2.1, q.2.2.2.2.2.1, q.2.2.2.2.2.2.1, q.2.2.2.2.2.2.2.1, q.2.2.2.2.2.2.2.2.1, q.2.2.2.2.2.2.2.2.2.1, q.2.2.2.2.2.2.2.2.2.2.1, q.2.2.2.2.2.2.2.2.2.2.2.1, q.2.2.2.2.2.2.2.2.2.2.2.2.1, q.2.2.2.2.2.2.2.2.2.2.2.2.2.1, q.2.2.2.2.2.2.2.2.2.2.2.2.2.2.1, q.2.2.2.2.2.2.2.2.2.2.2.2.2.2.2.1, q.2.2.2.2.2.2.2.2.2.2.2.2.2.2.2.2.1, l, q.2.2.2.2.2.2.2.2.2.2.2.2.2.2.2.2.2.2.1, q.2.2.2.2.2.2.2.2.2.2.2.2.2.2.2.2.2.2.2.1, q.2.2.2.2.2.2.2.2.2.2.2.2.2.2.2.2.2.2.2.2.1, q.2.2.2.2.2.2.2.2.2.2.2.2.2.2.2.2.2.2.2.2.2.1, q.2.2.2.2.2.2.2.2.2.2.2.2.2.2.2.2.2.2.2.2.2.2) q1 B0 B1 B2 B3)) := aS_I pk_q_gusts (fun l => (by cases sw <;> first | exact px_set (i := 53) (by decide) px_ll | exact px_set (i := 70) (by decide) px_ll))
theorem xn_q_gusts : mm_gN (px_h z E M (px_l sw c2 w2 T D S S1 K R C W U q q1 B0 B1 B2 B3)) (px_ta sw + 13) = some (nI (q.2.2.2.2.2.2.2.2.2.2.2.2.2.2.2.2.2.1).length) := aN_I pk_q_gusts
theorem pk_ql : (px_h z E M (px_l sw c2 w2 T D S S1 K R C W U q q1 B0 B1 B2 B3)).2.2 (px_ta sw + 14) = mm_O 7 [.ref (px_ta sw + 15), .int q.2.2.2.2.2.2.2.2.2.2.2.2.2.2.2.2.2.2.2.2.1, .ref (px_ta sw + 16), .int q.2.2.2.2.2.2.2.2.2.2.2.2.2.2.2.2.2.2.2.2.2.2] := by
  cases sw
  · exact px_at (i := 54) (by decide) rfl
  · exact px_at (i := 71) (by decide) rfl
theorem xc_ql : mm_cls (px_h z E M (px_l sw c2 w2 T D S S1 K R C W U q q1 B0 B1 B2 B3)) (px_ta sw + 14) = 7 := aF_c pk_ql
theorem xg_ql_0 : mm_gF (px_h z E M (px_l sw c2 w2 T D S S1 K R C W U q q1 B0 B1 B2 B3)) (px_ta sw + 14) 7 0 = some (.ref (px_ta sw + 15)) := aF_g pk_ql (by decide) rfl
theorem xg_ql_1 : mm_gF (px_h z E M (px_l sw c2 w2 T D S S1 K R C W U q q1 B0 B1 B2 B3)) (px_ta sw + 14) 7 1 = some (.int q.2.2.2.2.2.2.2.2.2.2.2.2.2.2.2.2.2.2.2.2.1) := aF_g pk_ql (by decide) rfl
theorem xs_ql_1 {x : Int32} : mm_sF (mp_P fx) (px_h z E M (px_l sw c2 w2 T D S S1 K R C W U q q1 B0 B1 B2 B3)) (px_ta sw + 14) 7 1 (.int x) = some (px_h z E M (px_l sw c2 w2 T D S S1 K R C W U (q.1, q.2.1, q.2.2.1, q.2.2.2.1, q.2.2.2.2.1, q.2.2.2.2.2.1, q.2.2.2.2.2.2.1, q.2.2.2.2.2.2.2.1, q.2.2.2.2.2.2.2.2.1, q.2.2.2.2.2.2.2.2.2.1, q.2.2.2.2.2.2.2.2.2.2.1, q.2.2.2.2.2.2.2.2.2.2.2.1, q.2.2.2.2.2.2.2.2.2.2.2.2.1, q.2.2.2.2.2.2.2.2.2.2.2.2.2.1, q.2.2.2.2.2.2.2.2.2.2.2.2.2.2.1, q.2.2.2.2.2.2.2.2.2.2.2.2.2.2.2.1, q.2.2.2.2.2.2.2.2.2.2.2.2.2.2.2.2.1, q.2.2.2.2.2.2.2.2.2.2.2.2.2.2.2.2.2.1, q.2.2.2.2.2.2.2.2.2.2.2.2.2.2.2.2.2.2.1, q.2.2.2.2.2.2.2.2.2.2.2.2.2.2.2.2.2.2.2.1, x, q.2.2.2.2.2.2.2.2.2.2.2.2.2.2.2.2.2.2.2.2.2.1, q.2.2.2.2.2.2.2.2.2.2.2.2.2.2.2.2.2.2.2.2.2.2) q1 B0 B1 B2 B3)) := aF_s pk_ql rfl (by cases sw <;> first | exact px_set (i := 54) (by decide) px_ll | exact px_set (i := 71) (by decide) px_ll)
theorem xg_ql_2 : mm_gF (px_h z E M (px_l sw c2 w2 T D S S1 K R C W U q q1 B0 B1 B2 B3)) (px_ta sw + 14) 7 2 = some (.ref (px_ta sw + 16)) := aF_g pk_ql (by decide) rfl
theorem xg_ql_3 : mm_gF (px_h z E M (px_l sw c2 w2 T D S S1 K R C W U q q1 B0 B1 B2 B3)) (px_ta sw + 14) 7 3 = some (.int q.2.2.2.2.2.2.2.2.2.2.2.2.2.2.2.2.2.2.2.2.2.2) := aF_g pk_ql (by decide) rfl
theorem xs_ql_3 {x : Int32} : mm_sF (mp_P fx) (px_h z E M (px_l sw c2 w2 T D S S1 K R C W U q q1 B0 B1 B2 B3)) (px_ta sw + 14) 7 3 (.int x) = some (px_h z E M (px_l sw c2 w2 T D S S1 K R C W U (q.1, q.2.1, q.2.2.1, q.2.2.2.1, q.2.2.2.2.1, q.2.2.2.2.2.1, q.2.2.2.2.2.2.1, q.2.2.2.2.2.2.2.1, q.2.2.2.2.2.2.2.2.1, q.2.2.2.2.2.2.2.2.2.1, q.2.2.2.2.2.2.2.2.2.2.1, q.2.2.2.2.2.2.2.2.2.2.2.1, q.2.2.2.2.2.2.2.2.2.2.2.2.1, q.2.2.2.2.2.2.2.2.2.2.2.2.2.1, q.2.2.2.2.2.2.2.2.2.2.2.2.2.2.1, q.2.2.2.2.2.2.2.2.2.2.2.2.2.2.2.1, q.2.2.2.2.2.2.2.2.2.2.2.2.2.2.2.2.1, q.2.2.2.2.2.2.2.2.2.2.2.2.2.2.2.2.2.1, q.2.2.2.2.2.2.2.2.2.2.2.2.2.2.2.2.2.2.1, q.2.2.2.2.2.2.2.2.2.2.2.2.2.2.2.2.2.2.2.1, q.2.2.2.2.2.2.2.2.2.2.2.2.2.2.2.2.2.2.2.2.1, q.2.2.2.2.2.2.2.2.2.2.2.2.2.2.2.2.2.2.2.2.2.1, x) q1 B0 B1 B2 B3)) := aF_s pk_ql rfl (by cases sw <;> first | exact px_set (i := 54) (by decide) px_ll | exact px_set (i := 71) (by decide) px_ll)
theorem pk_q_parts : (px_h z E M (px_l sw c2 w2 T D S S1 K R C W U q q1 B0 B1 B2 B3)).2.2 (px_ta sw + 15) = mm_I 0 q.2.2.2.2.2.2.2.2.2.2.2.2.2.2.2.2.2.2.2.1 := by
  cases sw
  · exact px_at (i := 55) (by decide) rfl
  · exact px_at (i := 72) (by decide) rfl
theorem xa_q_parts {i : Int32} : mm_gI (px_h z E M (px_l sw c2 w2 T D S S1 K R C W U q q1 B0 B1 B2 B3)) (px_ta sw + 15) 0 9 i = aG q.2.2.2.2.2.2.2.2.2.2.2.2.2.2.2.2.2.2.2.1 i := aG_0 pk_q_parts
theorem xb_q_parts {i x : Int32} : mm_sI (px_h z E M (px_l sw c2 w2 T D S S1 K R C W U q q1 B0 B1 B2 B3)) (px_ta sw + 15) 0 i x = aS q.2.2.2.2.2.2.2.2.2.2.2.2.2.2.2.2.2.2.2.1 i x (fun l => px_h z E M (px_l sw c2 w2 T D S S1 K R C W U (q.1, q.2.1, q.2.2.1, q.2.2.2.1, q.2.2.2.2.1, q.2.2.2.2.2.1, q.2.2.2.2.2.2.1, q.2.2.2.2.2.2.2.1, q.2.2.2.2.2.2.2.2.1, q.2.2.2.2.2.2.2.2.2.1, q.2.2.2.2.2.2.2.2.2.2.1, q.2.2.2.2.2.2.2.2.2.2.2.1, q.2.2.2.2.2.2.2.2.2.2.2.2.1, q.2.2.2.2.2.2.2.2.2.2.2.2.2.1, q.2.2.2.2.2.2.2.2.2.2.2.2.2.2.1, q.2.2.2.2.2.2.2.2.2.2.2.2.2.2.2.1, q.2.2.2.2.2.2.2.2.2.2.2.2.2.2.2.2.1, q.2.2.2.2.2.2.2.2.2.2.2.2.2.2.2.2.2.1, q.2.2.2.2.2.2.2.2.2.2.2.2.2.2.2.2.2.2.1, l, q.2.2.2.2.2.2.2.2.2.2.2.2.2.2.2.2.2.2.2.2.1, q.2.2.2.2.2.2.2.2.2.2.2.2.2.2.2.2.2.2.2.2.2.1, q.2.2.2.2.2.2.2.2.2.2.2.2.2.2.2.2.2.2.2.2.2.2) q1 B0 B1 B2 B3)) := aS_I pk_q_parts (fun l => (by cases sw <;> first | exact px_set (i := 55) (by decide) px_ll | exact px_set (i := 72) (by decide) px_ll))
theorem xn_q_parts : mm_gN (px_h z E M (px_l sw c2 w2 T D S S1 K R C W U q q1 B0 B1 B2 B3)) (px_ta sw + 15) = some (nI (q.2.2.2.2.2.2.2.2.2.2.2.2.2.2.2.2.2.2.2.1).length) := aN_I pk_q_parts
theorem pk_q_stack : (px_h z E M (px_l sw c2 w2 T D S S1 K R C W U q q1 B0 B1 B2 B3)).2.2 (px_ta sw + 16) = mm_I 0 q.2.2.2.2.2.2.2.2.2.2.2.2.2.2.2.2.2.2.2.2.2.1 := by
  cases sw
  · exact px_at (i := 56) (by decide) rfl
  · exact px_at (i := 73) (by decide) rfl
theorem xa_q_stack {i : Int32} : mm_gI (px_h z E M (px_l sw c2 w2 T D S S1 K R C W U q q1 B0 B1 B2 B3)) (px_ta sw + 16) 0 9 i = aG q.2.2.2.2.2.2.2.2.2.2.2.2.2.2.2.2.2.2.2.2.2.1 i := aG_0 pk_q_stack
theorem xb_q_stack {i x : Int32} : mm_sI (px_h z E M (px_l sw c2 w2 T D S S1 K R C W U q q1 B0 B1 B2 B3)) (px_ta sw + 16) 0 i x = aS q.2.2.2.2.2.2.2.2.2.2.2.2.2.2.2.2.2.2.2.2.2.1 i x (fun l => px_h z E M (px_l sw c2 w2 T D S S1 K R C W U (q.1, q.2.1, q.2.2.1, q.2.2.2.1, q.2.2.2.2.1, q.2.2.2.2.2.1, q.2.2.2.2.2.2.1, q.2.2.2.2.2.2.2.1, q.2.2.2.2.2.2.2.2.1, q.2.2.2.2.2.2.2.2.2.1, q.2.2.2.2.2.2.2.2.2.2.1, q.2.2.2.2.2.2.2.2.2.2.2.1, q.2.2.2.2.2.2.2.2.2.2.2.2.1, q.2.2.2.2.2.2.2.2.2.2.2.2.2.1, q.2.2.2.2.2.2.2.2.2.2.2.2.2.2.1, q.2.2.2.2.2.2.2.2.2.2.2.2.2.2.2.1, q.2.2.2.2.2.2.2.2.2.2.2.2.2.2.2.2.1, q.2.2.2.2.2.2.2.2.2.2.2.2.2.2.2.2.2.1, q.2.2.2.2.2.2.2.2.2.2.2.2.2.2.2.2.2.2.1, q.2.2.2.2.2.2.2.2.2.2.2.2.2.2.2.2.2.2.2.1, q.2.2.2.2.2.2.2.2.2.2.2.2.2.2.2.2.2.2.2.2.1, l, q.2.2.2.2.2.2.2.2.2.2.2.2.2.2.2.2.2.2.2.2.2.2) q1 B0 B1 B2 B3)) := aS_I pk_q_stack (fun l => (by cases sw <;> first | exact px_set (i := 56) (by decide) px_ll | exact px_set (i := 73) (by decide) px_ll))
theorem xn_q_stack : mm_gN (px_h z E M (px_l sw c2 w2 T D S S1 K R C W U q q1 B0 B1 B2 B3)) (px_ta sw + 16) = some (nI (q.2.2.2.2.2.2.2.2.2.2.2.2.2.2.2.2.2.2.2.2.2.1).length) := aN_I pk_q_stack
theorem pk_q1 : (px_h z E M (px_l sw c2 w2 T D S S1 K R C W U q q1 B0 B1 B2 B3)).2.2 (px_ta (!sw)) = mm_O 8 [.ref (px_ta (!sw) + 1), .int q1.2.1, .ref (px_ta (!sw) + 2), .ref (px_ta (!sw) + 3), .int q1.2.2.2.2.1, .ref (px_ta (!sw) + 4), .ref (px_ta (!sw) + 5), .ref (px_ta (!sw) + 6), .int q1.2.2.2.2.2.2.2.2.1, .int q1.2.2.2.2.2.2.2.2.2.1, .ref (px_ta (!sw) + 7), .ref (px_ta (!sw) + 8), .ref (px_ta (!sw) + 9), .ref (px_ta (!sw) + 10), .ref (px_ta (!sw) + 11), .ref (px_ta (!sw) + 12), .int q1.2.2.2.2.2.2.2.2.2.2.2.2.2.2.2.2.1, .ref (px_ta (!sw) + 13), .int q1.2.2.2.2.2.2.2.2.2.2.2.2.2.2.2.2.2.2.1, .ref (px_ta (!sw) + 14)] := by
  cases sw
  · exact px_at (i := 57) (by decide) rfl
  · exact px_at (i := 40) (by decide) rfl
theorem xc_q1 : mm_cls (px_h z E M (px_l sw c2 w2 T D S S1 K R C W U q q1 B0 B1 B2 B3)) (px_ta (!sw)) = 8 := aF_c pk_q1
theorem xg_q1_0 : mm_gF (px_h z E M (px_l sw c2 w2 T D S S1 K R C W U q q1 B0 B1 B2 B3)) (px_ta (!sw)) 8 0 = some (.ref (px_ta (!sw) + 1)) := aF_g pk_q1 (by decide) rfl
theorem xg_q1_1 : mm_gF (px_h z E M (px_l sw c2 w2 T D S S1 K R C W U q q1 B0 B1 B2 B3)) (px_ta (!sw)) 8 1 = some (.int q1.2.1) := aF_g pk_q1 (by decide) rfl
theorem xs_q1_1 {x : Int32} : mm_sF (mp_P fx) (px_h z E M (px_l sw c2 w2 T D S S1 K R C W U q q1 B0 B1 B2 B3)) (px_ta (!sw)) 8 1 (.int x) = some (px_h z E M (px_l sw c2 w2 T D S S1 K R C W U q (q1.1, x, q1.2.2.1, q1.2.2.2.1, q1.2.2.2.2.1, q1.2.2.2.2.2.1, q1.2.2.2.2.2.2.1, q1.2.2.2.2.2.2.2.1, q1.2.2.2.2.2.2.2.2.1, q1.2.2.2.2.2.2.2.2.2.1, q1.2.2.2.2.2.2.2.2.2.2.1, q1.2.2.2.2.2.2.2.2.2.2.2.1, q1.2.2.2.2.2.2.2.2.2.2.2.2.1, q1.2.2.2.2.2.2.2.2.2.2.2.2.2.1, q1.2.2.2.2.2.2.2.2.2.2.2.2.2.2.1, q1.2.2.2.2.2.2.2.2.2.2.2.2.2.2.2.1, q1.2.2.2.2.2.2.2.2.2.2.2.2.2.2.2.2.1, q1.2.2.2.2.2.2.2.2.2.2.2.2.2.2.2.2.2.1, q1.2.2.2.2.2.2.2.2.2.2.2.2.2.2.2.2.2.2.1, q1.2.2.2.2.2.2.2.2.2.2.2.2.2.2.2.2.2.2.2.1, q1.2.2.2.2.2.2.2.2.2.2.2.2.2.2.2.2.2.2.2.2.1, q1.2.2.2.2.2.2.2.2.2.2.2.2.2.2.2.2.2.2.2.2.2.1, q1.2.2.2.2.2.2.2.2.2.2.2.2.2.2.2.2.2.2.2.2.2.2) B0 B1 B2 B3)) := aF_s pk_q1 rfl (by cases sw <;> first | exact px_set (i := 57) (by decide) px_ll | exact px_set (i := 40) (by decide) px_ll)
theorem xg_q1_2 : mm_gF (px_h z E M (px_l sw c2 w2 T D S S1 K R C W U q q1 B0 B1 B2 B3)) (px_ta (!sw)) 8 2 = some (.ref (px_ta (!sw) + 2)) := aF_g pk_q1 (by decide) rfl
theorem xg_q1_3 : mm_gF (px_h z E M (px_l sw c2 w2 T D S S1 K R C W U q q1 B0 B1 B2 B3)) (px_ta (!sw)) 8 3 = some (.ref (px_ta (!sw) + 3)) := aF_g pk_q1 (by decide) rfl
theorem xg_q1_4 : mm_gF (px_h z E M (px_l sw c2 w2 T D S S1 K R C W U q q1 B0 B1 B2 B3)) (px_ta (!sw)) 8 4 = some (.int q1.2.2.2.2.1) := aF_g pk_q1 (by decide) rfl
theorem xs_q1_4 {x : Int32} : mm_sF (mp_P fx) (px_h z E M (px_l sw c2 w2 T D S S1 K R C W U q q1 B0 B1 B2 B3)) (px_ta (!sw)) 8 4 (.int x) = some (px_h z E M (px_l sw c2 w2 T D S S1 K R C W U q (q1.1, q1.2.1, q1.2.2.1, q1.2.2.2.1, x, q1.2.2.2.2.2.1, q1.2.2.2.2.2.2.1, q1.2.2.2.2.2.2.2.1, q1.2.2.2.2.2.2.2.2.1, q1.2.2.2.2.2.2.2.2.2.1, q1.2.2.2.2.2.2.2.2.2.2.1, q1.2.2.2.2.2.2.2.2.2.2.2.1, q1.2.2.2.2.2.2.2.2.2.2.2.2.1, q1.2.2.2.2.2.2.2.2.2.2.2.2.2.1, q1.2.2.2.2.2.2.2.2.2.2.2.2.2.2.1, q1.2.2.2.2.2.2.2.2.2.2.2.2.2.2.2.1, q1.2.2.2.2.2.2.2.2.2.2.2.2.2.2.2.2.1, q1.2.2.2.2.2.2.2.2.2.2.2.2.2.2.2.2.2.1, q1.2.2.2.2.2.2.2.2.2.2.2.2.2.2.2.2.2.2.1, q1.2.2.2.2.2.2.2.2.2.2.2.2.2.2.2.2.2.2.2.1, q1.2.2.2.2.2.2.2.2.2.2.2.2.2.2.2.2.2.2.2.2.1, q1.2.2.2.2.2.2.2.2.2.2.2.2.2.2.2.2.2.2.2.2.2.1, q1.2.2.2.2.2.2.2.2.2.2.2.2.2.2.2.2.2.2.2.2.2.2) B0 B1 B2 B3)) := aF_s pk_q1 rfl (by cases sw <;> first | exact px_set (i := 57) (by decide) px_ll | exact px_set (i := 40) (by decide) px_ll)
theorem xg_q1_5 : mm_gF (px_h z E M (px_l sw c2 w2 T D S S1 K R C W U q q1 B0 B1 B2 B3)) (px_ta (!sw)) 8 5 = some (.ref (px_ta (!sw) + 4)) := aF_g pk_q1 (by decide) rfl
theorem xg_q1_6 : mm_gF (px_h z E M (px_l sw c2 w2 T D S S1 K R C W U q q1 B0 B1 B2 B3)) (px_ta (!sw)) 8 6 = some (.ref (px_ta (!sw) + 5)) := aF_g pk_q1 (by decide) rfl
theorem xg_q1_7 : mm_gF (px_h z E M (px_l sw c2 w2 T D S S1 K R C W U q q1 B0 B1 B2 B3)) (px_ta (!sw)) 8 7 = some (.ref (px_ta (!sw) + 6)) := aF_g pk_q1 (by decide) rfl
theorem xg_q1_8 : mm_gF (px_h z E M (px_l sw c2 w2 T D S S1 K R C W U q q1 B0 B1 B2 B3)) (px_ta (!sw)) 8 8 = some (.int q1.2.2.2.2.2.2.2.2.1) := aF_g pk_q1 (by decide) rfl
theorem xs_q1_8 {x : Int32} : mm_sF (mp_P fx) (px_h z E M (px_l sw c2 w2 T D S S1 K R C W U q q1 B0 B1 B2 B3)) (px_ta (!sw)) 8 8 (.int x) = some (px_h z E M (px_l sw c2 w2 T D S S1 K R C W U q (q1.1, q1.2.1, q1.2.2.1, q1.2.2.2.1, q1.2.2.2.2.1, q1.2.2.2.2.2.1, q1.2.2.2.2.2.2.1, q1.2.2.2.2.2.2.2.1, x, q1.2.2.2.2.2.2.2.2.2.1, q1.2.2.2.2.2.2.2.2.2.2.1, q1.2.2.2.2.2.2.2.2.2.2.2.1, q1.2.2.2.2.2.2.2.2.2.2.2.2.1, q1.2.2.2.2.2.2.2.2.2.2.2.2.2.1, q1.2.2.2.2.2.2.2.2.2.2.2.2.2.2.1, q1.2.2.2.2.2.2.2.2.2.2.2.2.2.2.2.1, q1.2.2.2.2.2.2.2.2.2.2.2.2.2.2.2.2.1, q1.2.2.2.2.2.2.2.2.2.2.2.2.2.2.2.2.2.1, q1.2.2.2.2.2.2.2.2.2.2.2.2.2.2.2.2.2.2.1, q1.2.2.2.2.2.2.2.2.2.2.2.2.2.2.2.2.2.2.2.1, q1.2.2.2.2.2.2.2.2.2.2.2.2.2.2.2.2.2.2.2.2.1, q1.2.2.2.2.2.2.2.2.2.2.2.2.2.2.2.2.2.2.2.2.2.1, q1.2.2.2.2.2.2.2.2.2.2.2.2.2.2.2.2.2.2.2.2.2.2) B0 B1 B2 B3)) := aF_s pk_q1 rfl (by cases sw <;> first | exact px_set (i := 57) (by decide) px_ll | exact px_set (i := 40) (by decide) px_ll)
theorem xg_q1_9 : mm_gF (px_h z E M (px_l sw c2 w2 T D S S1 K R C W U q q1 B0 B1 B2 B3)) (px_ta (!sw)) 8 9 = some (.int q1.2.2.2.2.2.2.2.2.2.1) := aF_g pk_q1 (by decide) rfl
theorem xs_q1_9 {x : Int32} : mm_sF (mp_P fx) (px_h z E M (px_l sw c2 w2 T D S S1 K R C W U q q1 B0 B1 B2 B3)) (px_ta (!sw)) 8 9 (.int x) = some (px_h z E M (px_l sw c2 w2 T D S S1 K R C W U q (q1.1, q1.2.1, q1.2.2.1, q1.2.2.2.1, q1.2.2.2.2.1, q1.2.2.2.2.2.1, q1.2.2.2.2.2.2.1, q1.2.2.2.2.2.2.2.1, q1.2.2.2.2.2.2.2.2.1, x, q1.2.2.2.2.2.2.2.2.2.2.1, q1.2.2.2.2.2.2.2.2.2.2.2.1, q1.2.2.2.2.2.2.2.2.2.2.2.2.1, q1.2.2.2.2.2.2.2.2.2.2.2.2.2.1, q1.2.2.2.2.2.2.2.2.2.2.2.2.2.2.1, q1.2.2.2.2.2.2.2.2.2.2.2.2.2.2.2.1, q1.2.2.2.2.2.2.2.2.2.2.2.2.2.2.2.2.1, q1.2.2.2.2.2.2.2.2.2.2.2.2.2.2.2.2.2.1, q1.2.2.2.2.2.2.2.2.2.2.2.2.2.2.2.2.2.2.1, q1.2.2.2.2.2.2.2.2.2.2.2.2.2.2.2.2.2.2.2.1, q1.2.2.2.2.2.2.2.2.2.2.2.2.2.2.2.2.2.2.2.2.1, q1.2.2.2.2.2.2.2.2.2.2.2.2.2.2.2.2.2.2.2.2.2.1, q1.2.2.2.2.2.2.2.2.2.2.2.2.2.2.2.2.2.2.2.2.2.2) B0 B1 B2 B3)) := aF_s pk_q1 rfl (by cases sw <;> first | exact px_set (i := 57) (by decide) px_ll | exact px_set (i := 40) (by decide) px_ll)
theorem xg_q1_10 : mm_gF (px_h z E M (px_l sw c2 w2 T D S S1 K R C W U q q1 B0 B1 B2 B3)) (px_ta (!sw)) 8 10 = some (.ref (px_ta (!sw) + 7)) := aF_g pk_q1 (by decide) rfl
theorem xg_q1_11 : mm_gF (px_h z E M (px_l sw c2 w2 T D S S1 K R C W U q q1 B0 B1 B2 B3)) (px_ta (!sw)) 8 11 = some (.ref (px_ta (!sw) + 8)) := aF_g pk_q1 (by decide) rfl
theorem xg_q1_12 : mm_gF (px_h z E M (px_l sw c2 w2 T D S S1 K R C W U q q1 B0 B1 B2 B3)) (px_ta (!sw)) 8 12 = some (.ref (px_ta (!sw) + 9)) := aF_g pk_q1 (by decide) rfl
theorem xg_q1_13 : mm_gF (px_h z E M (px_l sw c2 w2 T D S S1 K R C W U q q1 B0 B1 B2 B3)) (px_ta (!sw)) 8 13 = some (.ref (px_ta (!sw) + 10)) := aF_g pk_q1 (by decide) rfl
theorem xg_q1_14 : mm_gF (px_h z E M (px_l sw c2 w2 T D S S1 K R C W U q q1 B0 B1 B2 B3)) (px_ta (!sw)) 8 14 = some (.ref (px_ta (!sw) + 11)) := aF_g pk_q1 (by decide) rfl
theorem xg_q1_15 : mm_gF (px_h z E M (px_l sw c2 w2 T D S S1 K R C W U q q1 B0 B1 B2 B3)) (px_ta (!sw)) 8 15 = some (.ref (px_ta (!sw) + 12)) := aF_g pk_q1 (by decide) rfl
theorem xg_q1_16 : mm_gF (px_h z E M (px_l sw c2 w2 T D S S1 K R C W U q q1 B0 B1 B2 B3)) (px_ta (!sw)) 8 16 = some (.int q1.2.2.2.2.2.2.2.2.2.2.2.2.2.2.2.2.1) := aF_g pk_q1 (by decide) rfl
theorem xs_q1_16 {x : Int32} : mm_sF (mp_P fx) (px_h z E M (px_l sw c2 w2 T D S S1 K R C W U q q1 B0 B1 B2 B3)) (px_ta (!sw)) 8 16 (.int x) = some (px_h z E M (px_l sw c2 w2 T D S S1 K R C W U q (q1.1, q1.2.1, q1.2.2.1, q1.2.2.2.1, q1.2.2.2.2.1, q1.2.2.2.2.2.1, q1.2.2.2.2.2.2.1, q1.2.2.2.2.2.2.2.1, q1.2.2.2.2.2.2.2.2.1, q1.2.2.2.2.2.2.2.2.2.1, q1.2.2.2.2.2.2.2.2.2.2.1, q1.2.2.2.2.2.2.2.2.2.2.2.1, q1.2.2.2.2.2.2.2.2.2.2.2.2.1, q1.2.2.2.2.2.2.2.2.2.2.2.2.2.1, q1.2.2.2.2.2.2.2.2.2.2.2.2.2.2.1, q1.2.2.2.2.2.2.2.2.2.2.2.2.2.2.2.1, x, q1.2.2.2.2.2.2.2.2.2.2.2.2.2.2.2.2.2.1, q1.2.2.2.2.2.2.2.2.2.2.2.2.2.2.2.2.2.2.1, q1.2.2.2.2.2.2.2.2.2.2.2.2.2.2.2.2.2.2.2.1, q1.2.2.2.2.2.2.2.2.2.2.2.2.2.2.2.2.2.2.2.2.1, q1.2.2.2.2.2.2.2.2.2.2.2.2.2.2.2.2.2.2.2.2.2.1, q1.2.2.2.2.2.2.2.2.2.2.2.2.2.2.2.2.2.2.2.2.2.2) B0 B1 B2 B3)) := aF_s pk_q1 rfl (by cases sw <;> first | exact px_set (i := 57) (by decide) px_ll | exact px_set (i := 40) (by decide) px_ll)
theorem xg_q1_17 : mm_gF (px_h z E M (px_l sw c2 w2 T D S S1 K R C W U q q1 B0 B1 B2 B3)) (px_ta (!sw)) 8 17 = some (.ref (px_ta (!sw) + 13)) := aF_g pk_q1 (by decide) rfl
theorem xg_q1_18 : mm_gF (px_h z E M (px_l sw c2 w2 T D S S1 K R C W U q q1 B0 B1 B2 B3)) (px_ta (!sw)) 8 18 = some (.int q1.2.2.2.2.2.2.2.2.2.2.2.2.2.2.2.2.2.2.1) := aF_g pk_q1 (by decide) rfl
theorem xs_q1_18 {x : Int32} : mm_sF (mp_P fx) (px_h z E M (px_l sw c2 w2 T D S S1 K R C W U q q1 B0 B1 B2 B3)) (px_ta (!sw)) 8 18 (.int x) = some (px_h z E M (px_l sw c2 w2 T D S S1 K R C W U q (q1.1, q1.2.1, q1.2.2.1, q1.2.2.2.1, q1.2.2.2.2.1, q1.2.2.2.2.2.1, q1.2.2.2.2.2.2.1, q1.2.2.2.2.2.2.2.1, q1.2.2.2.2.2.2.2.2.1, q1.2.2.2.2.2.2.2.2.2.1, q1.2.2.2.2.2.2.2.2.2.2.1, q1.2.2.2.2.2.2.2.2.2.2.2.1, q1.2.2.2.2.2.2.2.2.2.2.2.2.1, q1.2.2.2.2.2.2.2.2.2.2.2.2.2.1, q1.2.2.2.2.2.2.2.2.2.2.2.2.2.2.1, q1.2.2.2.2.2.2.2.2.2.2.2.2.2.2.2.1, q1.2.2.2.2.2.2.2.2.2.2.2.2.2.2.2.2.1, q1.2.2.2.2.2.2.2.2.2.2.2.2.2.2.2.2.2.1, x, q1.2.2.2.2.2.2.2.2.2.2.2.2.2.2.2.2.2.2.2.1, q1.2.2.2.2.2.2.2.2.2.2.2.2.2.2.2.2.2.2.2.2.1, q1.2.2.2.2.2.2.2.2.2.2.2.2.2.2.2.2.2.2.2.2.2.1, q1.2.2.2.2.2.2.2.2.2.2.2.2.2.2.2.2.2.2.2.2.2.2) B0 B1 B2 B3)) := aF_s pk_q1 rfl (by cases sw <;> first | exact px_set (i := 57) (by decide) px_ll | exact px_set (i := 40) (by decide) px_ll)
theorem xg_q1_19 : mm_gF (px_h z E M (px_l sw c2 w2 T D S S1 K R C W U q q1 B0 B1 B2 B3)) (px_ta (!sw)) 8 19 = some (.ref (px_ta (!sw) + 14)) := aF_g pk_q1 (by decide) rfl
theorem pk_q1_sortNames : (px_h z E M (px_l sw c2 w2 T D S S1 K R C W U q q1 B0 B1 B2 B3)).2.2 (px_ta (!sw) + 1) = mm_L q1.1 := by
  cases sw
  · exact px_at (i := 58) (by decide) rfl
  · exact px_at (i := 41) (by decide) rfl
theorem xa_q1_sortNames {i : Int32} : mm_gL (px_h z E M (px_l sw c2 w2 T D S S1 K R C W U q q1 B0 B1 B2 B3)) (px_ta (!sw) + 1) i = aG q1.1 i := aG_L pk_q1_sortNames
theorem xb_q1_sortNames {i : Int32} {x : Int64} : mm_sL (px_h z E M (px_l sw c2 w2 T D S S1 K R C W U q q1 B0 B1 B2 B3)) (px_ta (!sw) + 1) i x = aS q1.1 i x (fun l => px_h z E M (px_l sw c2 w2 T D S S1 K R C W U q (l, q1.2.1, q1.2.2.1, q1.2.2.2.1, q1.2.2.2.2.1, q1.2.2.2.2.2.1, q1.2.2.2.2.2.2.1, q1.2.2.2.2.2.2.2.1, q1.2.2.2.2.2.2.2.2.1, q1.2.2.2.2.2.2.2.2.2.1, q1.2.2.2.2.2.2.2.2.2.2.1, q1.2.2.2.2.2.2.2.2.2.2.2.1, q1.2.2.2.2.2.2.2.2.2.2.2.2.1, q1.2.2.2.2.2.2.2.2.2.2.2.2.2.1, q1.2.2.2.2.2.2.2.2.2.2.2.2.2.2.1, q1.2.2.2.2.2.2.2.2.2.2.2.2.2.2.2.1, q1.2.2.2.2.2.2.2.2.2.2.2.2.2.2.2.2.1, q1.2.2.2.2.2.2.2.2.2.2.2.2.2.2.2.2.2.1, q1.2.2.2.2.2.2.2.2.2.2.2.2.2.2.2.2.2.2.1, q1.2.2.2.2.2.2.2.2.2.2.2.2.2.2.2.2.2.2.2.1, q1.2.2.2.2.2.2.2.2.2.2.2.2.2.2.2.2.2.2.2.2.1, q1.2.2.2.2.2.2.2.2.2.2.2.2.2.2.2.2.2.2.2.2.2.1, q1.2.2.2.2.2.2.2.2.2.2.2.2.2.2.2.2.2.2.2.2.2.2) B0 B1 B2 B3)) := aS_L pk_q1_sortNames (fun l => (by cases sw <;> first | exact px_set (i := 58) (by decide) px_ll | exact px_set (i := 41) (by decide) px_ll))
theorem xn_q1_sortNames : mm_gN (px_h z E M (px_l sw c2 w2 T D S S1 K R C W U q q1 B0 B1 B2 B3)) (px_ta (!sw) + 1) = some (nI (q1.1).length) := aN_L pk_q1_sortNames
theorem pk_q1_colourNames : (px_h z E M (px_l sw c2 w2 T D S S1 K R C W U q q1 B0 B1 B2 B3)).2.2 (px_ta (!sw) + 2) = mm_L q1.2.2.1 := by
  cases sw
  · exact px_at (i := 59) (by decide) rfl
  · exact px_at (i := 42) (by decide) rfl
theorem xa_q1_colourNames {i : Int32} : mm_gL (px_h z E M (px_l sw c2 w2 T D S S1 K R C W U q q1 B0 B1 B2 B3)) (px_ta (!sw) + 2) i = aG q1.2.2.1 i := aG_L pk_q1_colourNames
theorem xb_q1_colourNames {i : Int32} {x : Int64} : mm_sL (px_h z E M (px_l sw c2 w2 T D S S1 K R C W U q q1 B0 B1 B2 B3)) (px_ta (!sw) + 2) i x = aS q1.2.2.1 i x (fun l => px_h z E M (px_l sw c2 w2 T D S S1 K R C W U q (q1.1, q1.2.1, l, q1.2.2.2.1, q1.2.2.2.2.1, q1.2.2.2.2.2.1, q1.2.2.2.2.2.2.1, q1.2.2.2.2.2.2.2.1, q1.2.2.2.2.2.2.2.2.1, q1.2.2.2.2.2.2.2.2.2.1, q1.2.2.2.2.2.2.2.2.2.2.1, q1.2.2.2.2.2.2.2.2.2.2.2.1, q1.2.2.2.2.2.2.2.2.2.2.2.2.1, q1.2.2.2.2.2.2.2.2.2.2.2.2.2.1, q1.2.2.2.2.2.2.2.2.2.2.2.2.2.2.1, q1.2.2.2.2.2.2.2.2.2.2.2.2.2.2.2.1, q1.2.2.2.2.2.2.2.2.2.2.2.2.2.2.2.2.1, q1.2.2.2.2.2.2.2.2.2.2.2.2.2.2.2.2.2.1, q1.2.2.2.2.2.2.2.2.2.2.2.2.2.2.2.2.2.2.1, q1.2.2.2.2.2.2.2.2.2.2.2.2.2.2.2.2.2.2.2.1, q1.2.2.2.2.2.2.2.2.2.2.2.2.2.2.2.2.2.2.2.2.1, q1.2.2.2.2.2.2.2.2.2.2.2.2.2.2.2.2.2.2.2.2.2.1, q1.2.2.2.2.2.2.2.2.2.2.2.2.2.2.2.2.2.2.2.2.2.2) B0 B1 B2 B3)) := aS_L pk_q1_colourNames (fun l => (by cases sw <;> first | exact px_set (i := 59) (by decide) px_ll | exact px_set (i := 42) (by decide) px_ll))
theorem xn_q1_colourNames : mm_gN (px_h z E M (px_l sw c2 w2 T D S S1 K R C W U q q1 B0 B1 B2 B3)) (px_ta (!sw) + 2) = some (nI (q1.2.2.1).length) := aN_L pk_q1_colourNames
theorem pk_q1_colourSorts : (px_h z E M (px_l sw c2 w2 T D S S1 K R C W U q q1 B0 B1 B2 B3)).2.2 (px_ta (!sw) + 3) = mm_I 0 q1.2.2.2.1 := by
  cases sw
  · exact px_at (i := 60) (by decide) rfl
  · exact px_at (i := 43) (by decide) rfl
theorem xa_q1_colourSorts {i : Int32} : mm_gI (px_h z E M (px_l sw c2 w2 T D S S1 K R C W U q q1 B0 B1 B2 B3)) (px_ta (!sw) + 3) 0 9 i = aG q1.2.2.2.1 i := aG_0 pk_q1_colourSorts
theorem xb_q1_colourSorts {i x : Int32} : mm_sI (px_h z E M (px_l sw c2 w2 T D S S1 K R C W U q q1 B0 B1 B2 B3)) (px_ta (!sw) + 3) 0 i x = aS q1.2.2.2.1 i x (fun l => px_h z E M (px_l sw c2 w2 T D S S1 K R C W U q (q1.1, q1.2.1, q1.2.2.1, l, q1.2.2.2.2.1, q1.2.2.2.2.2.1, q1.2.2.2.2.2.2.1, q1.2.2.2.2.2.2.2.1, q1.2.2.2.2.2.2.2.2.1, q1.2.2.2.2.2.2.2.2.2.1, q1.2.2.2.2.2.2.2.2.2.2.1, q1.2.2.2.2.2.2.2.2.2.2.2.1, q1.2.2.2.2.2.2.2.2.2.2.2.2.1, q1.2.2.2.2.2.2.2.2.2.2.2.2.2.1, q1.2.2.2.2.2.2.2.2.2.2.2.2.2.2.1, q1.2.2.2.2.2.2.2.2.2.2.2.2.2.2.2.1, q1.2.2.2.2.2.2.2.2.2.2.2.2.2.2.2.2.1, q1.2.2.2.2.2.2.2.2.2.2.2.2.2.2.2.2.2.1, q1.2.2.2.2.2.2.2.2.2.2.2.2.2.2.2.2.2.2.1, q1.2.2.2.2.2.2.2.2.2.2.2.2.2.2.2.2.2.2.2.1, q1.2.2.2.2.2.2.2.2.2.2.2.2.2.2.2.2.2.2.2.2.1, q1.2.2.2.2.2.2.2.2.2.2.2.2.2.2.2.2.2.2.2.2.2.1, q1.2.2.2.2.2.2.2.2.2.2.2.2.2.2.2.2.2.2.2.2.2.2) B0 B1 B2 B3)) := aS_I pk_q1_colourSorts (fun l => (by cases sw <;> first | exact px_set (i := 60) (by decide) px_ll | exact px_set (i := 43) (by decide) px_ll))
theorem xn_q1_colourSorts : mm_gN (px_h z E M (px_l sw c2 w2 T D S S1 K R C W U q q1 B0 B1 B2 B3)) (px_ta (!sw) + 3) = some (nI (q1.2.2.2.1).length) := aN_I pk_q1_colourSorts
theorem pk_q1_ruleMakes : (px_h z E M (px_l sw c2 w2 T D S S1 K R C W U q q1 B0 B1 B2 B3)).2.2 (px_ta (!sw) + 4) = mm_I 0 q1.2.2.2.2.2.1 := by
  cases sw
  · exact px_at (i := 61) (by decide) rfl
  · exact px_at (i := 44) (by decide) rfl
theorem xa_q1_ruleMakes {i : Int32} : mm_gI (px_h z E M (px_l sw c2 w2 T D S S1 K R C W U q q1 B0 B1 B2 B3)) (px_ta (!sw) + 4) 0 9 i = aG q1.2.2.2.2.2.1 i := aG_0 pk_q1_ruleMakes
theorem xb_q1_ruleMakes {i x : Int32} : mm_sI (px_h z E M (px_l sw c2 w2 T D S S1 K R C W U q q1 B0 B1 B2 B3)) (px_ta (!sw) + 4) 0 i x = aS q1.2.2.2.2.2.1 i x (fun l => px_h z E M (px_l sw c2 w2 T D S S1 K R C W U q (q1.1, q1.2.1, q1.2.2.1, q1.2.2.2.1, q1.2.2.2.2.1, l, q1.2.2.2.2.2.2.1, q1.2.2.2.2.2.2.2.1, q1.2.2.2.2.2.2.2.2.1, q1.2.2.2.2.2.2.2.2.2.1, q1.2.2.2.2.2.2.2.2.2.2.1, q1.2.2.2.2.2.2.2.2.2.2.2.1, q1.2.2.2.2.2.2.2.2.2.2.2.2.1, q1.2.2.2.2.2.2.2.2.2.2.2.2.2.1, q1.2.2.2.2.2.2.2.2.2.2.2.2.2.2.1, q1.2.2.2.2.2.2.2.2.2.2.2.2.2.2.2.1, q1.2.2.2.2.2.2.2.2.2.2.2.2.2.2.2.2.1, q1.2.2.2.2.2.2.2.2.2.2.2.2.2.2.2.2.2.1, q1.2.2.2.2.2.2.2.2.2.2.2.2.2.2.2.2.2.2.1, q1.2.2.2.2.2.2.2.2.2.2.2.2.2.2.2.2.2.2.2.1, q1.2.2.2.2.2.2.2.2.2.2.2.2.2.2.2.2.2.2.2.2.1, q1.2.2.2.2.2.2.2.2.2.2.2.2.2.2.2.2.2.2.2.2.2.1, q1.2.2.2.2.2.2.2.2.2.2.2.2.2.2.2.2.2.2.2.2.2.2) B0 B1 B2 B3)) := aS_I pk_q1_ruleMakes (fun l => (by cases sw <;> first | exact px_set (i := 61) (by decide) px_ll | exact px_set (i := 44) (by decide) px_ll))
theorem xn_q1_ruleMakes : mm_gN (px_h z E M (px_l sw c2 w2 T D S S1 K R C W U q q1 B0 B1 B2 B3)) (px_ta (!sw) + 4) = some (nI (q1.2.2.2.2.2.1).length) := aN_I pk_q1_ruleMakes
theorem pk_q1_ruleFirsts : (px_h z E M (px_l sw c2 w2 T D S S1 K R C W U q q1 B0 B1 B2 B3)).2.2 (px_ta (!sw) + 5) = mm_I 0 q1.2.2.2.2.2.2.1 := by
  cases sw
  · exact px_at (i := 62) (by decide) rfl
  · exact px_at (i := 45) (by decide) rfl
theorem xa_q1_ruleFirsts {i : Int32} : mm_gI (px_h z E M (px_l sw c2 w2 T D S S1 K R C W U q q1 B0 B1 B2 B3)) (px_ta (!sw) + 5) 0 9 i = aG q1.2.2.2.2.2.2.1 i := aG_0 pk_q1_ruleFirsts
theorem xb_q1_ruleFirsts {i x : Int32} : mm_sI (px_h z E M (px_l sw c2 w2 T D S S1 K R C W U q q1 B0 B1 B2 B3)) (px_ta (!sw) + 5) 0 i x = aS q1.2.2.2.2.2.2.1 i x (fun l => px_h z E M (px_l sw c2 w2 T D S S1 K R C W U q (q1.1, q1.2.1, q1.2.2.1, q1.2.2.2.1, q1.2.2.2.2.1, q1.2.2.2.2.2.1, l, q1.2.2.2.2.2.2.2.1, q1.2.2.2.2.2.2.2.2.1, q1.2.2.2.2.2.2.2.2.2.1, q1.2.2.2.2.2.2.2.2.2.2.1, q1.2.2.2.2.2.2.2.2.2.2.2.1, q1.2.2.2.2.2.2.2.2.2.2.2.2.1, q1.2.2.2.2.2.2.2.2.2.2.2.2.2.1, q1.2.2.2.2.2.2.2.2.2.2.2.2.2.2.1, q1.2.2.2.2.2.2.2.2.2.2.2.2.2.2.2.1, q1.2.2.2.2.2.2.2.2.2.2.2.2.2.2.2.2.1, q1.2.2.2.2.2.2.2.2.2.2.2.2.2.2.2.2.2.1, q1.2.2.2.2.2.2.2.2.2.2.2.2.2.2.2.2.2.2.1, q1.2.2.2.2.2.2.2.2.2.2.2.2.2.2.2.2.2.2.2.1, q1.2.2.2.2.2.2.2.2.2.2.2.2.2.2.2.2.2.2.2.2.1, q1.2.2.2.2.2.2.2.2.2.2.2.2.2.2.2.2.2.2.2.2.2.1, q1.2.2.2.2.2.2.2.2.2.2.2.2.2.2.2.2.2.2.2.2.2.2) B0 B1 B2 B3)) := aS_I pk_q1_ruleFirsts (fun l => (by cases sw <;> first | exact px_set (i := 62) (by decide) px_ll | exact px_set (i := 45) (by decide) px_ll))
theorem xn_q1_ruleFirsts : mm_gN (px_h z E M (px_l sw c2 w2 T D S S1 K R C W U q q1 B0 B1 B2 B3)) (px_ta (!sw) + 5) = some (nI (q1.2.2.2.2.2.2.1).length) := aN_I pk_q1_ruleFirsts
theorem pk_q1_ruleSeconds : (px_h z E M (px_l sw c2 w2 T D S S1 K R C W U q q1 B0 B1 B2 B3)).2.2 (px_ta (!sw) + 6) = mm_I 0 q1.2.2.2.2.2.2.2.1 := by
  cases sw
  · exact px_at (i := 63) (by decide) rfl
  · exact px_at (i := 46) (by decide) rfl
theorem xa_q1_ruleSeconds {i : Int32} : mm_gI (px_h z E M (px_l sw c2 w2 T D S S1 K R C W U q q1 B0 B1 B2 B3)) (px_ta (!sw) + 6) 0 9 i = aG q1.2.2.2.2.2.2.2.1 i := aG_0 pk_q1_ruleSeconds
theorem xb_q1_ruleSeconds {i x : Int32} : mm_sI (px_h z E M (px_l sw c2 w2 T D S S1 K R C W U q q1 B0 B1 B2 B3)) (px_ta (!sw) + 6) 0 i x = aS q1.2.2.2.2.2.2.2.1 i x (fun l => px_h z E M (px_l sw c2 w2 T D S S1 K R C W U q (q1.1, q1.2.1, q1.2.2.1, q1.2.2.2.1, q1.2.2.2.2.1, q1.2.2.2.2.2.1, q1.2.2.2.2.2.2.1, l, q1.2.2.2.2.2.2.2.2.1, q1.2.2.2.2.2.2.2.2.2.1, q1.2.2.2.2.2.2.2.2.2.2.1, q1.2.2.2.2.2.2.2.2.2.2.2.1, q1.2.2.2.2.2.2.2.2.2.2.2.2.1, q1.2.2.2.2.2.2.2.2.2.2.2.2.2.1, q1.2.2.2.2.2.2.2.2.2.2.2.2.2.2.1, q1.2.2.2.2.2.2.2.2.2.2.2.2.2.2.2.1, q1.2.2.2.2.2.2.2.2.2.2.2.2.2.2.2.2.1, q1.2.2.2.2.2.2.2.2.2.2.2.2.2.2.2.2.2.1, q1.2.2.2.2.2.2.2.2.2.2.2.2.2.2.2.2.2.2.1, q1.2.2.2.2.2.2.2.2.2.2.2.2.2.2.2.2.2.2.2.1, q1.2.2.2.2.2.2.2.2.2.2.2.2.2.2.2.2.2.2.2.2.1, q1.2.2.2.2.2.2.2.2.2.2.2.2.2.2.2.2.2.2.2.2.2.1, q1.2.2.2.2.2.2.2.2.2.2.2.2.2.2.2.2.2.2.2.2.2.2) B0 B1 B2 B3)) := aS_I pk_q1_ruleSeconds (fun l => (by cases sw <;> first | exact px_set (i := 63) (by decide) px_ll | exact px_set (i := 46) (by decide) px_ll))
theorem xn_q1_ruleSeconds : mm_gN (px_h z E M (px_l sw c2 w2 T D S S1 K R C W U q q1 B0 B1 B2 B3)) (px_ta (!sw) + 6) = some (nI (q1.2.2.2.2.2.2.2.1).length) := aN_I pk_q1_ruleSeconds
theorem pk_q1_walkerNames : (px_h z E M (px_l sw c2 w2 T D S S1 K R C W U q q1 B0 B1 B2 B3)).2.2 (px_ta (!sw) + 7) = mm_L q1.2.2.2.2.2.2.2.2.2.2.1 := by
  cases sw
  · exact px_at (i := 64) (by decide) rfl
  · exact px_at (i := 47) (by decide) rfl
theorem xa_q1_walkerNames {i : Int32} : mm_gL (px_h z E M (px_l sw c2 w2 T D S S1 K R C W U q q1 B0 B1 B2 B3)) (px_ta (!sw) + 7) i = aG q1.2.2.2.2.2.2.2.2.2.2.1 i := aG_L pk_q1_walkerNames
theorem xb_q1_walkerNames {i : Int32} {x : Int64} : mm_sL (px_h z E M (px_l sw c2 w2 T D S S1 K R C W U q q1 B0 B1 B2 B3)) (px_ta (!sw) + 7) i x = aS q1.2.2.2.2.2.2.2.2.2.2.1 i x (fun l => px_h z E M (px_l sw c2 w2 T D S S1 K R C W U q (q1.1, q1.2.1, q1.2.2.1, q1.2.2.2.1, q1.2.2.2.2.1, q1.2.2.2.2.2.1, q1.2.2.2.2.2.2.1, q1.2.2.2.2.2.2.2.1, q1.2.2.2.2.2.2.2.2.1, q1.2.2.2.2.2.2.2.2.2.1, l, q1.2.2.2.2.2.2.2.2.2.2.2.1, q1.2.2.2.2.2.2.2.2.2.2.2.2.1, q1.2.2.2.2.2.2.2.2.2.2.2.2.2.1, q1.2.2.2.2.2.2.2.2.2.2.2.2.2.2.1, q1.2.2.2.2.2.2.2.2.2.2.2.2.2.2.2.1, q1.2.2.2.2.2.2.2.2.2.2.2.2.2.2.2.2.1, q1.2.2.2.2.2.2.2.2.2.2.2.2.2.2.2.2.2.1, q1.2.2.2.2.2.2.2.2.2.2.2.2.2.2.2.2.2.2.1, q1.2.2.2.2.2.2.2.2.2.2.2.2.2.2.2.2.2.2.2.1, q1.2.2.2.2.2.2.2.2.2.2.2.2.2.2.2.2.2.2.2.2.1, q1.2.2.2.2.2.2.2.2.2.2.2.2.2.2.2.2.2.2.2.2.2.1, q1.2.2.2.2.2.2.2.2.2.2.2.2.2.2.2.2.2.2.2.2.2.2) B0 B1 B2 B3)) := aS_L pk_q1_walkerNames (fun l => (by cases sw <;> first | exact px_set (i := 64) (by decide) px_ll | exact px_set (i := 47) (by decide) px_ll))
theorem xn_q1_walkerNames : mm_gN (px_h z E M (px_l sw c2 w2 T D S S1 K R C W U q q1 B0 B1 B2 B3)) (px_ta (!sw) + 7) = some (nI (q1.2.2.2.2.2.2.2.2.2.2.1).length) := aN_L pk_q1_walkerNames
theorem pk_q1_kinds : (px_h z E M (px_l sw c2 w2 T D S S1 K R C W U q q1 B0 B1 B2 B3)).2.2 (px_ta (!sw) + 8) = mm_I 0 q1.2.2.2.2.2.2.2.2.2.2.2.1 := by
  cases sw
  · exact px_at (i := 65) (by decide) rfl
  · exact px_at (i := 48) (by decide) rfl
theorem xa_q1_kinds {i : Int32} : mm_gI (px_h z E M (px_l sw c2 w2 T D S S1 K R C W U q q1 B0 B1 B2 B3)) (px_ta (!sw) + 8) 0 9 i = aG q1.2.2.2.2.2.2.2.2.2.2.2.1 i := aG_0 pk_q1_kinds
theorem xb_q1_kinds {i x : Int32} : mm_sI (px_h z E M (px_l sw c2 w2 T D S S1 K R C W U q q1 B0 B1 B2 B3)) (px_ta (!sw) + 8) 0 i x = aS q1.2.2.2.2.2.2.2.2.2.2.2.1 i x (fun l => px_h z E M (px_l sw c2 w2 T D S S1 K R C W U q (q1.1, q1.2.1, q1.2.2.1, q1.2.2.2.1, q1.2.2.2.2.1, q1.2.2.2.2.2.1, q1.2.2.2.2.2.2.1, q1.2.2.2.2.2.2.2.1, q1.2.2.2.2.2.2.2.2.1, q1.2.2.2.2.2.2.2.2.2.1, q1.2.2.2.2.2.2.2.2.2.2.1, l, q1.2.2.2.2.2.2.2.2.2.2.2.2.1, q1.2.2.2.2.2.2.2.2.2.2.2.2.2.1, q1.2.2.2.2.2.2.2.2.2.2.2.2.2.2.1, q1.2.2.2.2.2.2.2.2.2.2.2.2.2.2.2.1, q1.2.2.2.2.2.2.2.2.2.2.2.2.2.2.2.2.1, q1.2.2.2.2.2.2.2.2.2.2.2.2.2.2.2.2.2.1, q1.2.2.2.2.2.2.2.2.2.2.2.2.2.2.2.2.2.2.1, q1.2.2.2.2.2.2.2.2.2.2.2.2.2.2.2.2.2.2.2.1, q1.2.2.2.2.2.2.2.2.2.2.2.2.2.2.2.2.2.2.2.2.1, q1.2.2.2.2.2.2.2.2.2.2.2.2.2.2.2.2.2.2.2.2.2.1, q1.2.2.2.2.2.2.2.2.2.2.2.2.2.2.2.2.2.2.2.2.2.2) B0 B1 B2 B3)) := aS_I pk_q1_kinds (fun l => (by cases sw <;> first | exact px_set (i := 65) (by decide) px_ll | exact px_set (i := 48) (by decide) px_ll))
theorem xn_q1_kinds : mm_gN (px_h z E M (px_l sw c2 w2 T D S S1 K R C W U q q1 B0 B1 B2 B3)) (px_ta (!sw) + 8) = some (nI (q1.2.2.2.2.2.2.2.2.2.2.2.1).length) := aN_I pk_q1_kinds
theorem pk_q1_walkerColours : (px_h z E M (px_l sw c2 w2 T D S S1 K R C W U q q1 B0 B1 B2 B3)).2.2 (px_ta (!sw) + 9) = mm_I 0 q1.2.2.2.2.2.2.2.2.2.2.2.2.1 := by
  cases sw
  · exact px_at (i := 66) (by decide) rfl
  · exact px_at (i := 49) (by decide) rfl
theorem xa_q1_walkerColours {i : Int32} : mm_gI (px_h z E M (px_l sw c2 w2 T D S S1 K R C W U q q1 B0 B1 B2 B3)) (px_ta (!sw) + 9) 0 9 i = aG q1.2.2.2.2.2.2.2.2.2.2.2.2.1 i := aG_0 pk_q1_walkerColours
theorem xb_q1_walkerColours {i x : Int32} : mm_sI (px_h z E M (px_l sw c2 w2 T D S S1 K R C W U q q1 B0 B1 B2 B3)) (px_ta (!sw) + 9) 0 i x = aS q1.2.2.2.2.2.2.2.2.2.2.2.2.1 i x (fun l => px_h z E M (px_l sw c2 w2 T D S S1 K R C W U q (q1.1, q1.2.1, q1.2.2.1, q1.2.2.2.1, q1.2.2.2.2.1, q1.2.2.2.2.2.1, q1.2.2.2.2.2.2.1, q1.2.2.2.2.2.2.2.1, q1.2.2.2.2.2.2.2.2.1, q1.2.2.2.2.2.2.2.2.2.1, q1.2.2.2.2.2.2.2.2.2.2.1, q1.2.2.2.2.2.2.2.2.2.2.2.1, l, q1.2.2.2.2.2.2.2.2.2.2.2.2.2.1, q1.2.2.2.2.2.2.2.2.2.2.2.2.2.2.1, q1.2.2.2.2.2.2.2.2.2.2.2.2.2.2.2.1, q1.2.2.2.2.2.2.2.2.2.2.2.2.2.2.2.2.1, q1.2.2.2.2.2.2.2.2.2.2.2.2.2.2.2.2.2.1, q1.2.2.2.2.2.2.2.2.2.2.2.2.2.2.2.2.2.2.1, q1.2.2.2.2.2.2.2.2.2.2.2.2.2.2.2.2.2.2.2.1, q1.2.2.2.2.2.2.2.2.2.2.2.2.2.2.2.2.2.2.2.2.1, q1.2.2.2.2.2.2.2.2.2.2.2.2.2.2.2.2.2.2.2.2.2.1, q1.2.2.2.2.2.2.2.2.2.2.2.2.2.2.2.2.2.2.2.2.2.2) B0 B1 B2 B3)) := aS_I pk_q1_walkerColours (fun l => (by cases sw <;> first | exact px_set (i := 66) (by decide) px_ll | exact px_set (i := 49) (by decide) px_ll))
theorem xn_q1_walkerColours : mm_gN (px_h z E M (px_l sw c2 w2 T D S S1 K R C W U q q1 B0 B1 B2 B3)) (px_ta (!sw) + 9) = some (nI (q1.2.2.2.2.2.2.2.2.2.2.2.2.1).length) := aN_I pk_q1_walkerColours
theorem pk_q1_starts : (px_h z E M (px_l sw c2 w2 T D S S1 K R C W U q q1 B0 B1 B2 B3)).2.2 (px_ta (!sw) + 10) = mm_I 0 q1.2.2.2.2.2.2.2.2.2.2.2.2.2.1 := by
  cases sw
  · exact px_at (i := 67) (by decide) rfl
  · exact px_at (i := 50) (by decide) rfl
theorem xa_q1_starts {i : Int32} : mm_gI (px_h z E M (px_l sw c2 w2 T D S S1 K R C W U q q1 B0 B1 B2 B3)) (px_ta (!sw) + 10) 0 9 i = aG q1.2.2.2.2.2.2.2.2.2.2.2.2.2.1 i := aG_0 pk_q1_starts
theorem xb_q1_starts {i x : Int32} : mm_sI (px_h z E M (px_l sw c2 w2 T D S S1 K R C W U q q1 B0 B1 B2 B3)) (px_ta (!sw) + 10) 0 i x = aS q1.2.2.2.2.2.2.2.2.2.2.2.2.2.1 i x (fun l => px_h z E M (px_l sw c2 w2 T D S S1 K R C W U q (q1.1, q1.2.1, q1.2.2.1, q1.2.2.2.1, q1.2.2.2.2.1, q1.2.2.2.2.2.1, q1.2.2.2.2.2.2.1, q1.2.2.2.2.2.2.2.1, q1.2.2.2.2.2.2.2.2.1, q1.2.2.2.2.2.2.2.2.2.1, q1.2.2.2.2.2.2.2.2.2.2.1, q1.2.2.2.2.2.2.2.2.2.2.2.1, q1.2.2.2.2.2.2.2.2.2.2.2.2.1, l, q1.2.2.2.2.2.2.2.2.2.2.2.2.2.2.1, q1.2.2.2.2.2.2.2.2.2.2.2.2.2.2.2.1, q1.2.2.2.2.2.2.2.2.2.2.2.2.2.2.2.2.1, q1.2.2.2.2.2.2.2.2.2.2.2.2.2.2.2.2.2.1, q1.2.2.2.2.2.2.2.2.2.2.2.2.2.2.2.2.2.2.1, q1.2.2.2.2.2.2.2.2.2.2.2.2.2.2.2.2.2.2.2.1, q1.2.2.2.2.2.2.2.2.2.2.2.2.2.2.2.2.2.2.2.2.1, q1.2.2.2.2.2.2.2.2.2.2.2.2.2.2.2.2.2.2.2.2.2.1, q1.2.2.2.2.2.2.2.2.2.2.2.2.2.2.2.2.2.2.2.2.2.2) B0 B1 B2 B3)) := aS_I pk_q1_starts (fun l => (by cases sw <;> first | exact px_set (i := 67) (by decide) px_ll | exact px_set (i := 50) (by decide) px_ll))
theorem xn_q1_starts : mm_gN (px_h z E M (px_l sw c2 w2 T D S S1 K R C W U q q1 B0 B1 B2 B3)) (px_ta (!sw) + 10) = some (nI (q1.2.2.2.2.2.2.2.2.2.2.2.2.2.1).length) := aN_I pk_q1_starts
theorem pk_q1_stepRows : (px_h z E M (px_l sw c2 w2 T D S S1 K R C W U q q1 B0 B1 B2 B3)).2.2 (px_ta (!sw) + 11) = mm_I 0 q1.2.2.2.2.2.2.2.2.2.2.2.2.2.2.1 := by
  cases sw
  · exact px_at (i := 68) (by decide) rfl
  · exact px_at (i := 51) (by decide) rfl
theorem xa_q1_stepRows {i : Int32} : mm_gI (px_h z E M (px_l sw c2 w2 T D S S1 K R C W U q q1 B0 B1 B2 B3)) (px_ta (!sw) + 11) 0 9 i = aG q1.2.2.2.2.2.2.2.2.2.2.2.2.2.2.1 i := aG_0 pk_q1_stepRows
theorem xb_q1_stepRows {i x : Int32} : mm_sI (px_h z E M (px_l sw c2 w2 T D S S1 K R C W U q q1 B0 B1 B2 B3)) (px_ta (!sw) + 11) 0 i x = aS q1.2.2.2.2.2.2.2.2.2.2.2.2.2.2.1 i x (fun l => px_h z E M (px_l sw c2 w2 T D S S1 K R C W U q (q1.1, q1.2.1, q1.2.2.1, q1.2.2.2.1, q1.2.2.2.2.1, q1.2.2.2.2.2.1, q1.2.2.2.2.2.2.1, q1.2.2.2.2.2.2.2.1, q1.2.2.2.2.2.2.2.2.1, q1.2.2.2.2.2.2.2.2.2.1, q1.2.2.2.2.2.2.2.2.2.2.1, q1.2.2.2.2.2.2.2.2.2.2.2.1, q1.2.2.2.2.2.2.2.2.2.2.2.2.1, q1.2.2.2.2.2.2.2.2.2.2.2.2.2.1, l, q1.2.2.2.2.2.2.2.2.2.2.2.2.2.2.2.1, q1.2.2.2.2.2.2.2.2.2.2.2.2.2.2.2.2.1, q1.2.2.2.2.2.2.2.2.2.2.2.2.2.2.2.2.2.1, q1.2.2.2.2.2.2.2.2.2.2.2.2.2.2.2.2.2.2.1, q1.2.2.2.2.2.2.2.2.2.2.2.2.2.2.2.2.2.2.2.1, q1.2.2.2.2.2.2.2.2.2.2.2.2.2.2.2.2.2.2.2.2.1, q1.2.2.2.2.2.2.2.2.2.2.2.2.2.2.2.2.2.2.2.2.2.1, q1.2.2.2.2.2.2.2.2.2.2.2.2.2.2.2.2.2.2.2.2.2.2) B0 B1 B2 B3)) := aS_I pk_q1_stepRows (fun l => (by cases sw <;> first | exact px_set (i := 68) (by decide) px_ll | exact px_set (i := 51) (by decide) px_ll))
theorem xn_q1_stepRows : mm_gN (px_h z E M (px_l sw c2 w2 T D S S1 K R C W U q q1 B0 B1 B2 B3)) (px_ta (!sw) + 11) = some (nI (q1.2.2.2.2.2.2.2.2.2.2.2.2.2.2.1).length) := aN_I pk_q1_stepRows
theorem pk_q1_stepCounts : (px_h z E M (px_l sw c2 w2 T D S S1 K R C W U q q1 B0 B1 B2 B3)).2.2 (px_ta (!sw) + 12) = mm_I 0 q1.2.2.2.2.2.2.2.2.2.2.2.2.2.2.2.1 := by
  cases sw
  · exact px_at (i := 69) (by decide) rfl
  · exact px_at (i := 52) (by decide) rfl
theorem xa_q1_stepCounts {i : Int32} : mm_gI (px_h z E M (px_l sw c2 w2 T D S S1 K R C W U q q1 B0 B1 B2 B3)) (px_ta (!sw) + 12) 0 9 i = aG q1.2.2.2.2.2.2.2.2.2.2.2.2.2.2.2.1 i := aG_0 pk_q1_stepCounts
theorem xb_q1_stepCounts {i x : Int32} : mm_sI (px_h z E M (px_l sw c2 w2 T D S S1 K R C W U q q1 B0 B1 B2 B3)) (px_ta (!sw) + 12) 0 i x = aS q1.2.2.2.2.2.2.2.2.2.2.2.2.2.2.2.1 i x (fun l => px_h z E M (px_l sw c2 w2 T D S S1 K R C W U q (q1.1, q1.2.1, q1.2.2.1, q1.2.2.2.1, q1.2.2.2.2.1, q1.2.2.2.2.2.1, q1.2.2.2.2.2.2.1, q1.2.2.2.2.2.2.2.1, q1.2.2.2.2.2.2.2.2.1, q1.2.2.2.2.2.2.2.2.2.1, q1.2.2.2.2.2.2.2.2.2.2.1, q1.2.2.2.2.2.2.2.2.2.2.2.1, q1.2.2.2.2.2.2.2.2.2.2.2.2.1, q1.2.2.2.2.2.2.2.2.2.2.2.2.2.1, q1.2.2.2.2.2.2.2.2.2.2.2.2.2.2.1, l, q1.2.2.2.2.2.2.2.2.2.2.2.2.2.2.2.2.1, q1.2.2.2.2.2.2.2.2.2.2.2.2.2.2.2.2.2.1, q1.2.2.2.2.2.2.2.2.2.2.2.2.2.2.2.2.2.2.1, q1.2.2.2.2.2.2.2.2.2.2.2.2.2.2.2.2.2.2.2.1, q1.2.2.2.2.2.2.2.2.2.2.2.2.2.2.2.2.2.2.2.2.1, q1.2.2.2.2.2.2.2.2.2.2.2.2.2.2.2.2.2.2.2.2.2.1, q1.2.2.2.2.2.2.2.2.2.2.2.2.2.2.2.2.2.2.2.2.2.2) B0 B1 B2 B3)) := aS_I pk_q1_stepCounts (fun l => (by cases sw <;> first | exact px_set (i := 69) (by decide) px_ll | exact px_set (i := 52) (by decide) px_ll))
theorem xn_q1_stepCounts : mm_gN (px_h z E M (px_l sw c2 w2 T D S S1 K R C W U q q1 B0 B1 B2 B3)) (px_ta (!sw) + 12) = some (nI (q1.2.2.2.2.2.2.2.2.2.2.2.2.2.2.2.1).length) := aN_I pk_q1_stepCounts
theorem pk_q1_gusts : (px_h z E M (px_l sw c2 w2 T D S S1 K R C W U q q1 B0 B1 B2 B3)).2.2 (px_ta (!sw) + 13) = mm_I 0 q1.2.2.2.2.2.2.2.2.2.2.2.2.2.2.2.2.2.1 := by
  cases sw
  · exact px_at (i := 70) (by decide) rfl
  · exact px_at (i := 53) (by decide) rfl
theorem xa_q1_gusts {i : Int32} : mm_gI (px_h z E M (px_l sw c2 w2 T D S S1 K R C W U q q1 B0 B1 B2 B3)) (px_ta (!sw) + 13) 0 9 i = aG q1.2.2.2.2.2.2.2.2.2.2.2.2.2.2.2.2.2.1 i := aG_0 pk_q1_gusts
theorem xb_q1_gusts {i x : Int32} : mm_sI (px_h z E M (px_l sw c2 w2 T D S S1 K R C W U q q1 B0 B1 B2 B3)) (px_ta (!sw) + 13) 0 i x = aS q1.2.2.2.2.2.2.2.2.2.2.2.2.2.2.2.2.2.1 i x (fun l => px_h z E M (px_l sw c2 w2 T D S S1 K R C W U q (q1.1, q1.2.1, q1.2.2.1, q1.2.2.2.1, q1.2.2.2.2.1, q1.2.2.2.2.2.1, q1.2.2.2.2.2.2.1, q1.2.2.2.2.2.2.2.1, q1.2.2.2.2.2.2.2.2.1, q1.2.2.2.2.2.2.2.2.2.1, q1.2.2.2.2.2.2.2.2.2.2.1, q1.2.2.2.2.2.2.2.2.2.2.2.1, q1.2.2.2.2.2.2.2.2.2.2.2.2.1, q1.2.2.2.2.2.2.2.2.2.2.2.2.2.1, q1.2.2.2.2.2.2.2.2.2.2.2.2.2.2.1, q1.2.2.2.2.2.2.2.2.2.2.2.2.2.2.2.1, q1.2.2.2.2.2.2.2.2.2.2.2.2.2.2.2.2.1, l, q1.2.2.2.2.2.2.2.2.2.2.2.2.2.2.2.2.2.2.1, q1.2.2.2.2.2.2.2.2.2.2.2.2.2.2.2.2.2.2.2.1, q1.2.2.2.2.2.2.2.2.2.2.2.2.2.2.2.2.2.2.2.2.1, q1.2.2.2.2.2.2.2.2.2.2.2.2.2.2.2.2.2.2.2.2.2.1, q1.2.2.2.2.2.2.2.2.2.2.2.2.2.2.2.2.2.2.2.2.2.2) B0 B1 B2 B3)) := aS_I pk_q1_gusts (fun l => (by cases sw <;> first | exact px_set (i := 70) (by decide) px_ll | exact px_set (i := 53) (by decide) px_ll))
theorem xn_q1_gusts : mm_gN (px_h z E M (px_l sw c2 w2 T D S S1 K R C W U q q1 B0 B1 B2 B3)) (px_ta (!sw) + 13) = some (nI (q1.2.2.2.2.2.2.2.2.2.2.2.2.2.2.2.2.2.1).length) := aN_I pk_q1_gusts
theorem pk_q1l : (px_h z E M (px_l sw c2 w2 T D S S1 K R C W U q q1 B0 B1 B2 B3)).2.2 (px_ta (!sw) + 14) = mm_O 7 [.ref (px_ta (!sw) + 15), .int q1.2.2.2.2.2.2.2.2.2.2.2.2.2.2.2.2.2.2.2.2.1, .ref (px_ta (!sw) + 16), .int q1.2.2.2.2.2.2.2.2.2.2.2.2.2.2.2.2.2.2.2.2.2.2] := by
  cases sw
  · exact px_at (i := 71) (by decide) rfl
  · exact px_at (i := 54) (by decide) rfl
theorem xc_q1l : mm_cls (px_h z E M (px_l sw c2 w2 T D S S1 K R C W U q q1 B0 B1 B2 B3)) (px_ta (!sw) + 14) = 7 := aF_c pk_q1l
theorem xg_q1l_0 : mm_gF (px_h z E M (px_l sw c2 w2 T D S S1 K R C W U q q1 B0 B1 B2 B3)) (px_ta (!sw) + 14) 7 0 = some (.ref (px_ta (!sw) + 15)) := aF_g pk_q1l (by decide) rfl
theorem xg_q1l_1 : mm_gF (px_h z E M (px_l sw c2 w2 T D S S1 K R C W U q q1 B0 B1 B2 B3)) (px_ta (!sw) + 14) 7 1 = some (.int q1.2.2.2.2.2.2.2.2.2.2.2.2.2.2.2.2.2.2.2.2.1) := aF_g pk_q1l (by decide) rfl
theorem xs_q1l_1 {x : Int32} : mm_sF (mp_P fx) (px_h z E M (px_l sw c2 w2 T D S S1 K R C W U q q1 B0 B1 B2 B3)) (px_ta (!sw) + 14) 7 1 (.int x) = some (px_h z E M (px_l sw c2 w2 T D S S1 K R C W U q (q1.1, q1.2.1, q1.2.2.1, q1.2.2.2.1, q1.2.2.2.2.1, q1.2.2.2.2.2.1, q1.2.2.2.2.2.2.1, q1.2.2.2.2.2.2.2.1, q1.2.2.2.2.2.2.2.2.1, q1.2.2.2.2.2.2.2.2.2.1, q1.2.2.2.2.2.2.2.2.2.2.1, q1.2.2.2.2.2.2.2.2.2.2.2.1, q1.2.2.2.2.2.2.2.2.2.2.2.2.1, q1.2.2.2.2.2.2.2.2.2.2.2.2.2.1, q1.2.2.2.2.2.2.2.2.2.2.2.2.2.2.1, q1.2.2.2.2.2.2.2.2.2.2.2.2.2.2.2.1, q1.2.2.2.2.2.2.2.2.2.2.2.2.2.2.2.2.1, q1.2.2.2.2.2.2.2.2.2.2.2.2.2.2.2.2.2.1, q1.2.2.2.2.2.2.2.2.2.2.2.2.2.2.2.2.2.2.1, q1.2.2.2.2.2.2.2.2.2.2.2.2.2.2.2.2.2.2.2.1, x, q1.2.2.2.2.2.2.2.2.2.2.2.2.2.2.2.2.2.2.2.2.2.1, q1.2.2.2.2.2.2.2.2.2.2.2.2.2.2.2.2.2.2.2.2.2.2) B0 B1 B2 B3)) := aF_s pk_q1l rfl (by cases sw <;> first | exact px_set (i := 71) (by decide) px_ll | exact px_set (i := 54) (by decide) px_ll)
theorem xg_q1l_2 : mm_gF (px_h z E M (px_l sw c2 w2 T D S S1 K R C W U q q1 B0 B1 B2 B3)) (px_ta (!sw) + 14) 7 2 = some (.ref (px_ta (!sw) + 16)) := aF_g pk_q1l (by decide) rfl
theorem xg_q1l_3 : mm_gF (px_h z E M (px_l sw c2 w2 T D S S1 K R C W U q q1 B0 B1 B2 B3)) (px_ta (!sw) + 14) 7 3 = some (.int q1.2.2.2.2.2.2.2.2.2.2.2.2.2.2.2.2.2.2.2.2.2.2) := aF_g pk_q1l (by decide) rfl
theorem xs_q1l_3 {x : Int32} : mm_sF (mp_P fx) (px_h z E M (px_l sw c2 w2 T D S S1 K R C W U q q1 B0 B1 B2 B3)) (px_ta (!sw) + 14) 7 3 (.int x) = some (px_h z E M (px_l sw c2 w2 T D S S1 K R C W U q (q1.1, q1.2.1, q1.2.2.1, q1.2.2.2.1, q1.2.2.2.2.1, q1.2.2.2.2.2.1, q1.2.2.2.2.2.2.1, q1.2.2.2.2.2.2.2.1, q1.2.2.2.2.2.2.2.2.1, q1.2.2.2.2.2.2.2.2.2.1, q1.2.2.2.2.2.2.2.2.2.2.1, q1.2.2.2.2.2.2.2.2.2.2.2.1, q1.2.2.2.2.2.2.2.2.2.2.2.2.1, q1.2.2.2.2.2.2.2.2.2.2.2.2.2.1, q1.2.2.2.2.2.2.2.2.2.2.2.2.2.2.1, q1.2.2.2.2.2.2.2.2.2.2.2.2.2.2.2.1, q1.2.2.2.2.2.2.2.2.2.2.2.2.2.2.2.2.1, q1.2.2.2.2.2.2.2.2.2.2.2.2.2.2.2.2.2.1, q1.2.2.2.2.2.2.2.2.2.2.2.2.2.2.2.2.2.2.1, q1.2.2.2.2.2.2.2.2.2.2.2.2.2.2.2.2.2.2.2.1, q1.2.2.2.2.2.2.2.2.2.2.2.2.2.2.2.2.2.2.2.2.1, q1.2.2.2.2.2.2.2.2.2.2.2.2.2.2.2.2.2.2.2.2.2.1, x) B0 B1 B2 B3)) := aF_s pk_q1l rfl (by cases sw <;> first | exact px_set (i := 71) (by decide) px_ll | exact px_set (i := 54) (by decide) px_ll)
theorem pk_q1_parts : (px_h z E M (px_l sw c2 w2 T D S S1 K R C W U q q1 B0 B1 B2 B3)).2.2 (px_ta (!sw) + 15) = mm_I 0 q1.2.2.2.2.2.2.2.2.2.2.2.2.2.2.2.2.2.2.2.1 := by
  cases sw
  · exact px_at (i := 72) (by decide) rfl
  · exact px_at (i := 55) (by decide) rfl
theorem xa_q1_parts {i : Int32} : mm_gI (px_h z E M (px_l sw c2 w2 T D S S1 K R C W U q q1 B0 B1 B2 B3)) (px_ta (!sw) + 15) 0 9 i = aG q1.2.2.2.2.2.2.2.2.2.2.2.2.2.2.2.2.2.2.2.1 i := aG_0 pk_q1_parts
theorem xb_q1_parts {i x : Int32} : mm_sI (px_h z E M (px_l sw c2 w2 T D S S1 K R C W U q q1 B0 B1 B2 B3)) (px_ta (!sw) + 15) 0 i x = aS q1.2.2.2.2.2.2.2.2.2.2.2.2.2.2.2.2.2.2.2.1 i x (fun l => px_h z E M (px_l sw c2 w2 T D S S1 K R C W U q (q1.1, q1.2.1, q1.2.2.1, q1.2.2.2.1, q1.2.2.2.2.1, q1.2.2.2.2.2.1, q1.2.2.2.2.2.2.1, q1.2.2.2.2.2.2.2.1, q1.2.2.2.2.2.2.2.2.1, q1.2.2.2.2.2.2.2.2.2.1, q1.2.2.2.2.2.2.2.2.2.2.1, q1.2.2.2.2.2.2.2.2.2.2.2.1, q1.2.2.2.2.2.2.2.2.2.2.2.2.1, q1.2.2.2.2.2.2.2.2.2.2.2.2.2.1, q1.2.2.2.2.2.2.2.2.2.2.2.2.2.2.1, q1.2.2.2.2.2.2.2.2.2.2.2.2.2.2.2.1, q1.2.2.2.2.2.2.2.2.2.2.2.2.2.2.2.2.1, q1.2.2.2.2.2.2.2.2.2.2.2.2.2.2.2.2.2.1, q1.2.2.2.2.2.2.2.2.2.2.2.2.2.2.2.2.2.2.1, l, q1.2.2.2.2.2.2.2.2.2.2.2.2.2.2.2.2.2.2.2.2.1, q1.2.2.2.2.2.2.2.2.2.2.2.2.2.2.2.2.2.2.2.2.2.1, q1.2.2.2.2.2.2.2.2.2.2.2.2.2.2.2.2.2.2.2.2.2.2) B0 B1 B2 B3)) := aS_I pk_q1_parts (fun l => (by cases sw <;> first | exact px_set (i := 72) (by decide) px_ll | exact px_set (i := 55) (by decide) px_ll))
theorem xn_q1_parts : mm_gN (px_h z E M (px_l sw c2 w2 T D S S1 K R C W U q q1 B0 B1 B2 B3)) (px_ta (!sw) + 15) = some (nI (q1.2.2.2.2.2.2.2.2.2.2.2.2.2.2.2.2.2.2.2.1).length) := aN_I pk_q1_parts
theorem pk_q1_stack : (px_h z E M (px_l sw c2 w2 T D S S1 K R C W U q q1 B0 B1 B2 B3)).2.2 (px_ta (!sw) + 16) = mm_I 0 q1.2.2.2.2.2.2.2.2.2.2.2.2.2.2.2.2.2.2.2.2.2.1 := by
  cases sw
  · exact px_at (i := 73) (by decide) rfl
  · exact px_at (i := 56) (by decide) rfl
theorem xa_q1_stack {i : Int32} : mm_gI (px_h z E M (px_l sw c2 w2 T D S S1 K R C W U q q1 B0 B1 B2 B3)) (px_ta (!sw) + 16) 0 9 i = aG q1.2.2.2.2.2.2.2.2.2.2.2.2.2.2.2.2.2.2.2.2.2.1 i := aG_0 pk_q1_stack
theorem xb_q1_stack {i x : Int32} : mm_sI (px_h z E M (px_l sw c2 w2 T D S S1 K R C W U q q1 B0 B1 B2 B3)) (px_ta (!sw) + 16) 0 i x = aS q1.2.2.2.2.2.2.2.2.2.2.2.2.2.2.2.2.2.2.2.2.2.1 i x (fun l => px_h z E M (px_l sw c2 w2 T D S S1 K R C W U q (q1.1, q1.2.1, q1.2.2.1, q1.2.2.2.1, q1.2.2.2.2.1, q1.2.2.2.2.2.1, q1.2.2.2.2.2.2.1, q1.2.2.2.2.2.2.2.1, q1.2.2.2.2.2.2.2.2.1, q1.2.2.2.2.2.2.2.2.2.1, q1.2.2.2.2.2.2.2.2.2.2.1, q1.2.2.2.2.2.2.2.2.2.2.2.1, q1.2.2.2.2.2.2.2.2.2.2.2.2.1, q1.2.2.2.2.2.2.2.2.2.2.2.2.2.1, q1.2.2.2.2.2.2.2.2.2.2.2.2.2.2.1, q1.2.2.2.2.2.2.2.2.2.2.2.2.2.2.2.1, q1.2.2.2.2.2.2.2.2.2.2.2.2.2.2.2.2.1, q1.2.2.2.2.2.2.2.2.2.2.2.2.2.2.2.2.2.1, q1.2.2.2.2.2.2.2.2.2.2.2.2.2.2.2.2.2.2.1, q1.2.2.2.2.2.2.2.2.2.2.2.2.2.2.2.2.2.2.2.1, q1.2.2.2.2.2.2.2.2.2.2.2.2.2.2.2.2.2.2.2.2.1, l, q1.2.2.2.2.2.2.2.2.2.2.2.2.2.2.2.2.2.2.2.2.2.2) B0 B1 B2 B3)) := aS_I pk_q1_stack (fun l => (by cases sw <;> first | exact px_set (i := 73) (by decide) px_ll | exact px_set (i := 56) (by decide) px_ll))
theorem xn_q1_stack : mm_gN (px_h z E M (px_l sw c2 w2 T D S S1 K R C W U q q1 B0 B1 B2 B3)) (px_ta (!sw) + 16) = some (nI (q1.2.2.2.2.2.2.2.2.2.2.2.2.2.2.2.2.2.2.2.2.2.1).length) := aN_I pk_q1_stack
end PX
