/-! printed by wip/whole/gen41.py: the cells of the model, as a function of groups of values -/
abbrev pm_V : Type := Int32 × Int32 × Int64 × Int32
abbrev pm_T : Type := Int32 × List Int32 × Int32 × Int32 × Int32 × Int32 × Int64 × Int32 × Int32
abbrev pm_Q : Type := List Int32 × List Int64 × List Int64 × List Int64 × List Int32 × List Int32 × List Int32 × List Int32 × List Int32 × List Int32 × List Int32 × List Int32 × List Int32 × List Int32 × List Int32
abbrev pm_O : Type := List Int32 × List Int32
abbrev pm_E : Type := List Int32 × List Int32 × List Int32 × List Int32 × List Int32 × List Int32 × List Int32 × List Int32 × List Int32 × List Int32
abbrev pm_B : Type := List Int32 × List Int32 × List Int32 × List Int32 × List Int32 × List Int32 × List Int32 × List Int32 × List Int32 × List Int32
abbrev pm_S : Type := List Int32 × List Int32 × List Int32 × List Int32 × List Int32 × List Int32 × Int32 × Int32
abbrev pm_R : Type := List Int32 × Int32 × List Int32 × List Int32 × Int32 × List Int32 × Int32 × List Int32 × List Int32
abbrev pm_W : Type := List Int32 × List Int32 × Int32 × List Int32 × List Int32 × Int64
def pm_l (V : pm_V) (T : pm_T) (Q : pm_Q) (O : pm_O) (E : pm_E) (B : pm_B) (S : pm_S) (R : pm_R) (W : pm_W) : List mm_C :=
  [mm_O 10 [.int V.1, .int T.1, .ref 150, .int T.2.2.1, .int T.2.2.2.1, .int T.2.2.2.2.1, .int T.2.2.2.2.2.1, .long T.2.2.2.2.2.2.1, .int T.2.2.2.2.2.2.2.1, .int T.2.2.2.2.2.2.2.2, .ref 151, .ref 152, .ref 153, .ref 154, .ref 155, .ref 156, .ref 157, .ref 158, .ref 159, .ref 160, .ref 161, .ref 162, .ref 163, .ref 164, .ref 165, .int V.2.2.2, .ref 166, .ref 167, .ref 168, .ref 169, .ref 170, .ref 171, .ref 172, .ref 173, .ref 174, .ref 175, .ref 176, .ref 177, .int V.2.1, .long V.2.2.1, .ref 178, .ref 179, .ref 180, .ref 181, .ref 182, .ref 183, .ref 184, .ref 185, .ref 186, .ref 187, .ref 188, .ref 189, .ref 190, .ref 191, .ref 192, .ref 193, .int S.2.2.2.2.2.2.1, .int S.2.2.2.2.2.2.2, .ref 194, .int R.2.1, .ref 195, .ref 196, .int R.2.2.2.2.1, .ref 197, .int R.2.2.2.2.2.2.1, .ref 198, .ref 199, .ref 200, .ref 201, .int W.2.2.1, .ref 202, .ref 203, .long W.2.2.2.2.2],
   mm_I 0 T.2.1,
   mm_I 0 Q.1,
   mm_L Q.2.1,
   mm_L Q.2.2.1,
   mm_L Q.2.2.2.1,
   mm_I 0 Q.2.2.2.2.1,
   mm_I 0 Q.2.2.2.2.2.1,
   mm_I 0 Q.2.2.2.2.2.2.1,
   mm_I 0 Q.2.2.2.2.2.2.2.1,
   mm_I 0 Q.2.2.2.2.2.2.2.2.1,
   mm_I 0 Q.2.2.2.2.2.2.2.2.2.1,
   mm_I 0 Q.2.2.2.2.2.2.2.2.2.2.1,
   mm_I 0 Q.2.2.2.2.2.2.2.2.2.2.2.1,
   mm_I 0 Q.2.2.2.2.2.2.2.2.2.2.2.2.1,
   mm_I 0 Q.2.2.2.2.2.2.2.2.2.2.2.2.2.1,
   mm_I 0 Q.2.2.2.2.2.2.2.2.2.2.2.2.2.2,
   mm_I 0 O.1,
   mm_I 2 O.2,
   mm_I 0 E.1,
   mm_I 0 E.2.1,
   mm_I 0 E.2.2.1,
   mm_I 0 E.2.2.2.1,
   mm_I 0 E.2.2.2.2.1,
   mm_I 0 E.2.2.2.2.2.1,
   mm_I 0 E.2.2.2.2.2.2.1,
   mm_I 0 E.2.2.2.2.2.2.2.1,
   mm_I 0 E.2.2.2.2.2.2.2.2.1,
   mm_I 0 E.2.2.2.2.2.2.2.2.2,
   mm_I 0 B.1,
   mm_I 0 B.2.1,
   mm_I 0 B.2.2.1,
   mm_I 0 B.2.2.2.1,
   mm_I 0 B.2.2.2.2.1,
   mm_I 0 B.2.2.2.2.2.1,
   mm_I 0 B.2.2.2.2.2.2.1,
   mm_I 0 B.2.2.2.2.2.2.2.1,
   mm_I 0 B.2.2.2.2.2.2.2.2.1,
   mm_I 2 B.2.2.2.2.2.2.2.2.2,
   mm_I 0 S.1,
   mm_I 0 S.2.1,
   mm_I 0 S.2.2.1,
   mm_I 0 S.2.2.2.1,
   mm_I 0 S.2.2.2.2.1,
   mm_I 2 S.2.2.2.2.2.1,
   mm_I 0 R.1,
   mm_I 0 R.2.2.1,
   mm_I 0 R.2.2.2.1,
   mm_I 0 R.2.2.2.2.2.1,
   mm_I 0 R.2.2.2.2.2.2.2.1,
   mm_I 0 R.2.2.2.2.2.2.2.2,
   mm_I 0 W.1,
   mm_I 0 W.2.1,
   mm_I 0 W.2.2.2.1,
   mm_I 0 W.2.2.2.2.1]
/-- the heap: what stands ahead, the model's cells, what stands behind -/
def pm_f (X Y : Nat → mm_C) (L : List mm_C) : Nat → mm_C := fun j => if j < 149 then X j else if j < 204 then L.getD (j - 149) (mm_I 0 []) else Y j
def pm_h (z : Nat) (X Y : Nat → mm_C) (L : List mm_C) : mm_H := (205, z, pm_f X Y L)
theorem pm_at {z : Nat} {X Y : Nat → mm_C} {L : List mm_C} {i : Nat} {c : mm_C} (hi : i < 55) (hc : L[i]? = some c) : (pm_h z X Y L).2.2 (149 + i) = c := by
  show pm_f X Y L (149 + i) = c
  unfold pm_f
  rw [if_neg (by omega), if_pos (by omega), show 149 + i - 149 = i by omega, List.getD, hc]; rfl
theorem pm_set {z : Nat} {X Y : Nat → mm_C} {L : List mm_C} {i : Nat} {c : mm_C} (hi : i < 55) (hL : L.length = 55) : mm_hs (pm_h z X Y L) (149 + i) c = pm_h z X Y (L.set i c) := by
  unfold mm_hs pm_h
  congr 2
  funext j
  show (if j = 149 + i then c else pm_f X Y L j) = pm_f X Y (L.set i c) j
  unfold pm_f
  by_cases hj : j = 149 + i
  · rw [if_pos hj, if_neg (by omega), if_pos (by omega), hj, show 149 + i - 149 = i by omega, List.getD, List.getElem?_set_self (by omega)]; rfl
  · rw [if_neg hj]
    by_cases h1 : j < 149
    · rw [if_pos h1, if_pos h1]
    · rw [if_neg h1, if_neg h1]
      by_cases h2 : j < 204
      · rw [if_pos h2, if_pos h2, List.getD, List.getD, List.getElem?_set_ne (by omega)]
      · rw [if_neg h2, if_neg h2]
section PM
variable {fx : List Value → mm_H → Option (List Value × mm_H)} {z : Nat} {X Y : Nat → mm_C} {V : pm_V} {T : pm_T} {Q : pm_Q} {O : pm_O} {E : pm_E} {B : pm_B} {S : pm_S} {R : pm_R} {W : pm_W}
theorem pm_ll : (pm_l V T Q O E B S R W).length = 55 := rfl
theorem mk_o : (pm_h z X Y (pm_l V T Q O E B S R W)).2.2 149 = mm_O 10 [.int V.1, .int T.1, .ref 150, .int T.2.2.1, .int T.2.2.2.1, .int T.2.2.2.2.1, .int T.2.2.2.2.2.1, .long T.2.2.2.2.2.2.1, .int T.2.2.2.2.2.2.2.1, .int T.2.2.2.2.2.2.2.2, .ref 151, .ref 152, .ref 153, .ref 154, .ref 155, .ref 156, .ref 157, .ref 158, .ref 159, .ref 160, .ref 161, .ref 162, .ref 163, .ref 164, .ref 165, .int V.2.2.2, .ref 166, .ref 167, .ref 168, .ref 169, .ref 170, .ref 171, .ref 172, .ref 173, .ref 174, .ref 175, .ref 176, .ref 177, .int V.2.1, .long V.2.2.1, .ref 178, .ref 179, .ref 180, .ref 181, .ref 182, .ref 183, .ref 184, .ref 185, .ref 186, .ref 187, .ref 188, .ref 189, .ref 190, .ref 191, .ref 192, .ref 193, .int S.2.2.2.2.2.2.1, .int S.2.2.2.2.2.2.2, .ref 194, .int R.2.1, .ref 195, .ref 196, .int R.2.2.2.2.1, .ref 197, .int R.2.2.2.2.2.2.1, .ref 198, .ref 199, .ref 200, .ref 201, .int W.2.2.1, .ref 202, .ref 203, .long W.2.2.2.2.2] := pm_at (i := 0) (by decide) rfl
theorem mc_o : mm_cls (pm_h z X Y (pm_l V T Q O E B S R W)) 149 = 10 := aF_c mk_o
theorem mg_thrown : mm_gF (pm_h z X Y (pm_l V T Q O E B S R W)) 149 10 0 = some (.int V.1) := aF_g mk_o (by decide) rfl
theorem mf_thrown {x : Int32} : mm_sF (mp_P fx) (pm_h z X Y (pm_l V T Q O E B S R W)) 149 10 0 (.int x) = some (pm_h z X Y (pm_l (x, V.2.1, V.2.2.1, V.2.2.2) T Q O E B S R W)) := aF_s mk_o rfl (pm_set (i := 0) (by decide) pm_ll)
theorem mg_taped : mm_gF (pm_h z X Y (pm_l V T Q O E B S R W)) 149 10 1 = some (.int T.1) := aF_g mk_o (by decide) rfl
theorem mf_taped {x : Int32} : mm_sF (mp_P fx) (pm_h z X Y (pm_l V T Q O E B S R W)) 149 10 1 (.int x) = some (pm_h z X Y (pm_l V (x, T.2.1, T.2.2.1, T.2.2.2.1, T.2.2.2.2.1, T.2.2.2.2.2.1, T.2.2.2.2.2.2.1, T.2.2.2.2.2.2.2.1, T.2.2.2.2.2.2.2.2) Q O E B S R W)) := aF_s mk_o rfl (pm_set (i := 0) (by decide) pm_ll)
theorem mg_tape : mm_gF (pm_h z X Y (pm_l V T Q O E B S R W)) 149 10 2 = some (.ref 150) := aF_g mk_o (by decide) rfl
theorem mk_tape : (pm_h z X Y (pm_l V T Q O E B S R W)).2.2 150 = mm_I 0 T.2.1 := pm_at (i := 1) (by decide) rfl
theorem ma_tape {i : Int32} : mm_gI (pm_h z X Y (pm_l V T Q O E B S R W)) 150 0 9 i = aG T.2.1 i := aG_0 mk_tape
theorem mb_tape {i x : Int32} : mm_sI (pm_h z X Y (pm_l V T Q O E B S R W)) 150 0 i x = aS T.2.1 i x (fun l => pm_h z X Y (pm_l V (T.1, l, T.2.2.1, T.2.2.2.1, T.2.2.2.2.1, T.2.2.2.2.2.1, T.2.2.2.2.2.2.1, T.2.2.2.2.2.2.2.1, T.2.2.2.2.2.2.2.2) Q O E B S R W)) := aS_I mk_tape (fun l => pm_set (i := 1) (by decide) pm_ll)
theorem mn_tape : mm_gN (pm_h z X Y (pm_l V T Q O E B S R W)) 150 = some (nI (T.2.1).length) := aN_I mk_tape
theorem mg_size : mm_gF (pm_h z X Y (pm_l V T Q O E B S R W)) 149 10 3 = some (.int T.2.2.1) := aF_g mk_o (by decide) rfl
theorem mf_size {x : Int32} : mm_sF (mp_P fx) (pm_h z X Y (pm_l V T Q O E B S R W)) 149 10 3 (.int x) = some (pm_h z X Y (pm_l V (T.1, T.2.1, x, T.2.2.2.1, T.2.2.2.2.1, T.2.2.2.2.2.1, T.2.2.2.2.2.2.1, T.2.2.2.2.2.2.2.1, T.2.2.2.2.2.2.2.2) Q O E B S R W)) := aF_s mk_o rfl (pm_set (i := 0) (by decide) pm_ll)
theorem mg_place : mm_gF (pm_h z X Y (pm_l V T Q O E B S R W)) 149 10 4 = some (.int T.2.2.2.1) := aF_g mk_o (by decide) rfl
theorem mf_place {x : Int32} : mm_sF (mp_P fx) (pm_h z X Y (pm_l V T Q O E B S R W)) 149 10 4 (.int x) = some (pm_h z X Y (pm_l V (T.1, T.2.1, T.2.2.1, x, T.2.2.2.2.1, T.2.2.2.2.2.1, T.2.2.2.2.2.2.1, T.2.2.2.2.2.2.2.1, T.2.2.2.2.2.2.2.2) Q O E B S R W)) := aF_s mk_o rfl (pm_set (i := 0) (by decide) pm_ll)
theorem mg_begin : mm_gF (pm_h z X Y (pm_l V T Q O E B S R W)) 149 10 5 = some (.int T.2.2.2.2.1) := aF_g mk_o (by decide) rfl
theorem mf_begin {x : Int32} : mm_sF (mp_P fx) (pm_h z X Y (pm_l V T Q O E B S R W)) 149 10 5 (.int x) = some (pm_h z X Y (pm_l V (T.1, T.2.1, T.2.2.1, T.2.2.2.1, x, T.2.2.2.2.2.1, T.2.2.2.2.2.2.1, T.2.2.2.2.2.2.2.1, T.2.2.2.2.2.2.2.2) Q O E B S R W)) := aF_s mk_o rfl (pm_set (i := 0) (by decide) pm_ll)
theorem mg_token : mm_gF (pm_h z X Y (pm_l V T Q O E B S R W)) 149 10 6 = some (.int T.2.2.2.2.2.1) := aF_g mk_o (by decide) rfl
theorem mf_token {x : Int32} : mm_sF (mp_P fx) (pm_h z X Y (pm_l V T Q O E B S R W)) 149 10 6 (.int x) = some (pm_h z X Y (pm_l V (T.1, T.2.1, T.2.2.1, T.2.2.2.1, T.2.2.2.2.1, x, T.2.2.2.2.2.2.1, T.2.2.2.2.2.2.2.1, T.2.2.2.2.2.2.2.2) Q O E B S R W)) := aF_s mk_o rfl (pm_set (i := 0) (by decide) pm_ll)
theorem mg_word : mm_gF (pm_h z X Y (pm_l V T Q O E B S R W)) 149 10 7 = some (.long T.2.2.2.2.2.2.1) := aF_g mk_o (by decide) rfl
theorem mf_word {x : Int64} : mm_sF (mp_P fx) (pm_h z X Y (pm_l V T Q O E B S R W)) 149 10 7 (.long x) = some (pm_h z X Y (pm_l V (T.1, T.2.1, T.2.2.1, T.2.2.2.1, T.2.2.2.2.1, T.2.2.2.2.2.1, x, T.2.2.2.2.2.2.2.1, T.2.2.2.2.2.2.2.2) Q O E B S R W)) := aF_s mk_o rfl (pm_set (i := 0) (by decide) pm_ll)
theorem mg_told : mm_gF (pm_h z X Y (pm_l V T Q O E B S R W)) 149 10 8 = some (.int T.2.2.2.2.2.2.2.1) := aF_g mk_o (by decide) rfl
theorem mf_told {x : Int32} : mm_sF (mp_P fx) (pm_h z X Y (pm_l V T Q O E B S R W)) 149 10 8 (.int x) = some (pm_h z X Y (pm_l V (T.1, T.2.1, T.2.2.1, T.2.2.2.1, T.2.2.2.2.1, T.2.2.2.2.2.1, T.2.2.2.2.2.2.1, x, T.2.2.2.2.2.2.2.2) Q O E B S R W)) := aF_s mk_o rfl (pm_set (i := 0) (by decide) pm_ll)
theorem mg_wrong : mm_gF (pm_h z X Y (pm_l V T Q O E B S R W)) 149 10 9 = some (.int T.2.2.2.2.2.2.2.2) := aF_g mk_o (by decide) rfl
theorem mf_wrong {x : Int32} : mm_sF (mp_P fx) (pm_h z X Y (pm_l V T Q O E B S R W)) 149 10 9 (.int x) = some (pm_h z X Y (pm_l V (T.1, T.2.1, T.2.2.1, T.2.2.2.1, T.2.2.2.2.1, T.2.2.2.2.2.1, T.2.2.2.2.2.2.1, T.2.2.2.2.2.2.2.1, x) Q O E B S R W)) := aF_s mk_o rfl (pm_set (i := 0) (by decide) pm_ll)
theorem mg_square : mm_gF (pm_h z X Y (pm_l V T Q O E B S R W)) 149 10 10 = some (.ref 151) := aF_g mk_o (by decide) rfl
theorem mk_square : (pm_h z X Y (pm_l V T Q O E B S R W)).2.2 151 = mm_I 0 Q.1 := pm_at (i := 2) (by decide) rfl
theorem ma_square {i : Int32} : mm_gI (pm_h z X Y (pm_l V T Q O E B S R W)) 151 0 9 i = aG Q.1 i := aG_0 mk_square
theorem mb_square {i x : Int32} : mm_sI (pm_h z X Y (pm_l V T Q O E B S R W)) 151 0 i x = aS Q.1 i x (fun l => pm_h z X Y (pm_l V T (l, Q.2.1, Q.2.2.1, Q.2.2.2.1, Q.2.2.2.2.1, Q.2.2.2.2.2.1, Q.2.2.2.2.2.2.1, Q.2.2.2.2.2.2.2.1, Q.2.2.2.2.2.2.2.2.1, Q.2.2.2.2.2.2.2.2.2.1, Q.2.2.2.2.2.2.2.2.2.2.1, Q.2.2.2.2.2.2.2.2.2.2.2.1, Q.2.2.2.2.2.2.2.2.2.2.2.2.1, Q.2.2.2.2.2.2.2.2.2.2.2.2.2.1, Q.2.2.2.2.2.2.2.2.2.2.2.2.2.2) O E B S R W)) := aS_I mk_square (fun l => pm_set (i := 2) (by decide) pm_ll)
theorem mn_square : mm_gN (pm_h z X Y (pm_l V T Q O E B S R W)) 151 = some (nI (Q.1).length) := aN_I mk_square
theorem mg_sortName : mm_gF (pm_h z X Y (pm_l V T Q O E B S R W)) 149 10 11 = some (.ref 152) := aF_g mk_o (by decide) rfl
theorem mk_sortName : (pm_h z X Y (pm_l V T Q O E B S R W)).2.2 152 = mm_L Q.2.1 := pm_at (i := 3) (by decide) rfl
theorem ma_sortName {i : Int32} : mm_gL (pm_h z X Y (pm_l V T Q O E B S R W)) 152 i = aG Q.2.1 i := aG_L mk_sortName
theorem mb_sortName {i : Int32} {x : Int64} : mm_sL (pm_h z X Y (pm_l V T Q O E B S R W)) 152 i x = aS Q.2.1 i x (fun l => pm_h z X Y (pm_l V T (Q.1, l, Q.2.2.1, Q.2.2.2.1, Q.2.2.2.2.1, Q.2.2.2.2.2.1, Q.2.2.2.2.2.2.1, Q.2.2.2.2.2.2.2.1, Q.2.2.2.2.2.2.2.2.1, Q.2.2.2.2.2.2.2.2.2.1, Q.2.2.2.2.2.2.2.2.2.2.1, Q.2.2.2.2.2.2.2.2.2.2.2.1, Q.2.2.2.2.2.2.2.2.2.2.2.2.1, Q.2.2.2.2.2.2.2.2.2.2.2.2.2.1, Q.2.2.2.2.2.2.2.2.2.2.2.2.2.2) O E B S R W)) := aS_L mk_sortName (fun l => pm_set (i := 3) (by decide) pm_ll)
theorem mn_sortName : mm_gN (pm_h z X Y (pm_l V T Q O E B S R W)) 152 = some (nI (Q.2.1).length) := aN_L mk_sortName
theorem mg_colourName : mm_gF (pm_h z X Y (pm_l V T Q O E B S R W)) 149 10 12 = some (.ref 153) := aF_g mk_o (by decide) rfl
theorem mk_colourName : (pm_h z X Y (pm_l V T Q O E B S R W)).2.2 153 = mm_L Q.2.2.1 := pm_at (i := 4) (by decide) rfl
theorem ma_colourName {i : Int32} : mm_gL (pm_h z X Y (pm_l V T Q O E B S R W)) 153 i = aG Q.2.2.1 i := aG_L mk_colourName
theorem mb_colourName {i : Int32} {x : Int64} : mm_sL (pm_h z X Y (pm_l V T Q O E B S R W)) 153 i x = aS Q.2.2.1 i x (fun l => pm_h z X Y (pm_l V T (Q.1, Q.2.1, l, Q.2.2.2.1, Q.2.2.2.2.1, Q.2.2.2.2.2.1, Q.2.2.2.2.2.2.1, Q.2.2.2.2.2.2.2.1, Q.2.2.2.2.2.2.2.2.1, Q.2.2.2.2.2.2.2.2.2.1, Q.2.2.2.2.2.2.2.2.2.2.1, Q.2.2.2.2.2.2.2.2.2.2.2.1, Q.2.2.2.2.2.2.2.2.2.2.2.2.1, Q.2.2.2.2.2.2.2.2.2.2.2.2.2.1, Q.2.2.2.2.2.2.2.2.2.2.2.2.2.2) O E B S R W)) := aS_L mk_colourName (fun l => pm_set (i := 4) (by decide) pm_ll)
theorem mn_colourName : mm_gN (pm_h z X Y (pm_l V T Q O E B S R W)) 153 = some (nI (Q.2.2.1).length) := aN_L mk_colourName
theorem mg_walkerName : mm_gF (pm_h z X Y (pm_l V T Q O E B S R W)) 149 10 13 = some (.ref 154) := aF_g mk_o (by decide) rfl
theorem mk_walkerName : (pm_h z X Y (pm_l V T Q O E B S R W)).2.2 154 = mm_L Q.2.2.2.1 := pm_at (i := 5) (by decide) rfl
theorem ma_walkerName {i : Int32} : mm_gL (pm_h z X Y (pm_l V T Q O E B S R W)) 154 i = aG Q.2.2.2.1 i := aG_L mk_walkerName
theorem mb_walkerName {i : Int32} {x : Int64} : mm_sL (pm_h z X Y (pm_l V T Q O E B S R W)) 154 i x = aS Q.2.2.2.1 i x (fun l => pm_h z X Y (pm_l V T (Q.1, Q.2.1, Q.2.2.1, l, Q.2.2.2.2.1, Q.2.2.2.2.2.1, Q.2.2.2.2.2.2.1, Q.2.2.2.2.2.2.2.1, Q.2.2.2.2.2.2.2.2.1, Q.2.2.2.2.2.2.2.2.2.1, Q.2.2.2.2.2.2.2.2.2.2.1, Q.2.2.2.2.2.2.2.2.2.2.2.1, Q.2.2.2.2.2.2.2.2.2.2.2.2.1, Q.2.2.2.2.2.2.2.2.2.2.2.2.2.1, Q.2.2.2.2.2.2.2.2.2.2.2.2.2.2) O E B S R W)) := aS_L mk_walkerName (fun l => pm_set (i := 5) (by decide) pm_ll)
theorem mn_walkerName : mm_gN (pm_h z X Y (pm_l V T Q O E B S R W)) 154 = some (nI (Q.2.2.2.1).length) := aN_L mk_walkerName
theorem mg_sortOf : mm_gF (pm_h z X Y (pm_l V T Q O E B S R W)) 149 10 14 = some (.ref 155) := aF_g mk_o (by decide) rfl
theorem mk_sortOf : (pm_h z X Y (pm_l V T Q O E B S R W)).2.2 155 = mm_I 0 Q.2.2.2.2.1 := pm_at (i := 6) (by decide) rfl
theorem ma_sortOf {i : Int32} : mm_gI (pm_h z X Y (pm_l V T Q O E B S R W)) 155 0 9 i = aG Q.2.2.2.2.1 i := aG_0 mk_sortOf
theorem mb_sortOf {i x : Int32} : mm_sI (pm_h z X Y (pm_l V T Q O E B S R W)) 155 0 i x = aS Q.2.2.2.2.1 i x (fun l => pm_h z X Y (pm_l V T (Q.1, Q.2.1, Q.2.2.1, Q.2.2.2.1, l, Q.2.2.2.2.2.1, Q.2.2.2.2.2.2.1, Q.2.2.2.2.2.2.2.1, Q.2.2.2.2.2.2.2.2.1, Q.2.2.2.2.2.2.2.2.2.1, Q.2.2.2.2.2.2.2.2.2.2.1, Q.2.2.2.2.2.2.2.2.2.2.2.1, Q.2.2.2.2.2.2.2.2.2.2.2.2.1, Q.2.2.2.2.2.2.2.2.2.2.2.2.2.1, Q.2.2.2.2.2.2.2.2.2.2.2.2.2.2) O E B S R W)) := aS_I mk_sortOf (fun l => pm_set (i := 6) (by decide) pm_ll)
theorem mn_sortOf : mm_gN (pm_h z X Y (pm_l V T Q O E B S R W)) 155 = some (nI (Q.2.2.2.2.1).length) := aN_I mk_sortOf
theorem mg_rules : mm_gF (pm_h z X Y (pm_l V T Q O E B S R W)) 149 10 15 = some (.ref 156) := aF_g mk_o (by decide) rfl
theorem mk_rules : (pm_h z X Y (pm_l V T Q O E B S R W)).2.2 156 = mm_I 0 Q.2.2.2.2.2.1 := pm_at (i := 7) (by decide) rfl
theorem ma_rules {i : Int32} : mm_gI (pm_h z X Y (pm_l V T Q O E B S R W)) 156 0 9 i = aG Q.2.2.2.2.2.1 i := aG_0 mk_rules
theorem mb_rules {i x : Int32} : mm_sI (pm_h z X Y (pm_l V T Q O E B S R W)) 156 0 i x = aS Q.2.2.2.2.2.1 i x (fun l => pm_h z X Y (pm_l V T (Q.1, Q.2.1, Q.2.2.1, Q.2.2.2.1, Q.2.2.2.2.1, l, Q.2.2.2.2.2.2.1, Q.2.2.2.2.2.2.2.1, Q.2.2.2.2.2.2.2.2.1, Q.2.2.2.2.2.2.2.2.2.1, Q.2.2.2.2.2.2.2.2.2.2.1, Q.2.2.2.2.2.2.2.2.2.2.2.1, Q.2.2.2.2.2.2.2.2.2.2.2.2.1, Q.2.2.2.2.2.2.2.2.2.2.2.2.2.1, Q.2.2.2.2.2.2.2.2.2.2.2.2.2.2) O E B S R W)) := aS_I mk_rules (fun l => pm_set (i := 7) (by decide) pm_ll)
theorem mn_rules : mm_gN (pm_h z X Y (pm_l V T Q O E B S R W)) 156 = some (nI (Q.2.2.2.2.2.1).length) := aN_I mk_rules
theorem mg_kind : mm_gF (pm_h z X Y (pm_l V T Q O E B S R W)) 149 10 16 = some (.ref 157) := aF_g mk_o (by decide) rfl
theorem mk_kind : (pm_h z X Y (pm_l V T Q O E B S R W)).2.2 157 = mm_I 0 Q.2.2.2.2.2.2.1 := pm_at (i := 8) (by decide) rfl
theorem ma_kind {i : Int32} : mm_gI (pm_h z X Y (pm_l V T Q O E B S R W)) 157 0 9 i = aG Q.2.2.2.2.2.2.1 i := aG_0 mk_kind
theorem mb_kind {i x : Int32} : mm_sI (pm_h z X Y (pm_l V T Q O E B S R W)) 157 0 i x = aS Q.2.2.2.2.2.2.1 i x (fun l => pm_h z X Y (pm_l V T (Q.1, Q.2.1, Q.2.2.1, Q.2.2.2.1, Q.2.2.2.2.1, Q.2.2.2.2.2.1, l, Q.2.2.2.2.2.2.2.1, Q.2.2.2.2.2.2.2.2.1, Q.2.2.2.2.2.2.2.2.2.1, Q.2.2.2.2.2.2.2.2.2.2.1, Q.2.2.2.2.2.2.2.2.2.2.2.1, Q.2.2.2.2.2.2.2.2.2.2.2.2.1, Q.2.2.2.2.2.2.2.2.2.2.2.2.2.1, Q.2.2.2.2.2.2.2.2.2.2.2.2.2.2) O E B S R W)) := aS_I mk_kind (fun l => pm_set (i := 8) (by decide) pm_ll)
theorem mn_kind : mm_gN (pm_h z X Y (pm_l V T Q O E B S R W)) 157 = some (nI (Q.2.2.2.2.2.2.1).length) := aN_I mk_kind
theorem mg_colour : mm_gF (pm_h z X Y (pm_l V T Q O E B S R W)) 149 10 17 = some (.ref 158) := aF_g mk_o (by decide) rfl
theorem mk_colour : (pm_h z X Y (pm_l V T Q O E B S R W)).2.2 158 = mm_I 0 Q.2.2.2.2.2.2.2.1 := pm_at (i := 9) (by decide) rfl
theorem ma_colour {i : Int32} : mm_gI (pm_h z X Y (pm_l V T Q O E B S R W)) 158 0 9 i = aG Q.2.2.2.2.2.2.2.1 i := aG_0 mk_colour
theorem mb_colour {i x : Int32} : mm_sI (pm_h z X Y (pm_l V T Q O E B S R W)) 158 0 i x = aS Q.2.2.2.2.2.2.2.1 i x (fun l => pm_h z X Y (pm_l V T (Q.1, Q.2.1, Q.2.2.1, Q.2.2.2.1, Q.2.2.2.2.1, Q.2.2.2.2.2.1, Q.2.2.2.2.2.2.1, l, Q.2.2.2.2.2.2.2.2.1, Q.2.2.2.2.2.2.2.2.2.1, Q.2.2.2.2.2.2.2.2.2.2.1, Q.2.2.2.2.2.2.2.2.2.2.2.1, Q.2.2.2.2.2.2.2.2.2.2.2.2.1, Q.2.2.2.2.2.2.2.2.2.2.2.2.2.1, Q.2.2.2.2.2.2.2.2.2.2.2.2.2.2) O E B S R W)) := aS_I mk_colour (fun l => pm_set (i := 9) (by decide) pm_ll)
theorem mn_colour : mm_gN (pm_h z X Y (pm_l V T Q O E B S R W)) 158 = some (nI (Q.2.2.2.2.2.2.2.1).length) := aN_I mk_colour
theorem mg_atTold : mm_gF (pm_h z X Y (pm_l V T Q O E B S R W)) 149 10 18 = some (.ref 159) := aF_g mk_o (by decide) rfl
theorem mk_atTold : (pm_h z X Y (pm_l V T Q O E B S R W)).2.2 159 = mm_I 0 Q.2.2.2.2.2.2.2.2.1 := pm_at (i := 10) (by decide) rfl
theorem ma_atTold {i : Int32} : mm_gI (pm_h z X Y (pm_l V T Q O E B S R W)) 159 0 9 i = aG Q.2.2.2.2.2.2.2.2.1 i := aG_0 mk_atTold
theorem mb_atTold {i x : Int32} : mm_sI (pm_h z X Y (pm_l V T Q O E B S R W)) 159 0 i x = aS Q.2.2.2.2.2.2.2.2.1 i x (fun l => pm_h z X Y (pm_l V T (Q.1, Q.2.1, Q.2.2.1, Q.2.2.2.1, Q.2.2.2.2.1, Q.2.2.2.2.2.1, Q.2.2.2.2.2.2.1, Q.2.2.2.2.2.2.2.1, l, Q.2.2.2.2.2.2.2.2.2.1, Q.2.2.2.2.2.2.2.2.2.2.1, Q.2.2.2.2.2.2.2.2.2.2.2.1, Q.2.2.2.2.2.2.2.2.2.2.2.2.1, Q.2.2.2.2.2.2.2.2.2.2.2.2.2.1, Q.2.2.2.2.2.2.2.2.2.2.2.2.2.2) O E B S R W)) := aS_I mk_atTold (fun l => pm_set (i := 10) (by decide) pm_ll)
theorem mn_atTold : mm_gN (pm_h z X Y (pm_l V T Q O E B S R W)) 159 = some (nI (Q.2.2.2.2.2.2.2.2.1).length) := aN_I mk_atTold
theorem mg_goesMany : mm_gF (pm_h z X Y (pm_l V T Q O E B S R W)) 149 10 19 = some (.ref 160) := aF_g mk_o (by decide) rfl
theorem mk_goesMany : (pm_h z X Y (pm_l V T Q O E B S R W)).2.2 160 = mm_I 0 Q.2.2.2.2.2.2.2.2.2.1 := pm_at (i := 11) (by decide) rfl
theorem ma_goesMany {i : Int32} : mm_gI (pm_h z X Y (pm_l V T Q O E B S R W)) 160 0 9 i = aG Q.2.2.2.2.2.2.2.2.2.1 i := aG_0 mk_goesMany
theorem mb_goesMany {i x : Int32} : mm_sI (pm_h z X Y (pm_l V T Q O E B S R W)) 160 0 i x = aS Q.2.2.2.2.2.2.2.2.2.1 i x (fun l => pm_h z X Y (pm_l V T (Q.1, Q.2.1, Q.2.2.1, Q.2.2.2.1, Q.2.2.2.2.1, Q.2.2.2.2.2.1, Q.2.2.2.2.2.2.1, Q.2.2.2.2.2.2.2.1, Q.2.2.2.2.2.2.2.2.1, l, Q.2.2.2.2.2.2.2.2.2.2.1, Q.2.2.2.2.2.2.2.2.2.2.2.1, Q.2.2.2.2.2.2.2.2.2.2.2.2.1, Q.2.2.2.2.2.2.2.2.2.2.2.2.2.1, Q.2.2.2.2.2.2.2.2.2.2.2.2.2.2) O E B S R W)) := aS_I mk_goesMany (fun l => pm_set (i := 11) (by decide) pm_ll)
theorem mn_goesMany : mm_gN (pm_h z X Y (pm_l V T Q O E B S R W)) 160 = some (nI (Q.2.2.2.2.2.2.2.2.2.1).length) := aN_I mk_goesMany
theorem mg_goes : mm_gF (pm_h z X Y (pm_l V T Q O E B S R W)) 149 10 20 = some (.ref 161) := aF_g mk_o (by decide) rfl
theorem mk_goes : (pm_h z X Y (pm_l V T Q O E B S R W)).2.2 161 = mm_I 0 Q.2.2.2.2.2.2.2.2.2.2.1 := pm_at (i := 12) (by decide) rfl
theorem ma_goes {i : Int32} : mm_gI (pm_h z X Y (pm_l V T Q O E B S R W)) 161 0 9 i = aG Q.2.2.2.2.2.2.2.2.2.2.1 i := aG_0 mk_goes
theorem mb_goes {i x : Int32} : mm_sI (pm_h z X Y (pm_l V T Q O E B S R W)) 161 0 i x = aS Q.2.2.2.2.2.2.2.2.2.2.1 i x (fun l => pm_h z X Y (pm_l V T (Q.1, Q.2.1, Q.2.2.1, Q.2.2.2.1, Q.2.2.2.2.1, Q.2.2.2.2.2.1, Q.2.2.2.2.2.2.1, Q.2.2.2.2.2.2.2.1, Q.2.2.2.2.2.2.2.2.1, Q.2.2.2.2.2.2.2.2.2.1, l, Q.2.2.2.2.2.2.2.2.2.2.2.1, Q.2.2.2.2.2.2.2.2.2.2.2.2.1, Q.2.2.2.2.2.2.2.2.2.2.2.2.2.1, Q.2.2.2.2.2.2.2.2.2.2.2.2.2.2) O E B S R W)) := aS_I mk_goes (fun l => pm_set (i := 12) (by decide) pm_ll)
theorem mn_goes : mm_gN (pm_h z X Y (pm_l V T Q O E B S R W)) 161 = some (nI (Q.2.2.2.2.2.2.2.2.2.2.1).length) := aN_I mk_goes
theorem mg_gusts : mm_gF (pm_h z X Y (pm_l V T Q O E B S R W)) 149 10 21 = some (.ref 162) := aF_g mk_o (by decide) rfl
theorem mk_gusts : (pm_h z X Y (pm_l V T Q O E B S R W)).2.2 162 = mm_I 0 Q.2.2.2.2.2.2.2.2.2.2.2.1 := pm_at (i := 13) (by decide) rfl
theorem ma_gusts {i : Int32} : mm_gI (pm_h z X Y (pm_l V T Q O E B S R W)) 162 0 9 i = aG Q.2.2.2.2.2.2.2.2.2.2.2.1 i := aG_0 mk_gusts
theorem mb_gusts {i x : Int32} : mm_sI (pm_h z X Y (pm_l V T Q O E B S R W)) 162 0 i x = aS Q.2.2.2.2.2.2.2.2.2.2.2.1 i x (fun l => pm_h z X Y (pm_l V T (Q.1, Q.2.1, Q.2.2.1, Q.2.2.2.1, Q.2.2.2.2.1, Q.2.2.2.2.2.1, Q.2.2.2.2.2.2.1, Q.2.2.2.2.2.2.2.1, Q.2.2.2.2.2.2.2.2.1, Q.2.2.2.2.2.2.2.2.2.1, Q.2.2.2.2.2.2.2.2.2.2.1, l, Q.2.2.2.2.2.2.2.2.2.2.2.2.1, Q.2.2.2.2.2.2.2.2.2.2.2.2.2.1, Q.2.2.2.2.2.2.2.2.2.2.2.2.2.2) O E B S R W)) := aS_I mk_gusts (fun l => pm_set (i := 13) (by decide) pm_ll)
theorem mn_gusts : mm_gN (pm_h z X Y (pm_l V T Q O E B S R W)) 162 = some (nI (Q.2.2.2.2.2.2.2.2.2.2.2.1).length) := aN_I mk_gusts
theorem mg_lineFrom : mm_gF (pm_h z X Y (pm_l V T Q O E B S R W)) 149 10 22 = some (.ref 163) := aF_g mk_o (by decide) rfl
theorem mk_lineFrom : (pm_h z X Y (pm_l V T Q O E B S R W)).2.2 163 = mm_I 0 Q.2.2.2.2.2.2.2.2.2.2.2.2.1 := pm_at (i := 14) (by decide) rfl
theorem ma_lineFrom {i : Int32} : mm_gI (pm_h z X Y (pm_l V T Q O E B S R W)) 163 0 9 i = aG Q.2.2.2.2.2.2.2.2.2.2.2.2.1 i := aG_0 mk_lineFrom
theorem mb_lineFrom {i x : Int32} : mm_sI (pm_h z X Y (pm_l V T Q O E B S R W)) 163 0 i x = aS Q.2.2.2.2.2.2.2.2.2.2.2.2.1 i x (fun l => pm_h z X Y (pm_l V T (Q.1, Q.2.1, Q.2.2.1, Q.2.2.2.1, Q.2.2.2.2.1, Q.2.2.2.2.2.1, Q.2.2.2.2.2.2.1, Q.2.2.2.2.2.2.2.1, Q.2.2.2.2.2.2.2.2.1, Q.2.2.2.2.2.2.2.2.2.1, Q.2.2.2.2.2.2.2.2.2.2.1, Q.2.2.2.2.2.2.2.2.2.2.2.1, l, Q.2.2.2.2.2.2.2.2.2.2.2.2.2.1, Q.2.2.2.2.2.2.2.2.2.2.2.2.2.2) O E B S R W)) := aS_I mk_lineFrom (fun l => pm_set (i := 14) (by decide) pm_ll)
theorem mn_lineFrom : mm_gN (pm_h z X Y (pm_l V T Q O E B S R W)) 163 = some (nI (Q.2.2.2.2.2.2.2.2.2.2.2.2.1).length) := aN_I mk_lineFrom
theorem mg_lineTo : mm_gF (pm_h z X Y (pm_l V T Q O E B S R W)) 149 10 23 = some (.ref 164) := aF_g mk_o (by decide) rfl
theorem mk_lineTo : (pm_h z X Y (pm_l V T Q O E B S R W)).2.2 164 = mm_I 0 Q.2.2.2.2.2.2.2.2.2.2.2.2.2.1 := pm_at (i := 15) (by decide) rfl
theorem ma_lineTo {i : Int32} : mm_gI (pm_h z X Y (pm_l V T Q O E B S R W)) 164 0 9 i = aG Q.2.2.2.2.2.2.2.2.2.2.2.2.2.1 i := aG_0 mk_lineTo
theorem mb_lineTo {i x : Int32} : mm_sI (pm_h z X Y (pm_l V T Q O E B S R W)) 164 0 i x = aS Q.2.2.2.2.2.2.2.2.2.2.2.2.2.1 i x (fun l => pm_h z X Y (pm_l V T (Q.1, Q.2.1, Q.2.2.1, Q.2.2.2.1, Q.2.2.2.2.1, Q.2.2.2.2.2.1, Q.2.2.2.2.2.2.1, Q.2.2.2.2.2.2.2.1, Q.2.2.2.2.2.2.2.2.1, Q.2.2.2.2.2.2.2.2.2.1, Q.2.2.2.2.2.2.2.2.2.2.1, Q.2.2.2.2.2.2.2.2.2.2.2.1, Q.2.2.2.2.2.2.2.2.2.2.2.2.1, l, Q.2.2.2.2.2.2.2.2.2.2.2.2.2.2) O E B S R W)) := aS_I mk_lineTo (fun l => pm_set (i := 15) (by decide) pm_ll)
theorem mn_lineTo : mm_gN (pm_h z X Y (pm_l V T Q O E B S R W)) 164 = some (nI (Q.2.2.2.2.2.2.2.2.2.2.2.2.2.1).length) := aN_I mk_lineTo
theorem mg_codes : mm_gF (pm_h z X Y (pm_l V T Q O E B S R W)) 149 10 24 = some (.ref 165) := aF_g mk_o (by decide) rfl
theorem mk_codes : (pm_h z X Y (pm_l V T Q O E B S R W)).2.2 165 = mm_I 0 Q.2.2.2.2.2.2.2.2.2.2.2.2.2.2 := pm_at (i := 16) (by decide) rfl
theorem ma_codes {i : Int32} : mm_gI (pm_h z X Y (pm_l V T Q O E B S R W)) 165 0 9 i = aG Q.2.2.2.2.2.2.2.2.2.2.2.2.2.2 i := aG_0 mk_codes
theorem mb_codes {i x : Int32} : mm_sI (pm_h z X Y (pm_l V T Q O E B S R W)) 165 0 i x = aS Q.2.2.2.2.2.2.2.2.2.2.2.2.2.2 i x (fun l => pm_h z X Y (pm_l V T (Q.1, Q.2.1, Q.2.2.1, Q.2.2.2.1, Q.2.2.2.2.1, Q.2.2.2.2.2.1, Q.2.2.2.2.2.2.1, Q.2.2.2.2.2.2.2.1, Q.2.2.2.2.2.2.2.2.1, Q.2.2.2.2.2.2.2.2.2.1, Q.2.2.2.2.2.2.2.2.2.2.1, Q.2.2.2.2.2.2.2.2.2.2.2.1, Q.2.2.2.2.2.2.2.2.2.2.2.2.1, Q.2.2.2.2.2.2.2.2.2.2.2.2.2.1, l) O E B S R W)) := aS_I mk_codes (fun l => pm_set (i := 16) (by decide) pm_ll)
theorem mn_codes : mm_gN (pm_h z X Y (pm_l V T Q O E B S R W)) 165 = some (nI (Q.2.2.2.2.2.2.2.2.2.2.2.2.2.2).length) := aN_I mk_codes
theorem mg_code : mm_gF (pm_h z X Y (pm_l V T Q O E B S R W)) 149 10 25 = some (.int V.2.2.2) := aF_g mk_o (by decide) rfl
theorem mf_code {x : Int32} : mm_sF (mp_P fx) (pm_h z X Y (pm_l V T Q O E B S R W)) 149 10 25 (.int x) = some (pm_h z X Y (pm_l (V.1, V.2.1, V.2.2.1, x) T Q O E B S R W)) := aF_s mk_o rfl (pm_set (i := 0) (by decide) pm_ll)
theorem mg_opened : mm_gF (pm_h z X Y (pm_l V T Q O E B S R W)) 149 10 26 = some (.ref 166) := aF_g mk_o (by decide) rfl
theorem mk_opened : (pm_h z X Y (pm_l V T Q O E B S R W)).2.2 166 = mm_I 0 O.1 := pm_at (i := 17) (by decide) rfl
theorem ma_opened {i : Int32} : mm_gI (pm_h z X Y (pm_l V T Q O E B S R W)) 166 0 9 i = aG O.1 i := aG_0 mk_opened
theorem mb_opened {i x : Int32} : mm_sI (pm_h z X Y (pm_l V T Q O E B S R W)) 166 0 i x = aS O.1 i x (fun l => pm_h z X Y (pm_l V T Q (l, O.2) E B S R W)) := aS_I mk_opened (fun l => pm_set (i := 17) (by decide) pm_ll)
theorem mn_opened : mm_gN (pm_h z X Y (pm_l V T Q O E B S R W)) 166 = some (nI (O.1).length) := aN_I mk_opened
theorem mg_compared : mm_gF (pm_h z X Y (pm_l V T Q O E B S R W)) 149 10 27 = some (.ref 167) := aF_g mk_o (by decide) rfl
theorem mk_compared : (pm_h z X Y (pm_l V T Q O E B S R W)).2.2 167 = mm_I 2 O.2 := pm_at (i := 18) (by decide) rfl
theorem ma_compared {i : Int32} : mm_gI (pm_h z X Y (pm_l V T Q O E B S R W)) 167 2 8 i = aG O.2 i := aG_2 mk_compared
theorem mb_compared {i x : Int32} : mm_sI (pm_h z X Y (pm_l V T Q O E B S R W)) 167 2 i x = aS O.2 i x (fun l => pm_h z X Y (pm_l V T Q (O.1, l) E B S R W)) := aS_I mk_compared (fun l => pm_set (i := 18) (by decide) pm_ll)
theorem mn_compared : mm_gN (pm_h z X Y (pm_l V T Q O E B S R W)) 167 = some (nI (O.2).length) := aN_I mk_compared
theorem mg_kept : mm_gF (pm_h z X Y (pm_l V T Q O E B S R W)) 149 10 28 = some (.ref 168) := aF_g mk_o (by decide) rfl
theorem mk_kept : (pm_h z X Y (pm_l V T Q O E B S R W)).2.2 168 = mm_I 0 E.1 := pm_at (i := 19) (by decide) rfl
theorem ma_kept {i : Int32} : mm_gI (pm_h z X Y (pm_l V T Q O E B S R W)) 168 0 9 i = aG E.1 i := aG_0 mk_kept
theorem mb_kept {i x : Int32} : mm_sI (pm_h z X Y (pm_l V T Q O E B S R W)) 168 0 i x = aS E.1 i x (fun l => pm_h z X Y (pm_l V T Q O (l, E.2.1, E.2.2.1, E.2.2.2.1, E.2.2.2.2.1, E.2.2.2.2.2.1, E.2.2.2.2.2.2.1, E.2.2.2.2.2.2.2.1, E.2.2.2.2.2.2.2.2.1, E.2.2.2.2.2.2.2.2.2) B S R W)) := aS_I mk_kept (fun l => pm_set (i := 19) (by decide) pm_ll)
theorem mn_kept : mm_gN (pm_h z X Y (pm_l V T Q O E B S R W)) 168 = some (nI (E.1).length) := aN_I mk_kept
theorem mg_keptBy : mm_gF (pm_h z X Y (pm_l V T Q O E B S R W)) 149 10 29 = some (.ref 169) := aF_g mk_o (by decide) rfl
theorem mk_keptBy : (pm_h z X Y (pm_l V T Q O E B S R W)).2.2 169 = mm_I 0 E.2.1 := pm_at (i := 20) (by decide) rfl
theorem ma_keptBy {i : Int32} : mm_gI (pm_h z X Y (pm_l V T Q O E B S R W)) 169 0 9 i = aG E.2.1 i := aG_0 mk_keptBy
theorem mb_keptBy {i x : Int32} : mm_sI (pm_h z X Y (pm_l V T Q O E B S R W)) 169 0 i x = aS E.2.1 i x (fun l => pm_h z X Y (pm_l V T Q O (E.1, l, E.2.2.1, E.2.2.2.1, E.2.2.2.2.1, E.2.2.2.2.2.1, E.2.2.2.2.2.2.1, E.2.2.2.2.2.2.2.1, E.2.2.2.2.2.2.2.2.1, E.2.2.2.2.2.2.2.2.2) B S R W)) := aS_I mk_keptBy (fun l => pm_set (i := 20) (by decide) pm_ll)
theorem mn_keptBy : mm_gN (pm_h z X Y (pm_l V T Q O E B S R W)) 169 = some (nI (E.2.1).length) := aN_I mk_keptBy
theorem mg_ahead : mm_gF (pm_h z X Y (pm_l V T Q O E B S R W)) 149 10 30 = some (.ref 170) := aF_g mk_o (by decide) rfl
theorem mk_ahead : (pm_h z X Y (pm_l V T Q O E B S R W)).2.2 170 = mm_I 0 E.2.2.1 := pm_at (i := 21) (by decide) rfl
theorem ma_ahead {i : Int32} : mm_gI (pm_h z X Y (pm_l V T Q O E B S R W)) 170 0 9 i = aG E.2.2.1 i := aG_0 mk_ahead
theorem mb_ahead {i x : Int32} : mm_sI (pm_h z X Y (pm_l V T Q O E B S R W)) 170 0 i x = aS E.2.2.1 i x (fun l => pm_h z X Y (pm_l V T Q O (E.1, E.2.1, l, E.2.2.2.1, E.2.2.2.2.1, E.2.2.2.2.2.1, E.2.2.2.2.2.2.1, E.2.2.2.2.2.2.2.1, E.2.2.2.2.2.2.2.2.1, E.2.2.2.2.2.2.2.2.2) B S R W)) := aS_I mk_ahead (fun l => pm_set (i := 21) (by decide) pm_ll)
theorem mn_ahead : mm_gN (pm_h z X Y (pm_l V T Q O E B S R W)) 170 = some (nI (E.2.2.1).length) := aN_I mk_ahead
theorem mg_against : mm_gF (pm_h z X Y (pm_l V T Q O E B S R W)) 149 10 31 = some (.ref 171) := aF_g mk_o (by decide) rfl
theorem mk_against : (pm_h z X Y (pm_l V T Q O E B S R W)).2.2 171 = mm_I 0 E.2.2.2.1 := pm_at (i := 22) (by decide) rfl
theorem ma_against {i : Int32} : mm_gI (pm_h z X Y (pm_l V T Q O E B S R W)) 171 0 9 i = aG E.2.2.2.1 i := aG_0 mk_against
theorem mb_against {i x : Int32} : mm_sI (pm_h z X Y (pm_l V T Q O E B S R W)) 171 0 i x = aS E.2.2.2.1 i x (fun l => pm_h z X Y (pm_l V T Q O (E.1, E.2.1, E.2.2.1, l, E.2.2.2.2.1, E.2.2.2.2.2.1, E.2.2.2.2.2.2.1, E.2.2.2.2.2.2.2.1, E.2.2.2.2.2.2.2.2.1, E.2.2.2.2.2.2.2.2.2) B S R W)) := aS_I mk_against (fun l => pm_set (i := 22) (by decide) pm_ll)
theorem mn_against : mm_gN (pm_h z X Y (pm_l V T Q O E B S R W)) 171 = some (nI (E.2.2.2.1).length) := aN_I mk_against
theorem mg_sum : mm_gF (pm_h z X Y (pm_l V T Q O E B S R W)) 149 10 32 = some (.ref 172) := aF_g mk_o (by decide) rfl
theorem mk_sum : (pm_h z X Y (pm_l V T Q O E B S R W)).2.2 172 = mm_I 0 E.2.2.2.2.1 := pm_at (i := 23) (by decide) rfl
theorem ma_sum {i : Int32} : mm_gI (pm_h z X Y (pm_l V T Q O E B S R W)) 172 0 9 i = aG E.2.2.2.2.1 i := aG_0 mk_sum
theorem mb_sum {i x : Int32} : mm_sI (pm_h z X Y (pm_l V T Q O E B S R W)) 172 0 i x = aS E.2.2.2.2.1 i x (fun l => pm_h z X Y (pm_l V T Q O (E.1, E.2.1, E.2.2.1, E.2.2.2.1, l, E.2.2.2.2.2.1, E.2.2.2.2.2.2.1, E.2.2.2.2.2.2.2.1, E.2.2.2.2.2.2.2.2.1, E.2.2.2.2.2.2.2.2.2) B S R W)) := aS_I mk_sum (fun l => pm_set (i := 23) (by decide) pm_ll)
theorem mn_sum : mm_gN (pm_h z X Y (pm_l V T Q O E B S R W)) 172 = some (nI (E.2.2.2.2.1).length) := aN_I mk_sum
theorem mg_sumBy : mm_gF (pm_h z X Y (pm_l V T Q O E B S R W)) 149 10 33 = some (.ref 173) := aF_g mk_o (by decide) rfl
theorem mk_sumBy : (pm_h z X Y (pm_l V T Q O E B S R W)).2.2 173 = mm_I 0 E.2.2.2.2.2.1 := pm_at (i := 24) (by decide) rfl
theorem ma_sumBy {i : Int32} : mm_gI (pm_h z X Y (pm_l V T Q O E B S R W)) 173 0 9 i = aG E.2.2.2.2.2.1 i := aG_0 mk_sumBy
theorem mb_sumBy {i x : Int32} : mm_sI (pm_h z X Y (pm_l V T Q O E B S R W)) 173 0 i x = aS E.2.2.2.2.2.1 i x (fun l => pm_h z X Y (pm_l V T Q O (E.1, E.2.1, E.2.2.1, E.2.2.2.1, E.2.2.2.2.1, l, E.2.2.2.2.2.2.1, E.2.2.2.2.2.2.2.1, E.2.2.2.2.2.2.2.2.1, E.2.2.2.2.2.2.2.2.2) B S R W)) := aS_I mk_sumBy (fun l => pm_set (i := 24) (by decide) pm_ll)
theorem mn_sumBy : mm_gN (pm_h z X Y (pm_l V T Q O E B S R W)) 173 = some (nI (E.2.2.2.2.2.1).length) := aN_I mk_sumBy
theorem mg_term : mm_gF (pm_h z X Y (pm_l V T Q O E B S R W)) 149 10 34 = some (.ref 174) := aF_g mk_o (by decide) rfl
theorem mk_term : (pm_h z X Y (pm_l V T Q O E B S R W)).2.2 174 = mm_I 0 E.2.2.2.2.2.2.1 := pm_at (i := 25) (by decide) rfl
theorem ma_term {i : Int32} : mm_gI (pm_h z X Y (pm_l V T Q O E B S R W)) 174 0 9 i = aG E.2.2.2.2.2.2.1 i := aG_0 mk_term
theorem mb_term {i x : Int32} : mm_sI (pm_h z X Y (pm_l V T Q O E B S R W)) 174 0 i x = aS E.2.2.2.2.2.2.1 i x (fun l => pm_h z X Y (pm_l V T Q O (E.1, E.2.1, E.2.2.1, E.2.2.2.1, E.2.2.2.2.1, E.2.2.2.2.2.1, l, E.2.2.2.2.2.2.2.1, E.2.2.2.2.2.2.2.2.1, E.2.2.2.2.2.2.2.2.2) B S R W)) := aS_I mk_term (fun l => pm_set (i := 25) (by decide) pm_ll)
theorem mn_term : mm_gN (pm_h z X Y (pm_l V T Q O E B S R W)) 174 = some (nI (E.2.2.2.2.2.2.1).length) := aN_I mk_term
theorem mg_termBy : mm_gF (pm_h z X Y (pm_l V T Q O E B S R W)) 149 10 35 = some (.ref 175) := aF_g mk_o (by decide) rfl
theorem mk_termBy : (pm_h z X Y (pm_l V T Q O E B S R W)).2.2 175 = mm_I 0 E.2.2.2.2.2.2.2.1 := pm_at (i := 26) (by decide) rfl
theorem ma_termBy {i : Int32} : mm_gI (pm_h z X Y (pm_l V T Q O E B S R W)) 175 0 9 i = aG E.2.2.2.2.2.2.2.1 i := aG_0 mk_termBy
theorem mb_termBy {i x : Int32} : mm_sI (pm_h z X Y (pm_l V T Q O E B S R W)) 175 0 i x = aS E.2.2.2.2.2.2.2.1 i x (fun l => pm_h z X Y (pm_l V T Q O (E.1, E.2.1, E.2.2.1, E.2.2.2.1, E.2.2.2.2.1, E.2.2.2.2.2.1, E.2.2.2.2.2.2.1, l, E.2.2.2.2.2.2.2.2.1, E.2.2.2.2.2.2.2.2.2) B S R W)) := aS_I mk_termBy (fun l => pm_set (i := 26) (by decide) pm_ll)
theorem mn_termBy : mm_gN (pm_h z X Y (pm_l V T Q O E B S R W)) 175 = some (nI (E.2.2.2.2.2.2.2.1).length) := aN_I mk_termBy
theorem mg_byNot : mm_gF (pm_h z X Y (pm_l V T Q O E B S R W)) 149 10 36 = some (.ref 176) := aF_g mk_o (by decide) rfl
theorem mk_byNot : (pm_h z X Y (pm_l V T Q O E B S R W)).2.2 176 = mm_I 0 E.2.2.2.2.2.2.2.2.1 := pm_at (i := 27) (by decide) rfl
theorem ma_byNot {i : Int32} : mm_gI (pm_h z X Y (pm_l V T Q O E B S R W)) 176 0 9 i = aG E.2.2.2.2.2.2.2.2.1 i := aG_0 mk_byNot
theorem mb_byNot {i x : Int32} : mm_sI (pm_h z X Y (pm_l V T Q O E B S R W)) 176 0 i x = aS E.2.2.2.2.2.2.2.2.1 i x (fun l => pm_h z X Y (pm_l V T Q O (E.1, E.2.1, E.2.2.1, E.2.2.2.1, E.2.2.2.2.1, E.2.2.2.2.2.1, E.2.2.2.2.2.2.1, E.2.2.2.2.2.2.2.1, l, E.2.2.2.2.2.2.2.2.2) B S R W)) := aS_I mk_byNot (fun l => pm_set (i := 27) (by decide) pm_ll)
theorem mn_byNot : mm_gN (pm_h z X Y (pm_l V T Q O E B S R W)) 176 = some (nI (E.2.2.2.2.2.2.2.2.1).length) := aN_I mk_byNot
theorem mg_valueOf : mm_gF (pm_h z X Y (pm_l V T Q O E B S R W)) 149 10 37 = some (.ref 177) := aF_g mk_o (by decide) rfl
theorem mk_valueOf : (pm_h z X Y (pm_l V T Q O E B S R W)).2.2 177 = mm_I 0 E.2.2.2.2.2.2.2.2.2 := pm_at (i := 28) (by decide) rfl
theorem ma_valueOf {i : Int32} : mm_gI (pm_h z X Y (pm_l V T Q O E B S R W)) 177 0 9 i = aG E.2.2.2.2.2.2.2.2.2 i := aG_0 mk_valueOf
theorem mb_valueOf {i x : Int32} : mm_sI (pm_h z X Y (pm_l V T Q O E B S R W)) 177 0 i x = aS E.2.2.2.2.2.2.2.2.2 i x (fun l => pm_h z X Y (pm_l V T Q O (E.1, E.2.1, E.2.2.1, E.2.2.2.1, E.2.2.2.2.1, E.2.2.2.2.2.1, E.2.2.2.2.2.2.1, E.2.2.2.2.2.2.2.1, E.2.2.2.2.2.2.2.2.1, l) B S R W)) := aS_I mk_valueOf (fun l => pm_set (i := 28) (by decide) pm_ll)
theorem mn_valueOf : mm_gN (pm_h z X Y (pm_l V T Q O E B S R W)) 177 = some (nI (E.2.2.2.2.2.2.2.2.2).length) := aN_I mk_valueOf
theorem mg_given : mm_gF (pm_h z X Y (pm_l V T Q O E B S R W)) 149 10 38 = some (.int V.2.1) := aF_g mk_o (by decide) rfl
theorem mf_given {x : Int32} : mm_sF (mp_P fx) (pm_h z X Y (pm_l V T Q O E B S R W)) 149 10 38 (.int x) = some (pm_h z X Y (pm_l (V.1, x, V.2.2.1, V.2.2.2) T Q O E B S R W)) := aF_s mk_o rfl (pm_set (i := 0) (by decide) pm_ll)
theorem mg_fresh : mm_gF (pm_h z X Y (pm_l V T Q O E B S R W)) 149 10 39 = some (.long V.2.2.1) := aF_g mk_o (by decide) rfl
theorem mf_fresh {x : Int64} : mm_sF (mp_P fx) (pm_h z X Y (pm_l V T Q O E B S R W)) 149 10 39 (.long x) = some (pm_h z X Y (pm_l (V.1, V.2.1, x, V.2.2.2) T Q O E B S R W)) := aF_s mk_o rfl (pm_set (i := 0) (by decide) pm_ll)
theorem mg_lines : mm_gF (pm_h z X Y (pm_l V T Q O E B S R W)) 149 10 40 = some (.ref 178) := aF_g mk_o (by decide) rfl
theorem mk_lines : (pm_h z X Y (pm_l V T Q O E B S R W)).2.2 178 = mm_I 0 B.1 := pm_at (i := 29) (by decide) rfl
theorem ma_lines {i : Int32} : mm_gI (pm_h z X Y (pm_l V T Q O E B S R W)) 178 0 9 i = aG B.1 i := aG_0 mk_lines
theorem mb_lines {i x : Int32} : mm_sI (pm_h z X Y (pm_l V T Q O E B S R W)) 178 0 i x = aS B.1 i x (fun l => pm_h z X Y (pm_l V T Q O E (l, B.2.1, B.2.2.1, B.2.2.2.1, B.2.2.2.2.1, B.2.2.2.2.2.1, B.2.2.2.2.2.2.1, B.2.2.2.2.2.2.2.1, B.2.2.2.2.2.2.2.2.1, B.2.2.2.2.2.2.2.2.2) S R W)) := aS_I mk_lines (fun l => pm_set (i := 29) (by decide) pm_ll)
theorem mn_lines : mm_gN (pm_h z X Y (pm_l V T Q O E B S R W)) 178 = some (nI (B.1).length) := aN_I mk_lines
theorem mg_lineWhat : mm_gF (pm_h z X Y (pm_l V T Q O E B S R W)) 149 10 41 = some (.ref 179) := aF_g mk_o (by decide) rfl
theorem mk_lineWhat : (pm_h z X Y (pm_l V T Q O E B S R W)).2.2 179 = mm_I 0 B.2.1 := pm_at (i := 30) (by decide) rfl
theorem ma_lineWhat {i : Int32} : mm_gI (pm_h z X Y (pm_l V T Q O E B S R W)) 179 0 9 i = aG B.2.1 i := aG_0 mk_lineWhat
theorem mb_lineWhat {i x : Int32} : mm_sI (pm_h z X Y (pm_l V T Q O E B S R W)) 179 0 i x = aS B.2.1 i x (fun l => pm_h z X Y (pm_l V T Q O E (B.1, l, B.2.2.1, B.2.2.2.1, B.2.2.2.2.1, B.2.2.2.2.2.1, B.2.2.2.2.2.2.1, B.2.2.2.2.2.2.2.1, B.2.2.2.2.2.2.2.2.1, B.2.2.2.2.2.2.2.2.2) S R W)) := aS_I mk_lineWhat (fun l => pm_set (i := 30) (by decide) pm_ll)
theorem mn_lineWhat : mm_gN (pm_h z X Y (pm_l V T Q O E B S R W)) 179 = some (nI (B.2.1).length) := aN_I mk_lineWhat
theorem mg_lineA : mm_gF (pm_h z X Y (pm_l V T Q O E B S R W)) 149 10 42 = some (.ref 180) := aF_g mk_o (by decide) rfl
theorem mk_lineA : (pm_h z X Y (pm_l V T Q O E B S R W)).2.2 180 = mm_I 0 B.2.2.1 := pm_at (i := 31) (by decide) rfl
theorem ma_lineA {i : Int32} : mm_gI (pm_h z X Y (pm_l V T Q O E B S R W)) 180 0 9 i = aG B.2.2.1 i := aG_0 mk_lineA
theorem mb_lineA {i x : Int32} : mm_sI (pm_h z X Y (pm_l V T Q O E B S R W)) 180 0 i x = aS B.2.2.1 i x (fun l => pm_h z X Y (pm_l V T Q O E (B.1, B.2.1, l, B.2.2.2.1, B.2.2.2.2.1, B.2.2.2.2.2.1, B.2.2.2.2.2.2.1, B.2.2.2.2.2.2.2.1, B.2.2.2.2.2.2.2.2.1, B.2.2.2.2.2.2.2.2.2) S R W)) := aS_I mk_lineA (fun l => pm_set (i := 31) (by decide) pm_ll)
theorem mn_lineA : mm_gN (pm_h z X Y (pm_l V T Q O E B S R W)) 180 = some (nI (B.2.2.1).length) := aN_I mk_lineA
theorem mg_lineB : mm_gF (pm_h z X Y (pm_l V T Q O E B S R W)) 149 10 43 = some (.ref 181) := aF_g mk_o (by decide) rfl
theorem mk_lineB : (pm_h z X Y (pm_l V T Q O E B S R W)).2.2 181 = mm_I 0 B.2.2.2.1 := pm_at (i := 32) (by decide) rfl
theorem ma_lineB {i : Int32} : mm_gI (pm_h z X Y (pm_l V T Q O E B S R W)) 181 0 9 i = aG B.2.2.2.1 i := aG_0 mk_lineB
theorem mb_lineB {i x : Int32} : mm_sI (pm_h z X Y (pm_l V T Q O E B S R W)) 181 0 i x = aS B.2.2.2.1 i x (fun l => pm_h z X Y (pm_l V T Q O E (B.1, B.2.1, B.2.2.1, l, B.2.2.2.2.1, B.2.2.2.2.2.1, B.2.2.2.2.2.2.1, B.2.2.2.2.2.2.2.1, B.2.2.2.2.2.2.2.2.1, B.2.2.2.2.2.2.2.2.2) S R W)) := aS_I mk_lineB (fun l => pm_set (i := 32) (by decide) pm_ll)
theorem mn_lineB : mm_gN (pm_h z X Y (pm_l V T Q O E B S R W)) 181 = some (nI (B.2.2.2.1).length) := aN_I mk_lineB
theorem mg_wishes : mm_gF (pm_h z X Y (pm_l V T Q O E B S R W)) 149 10 44 = some (.ref 182) := aF_g mk_o (by decide) rfl
theorem mk_wishes : (pm_h z X Y (pm_l V T Q O E B S R W)).2.2 182 = mm_I 0 B.2.2.2.2.1 := pm_at (i := 33) (by decide) rfl
theorem ma_wishes {i : Int32} : mm_gI (pm_h z X Y (pm_l V T Q O E B S R W)) 182 0 9 i = aG B.2.2.2.2.1 i := aG_0 mk_wishes
theorem mb_wishes {i x : Int32} : mm_sI (pm_h z X Y (pm_l V T Q O E B S R W)) 182 0 i x = aS B.2.2.2.2.1 i x (fun l => pm_h z X Y (pm_l V T Q O E (B.1, B.2.1, B.2.2.1, B.2.2.2.1, l, B.2.2.2.2.2.1, B.2.2.2.2.2.2.1, B.2.2.2.2.2.2.2.1, B.2.2.2.2.2.2.2.2.1, B.2.2.2.2.2.2.2.2.2) S R W)) := aS_I mk_wishes (fun l => pm_set (i := 33) (by decide) pm_ll)
theorem mn_wishes : mm_gN (pm_h z X Y (pm_l V T Q O E B S R W)) 182 = some (nI (B.2.2.2.2.1).length) := aN_I mk_wishes
theorem mg_wishOf : mm_gF (pm_h z X Y (pm_l V T Q O E B S R W)) 149 10 45 = some (.ref 183) := aF_g mk_o (by decide) rfl
theorem mk_wishOf : (pm_h z X Y (pm_l V T Q O E B S R W)).2.2 183 = mm_I 0 B.2.2.2.2.2.1 := pm_at (i := 34) (by decide) rfl
theorem ma_wishOf {i : Int32} : mm_gI (pm_h z X Y (pm_l V T Q O E B S R W)) 183 0 9 i = aG B.2.2.2.2.2.1 i := aG_0 mk_wishOf
theorem mb_wishOf {i x : Int32} : mm_sI (pm_h z X Y (pm_l V T Q O E B S R W)) 183 0 i x = aS B.2.2.2.2.2.1 i x (fun l => pm_h z X Y (pm_l V T Q O E (B.1, B.2.1, B.2.2.1, B.2.2.2.1, B.2.2.2.2.1, l, B.2.2.2.2.2.2.1, B.2.2.2.2.2.2.2.1, B.2.2.2.2.2.2.2.2.1, B.2.2.2.2.2.2.2.2.2) S R W)) := aS_I mk_wishOf (fun l => pm_set (i := 34) (by decide) pm_ll)
theorem mn_wishOf : mm_gN (pm_h z X Y (pm_l V T Q O E B S R W)) 183 = some (nI (B.2.2.2.2.2.1).length) := aN_I mk_wishOf
theorem mg_seens : mm_gF (pm_h z X Y (pm_l V T Q O E B S R W)) 149 10 46 = some (.ref 184) := aF_g mk_o (by decide) rfl
theorem mk_seens : (pm_h z X Y (pm_l V T Q O E B S R W)).2.2 184 = mm_I 0 B.2.2.2.2.2.2.1 := pm_at (i := 35) (by decide) rfl
theorem ma_seens {i : Int32} : mm_gI (pm_h z X Y (pm_l V T Q O E B S R W)) 184 0 9 i = aG B.2.2.2.2.2.2.1 i := aG_0 mk_seens
theorem mb_seens {i x : Int32} : mm_sI (pm_h z X Y (pm_l V T Q O E B S R W)) 184 0 i x = aS B.2.2.2.2.2.2.1 i x (fun l => pm_h z X Y (pm_l V T Q O E (B.1, B.2.1, B.2.2.1, B.2.2.2.1, B.2.2.2.2.1, B.2.2.2.2.2.1, l, B.2.2.2.2.2.2.2.1, B.2.2.2.2.2.2.2.2.1, B.2.2.2.2.2.2.2.2.2) S R W)) := aS_I mk_seens (fun l => pm_set (i := 35) (by decide) pm_ll)
theorem mn_seens : mm_gN (pm_h z X Y (pm_l V T Q O E B S R W)) 184 = some (nI (B.2.2.2.2.2.2.1).length) := aN_I mk_seens
theorem mg_seenAt : mm_gF (pm_h z X Y (pm_l V T Q O E B S R W)) 149 10 47 = some (.ref 185) := aF_g mk_o (by decide) rfl
theorem mk_seenAt : (pm_h z X Y (pm_l V T Q O E B S R W)).2.2 185 = mm_I 0 B.2.2.2.2.2.2.2.1 := pm_at (i := 36) (by decide) rfl
theorem ma_seenAt {i : Int32} : mm_gI (pm_h z X Y (pm_l V T Q O E B S R W)) 185 0 9 i = aG B.2.2.2.2.2.2.2.1 i := aG_0 mk_seenAt
theorem mb_seenAt {i x : Int32} : mm_sI (pm_h z X Y (pm_l V T Q O E B S R W)) 185 0 i x = aS B.2.2.2.2.2.2.2.1 i x (fun l => pm_h z X Y (pm_l V T Q O E (B.1, B.2.1, B.2.2.1, B.2.2.2.1, B.2.2.2.2.1, B.2.2.2.2.2.1, B.2.2.2.2.2.2.1, l, B.2.2.2.2.2.2.2.2.1, B.2.2.2.2.2.2.2.2.2) S R W)) := aS_I mk_seenAt (fun l => pm_set (i := 36) (by decide) pm_ll)
theorem mn_seenAt : mm_gN (pm_h z X Y (pm_l V T Q O E B S R W)) 185 = some (nI (B.2.2.2.2.2.2.2.1).length) := aN_I mk_seenAt
theorem mg_seenIn : mm_gF (pm_h z X Y (pm_l V T Q O E B S R W)) 149 10 48 = some (.ref 186) := aF_g mk_o (by decide) rfl
theorem mk_seenIn : (pm_h z X Y (pm_l V T Q O E B S R W)).2.2 186 = mm_I 0 B.2.2.2.2.2.2.2.2.1 := pm_at (i := 37) (by decide) rfl
theorem ma_seenIn {i : Int32} : mm_gI (pm_h z X Y (pm_l V T Q O E B S R W)) 186 0 9 i = aG B.2.2.2.2.2.2.2.2.1 i := aG_0 mk_seenIn
theorem mb_seenIn {i x : Int32} : mm_sI (pm_h z X Y (pm_l V T Q O E B S R W)) 186 0 i x = aS B.2.2.2.2.2.2.2.2.1 i x (fun l => pm_h z X Y (pm_l V T Q O E (B.1, B.2.1, B.2.2.1, B.2.2.2.1, B.2.2.2.2.1, B.2.2.2.2.2.1, B.2.2.2.2.2.2.1, B.2.2.2.2.2.2.2.1, l, B.2.2.2.2.2.2.2.2.2) S R W)) := aS_I mk_seenIn (fun l => pm_set (i := 37) (by decide) pm_ll)
theorem mn_seenIn : mm_gN (pm_h z X Y (pm_l V T Q O E B S R W)) 186 = some (nI (B.2.2.2.2.2.2.2.2.1).length) := aN_I mk_seenIn
theorem mg_seenThere : mm_gF (pm_h z X Y (pm_l V T Q O E B S R W)) 149 10 49 = some (.ref 187) := aF_g mk_o (by decide) rfl
theorem mk_seenThere : (pm_h z X Y (pm_l V T Q O E B S R W)).2.2 187 = mm_I 2 B.2.2.2.2.2.2.2.2.2 := pm_at (i := 38) (by decide) rfl
theorem ma_seenThere {i : Int32} : mm_gI (pm_h z X Y (pm_l V T Q O E B S R W)) 187 2 8 i = aG B.2.2.2.2.2.2.2.2.2 i := aG_2 mk_seenThere
theorem mb_seenThere {i x : Int32} : mm_sI (pm_h z X Y (pm_l V T Q O E B S R W)) 187 2 i x = aS B.2.2.2.2.2.2.2.2.2 i x (fun l => pm_h z X Y (pm_l V T Q O E (B.1, B.2.1, B.2.2.1, B.2.2.2.1, B.2.2.2.2.1, B.2.2.2.2.2.1, B.2.2.2.2.2.2.1, B.2.2.2.2.2.2.2.1, B.2.2.2.2.2.2.2.2.1, l) S R W)) := aS_I mk_seenThere (fun l => pm_set (i := 38) (by decide) pm_ll)
theorem mn_seenThere : mm_gN (pm_h z X Y (pm_l V T Q O E B S R W)) 187 = some (nI (B.2.2.2.2.2.2.2.2.2).length) := aN_I mk_seenThere
theorem mg_s : mm_gF (pm_h z X Y (pm_l V T Q O E B S R W)) 149 10 50 = some (.ref 188) := aF_g mk_o (by decide) rfl
theorem mk_s : (pm_h z X Y (pm_l V T Q O E B S R W)).2.2 188 = mm_I 0 S.1 := pm_at (i := 39) (by decide) rfl
theorem ma_s {i : Int32} : mm_gI (pm_h z X Y (pm_l V T Q O E B S R W)) 188 0 9 i = aG S.1 i := aG_0 mk_s
theorem mb_s {i x : Int32} : mm_sI (pm_h z X Y (pm_l V T Q O E B S R W)) 188 0 i x = aS S.1 i x (fun l => pm_h z X Y (pm_l V T Q O E B (l, S.2.1, S.2.2.1, S.2.2.2.1, S.2.2.2.2.1, S.2.2.2.2.2.1, S.2.2.2.2.2.2.1, S.2.2.2.2.2.2.2) R W)) := aS_I mk_s (fun l => pm_set (i := 39) (by decide) pm_ll)
theorem mn_s : mm_gN (pm_h z X Y (pm_l V T Q O E B S R W)) 188 = some (nI (S.1).length) := aN_I mk_s
theorem mg_aside : mm_gF (pm_h z X Y (pm_l V T Q O E B S R W)) 149 10 51 = some (.ref 189) := aF_g mk_o (by decide) rfl
theorem mk_aside : (pm_h z X Y (pm_l V T Q O E B S R W)).2.2 189 = mm_I 0 S.2.1 := pm_at (i := 40) (by decide) rfl
theorem ma_aside {i : Int32} : mm_gI (pm_h z X Y (pm_l V T Q O E B S R W)) 189 0 9 i = aG S.2.1 i := aG_0 mk_aside
theorem mb_aside {i x : Int32} : mm_sI (pm_h z X Y (pm_l V T Q O E B S R W)) 189 0 i x = aS S.2.1 i x (fun l => pm_h z X Y (pm_l V T Q O E B (S.1, l, S.2.2.1, S.2.2.2.1, S.2.2.2.2.1, S.2.2.2.2.2.1, S.2.2.2.2.2.2.1, S.2.2.2.2.2.2.2) R W)) := aS_I mk_aside (fun l => pm_set (i := 40) (by decide) pm_ll)
theorem mn_aside : mm_gN (pm_h z X Y (pm_l V T Q O E B S R W)) 189 = some (nI (S.2.1).length) := aN_I mk_aside
theorem mg_before : mm_gF (pm_h z X Y (pm_l V T Q O E B S R W)) 149 10 52 = some (.ref 190) := aF_g mk_o (by decide) rfl
theorem mk_before : (pm_h z X Y (pm_l V T Q O E B S R W)).2.2 190 = mm_I 0 S.2.2.1 := pm_at (i := 41) (by decide) rfl
theorem ma_before {i : Int32} : mm_gI (pm_h z X Y (pm_l V T Q O E B S R W)) 190 0 9 i = aG S.2.2.1 i := aG_0 mk_before
theorem mb_before {i x : Int32} : mm_sI (pm_h z X Y (pm_l V T Q O E B S R W)) 190 0 i x = aS S.2.2.1 i x (fun l => pm_h z X Y (pm_l V T Q O E B (S.1, S.2.1, l, S.2.2.2.1, S.2.2.2.2.1, S.2.2.2.2.2.1, S.2.2.2.2.2.2.1, S.2.2.2.2.2.2.2) R W)) := aS_I mk_before (fun l => pm_set (i := 41) (by decide) pm_ll)
theorem mn_before : mm_gN (pm_h z X Y (pm_l V T Q O E B S R W)) 190 = some (nI (S.2.2.1).length) := aN_I mk_before
theorem mg_marked : mm_gF (pm_h z X Y (pm_l V T Q O E B S R W)) 149 10 53 = some (.ref 191) := aF_g mk_o (by decide) rfl
theorem mk_marked : (pm_h z X Y (pm_l V T Q O E B S R W)).2.2 191 = mm_I 0 S.2.2.2.1 := pm_at (i := 42) (by decide) rfl
theorem ma_marked {i : Int32} : mm_gI (pm_h z X Y (pm_l V T Q O E B S R W)) 191 0 9 i = aG S.2.2.2.1 i := aG_0 mk_marked
theorem mb_marked {i x : Int32} : mm_sI (pm_h z X Y (pm_l V T Q O E B S R W)) 191 0 i x = aS S.2.2.2.1 i x (fun l => pm_h z X Y (pm_l V T Q O E B (S.1, S.2.1, S.2.2.1, l, S.2.2.2.2.1, S.2.2.2.2.2.1, S.2.2.2.2.2.2.1, S.2.2.2.2.2.2.2) R W)) := aS_I mk_marked (fun l => pm_set (i := 42) (by decide) pm_ll)
theorem mn_marked : mm_gN (pm_h z X Y (pm_l V T Q O E B S R W)) 191 = some (nI (S.2.2.2.1).length) := aN_I mk_marked
theorem mg_undone : mm_gF (pm_h z X Y (pm_l V T Q O E B S R W)) 149 10 54 = some (.ref 192) := aF_g mk_o (by decide) rfl
theorem mk_undone : (pm_h z X Y (pm_l V T Q O E B S R W)).2.2 192 = mm_I 0 S.2.2.2.2.1 := pm_at (i := 43) (by decide) rfl
theorem ma_undone {i : Int32} : mm_gI (pm_h z X Y (pm_l V T Q O E B S R W)) 192 0 9 i = aG S.2.2.2.2.1 i := aG_0 mk_undone
theorem mb_undone {i x : Int32} : mm_sI (pm_h z X Y (pm_l V T Q O E B S R W)) 192 0 i x = aS S.2.2.2.2.1 i x (fun l => pm_h z X Y (pm_l V T Q O E B (S.1, S.2.1, S.2.2.1, S.2.2.2.1, l, S.2.2.2.2.2.1, S.2.2.2.2.2.2.1, S.2.2.2.2.2.2.2) R W)) := aS_I mk_undone (fun l => pm_set (i := 43) (by decide) pm_ll)
theorem mn_undone : mm_gN (pm_h z X Y (pm_l V T Q O E B S R W)) 192 = some (nI (S.2.2.2.2.1).length) := aN_I mk_undone
theorem mg_isLaid : mm_gF (pm_h z X Y (pm_l V T Q O E B S R W)) 149 10 55 = some (.ref 193) := aF_g mk_o (by decide) rfl
theorem mk_isLaid : (pm_h z X Y (pm_l V T Q O E B S R W)).2.2 193 = mm_I 2 S.2.2.2.2.2.1 := pm_at (i := 44) (by decide) rfl
theorem ma_isLaid {i : Int32} : mm_gI (pm_h z X Y (pm_l V T Q O E B S R W)) 193 2 8 i = aG S.2.2.2.2.2.1 i := aG_2 mk_isLaid
theorem mb_isLaid {i x : Int32} : mm_sI (pm_h z X Y (pm_l V T Q O E B S R W)) 193 2 i x = aS S.2.2.2.2.2.1 i x (fun l => pm_h z X Y (pm_l V T Q O E B (S.1, S.2.1, S.2.2.1, S.2.2.2.1, S.2.2.2.2.1, l, S.2.2.2.2.2.2.1, S.2.2.2.2.2.2.2) R W)) := aS_I mk_isLaid (fun l => pm_set (i := 44) (by decide) pm_ll)
theorem mn_isLaid : mm_gN (pm_h z X Y (pm_l V T Q O E B S R W)) 193 = some (nI (S.2.2.2.2.2.1).length) := aN_I mk_isLaid
theorem mg_done : mm_gF (pm_h z X Y (pm_l V T Q O E B S R W)) 149 10 56 = some (.int S.2.2.2.2.2.2.1) := aF_g mk_o (by decide) rfl
theorem mf_done {x : Int32} : mm_sF (mp_P fx) (pm_h z X Y (pm_l V T Q O E B S R W)) 149 10 56 (.int x) = some (pm_h z X Y (pm_l V T Q O E B (S.1, S.2.1, S.2.2.1, S.2.2.2.1, S.2.2.2.2.1, S.2.2.2.2.2.1, x, S.2.2.2.2.2.2.2) R W)) := aF_s mk_o rfl (pm_set (i := 0) (by decide) pm_ll)
theorem mg_gustNow : mm_gF (pm_h z X Y (pm_l V T Q O E B S R W)) 149 10 57 = some (.int S.2.2.2.2.2.2.2) := aF_g mk_o (by decide) rfl
theorem mf_gustNow {x : Int32} : mm_sF (mp_P fx) (pm_h z X Y (pm_l V T Q O E B S R W)) 149 10 57 (.int x) = some (pm_h z X Y (pm_l V T Q O E B (S.1, S.2.1, S.2.2.1, S.2.2.2.1, S.2.2.2.2.1, S.2.2.2.2.2.1, S.2.2.2.2.2.2.1, x) R W)) := aF_s mk_o rfl (pm_set (i := 0) (by decide) pm_ll)
theorem mg_shown : mm_gF (pm_h z X Y (pm_l V T Q O E B S R W)) 149 10 58 = some (.ref 194) := aF_g mk_o (by decide) rfl
theorem mk_shown : (pm_h z X Y (pm_l V T Q O E B S R W)).2.2 194 = mm_I 0 R.1 := pm_at (i := 45) (by decide) rfl
theorem ma_shown {i : Int32} : mm_gI (pm_h z X Y (pm_l V T Q O E B S R W)) 194 0 9 i = aG R.1 i := aG_0 mk_shown
theorem mb_shown {i x : Int32} : mm_sI (pm_h z X Y (pm_l V T Q O E B S R W)) 194 0 i x = aS R.1 i x (fun l => pm_h z X Y (pm_l V T Q O E B S (l, R.2.1, R.2.2.1, R.2.2.2.1, R.2.2.2.2.1, R.2.2.2.2.2.1, R.2.2.2.2.2.2.1, R.2.2.2.2.2.2.2.1, R.2.2.2.2.2.2.2.2) W)) := aS_I mk_shown (fun l => pm_set (i := 45) (by decide) pm_ll)
theorem mn_shown : mm_gN (pm_h z X Y (pm_l V T Q O E B S R W)) 194 = some (nI (R.1).length) := aN_I mk_shown
theorem mg_shownMany : mm_gF (pm_h z X Y (pm_l V T Q O E B S R W)) 149 10 59 = some (.int R.2.1) := aF_g mk_o (by decide) rfl
theorem mf_shownMany {x : Int32} : mm_sF (mp_P fx) (pm_h z X Y (pm_l V T Q O E B S R W)) 149 10 59 (.int x) = some (pm_h z X Y (pm_l V T Q O E B S (R.1, x, R.2.2.1, R.2.2.2.1, R.2.2.2.2.1, R.2.2.2.2.2.1, R.2.2.2.2.2.2.1, R.2.2.2.2.2.2.2.1, R.2.2.2.2.2.2.2.2) W)) := aF_s mk_o rfl (pm_set (i := 0) (by decide) pm_ll)
theorem mg_from7 : mm_gF (pm_h z X Y (pm_l V T Q O E B S R W)) 149 10 60 = some (.ref 195) := aF_g mk_o (by decide) rfl
theorem mk_from7 : (pm_h z X Y (pm_l V T Q O E B S R W)).2.2 195 = mm_I 0 R.2.2.1 := pm_at (i := 46) (by decide) rfl
theorem ma_from7 {i : Int32} : mm_gI (pm_h z X Y (pm_l V T Q O E B S R W)) 195 0 9 i = aG R.2.2.1 i := aG_0 mk_from7
theorem mb_from7 {i x : Int32} : mm_sI (pm_h z X Y (pm_l V T Q O E B S R W)) 195 0 i x = aS R.2.2.1 i x (fun l => pm_h z X Y (pm_l V T Q O E B S (R.1, R.2.1, l, R.2.2.2.1, R.2.2.2.2.1, R.2.2.2.2.2.1, R.2.2.2.2.2.2.1, R.2.2.2.2.2.2.2.1, R.2.2.2.2.2.2.2.2) W)) := aS_I mk_from7 (fun l => pm_set (i := 46) (by decide) pm_ll)
theorem mn_from7 : mm_gN (pm_h z X Y (pm_l V T Q O E B S R W)) 195 = some (nI (R.2.2.1).length) := aN_I mk_from7
theorem mg_long7 : mm_gF (pm_h z X Y (pm_l V T Q O E B S R W)) 149 10 61 = some (.ref 196) := aF_g mk_o (by decide) rfl
theorem mk_long7 : (pm_h z X Y (pm_l V T Q O E B S R W)).2.2 196 = mm_I 0 R.2.2.2.1 := pm_at (i := 47) (by decide) rfl
theorem ma_long7 {i : Int32} : mm_gI (pm_h z X Y (pm_l V T Q O E B S R W)) 196 0 9 i = aG R.2.2.2.1 i := aG_0 mk_long7
theorem mb_long7 {i x : Int32} : mm_sI (pm_h z X Y (pm_l V T Q O E B S R W)) 196 0 i x = aS R.2.2.2.1 i x (fun l => pm_h z X Y (pm_l V T Q O E B S (R.1, R.2.1, R.2.2.1, l, R.2.2.2.2.1, R.2.2.2.2.2.1, R.2.2.2.2.2.2.1, R.2.2.2.2.2.2.2.1, R.2.2.2.2.2.2.2.2) W)) := aS_I mk_long7 (fun l => pm_set (i := 47) (by decide) pm_ll)
theorem mn_long7 : mm_gN (pm_h z X Y (pm_l V T Q O E B S R W)) 196 = some (nI (R.2.2.2.1).length) := aN_I mk_long7
theorem mg_sentences : mm_gF (pm_h z X Y (pm_l V T Q O E B S R W)) 149 10 62 = some (.int R.2.2.2.2.1) := aF_g mk_o (by decide) rfl
theorem mf_sentences {x : Int32} : mm_sF (mp_P fx) (pm_h z X Y (pm_l V T Q O E B S R W)) 149 10 62 (.int x) = some (pm_h z X Y (pm_l V T Q O E B S (R.1, R.2.1, R.2.2.1, R.2.2.2.1, x, R.2.2.2.2.2.1, R.2.2.2.2.2.2.1, R.2.2.2.2.2.2.2.1, R.2.2.2.2.2.2.2.2) W)) := aF_s mk_o rfl (pm_set (i := 0) (by decide) pm_ll)
theorem mg_text7 : mm_gF (pm_h z X Y (pm_l V T Q O E B S R W)) 149 10 63 = some (.ref 197) := aF_g mk_o (by decide) rfl
theorem mk_text7 : (pm_h z X Y (pm_l V T Q O E B S R W)).2.2 197 = mm_I 0 R.2.2.2.2.2.1 := pm_at (i := 48) (by decide) rfl
theorem ma_text7 {i : Int32} : mm_gI (pm_h z X Y (pm_l V T Q O E B S R W)) 197 0 9 i = aG R.2.2.2.2.2.1 i := aG_0 mk_text7
theorem mb_text7 {i x : Int32} : mm_sI (pm_h z X Y (pm_l V T Q O E B S R W)) 197 0 i x = aS R.2.2.2.2.2.1 i x (fun l => pm_h z X Y (pm_l V T Q O E B S (R.1, R.2.1, R.2.2.1, R.2.2.2.1, R.2.2.2.2.1, l, R.2.2.2.2.2.2.1, R.2.2.2.2.2.2.2.1, R.2.2.2.2.2.2.2.2) W)) := aS_I mk_text7 (fun l => pm_set (i := 48) (by decide) pm_ll)
theorem mn_text7 : mm_gN (pm_h z X Y (pm_l V T Q O E B S R W)) 197 = some (nI (R.2.2.2.2.2.1).length) := aN_I mk_text7
theorem mg_textMany : mm_gF (pm_h z X Y (pm_l V T Q O E B S R W)) 149 10 64 = some (.int R.2.2.2.2.2.2.1) := aF_g mk_o (by decide) rfl
theorem mf_textMany {x : Int32} : mm_sF (mp_P fx) (pm_h z X Y (pm_l V T Q O E B S R W)) 149 10 64 (.int x) = some (pm_h z X Y (pm_l V T Q O E B S (R.1, R.2.1, R.2.2.1, R.2.2.2.1, R.2.2.2.2.1, R.2.2.2.2.2.1, x, R.2.2.2.2.2.2.2.1, R.2.2.2.2.2.2.2.2) W)) := aF_s mk_o rfl (pm_set (i := 0) (by decide) pm_ll)
theorem mg_waysOf : mm_gF (pm_h z X Y (pm_l V T Q O E B S R W)) 149 10 65 = some (.ref 198) := aF_g mk_o (by decide) rfl
theorem mk_waysOf : (pm_h z X Y (pm_l V T Q O E B S R W)).2.2 198 = mm_I 0 R.2.2.2.2.2.2.2.1 := pm_at (i := 49) (by decide) rfl
theorem ma_waysOf {i : Int32} : mm_gI (pm_h z X Y (pm_l V T Q O E B S R W)) 198 0 9 i = aG R.2.2.2.2.2.2.2.1 i := aG_0 mk_waysOf
theorem mb_waysOf {i x : Int32} : mm_sI (pm_h z X Y (pm_l V T Q O E B S R W)) 198 0 i x = aS R.2.2.2.2.2.2.2.1 i x (fun l => pm_h z X Y (pm_l V T Q O E B S (R.1, R.2.1, R.2.2.1, R.2.2.2.1, R.2.2.2.2.1, R.2.2.2.2.2.1, R.2.2.2.2.2.2.1, l, R.2.2.2.2.2.2.2.2) W)) := aS_I mk_waysOf (fun l => pm_set (i := 49) (by decide) pm_ll)
theorem mn_waysOf : mm_gN (pm_h z X Y (pm_l V T Q O E B S R W)) 198 = some (nI (R.2.2.2.2.2.2.2.1).length) := aN_I mk_waysOf
theorem mg_rowOf : mm_gF (pm_h z X Y (pm_l V T Q O E B S R W)) 149 10 66 = some (.ref 199) := aF_g mk_o (by decide) rfl
theorem mk_rowOf : (pm_h z X Y (pm_l V T Q O E B S R W)).2.2 199 = mm_I 0 R.2.2.2.2.2.2.2.2 := pm_at (i := 50) (by decide) rfl
theorem ma_rowOf {i : Int32} : mm_gI (pm_h z X Y (pm_l V T Q O E B S R W)) 199 0 9 i = aG R.2.2.2.2.2.2.2.2 i := aG_0 mk_rowOf
theorem mb_rowOf {i x : Int32} : mm_sI (pm_h z X Y (pm_l V T Q O E B S R W)) 199 0 i x = aS R.2.2.2.2.2.2.2.2 i x (fun l => pm_h z X Y (pm_l V T Q O E B S (R.1, R.2.1, R.2.2.1, R.2.2.2.1, R.2.2.2.2.1, R.2.2.2.2.2.1, R.2.2.2.2.2.2.1, R.2.2.2.2.2.2.2.1, l) W)) := aS_I mk_rowOf (fun l => pm_set (i := 50) (by decide) pm_ll)
theorem mn_rowOf : mm_gN (pm_h z X Y (pm_l V T Q O E B S R W)) 199 = some (nI (R.2.2.2.2.2.2.2.2).length) := aN_I mk_rowOf
theorem mg_row : mm_gF (pm_h z X Y (pm_l V T Q O E B S R W)) 149 10 67 = some (.ref 200) := aF_g mk_o (by decide) rfl
theorem mk_row : (pm_h z X Y (pm_l V T Q O E B S R W)).2.2 200 = mm_I 0 W.1 := pm_at (i := 51) (by decide) rfl
theorem ma_row {i : Int32} : mm_gI (pm_h z X Y (pm_l V T Q O E B S R W)) 200 0 9 i = aG W.1 i := aG_0 mk_row
theorem mb_row {i x : Int32} : mm_sI (pm_h z X Y (pm_l V T Q O E B S R W)) 200 0 i x = aS W.1 i x (fun l => pm_h z X Y (pm_l V T Q O E B S R (l, W.2.1, W.2.2.1, W.2.2.2.1, W.2.2.2.2.1, W.2.2.2.2.2))) := aS_I mk_row (fun l => pm_set (i := 51) (by decide) pm_ll)
theorem mn_row : mm_gN (pm_h z X Y (pm_l V T Q O E B S R W)) 200 = some (nI (W.1).length) := aN_I mk_row
theorem mg_bestRow : mm_gF (pm_h z X Y (pm_l V T Q O E B S R W)) 149 10 68 = some (.ref 201) := aF_g mk_o (by decide) rfl
theorem mk_bestRow : (pm_h z X Y (pm_l V T Q O E B S R W)).2.2 201 = mm_I 0 W.2.1 := pm_at (i := 52) (by decide) rfl
theorem ma_bestRow {i : Int32} : mm_gI (pm_h z X Y (pm_l V T Q O E B S R W)) 201 0 9 i = aG W.2.1 i := aG_0 mk_bestRow
theorem mb_bestRow {i x : Int32} : mm_sI (pm_h z X Y (pm_l V T Q O E B S R W)) 201 0 i x = aS W.2.1 i x (fun l => pm_h z X Y (pm_l V T Q O E B S R (W.1, l, W.2.2.1, W.2.2.2.1, W.2.2.2.2.1, W.2.2.2.2.2))) := aS_I mk_bestRow (fun l => pm_set (i := 52) (by decide) pm_ll)
theorem mn_bestRow : mm_gN (pm_h z X Y (pm_l V T Q O E B S R W)) 201 = some (nI (W.2.1).length) := aN_I mk_bestRow
theorem mg_leastSteps : mm_gF (pm_h z X Y (pm_l V T Q O E B S R W)) 149 10 69 = some (.int W.2.2.1) := aF_g mk_o (by decide) rfl
theorem mf_leastSteps {x : Int32} : mm_sF (mp_P fx) (pm_h z X Y (pm_l V T Q O E B S R W)) 149 10 69 (.int x) = some (pm_h z X Y (pm_l V T Q O E B S R (W.1, W.2.1, x, W.2.2.2.1, W.2.2.2.2.1, W.2.2.2.2.2))) := aF_s mk_o rfl (pm_set (i := 0) (by decide) pm_ll)
theorem mg_steps10 : mm_gF (pm_h z X Y (pm_l V T Q O E B S R W)) 149 10 70 = some (.ref 202) := aF_g mk_o (by decide) rfl
theorem mk_steps10 : (pm_h z X Y (pm_l V T Q O E B S R W)).2.2 202 = mm_I 0 W.2.2.2.1 := pm_at (i := 53) (by decide) rfl
theorem ma_steps10 {i : Int32} : mm_gI (pm_h z X Y (pm_l V T Q O E B S R W)) 202 0 9 i = aG W.2.2.2.1 i := aG_0 mk_steps10
theorem mb_steps10 {i x : Int32} : mm_sI (pm_h z X Y (pm_l V T Q O E B S R W)) 202 0 i x = aS W.2.2.2.1 i x (fun l => pm_h z X Y (pm_l V T Q O E B S R (W.1, W.2.1, W.2.2.1, l, W.2.2.2.2.1, W.2.2.2.2.2))) := aS_I mk_steps10 (fun l => pm_set (i := 53) (by decide) pm_ll)
theorem mn_steps10 : mm_gN (pm_h z X Y (pm_l V T Q O E B S R W)) 202 = some (nI (W.2.2.2.1).length) := aN_I mk_steps10
theorem mg_placeIn : mm_gF (pm_h z X Y (pm_l V T Q O E B S R W)) 149 10 71 = some (.ref 203) := aF_g mk_o (by decide) rfl
theorem mk_placeIn : (pm_h z X Y (pm_l V T Q O E B S R W)).2.2 203 = mm_I 0 W.2.2.2.2.1 := pm_at (i := 54) (by decide) rfl
theorem ma_placeIn {i : Int32} : mm_gI (pm_h z X Y (pm_l V T Q O E B S R W)) 203 0 9 i = aG W.2.2.2.2.1 i := aG_0 mk_placeIn
theorem mb_placeIn {i x : Int32} : mm_sI (pm_h z X Y (pm_l V T Q O E B S R W)) 203 0 i x = aS W.2.2.2.2.1 i x (fun l => pm_h z X Y (pm_l V T Q O E B S R (W.1, W.2.1, W.2.2.1, W.2.2.2.1, l, W.2.2.2.2.2))) := aS_I mk_placeIn (fun l => pm_set (i := 54) (by decide) pm_ll)
theorem mn_placeIn : mm_gN (pm_h z X Y (pm_l V T Q O E B S R W)) 203 = some (nI (W.2.2.2.2.1).length) := aN_I mk_placeIn
theorem mg_g : mm_gF (pm_h z X Y (pm_l V T Q O E B S R W)) 149 10 72 = some (.long W.2.2.2.2.2) := aF_g mk_o (by decide) rfl
theorem mf_g {x : Int64} : mm_sF (mp_P fx) (pm_h z X Y (pm_l V T Q O E B S R W)) 149 10 72 (.long x) = some (pm_h z X Y (pm_l V T Q O E B S R (W.1, W.2.1, W.2.2.1, W.2.2.2.1, W.2.2.2.2.1, x))) := aF_s mk_o rfl (pm_set (i := 0) (by decide) pm_ll)
end PM
