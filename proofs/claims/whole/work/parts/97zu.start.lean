/-! printed by wip/whole/gen97zu.py: the first state -/
def i0_T : px_T := ((List.replicate 1000 (0 : Int32)), 0, 0, (List.replicate 1001 (0 : Int32)), (List.replicate 1001 (0 : Int32)), (List.replicate 1001 (0 : Int64)), 0, 0, 0)
def i0_D : px_D := ((List.replicate 40 (0 : Int32)))
def i0_S : px_S := (0, 0, (List.replicate 7 (0 : Int32)))
def i0_K : px_K := ((List.replicate 40 (0 : Int32)), 0, (List.replicate 7 (0 : Int32)), 0, (List.replicate 8 (0 : Int32)), 0)
def i0_R : px_R := ((List.replicate 7 (0 : Int32)), 0, 0, (List.replicate 7 (0 : Int32)), (List.replicate 7 (0 : Int32)), 0, (List.replicate 7 (0 : Int32)), 0, (List.replicate 10 (0 : Int32)), (List.replicate 10 (0 : Int32)), (List.replicate 10 (0 : Int32)))
def i0_C : px_C := ((List.replicate 294 (0 : Int32)), (List.replicate 294 (0 : Int32)), (List.replicate 294 (0 : Int32)), 0, (-1))
def i0_W : px_W := ((List.replicate 7 (0 : Int32)), 0, 0, (List.replicate 7 (0 : Int32)), (List.replicate 7 (0 : Int32)), (List.replicate 7 (0 : Int32)), (List.replicate 1408 (0 : Int32)), (List.replicate 11 (0 : Int32)), (List.replicate 11 (0 : Int32)))
def i0_U : px_U := ((List.replicate 16 (0 : Int64)), (List.replicate 4 (0 : Int64)), (List.replicate 4 (0 : Int32)), 0, 0)
def i0_q : px_q := ((List.replicate 6 (0 : Int64)), 0, (List.replicate 6 (0 : Int64)), (List.replicate 6 (0 : Int32)), 0, (List.replicate 12 (0 : Int32)), (List.replicate 12 (0 : Int32)), (List.replicate 12 (0 : Int32)), 0, (-1), (List.replicate 7 (0 : Int64)), (List.replicate 7 (0 : Int32)), (List.replicate 7 (0 : Int32)), (List.replicate 7 (0 : Int32)), (List.replicate 42 (0 : Int32)), (List.replicate 7 (0 : Int32)), 0, (List.replicate 8 (0 : Int32)), 0, (List.replicate 1000 (0 : Int32)), 0, (List.replicate 32 (0 : Int32)), 0)
def i0_B0 : px_K := ((List.replicate 40 (0 : Int32)), 0, (List.replicate 7 (0 : Int32)), 0, (List.replicate 8 (0 : Int32)), 0)
def j0_V : pm_V := (0, 0, 0, 0)
def j0_T : pm_T := (0, (List.replicate 1000 (0 : Int32)), 0, 0, 0, 0, 0, 0, 0)
def j0_Q : pm_Q := ([0, 0, 0, 0, (-1), 0, 0, 0, 0, 0, 0, 0], (List.replicate 12 (0 : Int64)), (List.replicate 12 (0 : Int64)), (List.replicate 14 (0 : Int64)), (List.replicate 12 (0 : Int32)), (List.replicate 24 (0 : Int32)), (List.replicate 14 (0 : Int32)), (List.replicate 14 (0 : Int32)), (List.replicate 14 (0 : Int32)), (List.replicate 14 (0 : Int32)), (List.replicate 84 (0 : Int32)), (List.replicate 16 (0 : Int32)), (List.replicate 2 (0 : Int32)), (List.replicate 2 (0 : Int32)), (List.replicate 2000 (0 : Int32)))
def j0_O : pm_O := ((List.replicate 7 (0 : Int32)), (List.replicate 7 (0 : Int32)))
def j0_E : pm_E := ((List.replicate 7 (0 : Int32)), (List.replicate 7 (0 : Int32)), (List.replicate 7 (0 : Int32)), (List.replicate 7 (0 : Int32)), (List.replicate 7 (0 : Int32)), (List.replicate 7 (0 : Int32)), (List.replicate 7 (0 : Int32)), (List.replicate 7 (0 : Int32)), (List.replicate 7 (0 : Int32)), (List.replicate 20 (0 : Int32)))
def j0_B : pm_B := ((List.replicate 6 (0 : Int32)), (List.replicate 240 (0 : Int32)), (List.replicate 240 (0 : Int32)), (List.replicate 240 (0 : Int32)), (List.replicate 6 (0 : Int32)), (List.replicate 42 (0 : Int32)), (List.replicate 5 (0 : Int32)), (List.replicate 40 (0 : Int32)), (List.replicate 40 (0 : Int32)), (List.replicate 40 (0 : Int32)))
def j0_S : pm_S := ((List.replicate 9 (0 : Int32)), (List.replicate 9 (0 : Int32)), (List.replicate 9 (0 : Int32)), (List.replicate 36 (0 : Int32)), (List.replicate 144 (0 : Int32)), (List.replicate 4 (0 : Int32)), 0, (-1))
def j0_R : pm_R := ((List.replicate 7 (0 : Int32)), 0, (List.replicate 7 (0 : Int32)), (List.replicate 7 (0 : Int32)), 0, (List.replicate 7 (0 : Int32)), 0, (List.replicate 294 (0 : Int32)), (List.replicate 2058 (0 : Int32)))
def j0_W : pm_W := ((List.replicate 7 (0 : Int32)), (List.replicate 7 (0 : Int32)), 0, (List.replicate 20 (0 : Int32)), (List.replicate 287 (0 : Int32)), 0)
def l0_x : List mm_C := px_l false false false i0_T i0_D i0_S i0_S i0_K i0_R i0_C i0_W i0_U i0_q i0_q i0_B0 i0_B0 i0_B0 i0_B0
def l0_m : List mm_C := pm_l j0_V j0_T j0_Q j0_O j0_E j0_B j0_S j0_R j0_W
def f0_0 : List Value → mm_H → Option (List Value × mm_H) := fun _ _ => none
def h0_0 : mm_H := (59, 0, fun j => if j < 59 then cs_X else mm_x0 [] mp_byt j)
def h0_1 : mm_H := mm_hn h0_0 (.inr (.inr (9, ((mp_P f0_0).2.2.1 9).map defaultValue))) ((mp_P f0_0).2.2.1 9).length
def r0_1 : Option (Option Value × mm_H) := cs_ex (mp_P f0_0) 2000 899 0 0 (mm_ent [.ref 59] ((mp_P f0_0).2.1 0).2.1) [] h0_1
def k0_1 (o : Option (Option Value × mm_H)) (n z : Nat) (l : List mm_C) : Bool := match o with
  | some (none, h) => decide (h.1 = n) && (decide (h.2.1 = z) && decide ((List.range (n - 59)).map (fun i => h.2.2 (59 + i)) = l))
  | _ => false
theorem s0_1 : k0_1 r0_1 149 9235 l0_x = true := by decide +kernel
def h0_2 (h : mm_H) : mm_H := mm_hn h (.inr (.inr (10, ((mp_P f0_0).2.2.1 10).map defaultValue))) ((mp_P f0_0).2.2.1 10).length
def r0_2 : Option (Option Value × mm_H) := match r0_1 with
  | some (_, h) => cs_ex (mp_P f0_0) 2000 899 214 0 (mm_ent [.ref 149] ((mp_P f0_0).2.1 214).2.1) [] (h0_2 h)
  | none => none
theorem s0_2 : k0_1 r0_2 204 16462 (l0_x ++ l0_m) = true := by decide +kernel
theorem k0_e {o : Option (Option Value × mm_H)} {n z : Nat} {l : List mm_C} (h : k0_1 o n z l = true) : ∃ h1, o = some (none, h1) ∧ h1.1 = n ∧ h1.2.1 = z ∧ (List.range (n - 59)).map (fun i => h1.2.2 (59 + i)) = l := by
  unfold k0_1 at h
  split at h
  · rename_i h1
    simp only [Bool.and_eq_true, decide_eq_true_eq] at h
    exact ⟨h1, rfl, h.1, h.2.1, h.2.2⟩
  · cases h
