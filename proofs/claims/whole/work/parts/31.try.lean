section T31
variable (fx : List Value → mm_H → Option (List Value × mm_H)) (d : Nat) (h : mm_H) (Q : Option Value → mm_H → Prop)
theorem isl_i (x : Int32) : mm_isL (some (.int x)) = false := rfl
theorem isl_r (x : Nat) : mm_isL (some (.ref x)) = false := rfl
theorem isl_n : mm_isL none = false := rfl
theorem wx_some {α : Type} {a : α} {p : α → Prop} : (∃ x, some a = some x ∧ p x) ↔ p a := ⟨fun ⟨_, h, q⟩ => by cases h; exact q, fun q => ⟨a, rfl, q⟩⟩
/-- where a step leads -/
def sp_behind (p st : Int32) : Int32 := if st = 1 then (if 10 ≤ p + 1 then p else p + 1) else if st = 2 ∧ 0 < p then p - 1 else p
theorem t_behind (p st : Int32) (hq : Q (some (.int (sp_behind p st))) h) : wm (mp_P fx) d 127 [.int p, .int st] h Q := by
  simp only [e127, q127_0, q127_1, q127_2, q127_5, q127_6, q127_7, q127_8, q127_10, q127_13, q127_14, q127_15, q127_16, q127_19, q127_20, q127_21, q127_22, q127_23, q127_26, q127_27, q127_30, q127_31, q127_32, q127_33, q127_36, q127_37]
  unfold sp_behind at hq
  by_cases h1 : st = 1
  · simp only [h1, if_true, not_true, if_false] at hq ⊢
    split <;> rename_i h2
    · rwa [if_pos h2] at hq
    · rwa [if_neg h2] at hq
  · rw [if_neg h1] at hq
    rw [if_pos h1]
    by_cases h2 : st = 2
    · rw [if_neg (fun q => q h2)]
      split <;> rename_i h3
      · rwa [if_neg (fun q => absurd h3 (Int32.not_le.mpr q.2))] at hq
      · rwa [if_pos ⟨h2, Int32.not_le.mp h3⟩] at hq
    · rw [if_pos h2]
      rwa [if_neg (fun q => h2 q.1)] at hq
theorem t_isOpen (a pl : Nat) (hr op w : Int32) (hc : h.2.2 a = mm_O 2 [.int hr, .int op, .ref pl]) (hq : Q (some (.int (if (op >>> (w &&& 31)) &&& 1 = 1 then 1 else 0))) h) : wm (mp_P fx) d 106 [.ref a, .int w] h Q := by
  simp only [e106, b106_0, b106_1, q106_0, q106_1, q106_4, q106_5, q106_6, q106_7, q106_8, q106_9, q106_12, q106_13, q106_16, q106_17, mm_gF_at hc (by decide : 2 < 1000), List.getElem?_cons_succ, List.getElem?_cons_zero, wx_some]
  split <;> rename_i h1
  · rwa [if_neg h1] at hq
  · rwa [if_pos (Classical.not_not.mp h1)] at hq
end T31
