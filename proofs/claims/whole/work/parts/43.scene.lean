/-! the scene's methods -/
section TS
variable {fx : List Value → mm_H → Option (List Value × mm_H)} {z : Nat} {E M : Nat → mm_C} {sw c2 w2 : Bool} {T : px_T} {D : px_D} {S : px_S} {S1 : px_S} {K : px_K} {R : px_R} {C : px_C} {W : px_W} {U : px_U} {q : px_q} {q1 : px_q} {B0 : px_K} {B1 : px_K} {B2 : px_K} {B3 : px_K} {T_signs : List Int32} {T_length : Int32} {T_fault : Int32} {T_types : List Int32} {T_starts : List Int32} {T_values : List Int64} {T_tokens : Int32} {T_at : Int32} {T_behind : Int32} {S_hour : Int32} {S_open : Int32} {S_places : List Int32} {S1_hour : Int32} {S1_open : Int32} {S1_places : List Int32} {K_lines : List Int32} {K_lineCount : Int32} {K_wishes : List Int32} {K_wishCount : Int32} {K_sights : List Int32} {K_sightCount : Int32} {R_shown : List Int32} {R_length : Int32} {R_readers : Int32} {R_begins : List Int32} {R_lengths : List Int32} {R_sentences : Int32} {R_order : List Int32} {R_able : Int32} {R_standing : List Int32} {R_lovers : List Int32} {R_lowest : List Int32} {C_ways : List Int32} {C_rows : List Int32} {C_shallower : List Int32} {C_length : Int32} {C_goal : Int32} {W_row : List Int32} {W_walkers : Int32} {W_names : Int32} {W_wanted : List Int32} {W_shown : List Int32} {W_places : List Int32} {W_rest : List Int32} {W_spent : List Int32} {W_tried : List Int32} {U_undoRows : List Int64} {U_markScenes : List Int64} {U_marksLaid : List Int32} {U_undoCount : Int32} {U_undoEnd : Int32} {q_sortNames : List Int64} {q_sortCount : Int32} {q_colourNames : List Int64} {q_colourSorts : List Int32} {q_colourCount : Int32} {q_ruleMakes : List Int32} {q_ruleFirsts : List Int32} {q_ruleSeconds : List Int32} {q_ruleCount : Int32} {q_saysSort : Int32} {q_walkerNames : List Int64} {q_kinds : List Int32} {q_walkerColours : List Int32} {q_starts : List Int32} {q_stepRows : List Int32} {q_stepCounts : List Int32} {q_walkerCount : Int32} {q_gusts : List Int32} {q_gustCount : Int32} {q_parts : List Int32} {q_count : Int32} {q_stack : List Int32} {q_height : Int32} {q1_sortNames : List Int64} {q1_sortCount : Int32} {q1_colourNames : List Int64} {q1_colourSorts : List Int32} {q1_colourCount : Int32} {q1_ruleMakes : List Int32} {q1_ruleFirsts : List Int32} {q1_ruleSeconds : List Int32} {q1_ruleCount : Int32} {q1_saysSort : Int32} {q1_walkerNames : List Int64} {q1_kinds : List Int32} {q1_walkerColours : List Int32} {q1_starts : List Int32} {q1_stepRows : List Int32} {q1_stepCounts : List Int32} {q1_walkerCount : Int32} {q1_gusts : List Int32} {q1_gustCount : Int32} {q1_parts : List Int32} {q1_count : Int32} {q1_stack : List Int32} {q1_height : Int32} {B0_lines : List Int32} {B0_lineCount : Int32} {B0_wishes : List Int32} {B0_wishCount : Int32} {B0_sights : List Int32} {B0_sightCount : Int32} {B1_lines : List Int32} {B1_lineCount : Int32} {B1_wishes : List Int32} {B1_wishCount : Int32} {B1_sights : List Int32} {B1_sightCount : Int32} {B2_lines : List Int32} {B2_lineCount : Int32} {B2_wishes : List Int32} {B2_wishCount : Int32} {B2_sights : List Int32} {B2_sightCount : Int32} {B3_lines : List Int32} {B3_lineCount : Int32} {B3_wishes : List Int32} {B3_wishCount : Int32} {B3_sights : List Int32} {B3_sightCount : Int32}
variable {d : Nat} {Q : Option Value → mm_H → Prop}
/-- a row agrees with a function up to a place -/
def ag (xs : List Int32) (n : Nat) (f : Nat → Nat) : Prop := ∀ i, i < n → xs[i]? = some (nI (f i))
theorem ag_len {xs : List Int32} {n : Nat} {f : Nat → Nat} (h : ag xs n f) : n ≤ xs.length := by
  cases n with
  | zero => omega
  | succ n =>
    have h1 := h n (by omega)
    rcases Nat.lt_or_ge n xs.length with h2 | h2
    · omega
    · rw [List.getElem?_eq_none h2] at h1; cases h1
theorem ag_G {xs : List Int32} {n j : Nat} {f : Nat → Nat} (h : ag xs n f) (hl : xs.length < 2 ^ 31) (hj : j < n) : aG xs (nI j) = some (nI (f j)) := aG_n (h j hj) hl
theorem ag_set {xs : List Int32} {n i v : Nat} {f g : Nat → Nat} (h : ag xs n f) (hi : i < xs.length) (hg : ∀ j, j < n → g j = if j = i then v else f j) : ag (xs.set i (nI v)) n g := by
  intro j hj
  rw [List.getElem?_set, hg j hj]
  by_cases e : i = j
  · subst e; rw [if_pos rfl, if_pos hi, if_pos rfl]
  · rw [if_neg e, if_neg (fun z => e z.symm), h j hj]
theorem ag_le {xs : List Int32} {n m : Nat} {f : Nat → Nat} (h : ag xs n f) (hm : m ≤ n) : ag xs m f := fun i hi => h i (by omega)
theorem ag_ext {xs : List Int32} {n : Nat} {f g : Nat → Nat} (h : ag xs n f) (hg : ∀ i, i < n → g i = f i) : ag xs n g := fun i hi => by rw [hg i hi]; exact h i hi
/-- where a step leads; what a walker does at an hour -/
def sp_behind (p st : Nat) : Nat := if st = 1 then (if p + 1 < 10 then p + 1 else p) else if st = 2 ∧ 0 < p then p - 1 else p
theorem sp_behind_lt {p st : Nat} (h : p < 10) : sp_behind p st < 10 := by
  unfold sp_behind
  split
  · split <;> omega
  · split <;> omega
theorem t_behind {h : mm_H} {p st : Nat} (hp : p < 2 ^ 30) (hs : st < 2 ^ 30) (hq : Q (some (.int (nI (sp_behind p st)))) h) : wm (mp_P fx) d 127 [.int (nI p), .int (nI st)] h Q := by
  unfold sp_behind at hq
  simp only [e127, q127_0, q127_1, q127_2, q127_5, q127_6, q127_7, q127_8, q127_10, q127_13, q127_14, q127_15, q127_16, q127_19, q127_20, q127_21, q127_22, q127_23, q127_26, q127_27, q127_30, q127_31, q127_32, q127_33, q127_36, q127_37]
  simp only [nl_0, nl_1, nl_2, nl_10, nI_add, nI_eq (show st < 2 ^ 31 by omega) (show 1 < 2 ^ 31 by omega), nI_eq (show st < 2 ^ 31 by omega) (show 2 < 2 ^ 31 by omega), nI_leI (show 10 < 2 ^ 31 by omega) (show p + 1 < 2 ^ 31 by omega), nI_leI (show p < 2 ^ 31 by omega) (show 0 < 2 ^ 31 by omega)]
  by_cases h1 : st = 1
  · rw [if_pos h1] at hq
    rw [if_neg (by omega)]
    by_cases h2 : p + 1 < 10
    · rw [if_pos h2] at hq; rw [if_neg (by omega)]; exact hq
    · rw [if_neg h2] at hq; rw [if_pos (by omega)]; exact hq
  · rw [if_neg h1] at hq
    rw [if_pos h1]
    by_cases h2 : st = 2
    · rw [if_neg (by omega)]
      by_cases h3 : 0 < p
      · rw [if_pos ⟨h2, h3⟩] at hq; rw [if_neg (by omega), nI_sub (by omega)]; exact hq
      · rw [if_neg (fun z => h3 z.2)] at hq; rw [if_pos (by omega)]; exact hq
    · rw [if_neg (fun z => h2 z.1)] at hq; rw [if_pos h2]; exact hq
/-- the step told for a walker at an hour -/
theorem t_stepOf {sc : Nat → Nat} {sr : Nat → Nat → Nat} {nW w hr : Nat} (hsc : ag q.2.2.2.2.2.2.2.2.2.2.2.2.2.2.2.1 nW sc) (hl1 : (q.2.2.2.2.2.2.2.2.2.2.2.2.2.2.2.1).length = 7) (hsr : ∀ w, w < nW → ∀ i, i < sc w → (q.2.2.2.2.2.2.2.2.2.2.2.2.2.2.1)[w * 6 + i]? = some (nI (sr w i))) (hl2 : (q.2.2.2.2.2.2.2.2.2.2.2.2.2.2.1).length = 42) (hw : w < nW) (h6 : 0 < sc w ∧ sc w ≤ 6) (hh : hr < 2 ^ 30) (hq : Q (some (.int (nI (sr w (hr % sc w))))) (px_h z E M (px_l sw c2 w2 T D S S1 K R C W U q q1 B0 B1 B2 B3))) :
    wm (mp_P fx) d 107 [.ref (px_ta sw), .int (nI w), .int (nI hr)] (px_h z E M (px_l sw c2 w2 T D S S1 K R C W U q q1 B0 B1 B2 B3)) Q := by
  have hn := ag_len hsc
  have hm := Nat.mod_lt hr h6.1
  simp only [e107, q107_0, q107_1, q107_4, q107_5, q107_6, q107_7, q107_8, q107_9, q107_12, q107_13, q107_16, q107_17, q107_20, q107_21, q107_24, q107_25, q107_27, q107_28, q107_29, q107_30, q107_31, q107_32, q107_33, xc_q, xg_q_0, xg_q_1, xs_q_1, xg_q_2, xg_q_3, xg_q_4, xs_q_4, xg_q_5, xg_q_6, xg_q_7, xg_q_8, xs_q_8, xg_q_9, xs_q_9, xg_q_10, xg_q_11, xg_q_12, xg_q_13, xg_q_14, xg_q_15, xg_q_16, xs_q_16, xg_q_17, xg_q_18, xs_q_18, xg_q_19, xa_q_sortNames, xb_q_sortNames, xn_q_sortNames, xa_q_colourNames, xb_q_colourNames, xn_q_colourNames, xa_q_colourSorts, xb_q_colourSorts, xn_q_colourSorts, xa_q_ruleMakes, xb_q_ruleMakes, xn_q_ruleMakes, xa_q_ruleFirsts, xb_q_ruleFirsts, xn_q_ruleFirsts, xa_q_ruleSeconds, xb_q_ruleSeconds, xn_q_ruleSeconds, xa_q_walkerNames, xb_q_walkerNames, xn_q_walkerNames, xa_q_kinds, xb_q_kinds, xn_q_kinds, xa_q_walkerColours, xb_q_walkerColours, xn_q_walkerColours, xa_q_starts, xb_q_starts, xn_q_starts, xa_q_stepRows, xb_q_stepRows, xn_q_stepRows, xa_q_stepCounts, xb_q_stepCounts, xn_q_stepCounts, xa_q_gusts, xb_q_gusts, xn_q_gusts, xc_ql, xg_ql_0, xg_ql_1, xs_ql_1, xg_ql_2, xg_ql_3, xs_ql_3, xa_q_parts, xb_q_parts, xn_q_parts, xa_q_stack, xb_q_stack, xn_q_stack, wx_some, wx_ref, isl_i, isl_r, isl_n, ag_G hsc (by omega) hw]
  rw [nl_1, if_neg (by rw [nI_ltI (by omega) (by omega)]; omega), nl_0, if_pos (by rw [nI_leI (by omega) (by omega)]; omega), if_neg (by rw [nI_eq (by omega) (by omega)]; omega), nI_mod (by omega) (by omega) (by omega), nl_6, pk_mul, nI_add, aG_n (hsr w hw _ hm) (by omega), wx_some]
  exact hq
end TS
