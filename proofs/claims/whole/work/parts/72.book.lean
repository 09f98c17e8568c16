/-! what is told beside the square -/
abbrev BK : Type := (Nat × (Nat → Nat × Nat × Nat)) × (Nat × (Nat → Nat)) × (Nat × (Nat → Nat × Nat × Bool))
def b_ln (l : Nat × Nat × Nat) : Nat := l.1 + 4 * l.2.1 + 32 * l.2.2
def b_sg (l : Nat × Nat × Bool) : Nat := l.1 + 10 * l.2.1 + (if l.2.2 = true then 1000 else 0)
def b_ok (s : SQ) (b : BK) : Prop := (b.1.1 ≤ 40 ∧ ∀ i, i < b.1.1 → (b.1.2 i).1 < 4 ∧ (b.1.2 i).2.1 < 8 ∧ (b.1.2 i).2.2 < 3 ∧ (¬ (b.1.2 i).1 = 0 → (b.1.2 i).2.1 < k_nW s) ∧ ((b.1.2 i).1 = 1 → 0 < (b.1.2 i).2.2)) ∧ (b.2.1.1 ≤ 7 ∧ ∀ i, i < b.2.1.1 → b.2.1.2 i < k_nC s) ∧ (b.2.2.1 ≤ 8 ∧ ∀ i, i < b.2.2.1 → (b.2.2.2 i).1 < 10 ∧ (b.2.2.2 i).2.1 ≤ 40)
def BKx (b : BK) (K : px_K) : Prop := ((K.1).length = 40 ∧ K.2.1 = nI b.1.1 ∧ ag K.1 b.1.1 (fun i => b_ln (b.1.2 i))) ∧ ((K.2.2.1).length = 7 ∧ K.2.2.2.1 = nI b.2.1.1 ∧ ag K.2.2.1 b.2.1.1 b.2.1.2) ∧ ((K.2.2.2.2.1).length = 8 ∧ K.2.2.2.2.2 = nI b.2.2.1 ∧ ag K.2.2.2.2.1 b.2.2.1 (fun i => b_sg (b.2.2.2 i)))
def BLm (mB : pm_B) : Prop := (mB.1).length = 6 ∧ (mB.2.1).length = 240 ∧ (mB.2.2.1).length = 240 ∧ (mB.2.2.2.1).length = 240 ∧ (mB.2.2.2.2.1).length = 6 ∧ (mB.2.2.2.2.2.1).length = 42 ∧ (mB.2.2.2.2.2.2.1).length = 5 ∧ (mB.2.2.2.2.2.2.2.1).length = 40 ∧ (mB.2.2.2.2.2.2.2.2.1).length = 40 ∧ (mB.2.2.2.2.2.2.2.2.2).length = 40
def BKm (b : BK) (mB : pm_B) (r : Nat) : Prop := ((mB.1)[r]? = some (nI b.1.1) ∧ ∀ i, i < b.1.1 → (mB.2.1)[40 * r + i]? = some (nI (b.1.2 i).1) ∧ (¬ (b.1.2 i).1 = 0 → (mB.2.2.1)[40 * r + i]? = some (nI (b.1.2 i).2.1)) ∧ ((b.1.2 i).1 = 1 → (mB.2.2.2.1)[40 * r + i]? = some (nI (b.1.2 i).2.2))) ∧ ((mB.2.2.2.2.1)[r]? = some (nI b.2.1.1) ∧ ∀ i, i < b.2.1.1 → (mB.2.2.2.2.2.1)[7 * r + i]? = some (nI (b.2.1.2 i))) ∧ ((mB.2.2.2.2.2.2.1)[r]? = some (nI b.2.2.1) ∧ ∀ i, i < b.2.2.1 → (mB.2.2.2.2.2.2.2.1)[8 * r + i]? = some (nI (b.2.2.2 i).1) ∧ (mB.2.2.2.2.2.2.2.2.1)[8 * r + i]? = some (nI (b.2.2.2 i).2.1) ∧ (mB.2.2.2.2.2.2.2.2.2)[8 * r + i]? = some (if (b.2.2.2 i).2.2 = true then 1 else 0))
def sp_wished (s : SQ) (b : BK) : Int32 := if b.2.1.1 = 0 then -1 else nI (wy s b.2.1.2 (b.2.1.1 - 1) 0 (k_sy s))
def sp_walker (s : SQ) (c : SC) (w k : Nat) : Nat := if k = 0 then k_kd s w else if k = 1 then k_wc s w else if k = 2 then c.2.2 w else if k = 3 then (if c.2.1.testBit w = true then 1 else 0) else if k = 4 then sp_step s w c.1 else (if sp_rd s c 0 (sp_gust s c.1) w = true then 1 else 0)
section TB
variable {fx : List Value → mm_H → Option (List Value × mm_H)} {z : Nat} {E M : Nat → mm_C} {sw c2 w2 : Bool} {T : px_T} {D : px_D} {S : px_S} {S1 : px_S} {K : px_K} {R : px_R} {C : px_C} {W : px_W} {U : px_U} {q : px_q} {q1 : px_q} {B0 : px_K} {B1 : px_K} {B2 : px_K} {B3 : px_K} {T_signs : List Int32} {T_length : Int32} {T_fault : Int32} {T_types : List Int32} {T_starts : List Int32} {T_values : List Int64} {T_tokens : Int32} {T_at : Int32} {T_behind : Int32} {S_hour : Int32} {S_open : Int32} {S_places : List Int32} {S1_hour : Int32} {S1_open : Int32} {S1_places : List Int32} {K_lines : List Int32} {K_lineCount : Int32} {K_wishes : List Int32} {K_wishCount : Int32} {K_sights : List Int32} {K_sightCount : Int32} {R_shown : List Int32} {R_length : Int32} {R_readers : Int32} {R_begins : List Int32} {R_lengths : List Int32} {R_sentences : Int32} {R_order : List Int32} {R_able : Int32} {R_standing : List Int32} {R_lovers : List Int32} {R_lowest : List Int32} {C_ways : List Int32} {C_rows : List Int32} {C_shallower : List Int32} {C_length : Int32} {C_goal : Int32} {W_row : List Int32} {W_walkers : Int32} {W_names : Int32} {W_wanted : List Int32} {W_shown : List Int32} {W_places : List Int32} {W_rest : List Int32} {W_spent : List Int32} {W_tried : List Int32} {U_undoRows : List Int64} {U_markScenes : List Int64} {U_marksLaid : List Int32} {U_undoCount : Int32} {U_undoEnd : Int32} {q_sortNames : List Int64} {q_sortCount : Int32} {q_colourNames : List Int64} {q_colourSorts : List Int32} {q_colourCount : Int32} {q_ruleMakes : List Int32} {q_ruleFirsts : List Int32} {q_ruleSeconds : List Int32} {q_ruleCount : Int32} {q_saysSort : Int32} {q_walkerNames : List Int64} {q_kinds : List Int32} {q_walkerColours : List Int32} {q_starts : List Int32} {q_stepRows : List Int32} {q_stepCounts : List Int32} {q_walkerCount : Int32} {q_gusts : List Int32} {q_gustCount : Int32} {q_parts : List Int32} {q_count : Int32} {q_stack : List Int32} {q_height : Int32} {q1_sortNames : List Int64} {q1_sortCount : Int32} {q1_colourNames : List Int64} {q1_colourSorts : List Int32} {q1_colourCount : Int32} {q1_ruleMakes : List Int32} {q1_ruleFirsts : List Int32} {q1_ruleSeconds : List Int32} {q1_ruleCount : Int32} {q1_saysSort : Int32} {q1_walkerNames : List Int64} {q1_kinds : List Int32} {q1_walkerColours : List Int32} {q1_starts : List Int32} {q1_stepRows : List Int32} {q1_stepCounts : List Int32} {q1_walkerCount : Int32} {q1_gusts : List Int32} {q1_gustCount : Int32} {q1_parts : List Int32} {q1_count : Int32} {q1_stack : List Int32} {q1_height : Int32} {B0_lines : List Int32} {B0_lineCount : Int32} {B0_wishes : List Int32} {B0_wishCount : Int32} {B0_sights : List Int32} {B0_sightCount : Int32} {B1_lines : List Int32} {B1_lineCount : Int32} {B1_wishes : List Int32} {B1_wishCount : Int32} {B1_sights : List Int32} {B1_sightCount : Int32} {B2_lines : List Int32} {B2_lineCount : Int32} {B2_wishes : List Int32} {B2_wishCount : Int32} {B2_sights : List Int32} {B2_sightCount : Int32} {B3_lines : List Int32} {B3_lineCount : Int32} {B3_wishes : List Int32} {B3_wishCount : Int32} {B3_sights : List Int32} {B3_sightCount : Int32}
variable {d : Nat} {Q : Option Value → mm_H → Prop} {s : SQ} {c : SC} {nm : NMs} {b : BK}
theorem t_wished (hK : KX nm s q R C) (hb : b_ok s b) (hB : BKx b K) (hq : ∀ C', KX nm s q R C' → Q (some (.int (sp_wished s b))) (px_h z E M (px_l sw c2 w2 T D S S1 K R (C') W U q q1 B0 B1 B2 B3))) : wm (mp_P fx) (d + 4) 170 [.ref 59] (px_h z E M (px_l sw c2 w2 T D S S1 K R C W U q q1 B0 B1 B2 B3)) Q := by
  obtain ⟨-, ⟨h1, h2, h3⟩, -⟩ := id hB
  have hb7 := hb.2.1.1
  unfold sp_wished at hq
  simp only [e170, q170_0, q170_1, q170_4, q170_7, q170_8, q170_11, q170_12, q170_13, q170_14, q170_17, q170_18, q170_21, q170_22, q170_25, q170_28, q170_29, q170_30, q170_33, q170_36, q170_39, q170_40, q170_43, q170_46, xc_x, xg_x_0, xg_x_1, xg_x_2, xg_x_3, xg_x_4, xg_x_5, xg_x_6, xg_x_7, xg_x_8, xg_x_9, xg_x_10, xg_x_11, xg_x_12, xg_x_13, xg_x_14, xs_x_14, xg_x_15, xs_x_15, xc_K, xg_K_0, xg_K_1, xs_K_1, xg_K_2, xg_K_3, xs_K_3, xg_K_4, xg_K_5, xs_K_5, xa_K_lines, xb_K_lines, xn_K_lines, xa_K_wishes, xb_K_wishes, xn_K_wishes, xa_K_sights, xb_K_sights, xn_K_sights, xc_C, xg_C_0, xg_C_1, xg_C_2, xg_C_3, xs_C_3, xg_C_4, xs_C_4, xa_C_ways, xb_C_ways, xn_C_ways, xa_C_rows, xb_C_rows, xn_C_rows, xa_C_shallower, xb_C_shallower, xn_C_shallower, xc_q, xg_q_0, xg_q_1, xs_q_1, xg_q_2, xg_q_3, xg_q_4, xs_q_4, xg_q_5, xg_q_6, xg_q_7, xg_q_8, xs_q_8, xg_q_9, xs_q_9, xg_q_10, xg_q_11, xg_q_12, xg_q_13, xg_q_14, xg_q_15, xg_q_16, xs_q_16, xg_q_17, xg_q_18, xs_q_18, xg_q_19, xa_q_sortNames, xb_q_sortNames, xn_q_sortNames, xa_q_colourNames, xb_q_colourNames, xn_q_colourNames, xa_q_colourSorts, xb_q_colourSorts, xn_q_colourSorts, xa_q_ruleMakes, xb_q_ruleMakes, xn_q_ruleMakes, xa_q_ruleFirsts, xb_q_ruleFirsts, xn_q_ruleFirsts, xa_q_ruleSeconds, xb_q_ruleSeconds, xn_q_ruleSeconds, xa_q_walkerNames, xb_q_walkerNames, xn_q_walkerNames, xa_q_kinds, xb_q_kinds, xn_q_kinds, xa_q_walkerColours, xb_q_walkerColours, xn_q_walkerColours, xa_q_starts, xb_q_starts, xn_q_starts, xa_q_stepRows, xb_q_stepRows, xn_q_stepRows, xa_q_stepCounts, xb_q_stepCounts, xn_q_stepCounts, xa_q_gusts, xb_q_gusts, xn_q_gusts, xc_ql, xg_ql_0, xg_ql_1, xs_ql_1, xg_ql_2, xg_ql_3, xs_ql_3, xa_q_parts, xb_q_parts, xn_q_parts, xa_q_stack, xb_q_stack, xn_q_stack, wx_some, wx_ref, h2]
  by_cases e : b.2.1.1 = 0
  · rw [if_pos e] at hq
    rw [if_neg (by rw [e]; decide)]
    exact hq C hK
  · rw [if_neg e] at hq
    rw [nl_1, if_pos (by rw [nI_leI (by omega) (by omega)]; omega), nl_0]
    apply t_chartK (b := 0) hK.1 hK.2.2.1 hK.2.2.2.2.2 (show 1 ≤ b.2.1.1 by omega) hb7 h1 (by omega) (t := b.2.1.2) (fun j hj => ⟨by rw [Nat.zero_add]; exact h3 j hj, hb.2.1.2 j hj⟩)
    intro C' hC'
    simp only [sl_n, e170, q170_0, q170_1, q170_4, q170_7, q170_8, q170_11, q170_12, q170_13, q170_14, q170_17, q170_18, q170_21, q170_22, q170_25, q170_28, q170_29, q170_30, q170_33, q170_36, q170_39, q170_40, q170_43, q170_46, xc_x, xg_x_0, xg_x_1, xg_x_2, xg_x_3, xg_x_4, xg_x_5, xg_x_6, xg_x_7, xg_x_8, xg_x_9, xg_x_10, xg_x_11, xg_x_12, xg_x_13, xg_x_14, xs_x_14, xg_x_15, xs_x_15, xc_C, xg_C_0, xg_C_1, xg_C_2, xg_C_3, xs_C_3, xg_C_4, xs_C_4, xa_C_ways, xb_C_ways, xn_C_ways, xa_C_rows, xb_C_rows, xn_C_rows, xa_C_shallower, xb_C_shallower, xn_C_shallower, wx_some, wx_ref]
    apply t_whole hK.2.2.1 (by omega) hb7 hC'
    simp only [sl_i, e170, q170_0, q170_1, q170_4, q170_7, q170_8, q170_11, q170_12, q170_13, q170_14, q170_17, q170_18, q170_21, q170_22, q170_25, q170_28, q170_29, q170_30, q170_33, q170_36, q170_39, q170_40, q170_43, q170_46]
    exact hq C' ⟨hK.1, hK.2.1, hK.2.2.1, hK.2.2.2.1, hK.2.2.2.2.1, hC'.1⟩
theorem t_see {u v t : Int32} (ht : t = 0 ∨ t = 1) (hb : b_ok s b) (hB : BKx b K) (hq0 : (sx 10 u = none ∨ sx 41 v = none ∨ b.2.2.1 = 8) → Q (some (.int 0)) (px_h z E M (px_l sw c2 w2 T D S S1 K R C W U q q1 B0 B1 B2 B3))) (hq1 : ∀ p n K', sx 10 u = some p → sx 41 v = some n → b.2.2.1 < 8 → b_ok s (b.1, b.2.1, b.2.2.1 + 1, fun i => if i = b.2.2.1 then (p, n, decide (t = 1)) else b.2.2.2 i) → BKx (b.1, b.2.1, b.2.2.1 + 1, fun i => if i = b.2.2.1 then (p, n, decide (t = 1)) else b.2.2.2 i) K' → Q (some (.int 1)) (px_h z E M (px_l sw c2 w2 T D S S1 (K') R C W U q q1 B0 B1 B2 B3))) : wm (mp_P fx) (d + 1) 188 [.ref 59, .int u, .int v, .int t] (px_h z E M (px_l sw c2 w2 T D S S1 K R C W U q q1 B0 B1 B2 B3)) Q := by
  obtain ⟨g1, g2, ⟨h1, h2, h3⟩⟩ := id hB
  have hb8 := hb.2.2.1
  simp only [e188, b188_0, b188_1, bn_0 b188_0, bn_1 b188_1, q188_0, q188_1, q188_4, q188_5, q188_7, q188_10, q188_11, q188_14, q188_15, q188_17, q188_20, q188_21, q188_22, q188_23, q188_26, q188_27, q188_28, q188_29, q188_32, xc_x, xg_x_0, xg_x_1, xg_x_2, xg_x_3, xg_x_4, xg_x_5, xg_x_6, xg_x_7, xg_x_8, xg_x_9, xg_x_10, xg_x_11, xg_x_12, xg_x_13, xg_x_14, xs_x_14, xg_x_15, xs_x_15, xc_K, xg_K_0, xg_K_1, xs_K_1, xg_K_2, xg_K_3, xs_K_3, xg_K_4, xg_K_5, xs_K_5, xa_K_lines, xb_K_lines, xn_K_lines, xa_K_wishes, xb_K_wishes, xn_K_wishes, xa_K_sights, xb_K_sights, xn_K_sights, wx_some, wx_ref]
  rcases sx_c 10 u (by omega) with ⟨e, hu⟩ | ⟨p, hp, rfl, e⟩
  · rcases hu with hu | ⟨hu, hu2⟩
    · rw [if_pos hu]; exact hq0 (Or.inl e)
    · rw [if_neg hu, if_pos (show (10 : Int32) ≤ u from hu2)]; exact hq0 (Or.inl e)
  rw [if_neg (by rw [nl_0, nI_ltI (by omega) (by omega)]; omega), nl_10, if_neg (by rw [nI_leI (by omega) (by omega)]; omega)]
  rcases sx_c 41 v (by omega) with ⟨e2, hu⟩ | ⟨n, hn, rfl, e2⟩
  · rcases hu with hu | ⟨hu, hu2⟩
    · rw [if_pos hu]; exact hq0 (Or.inr (Or.inl e2))
    · rw [if_neg hu, if_neg (Int32.not_le.mpr (Int32.lt_of_lt_of_le (by decide : (40 : Int32) < nI 41) hu2))]; exact hq0 (Or.inr (Or.inl e2))
  rw [if_neg (by rw [nl_0, nI_ltI (by omega) (by omega)]; omega), show (40 : Int32) = nI 40 from rfl, if_pos (by rw [nI_leI (by omega) (by omega)]; omega)]
  simp only [e189, b189_0, b189_1, bn_0 b189_0, bn_1 b189_1, q189_0, q189_1, q189_4, q189_6, q189_9, q189_10, q189_11, q189_12, q189_15, q189_16, q189_19, q189_20, q189_22, q189_23, q189_24, q189_25, q189_26, q189_29, q189_32, q189_35, q189_36, q189_37, q189_38, q189_39, q189_40, q189_43, q189_44, q189_45, q189_48, q189_49, xc_K, xg_K_0, xg_K_1, xs_K_1, xg_K_2, xg_K_3, xs_K_3, xg_K_4, xg_K_5, xs_K_5, xa_K_lines, xb_K_lines, xn_K_lines, xa_K_wishes, xb_K_wishes, xn_K_wishes, xa_K_sights, xb_K_sights, xn_K_sights, wx_some, wx_ref, h2]
  by_cases e8 : b.2.2.1 = 8
  · rw [if_neg (by rw [e8]; decide)]
    simp only [sl_i, e188, b188_0, b188_1, bn_0 b188_0, bn_1 b188_1, q188_0, q188_1, q188_4, q188_5, q188_7, q188_10, q188_11, q188_14, q188_15, q188_17, q188_20, q188_21, q188_22, q188_23, q188_26, q188_27, q188_28, q188_29, q188_32]
    exact hq0 (Or.inr (Or.inr e8))
  rw [nl_8, if_pos (by rw [nI_ltI (by omega) (by omega)]; omega)]
  have hok : b_ok s (b.1, b.2.1, b.2.2.1 + 1, fun i => if i = b.2.2.1 then (p, n, decide (t = 1)) else b.2.2.2 i) := by
    refine ⟨hb.1, hb.2.1, by show b.2.2.1 + 1 ≤ 8; omega, fun i hi => ?_⟩
    show (if i = b.2.2.1 then (p, n, decide (t = 1)) else b.2.2.2 i).1 < 10 ∧ (if i = b.2.2.1 then (p, n, decide (t = 1)) else b.2.2.2 i).2.1 ≤ 40
    by_cases ei : i = b.2.2.1
    · rw [if_pos ei]; exact ⟨hp, by show n ≤ 40; omega⟩
    · rw [if_neg ei]
      have hi' : i < b.2.2.1 + 1 := hi
      exact hb.2.2.2 i (by omega)
  have hBK : ∀ v, v = nI (b_sg (p, n, decide (t = 1))) → BKx (b.1, b.2.1, b.2.2.1 + 1, fun i => if i = b.2.2.1 then (p, n, decide (t = 1)) else b.2.2.2 i) (K.1, K.2.1, K.2.2.1, K.2.2.2.1, (K.2.2.2.2.1).set b.2.2.1 v, nI (b.2.2.1 + 1)) := by
    intro v hv
    refine ⟨g1, g2, by show ((K.2.2.2.2.1).set b.2.2.1 v).length = 8; rw [List.length_set]; exact h1, rfl, fun i hi => ?_⟩
    have hi' : i < b.2.2.1 + 1 := hi
    show ((K.2.2.2.2.1).set b.2.2.1 v)[i]? = some (nI (b_sg (if i = b.2.2.1 then (p, n, decide (t = 1)) else b.2.2.2 i)))
    rw [List.getElem?_set]
    by_cases ei : b.2.2.1 = i
    · rw [if_pos ei, if_pos (by omega), if_pos ei.symm, hv]
    · rw [if_neg ei, if_neg (fun z => ei z.symm)]; exact h3 i (by omega)
  rcases ht with ht | ht
  · subst ht
    rw [if_pos (by decide)]
    simp only [nl_10, pk_mul, nI_add, nl_1, aS_n (show b.2.2.1 < (K.2.2.2.2.1).length by omega) (show (K.2.2.2.2.1).length < 2 ^ 31 by omega), wx_some, e189, b189_0, b189_1, bn_0 b189_0, bn_1 b189_1, q189_0, q189_1, q189_4, q189_6, q189_9, q189_10, q189_11, q189_12, q189_15, q189_16, q189_19, q189_20, q189_22, q189_23, q189_24, q189_25, q189_26, q189_29, q189_32, q189_35, q189_36, q189_37, q189_38, q189_39, q189_40, q189_43, q189_44, q189_45, q189_48, q189_49, xc_K, xg_K_0, xg_K_1, xs_K_1, xg_K_2, xg_K_3, xs_K_3, xg_K_4, xg_K_5, xs_K_5, xa_K_lines, xb_K_lines, xn_K_lines, xa_K_wishes, xb_K_wishes, xn_K_wishes, xa_K_sights, xb_K_sights, xn_K_sights, wx_ref, h2, nl_0]
    simp only [sl_i, e188, b188_0, b188_1, bn_0 b188_0, bn_1 b188_1, q188_0, q188_1, q188_4, q188_5, q188_7, q188_10, q188_11, q188_14, q188_15, q188_17, q188_20, q188_21, q188_22, q188_23, q188_26, q188_27, q188_28, q188_29, q188_32]
    exact hq1 p n _ e e2 (by omega) hok (hBK _ rfl)
  · subst ht
    rw [if_neg (by decide)]
    simp only [nl_10, pk_mul, nI_add, nl_1, aS_n (show b.2.2.1 < (K.2.2.2.2.1).length by omega) (show (K.2.2.2.2.1).length < 2 ^ 31 by omega), wx_some, e189, b189_0, b189_1, bn_0 b189_0, bn_1 b189_1, q189_0, q189_1, q189_4, q189_6, q189_9, q189_10, q189_11, q189_12, q189_15, q189_16, q189_19, q189_20, q189_22, q189_23, q189_24, q189_25, q189_26, q189_29, q189_32, q189_35, q189_36, q189_37, q189_38, q189_39, q189_40, q189_43, q189_44, q189_45, q189_48, q189_49, xc_K, xg_K_0, xg_K_1, xs_K_1, xg_K_2, xg_K_3, xs_K_3, xg_K_4, xg_K_5, xs_K_5, xa_K_lines, xb_K_lines, xn_K_lines, xa_K_wishes, xb_K_wishes, xn_K_wishes, xa_K_sights, xb_K_sights, xn_K_sights, wx_ref, h2, show (1000 : Int32) = nI 1000 from rfl]
    simp only [sl_i, e188, b188_0, b188_1, bn_0 b188_0, bn_1 b188_1, q188_0, q188_1, q188_4, q188_5, q188_7, q188_10, q188_11, q188_14, q188_15, q188_17, q188_20, q188_21, q188_22, q188_23, q188_26, q188_27, q188_28, q188_29, q188_32]
    exact hq1 p n _ e e2 (by omega) hok (hBK _ rfl)
theorem t_walker {u v : Int32} (hK : KX nm s q R C) (hc : c_ok s c) (hS : SCx s S c) (hq : ∀ q' R', KX nm s q' R' C → Q (some (.int (match sx (k_nW s) u, sx 6 v with
    | some w, some k => nI (sp_walker s c w k)
    | _, _ => -2))) (px_h z E M (px_l sw c2 w2 T D S S1 K (R') C W U (q') q1 B0 B1 B2 B3))) : wm (mp_P fx) (d + 5) 104 [.ref 59, .int u, .int v] (px_h z E M (px_l sw c2 w2 T D S S1 K R C W U q q1 B0 B1 B2 B3)) Q := by
  have ho := hK.2.2.1
  have h7 := ho.1.2.2.2.1
  have hh := hc.1
  have hs := hK.1
  simp only [q104_0, q104_1, q104_2, e104, xc_x, xg_x_0, xg_x_1, xg_x_2, xg_x_3, xg_x_4, xg_x_5, xg_x_6, xg_x_7, xg_x_8, xg_x_9, xg_x_10, xg_x_11, xg_x_12, xg_x_13, xg_x_14, xs_x_14, xg_x_15, xs_x_15]
  apply t_isWalker hK.1 ho
  · intro e
    simp only [sl_i, q104_5, q104_8, q104_10]
    rw [if_neg (by decide)]
    have := hq q R hK
    rw [e] at this
    exact this
  intro w hw hu e
  subst hu
  rw [e] at hq
  simp only [sl_i, q104_5, q104_8, q104_10, q104_11, q104_12]
  rw [if_pos (by decide)]
  rcases sx_c 6 v (by omega) with ⟨e2, hv⟩ | ⟨k, hk, rfl, e2⟩
  · have hqq := hq q R hK
    rw [e2] at hqq
    rw [tsw_lo (by
      rcases hv with hv | ⟨-, hv⟩
      · exact Or.inl (Int32.lt_iff_toInt_lt.mp hv)
      · have := Int32.le_iff_toInt_le.mp hv
        rw [nI_toInt (by omega)] at this
        exact Or.inr (by omega))]
    show ww (mp_P fx) (d + 5) 104 135 _ _ _ _
    simp only [q104_135, q104_137]
    exact hqq
  rw [e2] at hq
  simp only [] at hq
  obtain ⟨hs1, hs2, hrg, hpl⟩ := id hS
  have hk6 : k = 0 ∨ k = 1 ∨ k = 2 ∨ k = 3 ∨ k = 4 ∨ k = 5 := by omega
  rcases hk6 with h | h | h | h | h | h <;> subst h
  · show ww (mp_P fx) (d + 5) 104 52 _ _ _ _
    have hl := hs.1.2.2.2.2.2.2.2.1
    simp only [q104_52, q104_53, q104_56, q104_59, q104_60, q104_61, xc_x, xg_x_0, xg_x_1, xg_x_2, xg_x_3, xg_x_4, xg_x_5, xg_x_6, xg_x_7, xg_x_8, xg_x_9, xg_x_10, xg_x_11, xg_x_12, xg_x_13, xg_x_14, xs_x_14, xg_x_15, xs_x_15, xc_q, xg_q_0, xg_q_1, xs_q_1, xg_q_2, xg_q_3, xg_q_4, xs_q_4, xg_q_5, xg_q_6, xg_q_7, xg_q_8, xs_q_8, xg_q_9, xs_q_9, xg_q_10, xg_q_11, xg_q_12, xg_q_13, xg_q_14, xg_q_15, xg_q_16, xs_q_16, xg_q_17, xg_q_18, xs_q_18, xg_q_19, xa_q_sortNames, xb_q_sortNames, xn_q_sortNames, xa_q_colourNames, xb_q_colourNames, xn_q_colourNames, xa_q_colourSorts, xb_q_colourSorts, xn_q_colourSorts, xa_q_ruleMakes, xb_q_ruleMakes, xn_q_ruleMakes, xa_q_ruleFirsts, xb_q_ruleFirsts, xn_q_ruleFirsts, xa_q_ruleSeconds, xb_q_ruleSeconds, xn_q_ruleSeconds, xa_q_walkerNames, xb_q_walkerNames, xn_q_walkerNames, xa_q_kinds, xb_q_kinds, xn_q_kinds, xa_q_walkerColours, xb_q_walkerColours, xn_q_walkerColours, xa_q_starts, xb_q_starts, xn_q_starts, xa_q_stepRows, xb_q_stepRows, xn_q_stepRows, xa_q_stepCounts, xb_q_stepCounts, xn_q_stepCounts, xa_q_gusts, xb_q_gusts, xn_q_gusts, xc_ql, xg_ql_0, xg_ql_1, xs_ql_1, xg_ql_2, xg_ql_3, xs_ql_3, xa_q_parts, xb_q_parts, xn_q_parts, xa_q_stack, xb_q_stack, xn_q_stack, wx_some, wx_ref, ag_G hs.2.2.2.2.1.1 (show (q.2.2.2.2.2.2.2.2.2.2.2.1).length < 2 ^ 31 by omega) hw]
    exact hq q R hK
  · show ww (mp_P fx) (d + 5) 104 62 _ _ _ _
    have hl := hs.1.2.2.2.2.2.2.2.2.1
    simp only [q104_62, q104_63, q104_66, q104_69, q104_70, q104_71, xc_x, xg_x_0, xg_x_1, xg_x_2, xg_x_3, xg_x_4, xg_x_5, xg_x_6, xg_x_7, xg_x_8, xg_x_9, xg_x_10, xg_x_11, xg_x_12, xg_x_13, xg_x_14, xs_x_14, xg_x_15, xs_x_15, xc_q, xg_q_0, xg_q_1, xs_q_1, xg_q_2, xg_q_3, xg_q_4, xs_q_4, xg_q_5, xg_q_6, xg_q_7, xg_q_8, xs_q_8, xg_q_9, xs_q_9, xg_q_10, xg_q_11, xg_q_12, xg_q_13, xg_q_14, xg_q_15, xg_q_16, xs_q_16, xg_q_17, xg_q_18, xs_q_18, xg_q_19, xa_q_sortNames, xb_q_sortNames, xn_q_sortNames, xa_q_colourNames, xb_q_colourNames, xn_q_colourNames, xa_q_colourSorts, xb_q_colourSorts, xn_q_colourSorts, xa_q_ruleMakes, xb_q_ruleMakes, xn_q_ruleMakes, xa_q_ruleFirsts, xb_q_ruleFirsts, xn_q_ruleFirsts, xa_q_ruleSeconds, xb_q_ruleSeconds, xn_q_ruleSeconds, xa_q_walkerNames, xb_q_walkerNames, xn_q_walkerNames, xa_q_kinds, xb_q_kinds, xn_q_kinds, xa_q_walkerColours, xb_q_walkerColours, xn_q_walkerColours, xa_q_starts, xb_q_starts, xn_q_starts, xa_q_stepRows, xb_q_stepRows, xn_q_stepRows, xa_q_stepCounts, xb_q_stepCounts, xn_q_stepCounts, xa_q_gusts, xb_q_gusts, xn_q_gusts, xc_ql, xg_ql_0, xg_ql_1, xs_ql_1, xg_ql_2, xg_ql_3, xs_ql_3, xa_q_parts, xb_q_parts, xn_q_parts, xa_q_stack, xb_q_stack, xn_q_stack, wx_some, wx_ref, ag_G hs.2.2.2.2.1.2.1 (show (q.2.2.2.2.2.2.2.2.2.2.2.2.1).length < 2 ^ 31 by omega) hw]
    exact hq q R hK
  · show ww (mp_P fx) (d + 5) 104 72 _ _ _ _
    have hl := hrg.1
    simp only [q104_72, q104_73, q104_76, q104_79, q104_80, q104_81, xc_x, xg_x_0, xg_x_1, xg_x_2, xg_x_3, xg_x_4, xg_x_5, xg_x_6, xg_x_7, xg_x_8, xg_x_9, xg_x_10, xg_x_11, xg_x_12, xg_x_13, xg_x_14, xs_x_14, xg_x_15, xs_x_15, xc_S, xg_S_0, xs_S_0, xg_S_1, xs_S_1, xg_S_2, xa_S_places, xb_S_places, xn_S_places, wx_some, wx_ref, ag_G hpl (show (S.2.2).length < 2 ^ 31 by omega) hw]
    exact hq q R hK
  · show ww (mp_P fx) (d + 5) 104 82 _ _ _ _
    have hqq : Q (some (.int (nI (if c.2.1.testBit w = true then 1 else 0)))) _ := hq q R hK
    simp only [q104_82, q104_83, q104_86, q104_87, xc_x, xg_x_0, xg_x_1, xg_x_2, xg_x_3, xg_x_4, xg_x_5, xg_x_6, xg_x_7, xg_x_8, xg_x_9, xg_x_10, xg_x_11, xg_x_12, xg_x_13, xg_x_14, xs_x_14, xg_x_15, xs_x_15, xc_S, xg_S_0, xs_S_0, xg_S_1, xs_S_1, xg_S_2, xa_S_places, xb_S_places, xn_S_places, wx_some, wx_ref]
    apply t_isOpenS ho hc hS hw
    simp only [sl_i, q104_90, q104_93, q104_94, q104_97, q104_98]
    by_cases eb : c.2.1.testBit w = true
    · rw [if_pos eb] at hqq ⊢; rw [if_neg (by decide)]; exact hqq
    · rw [if_neg eb] at hqq ⊢; rw [if_pos (by decide)]; exact hqq
  · show ww (mp_P fx) (d + 5) 104 99 _ _ _ _
    simp only [q104_99, q104_100, q104_103, q104_104, q104_105, q104_108, q104_111, xc_x, xg_x_0, xg_x_1, xg_x_2, xg_x_3, xg_x_4, xg_x_5, xg_x_6, xg_x_7, xg_x_8, xg_x_9, xg_x_10, xg_x_11, xg_x_12, xg_x_13, xg_x_14, xs_x_14, xg_x_15, xs_x_15, xc_S, xg_S_0, xs_S_0, xg_S_1, xs_S_1, xg_S_2, xa_S_places, xb_S_places, xn_S_places, xc_q, xg_q_0, xg_q_1, xs_q_1, xg_q_2, xg_q_3, xg_q_4, xs_q_4, xg_q_5, xg_q_6, xg_q_7, xg_q_8, xs_q_8, xg_q_9, xs_q_9, xg_q_10, xg_q_11, xg_q_12, xg_q_13, xg_q_14, xg_q_15, xg_q_16, xs_q_16, xg_q_17, xg_q_18, xs_q_18, xg_q_19, xa_q_sortNames, xb_q_sortNames, xn_q_sortNames, xa_q_colourNames, xb_q_colourNames, xn_q_colourNames, xa_q_colourSorts, xb_q_colourSorts, xn_q_colourSorts, xa_q_ruleMakes, xb_q_ruleMakes, xn_q_ruleMakes, xa_q_ruleFirsts, xb_q_ruleFirsts, xn_q_ruleFirsts, xa_q_ruleSeconds, xb_q_ruleSeconds, xn_q_ruleSeconds, xa_q_walkerNames, xb_q_walkerNames, xn_q_walkerNames, xa_q_kinds, xb_q_kinds, xn_q_kinds, xa_q_walkerColours, xb_q_walkerColours, xn_q_walkerColours, xa_q_starts, xb_q_starts, xn_q_starts, xa_q_stepRows, xb_q_stepRows, xn_q_stepRows, xa_q_stepCounts, xb_q_stepCounts, xn_q_stepCounts, xa_q_gusts, xb_q_gusts, xn_q_gusts, xc_ql, xg_ql_0, xg_ql_1, xs_ql_1, xg_ql_2, xg_ql_3, xs_ql_3, xa_q_parts, xb_q_parts, xn_q_parts, xa_q_stack, xb_q_stack, xn_q_stack, wx_some, wx_ref, hs1]
    apply t_stepOf hs ho hw (by omega)
    simp only [sl_i, q104_114]
    exact hq q R hK
  · show ww (mp_P fx) (d + 5) 104 115 _ _ _ _
    simp only [q104_115, q104_116, q104_117, q104_120, xc_x, xg_x_0, xg_x_1, xg_x_2, xg_x_3, xg_x_4, xg_x_5, xg_x_6, xg_x_7, xg_x_8, xg_x_9, xg_x_10, xg_x_11, xg_x_12, xg_x_13, xg_x_14, xs_x_14, xg_x_15, xs_x_15, wx_some, wx_ref]
    apply t_rdS hK hc hS
    intro q' R' hK' hR
    have hb := hR.2.1
    have hlt : bmk (sp_rd s c 0 (sp_gust s c.1)) (k_nW s) < 128 := Nat.lt_of_lt_of_le bmk_lt (p27 h7)
    simp only [sl_n, q104_123, q104_124, q104_127, q104_130, q104_131, q104_132, q104_133, q104_134, xc_x, xg_x_0, xg_x_1, xg_x_2, xg_x_3, xg_x_4, xg_x_5, xg_x_6, xg_x_7, xg_x_8, xg_x_9, xg_x_10, xg_x_11, xg_x_12, xg_x_13, xg_x_14, xs_x_14, xg_x_15, xs_x_15, xc_R, xg_R_0, xg_R_1, xs_R_1, xg_R_2, xs_R_2, xg_R_3, xg_R_4, xg_R_5, xs_R_5, xg_R_6, xg_R_7, xs_R_7, xg_R_8, xg_R_9, xg_R_10, xa_R_shown, xb_R_shown, xn_R_shown, xa_R_begins, xb_R_begins, xn_R_begins, xa_R_lengths, xb_R_lengths, xn_R_lengths, xa_R_order, xb_R_order, xn_R_order, xa_R_standing, xb_R_standing, xn_R_standing, xa_R_lovers, xb_R_lovers, xn_R_lovers, xa_R_lowest, xb_R_lowest, xn_R_lowest, wx_some, wx_ref, hb, k7_bit0 _ hlt w (show w < 7 by omega), bmk_bit, decide_eq_true hw, Bool.true_and]
    exact hq q' R' hK'
end TB
section MB
variable {fx : List Value → mm_H → Option (List Value × mm_H)} {z : Nat} {X Y : Nat → mm_C} {mV : pm_V} {mT : pm_T} {mQ : pm_Q} {mO : pm_O} {mE : pm_E} {mB : pm_B} {mS : pm_S} {mR : pm_R} {mW : pm_W} {m_thrown : Int32} {m_given : Int32} {m_fresh : Int64} {m_code : Int32} {m_taped : Int32} {m_tape : List Int32} {m_size : Int32} {m_place : Int32} {m_begin : Int32} {m_token : Int32} {m_word : Int64} {m_told : Int32} {m_wrong : Int32} {m_square : List Int32} {m_sortName : List Int64} {m_colourName : List Int64} {m_walkerName : List Int64} {m_sortOf : List Int32} {m_rules : List Int32} {m_kind : List Int32} {m_colour : List Int32} {m_atTold : List Int32} {m_goesMany : List Int32} {m_goes : List Int32} {m_gusts : List Int32} {m_lineFrom : List Int32} {m_lineTo : List Int32} {m_codes : List Int32} {m_opened : List Int32} {m_compared : List Int32} {m_kept : List Int32} {m_keptBy : List Int32} {m_ahead : List Int32} {m_against : List Int32} {m_sum : List Int32} {m_sumBy : List Int32} {m_term : List Int32} {m_termBy : List Int32} {m_byNot : List Int32} {m_valueOf : List Int32} {m_lines : List Int32} {m_lineWhat : List Int32} {m_lineA : List Int32} {m_lineB : List Int32} {m_wishes : List Int32} {m_wishOf : List Int32} {m_seens : List Int32} {m_seenAt : List Int32} {m_seenIn : List Int32} {m_seenThere : List Int32} {m_s : List Int32} {m_aside : List Int32} {m_before : List Int32} {m_marked : List Int32} {m_undone : List Int32} {m_isLaid : List Int32} {m_done : Int32} {m_gustNow : Int32} {m_shown : List Int32} {m_shownMany : Int32} {m_from7 : List Int32} {m_long7 : List Int32} {m_sentences : Int32} {m_text7 : List Int32} {m_textMany : Int32} {m_waysOf : List Int32} {m_rowOf : List Int32} {m_row : List Int32} {m_bestRow : List Int32} {m_leastSteps : Int32} {m_steps10 : List Int32} {m_placeIn : List Int32} {m_g : Int64}
variable {d : Nat} {Q : Option Value → mm_H → Prop} {s : SQ} {c : SC} {nm : NMs} {b : BK}
theorem tm_wished (hK : KM nm s mQ) (hE : KE mE mR) (hb : b_ok s b) (hL : BLm mB) (hB : BKm b mB 0) (hq : ∀ mR', KE mE mR' → Q (some (.int (sp_wished s b))) (pm_h z X Y (pm_l ((0, mV.2.1, mV.2.2.1, mV.2.2.2)) mT mQ mO mE mB mS (mR') mW))) : wm (mp_P fx) (d + 2) 305 [.ref 149] (pm_h z X Y (pm_l mV mT mQ mO mE mB mS mR mW)) Q := by
  obtain ⟨-, ⟨h2, h3⟩, -⟩ := id hB
  obtain ⟨-, -, -, -, l5, l6, -⟩ := hL
  have hb7 := hb.2.1.1
  obtain ⟨p1, p2, p3, p4, p5, p6⟩ := id hE.2
  unfold sp_wished at hq
  simp only [e305, q305_0, q305_1, q305_2, q305_5, q305_6, q305_9, q305_10, q305_11, q305_14, q305_15, q305_16, q305_17, q305_18, q305_21, q305_22, q305_23, q305_26, q305_27r, mc_o, mg_thrown, mf_thrown, mg_wishes, ma_wishes, mb_wishes, mn_wishes, mg_textMany, mf_textMany, wx_some, wx_ref, isl_i, isl_r, isl_n, show aG (mB.2.2.2.2.1) 0 = some (nI b.2.1.1) from aG_n h2 (by omega)]
  by_cases e : b.2.1.1 = 0
  · rw [if_pos e] at hq
    rw [if_neg (by rw [e]; exact fun z => z rfl)]
    exact hq mR hE
  · rw [if_neg e] at hq
    rw [if_pos (nI_ne0 (by omega) (by omega))]
    have key : ∀ (m j : Nat) (ts : List Int32), j + m = b.2.1.1 → ts.length = 7 → (∀ i, i < j → ts[i]? = some (nI (b.2.1.2 i))) → ww (mp_P fx) (d + 2) 305 28 [some (.ref 149), some (.int (nI j))] [] (pm_h z X Y (pm_l ((0, mV.2.1, mV.2.2.1, mV.2.2.2)) mT mQ mO mE mB mS ((mR.1, mR.2.1, mR.2.2.1, mR.2.2.2.1, mR.2.2.2.2.1, ts, nI b.2.1.1, mR.2.2.2.2.2.2.2.1, mR.2.2.2.2.2.2.2.2)) mW)) Q := by
      intro m
      induction m with
      | zero =>
        intro j ts hj hts hI
        have hj2 : j = b.2.1.1 := by omega
        subst hj2
        rw [q305_28]
        simp only [q305_29, q305_30, q305_33, q305_54, q305_55, mc_o, mg_textMany, mf_textMany, wx_some, wx_ref]
        rw [if_pos (by rw [nI_leI (by omega) (by omega)]; omega)]
        apply tm_works (t := b.2.1.2) (n := b.2.1.1) (mR := (mR.1, mR.2.1, mR.2.2.1, mR.2.2.2.1, mR.2.2.2.2.1, ts, nI b.2.1.1, mR.2.2.2.2.2.2.2.1, mR.2.2.2.2.2.2.2.2)) hK.1 hK.2.2.1 hb7 ⟨p1, p2, p3, hts, p5, p6⟩ rfl (fun j hj => ⟨hI j hj, hb.2.1.2 j hj⟩)
        intro ws hw hwt
        simp only [sl_n, q305_58, q305_59, mc_o]
        have hs0 : 0 < k_nS s := by
          have h1 := hb.2.1.2 0 (by omega)
          have h2 := hK.2.2.1.2.1 _ h1
          omega
        apply tm_whole (t := b.2.1.2) (n := b.2.1.1) (mR := (mR.1, mR.2.1, mR.2.2.1, mR.2.2.2.1, mR.2.2.2.2.1, ts, nI b.2.1.1, ws, mR.2.2.2.2.2.2.2.2)) hK.1 hK.2.2.1 (by omega) hb7 ⟨p1, p2, p3, hts, hw, p6⟩ rfl hs0 (hwt 0 _ (by omega) (by omega))
        simp only [sl_i, q305_62]
        exact hq (mR.1, mR.2.1, mR.2.2.1, mR.2.2.2.1, mR.2.2.2.2.1, ts, nI b.2.1.1, ws, mR.2.2.2.2.2.2.2.2) ⟨hE.1, p1, p2, p3, hts, hw, p6⟩
      | succ m ih =>
        intro j ts hj hts hI
        have g3 := h3 j (by omega)
        rw [Nat.mul_zero, Nat.zero_add] at g3
        rw [q305_28]
        simp only [q305_29, q305_30, q305_33, q305_36, q305_37, q305_40, q305_41, q305_42, q305_45, q305_46, q305_47, q305_48r, q305_51, mc_o, mg_text7, ma_text7, mb_text7, mn_text7, mg_textMany, mf_textMany, mg_wishOf, ma_wishOf, mb_wishOf, mn_wishOf, wx_some, wx_ref, isl_i, isl_r, isl_n, aG_n g3 (show (mB.2.2.2.2.2.1).length < 2 ^ 31 by omega), nl_1, nI_add, aS_n (show j < ts.length by omega) (show ts.length < 2 ^ 31 by omega)]
        rw [if_neg (by rw [nI_leI (by omega) (by omega)]; omega)]
        refine ih (j + 1) _ (by omega) (by rw [List.length_set]; exact hts) (fun i hi => ?_)
        rw [List.getElem?_set]
        by_cases e : j = i
        · subst e; rw [if_pos rfl, if_pos (by omega)]
        · rw [if_neg e]; exact hI i (by omega)
    exact key b.2.1.1 0 mR.2.2.2.2.2.1 (by omega) p4 (fun i hi => by omega)
theorem tm_walker {u v : Int32} (hK : KM nm s mQ) (hE : KE mE mR) (hc : c_ok s c) (hS : SCm s mS.1 c) (hg : mS.2.2.2.2.2.2.2 = -1) (hq : ∀ mE', KE mE' mR → Q (some (.int (match sx (k_nW s) u, sx 6 v with
    | some w, some k => nI (sp_walker s c w k)
    | _, _ => -2))) (pm_h z X Y (pm_l ((0, mV.2.1, mV.2.2.1, mV.2.2.2)) mT mQ mO (mE') mB mS mR mW))) : wm (mp_P fx) (d + 4) 258 [.ref 149, .int u, .int v] (pm_h z X Y (pm_l mV mT mQ mO mE mB mS mR mW)) Q := by
  have ho := hK.2.2.1
  have h7 := ho.1.2.2.2.1
  have hs := hK.1
  have hh := hc.1
  have hs9 := hS.1
  simp only [e258, q258_0, q258_1, q258_2, q258_5, q258_6, q258_7, mc_o, mg_thrown, mf_thrown, wx_some]
  apply tm_isWalker hK.1 ho
  · intro e
    simp only [sl_i, q258_10, q258_13, q258_14, q258_15, q258_16, q258_19, q258_22, q258_24]
    rw [if_pos (by decide)]
    have := hq mE hE
    rw [e] at this
    exact this
  intro w hw hu e
  subst hu
  rw [e] at hq
  simp only [sl_i, q258_10, q258_13, q258_14, q258_15, q258_16]
  rw [if_neg (by decide)]
  apply tm_in
  · intro h0
    have hqq := hq mE hE
    rcases sx_c 6 v (by omega) with ⟨e2, -⟩ | ⟨n, hn, rfl, e2⟩
    · rw [e2] at hqq
      simp only [sl_i, q258_19, q258_22, q258_24]
      rw [if_neg (by decide)]
      exact hqq
    · rw [nl_0, nl_5, nI_ltI (by omega) (by omega), nI_ltI (by omega) (by omega)] at h0
      omega
  intro h1 h2
  rcases sx_c 6 v (by omega) with ⟨e2, h3⟩ | ⟨k, hk, rfl, e2⟩
  · rcases h3 with h3 | ⟨h3, h4⟩
    · exact absurd h1 (Int32.not_le.mpr h3)
    · exact absurd h2 (Int32.not_le.mpr (Int32.lt_of_lt_of_le (by decide : (5 : Int32) < nI 6) h4))
  rw [e2] at hq
  simp only [] at hq
  have hl1 := hs.1.2.2.2.2.2.2.1
  have hl2 := hs.1.2.2.2.2.2.2.2.1
  have hkd := ag_G hs.2.2.2.1.2.2.1 (show (mQ.2.2.2.2.2.2.1).length < 2 ^ 31 by omega) hw
  have hcd := ag_G hs.2.2.2.1.2.2.2.1 (show (mQ.2.2.2.2.2.2.2.1).length < 2 ^ 31 by omega) hw
  have hpw := hS.2.2.2 w (by omega)
  rw [if_pos hw] at hpw
  have hp1 := hS.2.2.1
  have h128 : c.2.1 < 128 := Nat.lt_of_lt_of_le hc.2.1 (p27 h7)
  simp only [sl_i, q258_19, q258_22, q258_24, q258_25, q258_26, q258_27]
  rw [if_pos (by decide)]
  have hk6 : k = 0 ∨ k = 1 ∨ k = 2 ∨ k = 3 ∨ k = 4 ∨ k = 5 := by omega
  rcases hk6 with h | h | h | h | h | h <;> subst h
  · simp only [q258_30, q258_31, q258_34, q258_35, q258_38, q258_39, q258_40, q258_43, q258_44, q258_45, q258_48, q258_49, q258_52, q258_53, q258_54, q258_57, q258_58, q258_61, q258_62, q258_63, q258_64, q258_65, mc_o, mg_kind, ma_kind, mb_kind, mn_kind, wx_some, wx_ref, hkd]
    rw [if_neg (by decide), if_neg (by decide)]
    exact hq mE hE
  · simp only [q258_30, q258_31, q258_34, q258_35, q258_38, q258_39, q258_40, q258_43, q258_44, q258_45, q258_48, q258_49, q258_52, q258_53, q258_54, q258_57, q258_58, q258_61, q258_62, q258_63, q258_64, q258_65, mc_o, mg_colour, ma_colour, mb_colour, mn_colour, wx_some, wx_ref, hcd]
    rw [if_neg (by decide), if_pos (by decide), if_neg (by decide)]
    exact hq mE hE
  · simp only [q258_30, q258_31, q258_34, q258_35, q258_38, q258_39, q258_40, q258_43, q258_44, q258_45, q258_48, q258_49, q258_52, q258_53, q258_54, q258_57, q258_58, q258_61, q258_62, q258_63, q258_64, q258_65, mc_o, mg_s, ma_s, mb_s, mn_s, wx_some, wx_ref, nl_2, nI_add, aG_n hpw (show (mS.1).length < 2 ^ 31 by omega)]
    rw [if_neg (by decide), if_pos (by decide), if_pos (by decide)]
    exact hq mE hE
  · simp only [q258_66, q258_67, q258_68, q258_71, q258_72, q258_75, q258_76, q258_77, q258_78, q258_79, q258_80, q258_81, q258_110, mc_o, mg_s, ma_s, mb_s, mn_s, wx_some, wx_ref, show aG (mS.1) 1 = some (nI c.2.1) from aG_n hp1 (by omega), k7_bit0 _ h128 w (show w < 7 by omega)]
    rw [if_pos (by decide), if_neg (by decide)]
    exact hq mE hE
  · simp only [q258_66, q258_67, q258_68, q258_71, q258_72, q258_75, q258_76, q258_77, q258_78, q258_79, q258_80, q258_81, q258_84, q258_85, q258_86, q258_89, q258_90, q258_91, mc_o]
    rw [if_pos (by decide), if_pos (by decide), if_neg (by decide)]
    apply tm_stepOf hs ho hc hS hw
    simp only [sl_i, q258_94, q258_110]
    exact hq mE hE
  · simp only [q258_66, q258_67, q258_68, q258_71, q258_72, q258_75, q258_76, q258_77, q258_78, q258_79, q258_80, q258_81, q258_84, q258_85, q258_86, q258_89, q258_90, q258_97, q258_98, q258_99, mc_o]
    rw [if_pos (by decide), if_pos (by decide), if_pos (by decide)]
    apply tm_isRead hs hK.2.1 ho hc hS hE.1 (Or.inl ⟨hg, rfl⟩) hw
    intro mE' hE'
    have hqq : Q (some (.int (nI (if sp_rd s c 0 (sp_gust s c.1) w = true then 1 else 0)))) _ := hq mE' ⟨hE', hE.2⟩
    simp only [sl_i, q258_102, q258_105, q258_106, q258_109, q258_110]
    by_cases eb : sp_rd s c 0 (sp_gust s c.1) w = true
    · rw [if_pos eb] at hqq ⊢; rw [if_neg (by decide)]; exact hqq
    · rw [if_neg eb] at hqq ⊢; rw [if_pos (by decide)]; exact hqq
end MB
