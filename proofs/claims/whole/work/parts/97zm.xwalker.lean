/-! a walker's name is checked, class -/
section XZM
variable {fx : List Value → mm_H → Option (List Value × mm_H)} {z : Nat} {E M : Nat → mm_C} {sw c2 w2 : Bool} {T : px_T} {D : px_D} {S : px_S} {S1 : px_S} {K : px_K} {R : px_R} {C : px_C} {W : px_W} {U : px_U} {q : px_q} {q1 : px_q} {B0 : px_K} {B1 : px_K} {B2 : px_K} {B3 : px_K} {T_signs : List Int32} {T_length : Int32} {T_fault : Int32} {T_types : List Int32} {T_starts : List Int32} {T_values : List Int64} {T_tokens : Int32} {T_at : Int32} {T_behind : Int32} {S_hour : Int32} {S_open : Int32} {S_places : List Int32} {S1_hour : Int32} {S1_open : Int32} {S1_places : List Int32} {K_lines : List Int32} {K_lineCount : Int32} {K_wishes : List Int32} {K_wishCount : Int32} {K_sights : List Int32} {K_sightCount : Int32} {R_shown : List Int32} {R_length : Int32} {R_readers : Int32} {R_begins : List Int32} {R_lengths : List Int32} {R_sentences : Int32} {R_order : List Int32} {R_able : Int32} {R_standing : List Int32} {R_lovers : List Int32} {R_lowest : List Int32} {C_ways : List Int32} {C_rows : List Int32} {C_shallower : List Int32} {C_length : Int32} {C_goal : Int32} {W_row : List Int32} {W_walkers : Int32} {W_names : Int32} {W_wanted : List Int32} {W_shown : List Int32} {W_places : List Int32} {W_rest : List Int32} {W_spent : List Int32} {W_tried : List Int32} {U_undoRows : List Int64} {U_markScenes : List Int64} {U_marksLaid : List Int32} {U_undoCount : Int32} {U_undoEnd : Int32} {q_sortNames : List Int64} {q_sortCount : Int32} {q_colourNames : List Int64} {q_colourSorts : List Int32} {q_colourCount : Int32} {q_ruleMakes : List Int32} {q_ruleFirsts : List Int32} {q_ruleSeconds : List Int32} {q_ruleCount : Int32} {q_saysSort : Int32} {q_walkerNames : List Int64} {q_kinds : List Int32} {q_walkerColours : List Int32} {q_starts : List Int32} {q_stepRows : List Int32} {q_stepCounts : List Int32} {q_walkerCount : Int32} {q_gusts : List Int32} {q_gustCount : Int32} {q_parts : List Int32} {q_count : Int32} {q_stack : List Int32} {q_height : Int32} {q1_sortNames : List Int64} {q1_sortCount : Int32} {q1_colourNames : List Int64} {q1_colourSorts : List Int32} {q1_colourCount : Int32} {q1_ruleMakes : List Int32} {q1_ruleFirsts : List Int32} {q1_ruleSeconds : List Int32} {q1_ruleCount : Int32} {q1_saysSort : Int32} {q1_walkerNames : List Int64} {q1_kinds : List Int32} {q1_walkerColours : List Int32} {q1_starts : List Int32} {q1_stepRows : List Int32} {q1_stepCounts : List Int32} {q1_walkerCount : Int32} {q1_gusts : List Int32} {q1_gustCount : Int32} {q1_parts : List Int32} {q1_count : Int32} {q1_stack : List Int32} {q1_height : Int32} {B0_lines : List Int32} {B0_lineCount : Int32} {B0_wishes : List Int32} {B0_wishCount : Int32} {B0_sights : List Int32} {B0_sightCount : Int32} {B1_lines : List Int32} {B1_lineCount : Int32} {B1_wishes : List Int32} {B1_wishCount : Int32} {B1_sights : List Int32} {B1_sightCount : Int32} {B2_lines : List Int32} {B2_lineCount : Int32} {B2_wishes : List Int32} {B2_wishCount : Int32} {B2_sights : List Int32} {B2_sightCount : Int32} {B3_lines : List Int32} {B3_lineCount : Int32} {B3_wishes : List Int32} {B3_wishCount : Int32} {B3_sights : List Int32} {B3_sightCount : Int32}
variable {d : Nat} {Q : Option Value → mm_H → Prop} {tp : List Nat} {n k : Nat} {nm : NMs} {s : SQ}
theorem t_checkWalker (h : TKx tp n k T) (hs : SQx q s) (ho : k_ok s) (hN : NMx nm s q) (hw : nmok nm s) (hq1 : isNm tp k → ∀ v, fnd nm 2 (k_nW s) (LT tp k) = some v → c_named tp nm 2 (k_nW s) k = (0, v) → Q (some (.int 1)) (px_h z E M (px_l sw c2 w2 T D S S1 K R C W U q q1 B0 B1 B2 B3))) (hq0 : ∀ T' f, (c_named tp nm 2 (k_nW s) k).1 = f → ¬ f = 0 → TKx tp n k T' → T'.2.2.1 = nI f → Q (some (.int 0)) (px_h z E M (px_l sw c2 w2 (T') D S S1 K R C W U q q1 B0 B1 B2 B3))) : wm (mp_P fx) (d + 2) 98 [.ref 60, .ref (px_ta sw)] (px_h z E M (px_l sw c2 w2 T D S S1 K R C W U q q1 B0 B1 B2 B3)) Q := by
  have h6 := ho.1.2.2.2.1
  simp only [e98, b98_0, b98_1, bn_0 b98_0, bn_1 b98_1, q98_0, q98_1, xc_T, xg_T_0, xg_T_1, xs_T_1, xg_T_2, xs_T_2, xg_T_3, xg_T_4, xg_T_5, xg_T_6, xs_T_6, xg_T_7, xs_T_7, xg_T_8, xs_T_8, xa_T_signs, xb_T_signs, xn_T_signs, xa_T_types, xb_T_types, xn_T_types, xa_T_starts, xb_T_starts, xn_T_starts, xa_T_values, xb_T_values, xn_T_values]
  apply t_atName h
  · intro y
    unfold c_named at hq1 hq0
    rw [if_pos (nmB_t.mpr y)] at hq1 hq0
    simp only [sl_i, b98_0, b98_1, bn_0 b98_0, bn_1 b98_1, q98_4, b98_0, b98_1, bn_0 b98_0, bn_1 b98_1, q98_13, q98_14, q98_15, xc_T, xg_T_0, xg_T_1, xs_T_1, xg_T_2, xs_T_2, xg_T_3, xg_T_4, xg_T_5, xg_T_6, xs_T_6, xg_T_7, xs_T_7, xg_T_8, xs_T_8, xa_T_signs, xb_T_signs, xn_T_signs, xa_T_types, xb_T_types, xn_T_types, xa_T_starts, xb_T_starts, xn_T_starts, xa_T_values, xb_T_values, xn_T_values]
    rw [if_pos (by decide)]
    apply t_word h y.1
    simp only [sl_i, b98_0, b98_1, bn_0 b98_0, bn_1 b98_1, q98_18, xc_q, xg_q_0, xg_q_1, xs_q_1, xg_q_2, xg_q_3, xg_q_4, xs_q_4, xg_q_5, xg_q_6, xg_q_7, xg_q_8, xs_q_8, xg_q_9, xs_q_9, xg_q_10, xg_q_11, xg_q_12, xg_q_13, xg_q_14, xg_q_15, xg_q_16, xs_q_16, xg_q_17, xg_q_18, xs_q_18, xg_q_19, xa_q_sortNames, xb_q_sortNames, xn_q_sortNames, xa_q_colourNames, xb_q_colourNames, xn_q_colourNames, xa_q_colourSorts, xb_q_colourSorts, xn_q_colourSorts, xa_q_ruleMakes, xb_q_ruleMakes, xn_q_ruleMakes, xa_q_ruleFirsts, xb_q_ruleFirsts, xn_q_ruleFirsts, xa_q_ruleSeconds, xb_q_ruleSeconds, xn_q_ruleSeconds, xa_q_walkerNames, xb_q_walkerNames, xn_q_walkerNames, xa_q_kinds, xb_q_kinds, xn_q_kinds, xa_q_walkerColours, xb_q_walkerColours, xn_q_walkerColours, xa_q_starts, xb_q_starts, xn_q_starts, xa_q_stepRows, xb_q_stepRows, xn_q_stepRows, xa_q_stepCounts, xb_q_stepCounts, xn_q_stepCounts, xa_q_gusts, xb_q_gusts, xn_q_gusts, xc_ql, xg_ql_0, xg_ql_1, xs_ql_1, xg_ql_2, xg_ql_3, xs_ql_3, xa_q_parts, xb_q_parts, xn_q_parts, xa_q_stack, xb_q_stack, xn_q_stack]
    apply t_walkerNamedq hs ho hN hw (isNm_wf y)
    simp only [sl_i, b98_0, b98_1, bn_0 b98_0, bn_1 b98_1, q98_21, q98_22, q98_25, q98_26]
    cases e : fnd nm 2 (k_nW s) (LT tp k) with
    | none =>
      rw [e] at hq0
      rw [if_neg (fun z => z rfl)]
      simp only [b98_0, b98_1, bn_0 b98_0, bn_1 b98_1, q98_25, q98_26, q98_27, xc_T, xg_T_0, xg_T_1, xs_T_1, xg_T_2, xs_T_2, xg_T_3, xg_T_4, xg_T_5, xg_T_6, xs_T_6, xg_T_7, xs_T_7, xg_T_8, xs_T_8, xa_T_signs, xb_T_signs, xn_T_signs, xa_T_types, xb_T_types, xn_T_types, xa_T_starts, xb_T_starts, xn_T_starts, xa_T_values, xb_T_values, xn_T_values]
      apply t_refuse (kd := 2) h
      intro T' h2 h3
      simp only [sl_i, b98_0, b98_1, bn_0 b98_0, bn_1 b98_1, q98_30, b98_0, b98_1, bn_0 b98_0, bn_1 b98_1, q98_37, q98_38]
      rw [if_pos (by decide)]
      exact hq0 T' _ rfl (flt_ne (by omega)) h2 h3
    | some v =>
      have hv := fnd_lt e
      rw [e] at hq1
      rw [if_pos (io_some_ne (by omega))]
      simp only [b98_0, b98_1, bn_0 b98_0, bn_1 b98_1, q98_33, q98_34, q98_37, q98_38]
      exact hq1 y v rfl rfl
  · intro y
    unfold c_named at hq0
    rw [if_neg (fun z => y (nmB_t.mp z))] at hq0
    simp only [sl_i, b98_0, b98_1, bn_0 b98_0, bn_1 b98_1, q98_4, q98_7, q98_8, xc_T, xg_T_0, xg_T_1, xs_T_1, xg_T_2, xs_T_2, xg_T_3, xg_T_4, xg_T_5, xg_T_6, xs_T_6, xg_T_7, xs_T_7, xg_T_8, xs_T_8, xa_T_signs, xb_T_signs, xn_T_signs, xa_T_types, xb_T_types, xn_T_types, xa_T_starts, xb_T_starts, xn_T_starts, xa_T_values, xb_T_values, xn_T_values]
    rw [if_neg (by decide)]
    simp only [b98_0, b98_1, bn_0 b98_0, bn_1 b98_1, q98_9, xc_T, xg_T_0, xg_T_1, xs_T_1, xg_T_2, xs_T_2, xg_T_3, xg_T_4, xg_T_5, xg_T_6, xs_T_6, xg_T_7, xs_T_7, xg_T_8, xs_T_8, xa_T_signs, xb_T_signs, xn_T_signs, xa_T_types, xb_T_types, xn_T_types, xa_T_starts, xb_T_starts, xn_T_starts, xa_T_values, xb_T_values, xn_T_values]
    apply t_refuse (kd := 1) h
    intro T' h2 h3
    simp only [sl_i, b98_0, b98_1, bn_0 b98_0, bn_1 b98_1, q98_12]
    exact hq0 T' _ rfl (flt_ne (by omega)) h2 h3
end XZM
