/-! lines of a square, of the class: numbers, walkers, gusts -/
theorem flt_lt {tp : List Nat} {k i : Nat} (ht : tp_ok tp) (hk : k ≤ 5) : flt tp k i < 2 ^ 20 := by
  have := tk_le ht.1 i
  have := ht.1
  unfold flt; omega
section LZ
variable {fx : List Value → mm_H → Option (List Value × mm_H)} {z : Nat} {E M : Nat → mm_C} {sw c2 w2 : Bool} {T : px_T} {D : px_D} {S : px_S} {S1 : px_S} {K : px_K} {R : px_R} {C : px_C} {W : px_W} {U : px_U} {q : px_q} {q1 : px_q} {B0 : px_K} {B1 : px_K} {B2 : px_K} {B3 : px_K} {T_signs : List Int32} {T_length : Int32} {T_fault : Int32} {T_types : List Int32} {T_starts : List Int32} {T_values : List Int64} {T_tokens : Int32} {T_at : Int32} {T_behind : Int32} {S_hour : Int32} {S_open : Int32} {S_places : List Int32} {S1_hour : Int32} {S1_open : Int32} {S1_places : List Int32} {K_lines : List Int32} {K_lineCount : Int32} {K_wishes : List Int32} {K_wishCount : Int32} {K_sights : List Int32} {K_sightCount : Int32} {R_shown : List Int32} {R_length : Int32} {R_readers : Int32} {R_begins : List Int32} {R_lengths : List Int32} {R_sentences : Int32} {R_order : List Int32} {R_able : Int32} {R_standing : List Int32} {R_lovers : List Int32} {R_lowest : List Int32} {C_ways : List Int32} {C_rows : List Int32} {C_shallower : List Int32} {C_length : Int32} {C_goal : Int32} {W_row : List Int32} {W_walkers : Int32} {W_names : Int32} {W_wanted : List Int32} {W_shown : List Int32} {W_places : List Int32} {W_rest : List Int32} {W_spent : List Int32} {W_tried : List Int32} {U_undoRows : List Int64} {U_markScenes : List Int64} {U_marksLaid : List Int32} {U_undoCount : Int32} {U_undoEnd : Int32} {q_sortNames : List Int64} {q_sortCount : Int32} {q_colourNames : List Int64} {q_colourSorts : List Int32} {q_colourCount : Int32} {q_ruleMakes : List Int32} {q_ruleFirsts : List Int32} {q_ruleSeconds : List Int32} {q_ruleCount : Int32} {q_saysSort : Int32} {q_walkerNames : List Int64} {q_kinds : List Int32} {q_walkerColours : List Int32} {q_starts : List Int32} {q_stepRows : List Int32} {q_stepCounts : List Int32} {q_walkerCount : Int32} {q_gusts : List Int32} {q_gustCount : Int32} {q_parts : List Int32} {q_count : Int32} {q_stack : List Int32} {q_height : Int32} {q1_sortNames : List Int64} {q1_sortCount : Int32} {q1_colourNames : List Int64} {q1_colourSorts : List Int32} {q1_colourCount : Int32} {q1_ruleMakes : List Int32} {q1_ruleFirsts : List Int32} {q1_ruleSeconds : List Int32} {q1_ruleCount : Int32} {q1_saysSort : Int32} {q1_walkerNames : List Int64} {q1_kinds : List Int32} {q1_walkerColours : List Int32} {q1_starts : List Int32} {q1_stepRows : List Int32} {q1_stepCounts : List Int32} {q1_walkerCount : Int32} {q1_gusts : List Int32} {q1_gustCount : Int32} {q1_parts : List Int32} {q1_count : Int32} {q1_stack : List Int32} {q1_height : Int32} {B0_lines : List Int32} {B0_lineCount : Int32} {B0_wishes : List Int32} {B0_wishCount : Int32} {B0_sights : List Int32} {B0_sightCount : Int32} {B1_lines : List Int32} {B1_lineCount : Int32} {B1_wishes : List Int32} {B1_wishCount : Int32} {B1_sights : List Int32} {B1_sightCount : Int32} {B2_lines : List Int32} {B2_lineCount : Int32} {B2_wishes : List Int32} {B2_wishCount : Int32} {B2_sights : List Int32} {B2_sightCount : Int32} {B3_lines : List Int32} {B3_lineCount : Int32} {B3_wishes : List Int32} {B3_wishCount : Int32} {B3_sights : List Int32} {B3_sightCount : Int32}
variable {d : Nat} {Q : Option Value → mm_H → Prop} {tp : List Nat} {n k : Nat} {o : PS} {s : SQ}
theorem t_take_stepRows {j fr room mx : Nat} {xs : List Int32} (hT : TKx tp n j T) (hf : T.2.2.1 = 0) (hmx : mx < 2 ^ 20) (hr1 : 1 ≤ room) (hfr : fr + room ≤ xs.length) (hxl : xs.length < 100) (hq1 : ∀ c T' ys, l_nm tp mx j room 0 = (0, c) → c ≤ room → 1 ≤ c → TKx tp n (j + c) T' → T'.2.2.1 = 0 → ys.length = xs.length → (∀ i, i < c → VL tp (j + i) ≤ mx ∧ ys[fr + i]? = some (nI (VL tp (j + i)))) → (∀ i, i < fr → ys[i]? = xs[i]?) → Q (some (.int (nI c))) (px_h z E M (px_l sw c2 w2 (T') D S S1 K R C W U q ((q1.1, q1.2.1, q1.2.2.1, q1.2.2.2.1, q1.2.2.2.2.1, q1.2.2.2.2.2.1, q1.2.2.2.2.2.2.1, q1.2.2.2.2.2.2.2.1, q1.2.2.2.2.2.2.2.2.1, q1.2.2.2.2.2.2.2.2.2.1, q1.2.2.2.2.2.2.2.2.2.2.1, q1.2.2.2.2.2.2.2.2.2.2.2.1, q1.2.2.2.2.2.2.2.2.2.2.2.2.1, q1.2.2.2.2.2.2.2.2.2.2.2.2.2.1, ys, q1.2.2.2.2.2.2.2.2.2.2.2.2.2.2.2.1, q1.2.2.2.2.2.2.2.2.2.2.2.2.2.2.2.2.1, q1.2.2.2.2.2.2.2.2.2.2.2.2.2.2.2.2.2.1, q1.2.2.2.2.2.2.2.2.2.2.2.2.2.2.2.2.2.2.1, q1.2.2.2.2.2.2.2.2.2.2.2.2.2.2.2.2.2.2.2.1, q1.2.2.2.2.2.2.2.2.2.2.2.2.2.2.2.2.2.2.2.2.1, q1.2.2.2.2.2.2.2.2.2.2.2.2.2.2.2.2.2.2.2.2.2.1, q1.2.2.2.2.2.2.2.2.2.2.2.2.2.2.2.2.2.2.2.2.2.2)) B0 B1 B2 B3))) (hq0 : ∀ f m T' ys, (l_nm tp mx j room 0).1 = f → ¬ f = 0 → f < 2 ^ 20 → (∃ k, TKx tp n k T') → T'.2.2.1 = nI f → ys.length = xs.length → Q (some (.int (nI m))) (px_h z E M (px_l sw c2 w2 (T') D S S1 K R C W U q ((q1.1, q1.2.1, q1.2.2.1, q1.2.2.2.1, q1.2.2.2.2.1, q1.2.2.2.2.2.1, q1.2.2.2.2.2.2.1, q1.2.2.2.2.2.2.2.1, q1.2.2.2.2.2.2.2.2.1, q1.2.2.2.2.2.2.2.2.2.1, q1.2.2.2.2.2.2.2.2.2.2.1, q1.2.2.2.2.2.2.2.2.2.2.2.1, q1.2.2.2.2.2.2.2.2.2.2.2.2.1, q1.2.2.2.2.2.2.2.2.2.2.2.2.2.1, ys, q1.2.2.2.2.2.2.2.2.2.2.2.2.2.2.2.1, q1.2.2.2.2.2.2.2.2.2.2.2.2.2.2.2.2.1, q1.2.2.2.2.2.2.2.2.2.2.2.2.2.2.2.2.2.1, q1.2.2.2.2.2.2.2.2.2.2.2.2.2.2.2.2.2.2.1, q1.2.2.2.2.2.2.2.2.2.2.2.2.2.2.2.2.2.2.2.1, q1.2.2.2.2.2.2.2.2.2.2.2.2.2.2.2.2.2.2.2.2.1, q1.2.2.2.2.2.2.2.2.2.2.2.2.2.2.2.2.2.2.2.2.2.1, q1.2.2.2.2.2.2.2.2.2.2.2.2.2.2.2.2.2.2.2.2.2.2)) B0 B1 B2 B3))) : wm (mp_P fx) (d + 2) 77 [.ref 60, .ref (px_ta (!sw) + 11), .int (nI fr), .int (nI room), .int (nI mx)] (px_h z E M (px_l sw c2 w2 T D S S1 K R C W U q ((q1.1, q1.2.1, q1.2.2.1, q1.2.2.2.1, q1.2.2.2.2.1, q1.2.2.2.2.2.1, q1.2.2.2.2.2.2.1, q1.2.2.2.2.2.2.2.1, q1.2.2.2.2.2.2.2.2.1, q1.2.2.2.2.2.2.2.2.2.1, q1.2.2.2.2.2.2.2.2.2.2.1, q1.2.2.2.2.2.2.2.2.2.2.2.1, q1.2.2.2.2.2.2.2.2.2.2.2.2.1, q1.2.2.2.2.2.2.2.2.2.2.2.2.2.1, xs, q1.2.2.2.2.2.2.2.2.2.2.2.2.2.2.2.1, q1.2.2.2.2.2.2.2.2.2.2.2.2.2.2.2.2.1, q1.2.2.2.2.2.2.2.2.2.2.2.2.2.2.2.2.2.1, q1.2.2.2.2.2.2.2.2.2.2.2.2.2.2.2.2.2.2.1, q1.2.2.2.2.2.2.2.2.2.2.2.2.2.2.2.2.2.2.2.1, q1.2.2.2.2.2.2.2.2.2.2.2.2.2.2.2.2.2.2.2.2.1, q1.2.2.2.2.2.2.2.2.2.2.2.2.2.2.2.2.2.2.2.2.2.1, q1.2.2.2.2.2.2.2.2.2.2.2.2.2.2.2.2.2.2.2.2.2.2)) B0 B1 B2 B3)) Q := by
  have key : ∀ (r t : Nat) (T' : px_T) (ys : List Int32), t + r = room → TKx tp n (j + t) T' → T'.2.2.1 = 0 → TY tp (j + t) = 2 → VL tp (j + t) ≤ mx → ys.length = xs.length → (∀ i, i < t → VL tp (j + i) ≤ mx ∧ ys[fr + i]? = some (nI (VL tp (j + i)))) → (∀ i, i < fr → ys[i]? = xs[i]?) → l_nm tp mx j room 0 = l_nm tp mx j r t → ww (mp_P fx) (d + 2) 77 12 [some (.ref 60), some (.ref (px_ta (!sw) + 11)), some (.int (nI fr)), some (.int (nI room)), some (.int (nI mx)), some (.int (nI t)), some (.int 1)] [] (px_h z E M (px_l sw c2 w2 (T') D S S1 K R C W U q ((q1.1, q1.2.1, q1.2.2.1, q1.2.2.2.1, q1.2.2.2.2.1, q1.2.2.2.2.2.1, q1.2.2.2.2.2.2.1, q1.2.2.2.2.2.2.2.1, q1.2.2.2.2.2.2.2.2.1, q1.2.2.2.2.2.2.2.2.2.1, q1.2.2.2.2.2.2.2.2.2.2.1, q1.2.2.2.2.2.2.2.2.2.2.2.1, q1.2.2.2.2.2.2.2.2.2.2.2.2.1, q1.2.2.2.2.2.2.2.2.2.2.2.2.2.1, ys, q1.2.2.2.2.2.2.2.2.2.2.2.2.2.2.2.1, q1.2.2.2.2.2.2.2.2.2.2.2.2.2.2.2.2.1, q1.2.2.2.2.2.2.2.2.2.2.2.2.2.2.2.2.2.1, q1.2.2.2.2.2.2.2.2.2.2.2.2.2.2.2.2.2.2.1, q1.2.2.2.2.2.2.2.2.2.2.2.2.2.2.2.2.2.2.2.1, q1.2.2.2.2.2.2.2.2.2.2.2.2.2.2.2.2.2.2.2.2.1, q1.2.2.2.2.2.2.2.2.2.2.2.2.2.2.2.2.2.2.2.2.2.1, q1.2.2.2.2.2.2.2.2.2.2.2.2.2.2.2.2.2.2.2.2.2.2)) B0 B1 B2 B3)) Q := by
    intro r
    induction r with
    | zero =>
      intro t T' ys ht hT' hf' h2 hv hl hfil hlow hnm
      rw [q77_12]
      simp only [q77_14, q77_17, q77_19, q77_20, q77_77, q77_79, q77_82, q77_83]
      rw [if_neg (by decide), if_pos (by rw [nI_leI (by omega) (by omega)]; omega), if_neg (by decide)]
      simp only [q77_84, xc_T, xg_T_0, xg_T_1, xs_T_1, xg_T_2, xs_T_2, xg_T_3, xg_T_4, xg_T_5, xg_T_6, xs_T_6, xg_T_7, xs_T_7, xg_T_8, xs_T_8, xa_T_signs, xb_T_signs, xn_T_signs, xa_T_types, xb_T_types, xn_T_types, xa_T_starts, xb_T_starts, xn_T_starts, xa_T_values, xb_T_values, xn_T_values]
      apply t_refuse (kd := 5) hT'
      intro T2 h3 h4
      simp only [sl_i, q77_87, q77_88, q77_90]
      rw [l_nm, if_pos h2, if_pos hv] at hnm
      exact hq0 _ t T2 ys (by rw [hnm]) (flt_ne (by omega)) (flt_lt hT.2.2.2.2.2 (by omega)) ⟨_, h3⟩ h4 hl
    | succ r ih =>
      intro t T' ys ht hT' hf' h2 hv hl hfil hlow hnm
      rw [l_nm, if_pos h2, if_pos hv] at hnm
      have hfil2 : ∀ i, i < t + 1 → VL tp (j + i) ≤ mx ∧ (ys.set (fr + t) (nI (VL tp (j + t))))[fr + i]? = some (nI (VL tp (j + i))) := fun i hi => by
        by_cases e : i = t
        · subst e; exact ⟨hv, List.getElem?_set_self (by omega)⟩
        · rw [List.getElem?_set_ne (by omega)]; exact hfil i (by omega)
      have hlow2 : ∀ i, i < fr → (ys.set (fr + t) (nI (VL tp (j + t))))[i]? = xs[i]? := fun i hi => by
        rw [List.getElem?_set_ne (by omega)]; exact hlow i hi
      have hl2 : (ys.set (fr + t) (nI (VL tp (j + t)))).length = xs.length := by rw [List.length_set]; exact hl
      rw [q77_12]
      simp only [q77_14, q77_17, q77_19, q77_20, q77_23, q77_24, q77_26, q77_27, q77_28, q77_29, q77_32, q77_33, q77_34, q77_36, q77_37, xc_q1, xg_q1_0, xg_q1_1, xs_q1_1, xg_q1_2, xg_q1_3, xg_q1_4, xs_q1_4, xg_q1_5, xg_q1_6, xg_q1_7, xg_q1_8, xs_q1_8, xg_q1_9, xs_q1_9, xg_q1_10, xg_q1_11, xg_q1_12, xg_q1_13, xg_q1_14, xg_q1_15, xg_q1_16, xs_q1_16, xg_q1_17, xg_q1_18, xs_q1_18, xg_q1_19, xa_q1_sortNames, xb_q1_sortNames, xn_q1_sortNames, xa_q1_colourNames, xb_q1_colourNames, xn_q1_colourNames, xa_q1_colourSorts, xb_q1_colourSorts, xn_q1_colourSorts, xa_q1_ruleMakes, xb_q1_ruleMakes, xn_q1_ruleMakes, xa_q1_ruleFirsts, xb_q1_ruleFirsts, xn_q1_ruleFirsts, xa_q1_ruleSeconds, xb_q1_ruleSeconds, xn_q1_ruleSeconds, xa_q1_walkerNames, xb_q1_walkerNames, xn_q1_walkerNames, xa_q1_kinds, xb_q1_kinds, xn_q1_kinds, xa_q1_walkerColours, xb_q1_walkerColours, xn_q1_walkerColours, xa_q1_starts, xb_q1_starts, xn_q1_starts, xa_q1_stepRows, xb_q1_stepRows, xn_q1_stepRows, xa_q1_stepCounts, xb_q1_stepCounts, xn_q1_stepCounts, xa_q1_gusts, xb_q1_gusts, xn_q1_gusts, xc_q1l, xg_q1l_0, xg_q1l_1, xs_q1l_1, xg_q1l_2, xg_q1l_3, xs_q1l_3, xa_q1_parts, xb_q1_parts, xn_q1_parts, xa_q1_stack, xb_q1_stack, xn_q1_stack, wx_some, wx_ref, nI_add, hl]
      rw [if_neg (by decide), if_neg (by rw [nI_leI (by omega) (by omega)]; omega), if_neg (by rw [nI_leI (by omega) (by omega)]; omega)]
      simp only [q77_38, xc_T, xg_T_0, xg_T_1, xs_T_1, xg_T_2, xs_T_2, xg_T_3, xg_T_4, xg_T_5, xg_T_6, xs_T_6, xg_T_7, xs_T_7, xg_T_8, xs_T_8, xa_T_signs, xb_T_signs, xn_T_signs, xa_T_types, xb_T_types, xn_T_types, xa_T_starts, xb_T_starts, xn_T_starts, xa_T_values, xb_T_values, xn_T_values]
      apply t_number hT' h2
      simp only [sl_i, q77_41, q77_42i, q77_45, xc_q1, xg_q1_0, xg_q1_1, xs_q1_1, xg_q1_2, xg_q1_3, xg_q1_4, xs_q1_4, xg_q1_5, xg_q1_6, xg_q1_7, xg_q1_8, xs_q1_8, xg_q1_9, xs_q1_9, xg_q1_10, xg_q1_11, xg_q1_12, xg_q1_13, xg_q1_14, xg_q1_15, xg_q1_16, xs_q1_16, xg_q1_17, xg_q1_18, xs_q1_18, xg_q1_19, xa_q1_sortNames, xb_q1_sortNames, xn_q1_sortNames, xa_q1_colourNames, xb_q1_colourNames, xn_q1_colourNames, xa_q1_colourSorts, xb_q1_colourSorts, xn_q1_colourSorts, xa_q1_ruleMakes, xb_q1_ruleMakes, xn_q1_ruleMakes, xa_q1_ruleFirsts, xb_q1_ruleFirsts, xn_q1_ruleFirsts, xa_q1_ruleSeconds, xb_q1_ruleSeconds, xn_q1_ruleSeconds, xa_q1_walkerNames, xb_q1_walkerNames, xn_q1_walkerNames, xa_q1_kinds, xb_q1_kinds, xn_q1_kinds, xa_q1_walkerColours, xb_q1_walkerColours, xn_q1_walkerColours, xa_q1_starts, xb_q1_starts, xn_q1_starts, xa_q1_stepRows, xb_q1_stepRows, xn_q1_stepRows, xa_q1_stepCounts, xb_q1_stepCounts, xn_q1_stepCounts, xa_q1_gusts, xb_q1_gusts, xn_q1_gusts, xc_q1l, xg_q1l_0, xg_q1l_1, xs_q1l_1, xg_q1l_2, xg_q1l_3, xs_q1l_3, xa_q1_parts, xb_q1_parts, xn_q1_parts, xa_q1_stack, xb_q1_stack, xn_q1_stack, wx_some, wx_ref, isl_i, isl_r, isl_n, aS_n (show fr + t < ys.length by omega) (show ys.length < 2 ^ 31 by omega), nI_1]
      simp only [q77_46, xc_T, xg_T_0, xg_T_1, xs_T_1, xg_T_2, xs_T_2, xg_T_3, xg_T_4, xg_T_5, xg_T_6, xs_T_6, xg_T_7, xs_T_7, xg_T_8, xs_T_8, xa_T_signs, xb_T_signs, xn_T_signs, xa_T_types, xb_T_types, xn_T_types, xa_T_starts, xb_T_starts, xn_T_starts, xa_T_values, xb_T_values, xn_T_values]
      apply t_pass hT' (by rw [h2]; decide)
      intro hT3
      simp only [sl_i, q77_49, q77_50, q77_51, xc_T, xg_T_0, xg_T_1, xs_T_1, xg_T_2, xs_T_2, xg_T_3, xg_T_4, xg_T_5, xg_T_6, xs_T_6, xg_T_7, xs_T_7, xg_T_8, xs_T_8, xa_T_signs, xb_T_signs, xn_T_signs, xa_T_types, xb_T_types, xn_T_types, xa_T_starts, xb_T_starts, xn_T_starts, xa_T_values, xb_T_values, xn_T_values]
      have hstop : ∀ (T4 : px_T), ww (mp_P fx) (d + 2) 77 88 [some (.ref 60), some (.ref (px_ta (!sw) + 11)), some (.int (nI fr)), some (.int (nI room)), some (.int (nI mx)), some (.int (nI (t + 1))), some (.int 0)] [] (px_h z E M (px_l sw c2 w2 (T4) D S S1 K R C W U q ((q1.1, q1.2.1, q1.2.2.1, q1.2.2.2.1, q1.2.2.2.2.1, q1.2.2.2.2.2.1, q1.2.2.2.2.2.2.1, q1.2.2.2.2.2.2.2.1, q1.2.2.2.2.2.2.2.2.1, q1.2.2.2.2.2.2.2.2.2.1, q1.2.2.2.2.2.2.2.2.2.2.1, q1.2.2.2.2.2.2.2.2.2.2.2.1, q1.2.2.2.2.2.2.2.2.2.2.2.2.1, q1.2.2.2.2.2.2.2.2.2.2.2.2.2.1, ys.set (fr + t) (nI (VL tp (j + t))), q1.2.2.2.2.2.2.2.2.2.2.2.2.2.2.2.1, q1.2.2.2.2.2.2.2.2.2.2.2.2.2.2.2.2.1, q1.2.2.2.2.2.2.2.2.2.2.2.2.2.2.2.2.2.1, q1.2.2.2.2.2.2.2.2.2.2.2.2.2.2.2.2.2.2.1, q1.2.2.2.2.2.2.2.2.2.2.2.2.2.2.2.2.2.2.2.1, q1.2.2.2.2.2.2.2.2.2.2.2.2.2.2.2.2.2.2.2.2.1, q1.2.2.2.2.2.2.2.2.2.2.2.2.2.2.2.2.2.2.2.2.2.1, q1.2.2.2.2.2.2.2.2.2.2.2.2.2.2.2.2.2.2.2.2.2.2)) B0 B1 B2 B3)) Q → ww (mp_P fx) (d + 2) 77 12 [some (.ref 60), some (.ref (px_ta (!sw) + 11)), some (.int (nI fr)), some (.int (nI room)), some (.int (nI mx)), some (.int (nI (t + 1))), some (.int 0)] [] (px_h z E M (px_l sw c2 w2 (T4) D S S1 K R C W U q ((q1.1, q1.2.1, q1.2.2.1, q1.2.2.2.1, q1.2.2.2.2.1, q1.2.2.2.2.2.1, q1.2.2.2.2.2.2.1, q1.2.2.2.2.2.2.2.1, q1.2.2.2.2.2.2.2.2.1, q1.2.2.2.2.2.2.2.2.2.1, q1.2.2.2.2.2.2.2.2.2.2.1, q1.2.2.2.2.2.2.2.2.2.2.2.1, q1.2.2.2.2.2.2.2.2.2.2.2.2.1, q1.2.2.2.2.2.2.2.2.2.2.2.2.2.1, ys.set (fr + t) (nI (VL tp (j + t))), q1.2.2.2.2.2.2.2.2.2.2.2.2.2.2.2.1, q1.2.2.2.2.2.2.2.2.2.2.2.2.2.2.2.2.1, q1.2.2.2.2.2.2.2.2.2.2.2.2.2.2.2.2.2.1, q1.2.2.2.2.2.2.2.2.2.2.2.2.2.2.2.2.2.2.1, q1.2.2.2.2.2.2.2.2.2.2.2.2.2.2.2.2.2.2.2.1, q1.2.2.2.2.2.2.2.2.2.2.2.2.2.2.2.2.2.2.2.2.1, q1.2.2.2.2.2.2.2.2.2.2.2.2.2.2.2.2.2.2.2.2.2.1, q1.2.2.2.2.2.2.2.2.2.2.2.2.2.2.2.2.2.2.2.2.2.2)) B0 B1 B2 B3)) Q := by
        intro T4 h88
        rw [q77_12]
        simp only [q77_14, q77_77, q77_79]
        rw [if_pos (by decide), if_pos (by decide)]
        exact h88
      apply t_atNumber hT3
      · intro e2
        simp only [sl_i, q77_54, q77_57, q77_58, q77_59, xc_T, xg_T_0, xg_T_1, xs_T_1, xg_T_2, xs_T_2, xg_T_3, xg_T_4, xg_T_5, xg_T_6, xs_T_6, xg_T_7, xs_T_7, xg_T_8, xs_T_8, xa_T_signs, xb_T_signs, xn_T_signs, xa_T_types, xb_T_types, xn_T_types, xa_T_starts, xb_T_starts, xn_T_starts, xa_T_values, xb_T_values, xn_T_values]
        rw [if_neg (by decide)]
        simp only [q77_61, xc_T, xg_T_0, xg_T_1, xs_T_1, xg_T_2, xs_T_2, xg_T_3, xg_T_4, xg_T_5, xg_T_6, xs_T_6, xg_T_7, xs_T_7, xg_T_8, xs_T_8, xa_T_signs, xb_T_signs, xn_T_signs, xa_T_types, xb_T_types, xn_T_types, xa_T_starts, xb_T_starts, xn_T_starts, xa_T_values, xb_T_values, xn_T_values]
        apply t_checkNumber (a := 0) (by omega) hmx hT3
        · intro _ e3
          simp only [sl_i, q77_64, q77_67, q77_68, q77_71, q77_72i, q77_74, isl_i, isl_r, isl_n]
          rw [if_neg (by decide)]
          exact ih (t + 1) _ _ (by omega) hT3 hf' e2 e3.2 hl2 hfil2 hlow2 hnm
        · intro _ e3 T5 hT5 hf5
          simp only [sl_i, q77_64, q77_71, q77_72i, q77_74, isl_i, isl_r, isl_n]
          rw [if_pos (by decide)]
          apply hstop
          simp only [q77_88, q77_90]
          rw [l_nm_4 (j := j) (t := t + 1) e2 (fun y => e3 ⟨Nat.zero_le _, y⟩)] at hnm
          exact hq0 _ (t + 1) T5 _ (by rw [hnm]; rfl) (flt_ne (by omega)) (flt_lt hT.2.2.2.2.2 (by omega)) ⟨_, hT5⟩ hf5 hl2
        · intro e3
          exact absurd e2 e3
      · intro e2
        simp only [sl_i, q77_54, q77_71, q77_72i, q77_74, isl_i, isl_r, isl_n]
        rw [if_pos (by decide)]
        apply hstop
        simp only [q77_88, q77_90]
        rw [l_nm_end (j := j) (t := t + 1) e2, if_neg (by omega)] at hnm
        exact hq1 (t + 1) _ _ hnm (by omega) (by omega) hT3 hf' hl2 hfil2 hlow2
  simp only [e77, q77_0, q77_1i, q77_3, q77_4, q77_5, isl_i, isl_r, isl_n]
  simp only [q77_7, xc_T, xg_T_0, xg_T_1, xs_T_1, xg_T_2, xs_T_2, xg_T_3, xg_T_4, xg_T_5, xg_T_6, xs_T_6, xg_T_7, xs_T_7, xg_T_8, xs_T_8, xa_T_signs, xb_T_signs, xn_T_signs, xa_T_types, xb_T_types, xn_T_types, xa_T_starts, xb_T_starts, xn_T_starts, xa_T_values, xb_T_values, xn_T_values]
  have hstop0 : ∀ (T4 : px_T) (f : Nat), (l_nm tp mx j room 0).1 = f → ¬ f = 0 → f < 2 ^ 20 → (∃ k, TKx tp n k T4) → T4.2.2.1 = nI f → ww (mp_P fx) (d + 2) 77 10 [some (.ref 60), some (.ref (px_ta (!sw) + 11)), some (.int (nI fr)), some (.int (nI room)), some (.int (nI mx)), some (.int 0), none] [.int 0] (px_h z E M (px_l sw c2 w2 (T4) D S S1 K R C W U q ((q1.1, q1.2.1, q1.2.2.1, q1.2.2.2.1, q1.2.2.2.2.1, q1.2.2.2.2.2.1, q1.2.2.2.2.2.2.1, q1.2.2.2.2.2.2.2.1, q1.2.2.2.2.2.2.2.2.1, q1.2.2.2.2.2.2.2.2.2.1, q1.2.2.2.2.2.2.2.2.2.2.1, q1.2.2.2.2.2.2.2.2.2.2.2.1, q1.2.2.2.2.2.2.2.2.2.2.2.2.1, q1.2.2.2.2.2.2.2.2.2.2.2.2.2.1, xs, q1.2.2.2.2.2.2.2.2.2.2.2.2.2.2.2.1, q1.2.2.2.2.2.2.2.2.2.2.2.2.2.2.2.2.1, q1.2.2.2.2.2.2.2.2.2.2.2.2.2.2.2.2.2.1, q1.2.2.2.2.2.2.2.2.2.2.2.2.2.2.2.2.2.2.1, q1.2.2.2.2.2.2.2.2.2.2.2.2.2.2.2.2.2.2.2.1, q1.2.2.2.2.2.2.2.2.2.2.2.2.2.2.2.2.2.2.2.2.1, q1.2.2.2.2.2.2.2.2.2.2.2.2.2.2.2.2.2.2.2.2.2.1, q1.2.2.2.2.2.2.2.2.2.2.2.2.2.2.2.2.2.2.2.2.2.2)) B0 B1 B2 B3)) Q := by
    intro T4 f a1 a2 a0 a3 a4
    simp only [q77_10i, isl_i, isl_r, isl_n]
    rw [q77_12]
    simp only [q77_14, q77_77, q77_79, q77_88, q77_90]
    rw [if_pos (by decide), if_pos (by decide)]
    exact hq0 f 0 T4 xs a1 a2 a0 a3 a4 rfl
  apply t_checkNumber (a := 0) (by omega) hmx hT
  · intro e2 e3
    simp only [sl_i, q77_10i, isl_i, isl_r, isl_n]
    exact key room 0 T xs (by omega) hT hf e2 e3.2 rfl (fun i hi => by omega) (fun i hi => rfl) rfl
  · intro e2 e3 T5 hT5 hf5
    have hnm := l_nm_4 (tp := tp) (mx := mx) (j := j) (r := room) (t := 0) e2 (fun y => e3 ⟨Nat.zero_le _, y⟩)
    exact hstop0 T5 _ (by rw [hnm]; rfl) (flt_ne (by omega)) (flt_lt hT.2.2.2.2.2 (by omega)) ⟨_, hT5⟩ hf5
  · intro e2 T5 hT5 hf5
    have hnm := l_nm_end (tp := tp) (mx := mx) (j := j) (r := room) (t := 0) e2
    exact hstop0 T5 _ (by rw [hnm, if_pos rfl]; rfl) (flt_ne (by omega)) (flt_lt hT.2.2.2.2.2 (by omega)) ⟨_, hT5⟩ hf5
theorem t_take_gusts {j fr room mx : Nat} {xs : List Int32} (hT : TKx tp n j T) (hf : T.2.2.1 = 0) (hmx : mx < 2 ^ 20) (hr1 : 1 ≤ room) (hfr : fr + room ≤ xs.length) (hxl : xs.length < 100) (hq1 : ∀ c T' ys, l_nm tp mx j room 0 = (0, c) → c ≤ room → 1 ≤ c → TKx tp n (j + c) T' → T'.2.2.1 = 0 → ys.length = xs.length → (∀ i, i < c → VL tp (j + i) ≤ mx ∧ ys[fr + i]? = some (nI (VL tp (j + i)))) → (∀ i, i < fr → ys[i]? = xs[i]?) → Q (some (.int (nI c))) (px_h z E M (px_l sw c2 w2 (T') D S S1 K R C W U q ((q1.1, q1.2.1, q1.2.2.1, q1.2.2.2.1, q1.2.2.2.2.1, q1.2.2.2.2.2.1, q1.2.2.2.2.2.2.1, q1.2.2.2.2.2.2.2.1, q1.2.2.2.2.2.2.2.2.1, q1.2.2.2.2.2.2.2.2.2.1, q1.2.2.2.2.2.2.2.2.2.2.1, q1.2.2.2.2.2.2.2.2.2.2.2.1, q1.2.2.2.2.2.2.2.2.2.2.2.2.1, q1.2.2.2.2.2.2.2.2.2.2.2.2.2.1, q1.2.2.2.2.2.2.2.2.2.2.2.2.2.2.1, q1.2.2.2.2.2.2.2.2.2.2.2.2.2.2.2.1, q1.2.2.2.2.2.2.2.2.2.2.2.2.2.2.2.2.1, ys, q1.2.2.2.2.2.2.2.2.2.2.2.2.2.2.2.2.2.2.1, q1.2.2.2.2.2.2.2.2.2.2.2.2.2.2.2.2.2.2.2.1, q1.2.2.2.2.2.2.2.2.2.2.2.2.2.2.2.2.2.2.2.2.1, q1.2.2.2.2.2.2.2.2.2.2.2.2.2.2.2.2.2.2.2.2.2.1, q1.2.2.2.2.2.2.2.2.2.2.2.2.2.2.2.2.2.2.2.2.2.2)) B0 B1 B2 B3))) (hq0 : ∀ f m T' ys, (l_nm tp mx j room 0).1 = f → ¬ f = 0 → f < 2 ^ 20 → (∃ k, TKx tp n k T') → T'.2.2.1 = nI f → ys.length = xs.length → Q (some (.int (nI m))) (px_h z E M (px_l sw c2 w2 (T') D S S1 K R C W U q ((q1.1, q1.2.1, q1.2.2.1, q1.2.2.2.1, q1.2.2.2.2.1, q1.2.2.2.2.2.1, q1.2.2.2.2.2.2.1, q1.2.2.2.2.2.2.2.1, q1.2.2.2.2.2.2.2.2.1, q1.2.2.2.2.2.2.2.2.2.1, q1.2.2.2.2.2.2.2.2.2.2.1, q1.2.2.2.2.2.2.2.2.2.2.2.1, q1.2.2.2.2.2.2.2.2.2.2.2.2.1, q1.2.2.2.2.2.2.2.2.2.2.2.2.2.1, q1.2.2.2.2.2.2.2.2.2.2.2.2.2.2.1, q1.2.2.2.2.2.2.2.2.2.2.2.2.2.2.2.1, q1.2.2.2.2.2.2.2.2.2.2.2.2.2.2.2.2.1, ys, q1.2.2.2.2.2.2.2.2.2.2.2.2.2.2.2.2.2.2.1, q1.2.2.2.2.2.2.2.2.2.2.2.2.2.2.2.2.2.2.2.1, q1.2.2.2.2.2.2.2.2.2.2.2.2.2.2.2.2.2.2.2.2.1, q1.2.2.2.2.2.2.2.2.2.2.2.2.2.2.2.2.2.2.2.2.2.1, q1.2.2.2.2.2.2.2.2.2.2.2.2.2.2.2.2.2.2.2.2.2.2)) B0 B1 B2 B3))) : wm (mp_P fx) (d + 2) 77 [.ref 60, .ref (px_ta (!sw) + 13), .int (nI fr), .int (nI room), .int (nI mx)] (px_h z E M (px_l sw c2 w2 T D S S1 K R C W U q ((q1.1, q1.2.1, q1.2.2.1, q1.2.2.2.1, q1.2.2.2.2.1, q1.2.2.2.2.2.1, q1.2.2.2.2.2.2.1, q1.2.2.2.2.2.2.2.1, q1.2.2.2.2.2.2.2.2.1, q1.2.2.2.2.2.2.2.2.2.1, q1.2.2.2.2.2.2.2.2.2.2.1, q1.2.2.2.2.2.2.2.2.2.2.2.1, q1.2.2.2.2.2.2.2.2.2.2.2.2.1, q1.2.2.2.2.2.2.2.2.2.2.2.2.2.1, q1.2.2.2.2.2.2.2.2.2.2.2.2.2.2.1, q1.2.2.2.2.2.2.2.2.2.2.2.2.2.2.2.1, q1.2.2.2.2.2.2.2.2.2.2.2.2.2.2.2.2.1, xs, q1.2.2.2.2.2.2.2.2.2.2.2.2.2.2.2.2.2.2.1, q1.2.2.2.2.2.2.2.2.2.2.2.2.2.2.2.2.2.2.2.1, q1.2.2.2.2.2.2.2.2.2.2.2.2.2.2.2.2.2.2.2.2.1, q1.2.2.2.2.2.2.2.2.2.2.2.2.2.2.2.2.2.2.2.2.2.1, q1.2.2.2.2.2.2.2.2.2.2.2.2.2.2.2.2.2.2.2.2.2.2)) B0 B1 B2 B3)) Q := by
  have key : ∀ (r t : Nat) (T' : px_T) (ys : List Int32), t + r = room → TKx tp n (j + t) T' → T'.2.2.1 = 0 → TY tp (j + t) = 2 → VL tp (j + t) ≤ mx → ys.length = xs.length → (∀ i, i < t → VL tp (j + i) ≤ mx ∧ ys[fr + i]? = some (nI (VL tp (j + i)))) → (∀ i, i < fr → ys[i]? = xs[i]?) → l_nm tp mx j room 0 = l_nm tp mx j r t → ww (mp_P fx) (d + 2) 77 12 [some (.ref 60), some (.ref (px_ta (!sw) + 13)), some (.int (nI fr)), some (.int (nI room)), some (.int (nI mx)), some (.int (nI t)), some (.int 1)] [] (px_h z E M (px_l sw c2 w2 (T') D S S1 K R C W U q ((q1.1, q1.2.1, q1.2.2.1, q1.2.2.2.1, q1.2.2.2.2.1, q1.2.2.2.2.2.1, q1.2.2.2.2.2.2.1, q1.2.2.2.2.2.2.2.1, q1.2.2.2.2.2.2.2.2.1, q1.2.2.2.2.2.2.2.2.2.1, q1.2.2.2.2.2.2.2.2.2.2.1, q1.2.2.2.2.2.2.2.2.2.2.2.1, q1.2.2.2.2.2.2.2.2.2.2.2.2.1, q1.2.2.2.2.2.2.2.2.2.2.2.2.2.1, q1.2.2.2.2.2.2.2.2.2.2.2.2.2.2.1, q1.2.2.2.2.2.2.2.2.2.2.2.2.2.2.2.1, q1.2.2.2.2.2.2.2.2.2.2.2.2.2.2.2.2.1, ys, q1.2.2.2.2.2.2.2.2.2.2.2.2.2.2.2.2.2.2.1, q1.2.2.2.2.2.2.2.2.2.2.2.2.2.2.2.2.2.2.2.1, q1.2.2.2.2.2.2.2.2.2.2.2.2.2.2.2.2.2.2.2.2.1, q1.2.2.2.2.2.2.2.2.2.2.2.2.2.2.2.2.2.2.2.2.2.1, q1.2.2.2.2.2.2.2.2.2.2.2.2.2.2.2.2.2.2.2.2.2.2)) B0 B1 B2 B3)) Q := by
    intro r
    induction r with
    | zero =>
      intro t T' ys ht hT' hf' h2 hv hl hfil hlow hnm
      rw [q77_12]
      simp only [q77_14, q77_17, q77_19, q77_20, q77_77, q77_79, q77_82, q77_83]
      rw [if_neg (by decide), if_pos (by rw [nI_leI (by omega) (by omega)]; omega), if_neg (by decide)]
      simp only [q77_84, xc_T, xg_T_0, xg_T_1, xs_T_1, xg_T_2, xs_T_2, xg_T_3, xg_T_4, xg_T_5, xg_T_6, xs_T_6, xg_T_7, xs_T_7, xg_T_8, xs_T_8, xa_T_signs, xb_T_signs, xn_T_signs, xa_T_types, xb_T_types, xn_T_types, xa_T_starts, xb_T_starts, xn_T_starts, xa_T_values, xb_T_values, xn_T_values]
      apply t_refuse (kd := 5) hT'
      intro T2 h3 h4
      simp only [sl_i, q77_87, q77_88, q77_90]
      rw [l_nm, if_pos h2, if_pos hv] at hnm
      exact hq0 _ t T2 ys (by rw [hnm]) (flt_ne (by omega)) (flt_lt hT.2.2.2.2.2 (by omega)) ⟨_, h3⟩ h4 hl
    | succ r ih =>
      intro t T' ys ht hT' hf' h2 hv hl hfil hlow hnm
      rw [l_nm, if_pos h2, if_pos hv] at hnm
      have hfil2 : ∀ i, i < t + 1 → VL tp (j + i) ≤ mx ∧ (ys.set (fr + t) (nI (VL tp (j + t))))[fr + i]? = some (nI (VL tp (j + i))) := fun i hi => by
        by_cases e : i = t
        · subst e; exact ⟨hv, List.getElem?_set_self (by omega)⟩
        · rw [List.getElem?_set_ne (by omega)]; exact hfil i (by omega)
      have hlow2 : ∀ i, i < fr → (ys.set (fr + t) (nI (VL tp (j + t))))[i]? = xs[i]? := fun i hi => by
        rw [List.getElem?_set_ne (by omega)]; exact hlow i hi
      have hl2 : (ys.set (fr + t) (nI (VL tp (j + t)))).length = xs.length := by rw [List.length_set]; exact hl
      rw [q77_12]
      simp only [q77_14, q77_17, q77_19, q77_20, q77_23, q77_24, q77_26, q77_27, q77_28, q77_29, q77_32, q77_33, q77_34, q77_36, q77_37, xc_q1, xg_q1_0, xg_q1_1, xs_q1_1, xg_q1_2, xg_q1_3, xg_q1_4, xs_q1_4, xg_q1_5, xg_q1_6, xg_q1_7, xg_q1_8, xs_q1_8, xg_q1_9, xs_q1_9, xg_q1_10, xg_q1_11, xg_q1_12, xg_q1_13, xg_q1_14, xg_q1_15, xg_q1_16, xs_q1_16, xg_q1_17, xg_q1_18, xs_q1_18, xg_q1_19, xa_q1_sortNames, xb_q1_sortNames, xn_q1_sortNames, xa_q1_colourNames, xb_q1_colourNames, xn_q1_colourNames, xa_q1_colourSorts, xb_q1_colourSorts, xn_q1_colourSorts, xa_q1_ruleMakes, xb_q1_ruleMakes, xn_q1_ruleMakes, xa_q1_ruleFirsts, xb_q1_ruleFirsts, xn_q1_ruleFirsts, xa_q1_ruleSeconds, xb_q1_ruleSeconds, xn_q1_ruleSeconds, xa_q1_walkerNames, xb_q1_walkerNames, xn_q1_walkerNames, xa_q1_kinds, xb_q1_kinds, xn_q1_kinds, xa_q1_walkerColours, xb_q1_walkerColours, xn_q1_walkerColours, xa_q1_starts, xb_q1_starts, xn_q1_starts, xa_q1_stepRows, xb_q1_stepRows, xn_q1_stepRows, xa_q1_stepCounts, xb_q1_stepCounts, xn_q1_stepCounts, xa_q1_gusts, xb_q1_gusts, xn_q1_gusts, xc_q1l, xg_q1l_0, xg_q1l_1, xs_q1l_1, xg_q1l_2, xg_q1l_3, xs_q1l_3, xa_q1_parts, xb_q1_parts, xn_q1_parts, xa_q1_stack, xb_q1_stack, xn_q1_stack, wx_some, wx_ref, nI_add, hl]
      rw [if_neg (by decide), if_neg (by rw [nI_leI (by omega) (by omega)]; omega), if_neg (by rw [nI_leI (by omega) (by omega)]; omega)]
      simp only [q77_38, xc_T, xg_T_0, xg_T_1, xs_T_1, xg_T_2, xs_T_2, xg_T_3, xg_T_4, xg_T_5, xg_T_6, xs_T_6, xg_T_7, xs_T_7, xg_T_8, xs_T_8, xa_T_signs, xb_T_signs, xn_T_signs, xa_T_types, xb_T_types, xn_T_types, xa_T_starts, xb_T_starts, xn_T_starts, xa_T_values, xb_T_values, xn_T_values]
      apply t_number hT' h2
      simp only [sl_i, q77_41, q77_42i, q77_45, xc_q1, xg_q1_0, xg_q1_1, xs_q1_1, xg_q1_2, xg_q1_3, xg_q1_4, xs_q1_4, xg_q1_5, xg_q1_6, xg_q1_7, xg_q1_8, xs_q1_8, xg_q1_9, xs_q1_9, xg_q1_10, xg_q1_11, xg_q1_12, xg_q1_13, xg_q1_14, xg_q1_15, xg_q1_16, xs_q1_16, xg_q1_17, xg_q1_18, xs_q1_18, xg_q1_19, xa_q1_sortNames, xb_q1_sortNames, xn_q1_sortNames, xa_q1_colourNames, xb_q1_colourNames, xn_q1_colourNames, xa_q1_colourSorts, xb_q1_colourSorts, xn_q1_colourSorts, xa_q1_ruleMakes, xb_q1_ruleMakes, xn_q1_ruleMakes, xa_q1_ruleFirsts, xb_q1_ruleFirsts, xn_q1_ruleFirsts, xa_q1_ruleSeconds, xb_q1_ruleSeconds, xn_q1_ruleSeconds, xa_q1_walkerNames, xb_q1_walkerNames, xn_q1_walkerNames, xa_q1_kinds, xb_q1_kinds, xn_q1_kinds, xa_q1_walkerColours, xb_q1_walkerColours, xn_q1_walkerColours, xa_q1_starts, xb_q1_starts, xn_q1_starts, xa_q1_stepRows, xb_q1_stepRows, xn_q1_stepRows, xa_q1_stepCounts, xb_q1_stepCounts, xn_q1_stepCounts, xa_q1_gusts, xb_q1_gusts, xn_q1_gusts, xc_q1l, xg_q1l_0, xg_q1l_1, xs_q1l_1, xg_q1l_2, xg_q1l_3, xs_q1l_3, xa_q1_parts, xb_q1_parts, xn_q1_parts, xa_q1_stack, xb_q1_stack, xn_q1_stack, wx_some, wx_ref, isl_i, isl_r, isl_n, aS_n (show fr + t < ys.length by omega) (show ys.length < 2 ^ 31 by omega), nI_1]
      simp only [q77_46, xc_T, xg_T_0, xg_T_1, xs_T_1, xg_T_2, xs_T_2, xg_T_3, xg_T_4, xg_T_5, xg_T_6, xs_T_6, xg_T_7, xs_T_7, xg_T_8, xs_T_8, xa_T_signs, xb_T_signs, xn_T_signs, xa_T_types, xb_T_types, xn_T_types, xa_T_starts, xb_T_starts, xn_T_starts, xa_T_values, xb_T_values, xn_T_values]
      apply t_pass hT' (by rw [h2]; decide)
      intro hT3
      simp only [sl_i, q77_49, q77_50, q77_51, xc_T, xg_T_0, xg_T_1, xs_T_1, xg_T_2, xs_T_2, xg_T_3, xg_T_4, xg_T_5, xg_T_6, xs_T_6, xg_T_7, xs_T_7, xg_T_8, xs_T_8, xa_T_signs, xb_T_signs, xn_T_signs, xa_T_types, xb_T_types, xn_T_types, xa_T_starts, xb_T_starts, xn_T_starts, xa_T_values, xb_T_values, xn_T_values]
      have hstop : ∀ (T4 : px_T), ww (mp_P fx) (d + 2) 77 88 [some (.ref 60), some (.ref (px_ta (!sw) + 13)), some (.int (nI fr)), some (.int (nI room)), some (.int (nI mx)), some (.int (nI (t + 1))), some (.int 0)] [] (px_h z E M (px_l sw c2 w2 (T4) D S S1 K R C W U q ((q1.1, q1.2.1, q1.2.2.1, q1.2.2.2.1, q1.2.2.2.2.1, q1.2.2.2.2.2.1, q1.2.2.2.2.2.2.1, q1.2.2.2.2.2.2.2.1, q1.2.2.2.2.2.2.2.2.1, q1.2.2.2.2.2.2.2.2.2.1, q1.2.2.2.2.2.2.2.2.2.2.1, q1.2.2.2.2.2.2.2.2.2.2.2.1, q1.2.2.2.2.2.2.2.2.2.2.2.2.1, q1.2.2.2.2.2.2.2.2.2.2.2.2.2.1, q1.2.2.2.2.2.2.2.2.2.2.2.2.2.2.1, q1.2.2.2.2.2.2.2.2.2.2.2.2.2.2.2.1, q1.2.2.2.2.2.2.2.2.2.2.2.2.2.2.2.2.1, ys.set (fr + t) (nI (VL tp (j + t))), q1.2.2.2.2.2.2.2.2.2.2.2.2.2.2.2.2.2.2.1, q1.2.2.2.2.2.2.2.2.2.2.2.2.2.2.2.2.2.2.2.1, q1.2.2.2.2.2.2.2.2.2.2.2.2.2.2.2.2.2.2.2.2.1, q1.2.2.2.2.2.2.2.2.2.2.2.2.2.2.2.2.2.2.2.2.2.1, q1.2.2.2.2.2.2.2.2.2.2.2.2.2.2.2.2.2.2.2.2.2.2)) B0 B1 B2 B3)) Q → ww (mp_P fx) (d + 2) 77 12 [some (.ref 60), some (.ref (px_ta (!sw) + 13)), some (.int (nI fr)), some (.int (nI room)), some (.int (nI mx)), some (.int (nI (t + 1))), some (.int 0)] [] (px_h z E M (px_l sw c2 w2 (T4) D S S1 K R C W U q ((q1.1, q1.2.1, q1.2.2.1, q1.2.2.2.1, q1.2.2.2.2.1, q1.2.2.2.2.2.1, q1.2.2.2.2.2.2.1, q1.2.2.2.2.2.2.2.1, q1.2.2.2.2.2.2.2.2.1, q1.2.2.2.2.2.2.2.2.2.1, q1.2.2.2.2.2.2.2.2.2.2.1, q1.2.2.2.2.2.2.2.2.2.2.2.1, q1.2.2.2.2.2.2.2.2.2.2.2.2.1, q1.2.2.2.2.2.2.2.2.2.2.2.2.2.1, q1.2.2.2.2.2.2.2.2.2.2.2.2.2.2.1, q1.2.2.2.2.2.2.2.2.2.2.2.2.2.2.2.1, q1.2.2.2.2.2.2.2.2.2.2.2.2.2.2.2.2.1, ys.set (fr + t) (nI (VL tp (j + t))), q1.2.2.2.2.2.2.2.2.2.2.2.2.2.2.2.2.2.2.1, q1.2.2.2.2.2.2.2.2.2.2.2.2.2.2.2.2.2.2.2.1, q1.2.2.2.2.2.2.2.2.2.2.2.2.2.2.2.2.2.2.2.2.1, q1.2.2.2.2.2.2.2.2.2.2.2.2.2.2.2.2.2.2.2.2.2.1, q1.2.2.2.2.2.2.2.2.2.2.2.2.2.2.2.2.2.2.2.2.2.2)) B0 B1 B2 B3)) Q := by
        intro T4 h88
        rw [q77_12]
        simp only [q77_14, q77_77, q77_79]
        rw [if_pos (by decide), if_pos (by decide)]
        exact h88
      apply t_atNumber hT3
      · intro e2
        simp only [sl_i, q77_54, q77_57, q77_58, q77_59, xc_T, xg_T_0, xg_T_1, xs_T_1, xg_T_2, xs_T_2, xg_T_3, xg_T_4, xg_T_5, xg_T_6, xs_T_6, xg_T_7, xs_T_7, xg_T_8, xs_T_8, xa_T_signs, xb_T_signs, xn_T_signs, xa_T_types, xb_T_types, xn_T_types, xa_T_starts, xb_T_starts, xn_T_starts, xa_T_values, xb_T_values, xn_T_values]
        rw [if_neg (by decide)]
        simp only [q77_61, xc_T, xg_T_0, xg_T_1, xs_T_1, xg_T_2, xs_T_2, xg_T_3, xg_T_4, xg_T_5, xg_T_6, xs_T_6, xg_T_7, xs_T_7, xg_T_8, xs_T_8, xa_T_signs, xb_T_signs, xn_T_signs, xa_T_types, xb_T_types, xn_T_types, xa_T_starts, xb_T_starts, xn_T_starts, xa_T_values, xb_T_values, xn_T_values]
        apply t_checkNumber (a := 0) (by omega) hmx hT3
        · intro _ e3
          simp only [sl_i, q77_64, q77_67, q77_68, q77_71, q77_72i, q77_74, isl_i, isl_r, isl_n]
          rw [if_neg (by decide)]
          exact ih (t + 1) _ _ (by omega) hT3 hf' e2 e3.2 hl2 hfil2 hlow2 hnm
        · intro _ e3 T5 hT5 hf5
          simp only [sl_i, q77_64, q77_71, q77_72i, q77_74, isl_i, isl_r, isl_n]
          rw [if_pos (by decide)]
          apply hstop
          simp only [q77_88, q77_90]
          rw [l_nm_4 (j := j) (t := t + 1) e2 (fun y => e3 ⟨Nat.zero_le _, y⟩)] at hnm
          exact hq0 _ (t + 1) T5 _ (by rw [hnm]; rfl) (flt_ne (by omega)) (flt_lt hT.2.2.2.2.2 (by omega)) ⟨_, hT5⟩ hf5 hl2
        · intro e3
          exact absurd e2 e3
      · intro e2
        simp only [sl_i, q77_54, q77_71, q77_72i, q77_74, isl_i, isl_r, isl_n]
        rw [if_pos (by decide)]
        apply hstop
        simp only [q77_88, q77_90]
        rw [l_nm_end (j := j) (t := t + 1) e2, if_neg (by omega)] at hnm
        exact hq1 (t + 1) _ _ hnm (by omega) (by omega) hT3 hf' hl2 hfil2 hlow2
  simp only [e77, q77_0, q77_1i, q77_3, q77_4, q77_5, isl_i, isl_r, isl_n]
  simp only [q77_7, xc_T, xg_T_0, xg_T_1, xs_T_1, xg_T_2, xs_T_2, xg_T_3, xg_T_4, xg_T_5, xg_T_6, xs_T_6, xg_T_7, xs_T_7, xg_T_8, xs_T_8, xa_T_signs, xb_T_signs, xn_T_signs, xa_T_types, xb_T_types, xn_T_types, xa_T_starts, xb_T_starts, xn_T_starts, xa_T_values, xb_T_values, xn_T_values]
  have hstop0 : ∀ (T4 : px_T) (f : Nat), (l_nm tp mx j room 0).1 = f → ¬ f = 0 → f < 2 ^ 20 → (∃ k, TKx tp n k T4) → T4.2.2.1 = nI f → ww (mp_P fx) (d + 2) 77 10 [some (.ref 60), some (.ref (px_ta (!sw) + 13)), some (.int (nI fr)), some (.int (nI room)), some (.int (nI mx)), some (.int 0), none] [.int 0] (px_h z E M (px_l sw c2 w2 (T4) D S S1 K R C W U q ((q1.1, q1.2.1, q1.2.2.1, q1.2.2.2.1, q1.2.2.2.2.1, q1.2.2.2.2.2.1, q1.2.2.2.2.2.2.1, q1.2.2.2.2.2.2.2.1, q1.2.2.2.2.2.2.2.2.1, q1.2.2.2.2.2.2.2.2.2.1, q1.2.2.2.2.2.2.2.2.2.2.1, q1.2.2.2.2.2.2.2.2.2.2.2.1, q1.2.2.2.2.2.2.2.2.2.2.2.2.1, q1.2.2.2.2.2.2.2.2.2.2.2.2.2.1, q1.2.2.2.2.2.2.2.2.2.2.2.2.2.2.1, q1.2.2.2.2.2.2.2.2.2.2.2.2.2.2.2.1, q1.2.2.2.2.2.2.2.2.2.2.2.2.2.2.2.2.1, xs, q1.2.2.2.2.2.2.2.2.2.2.2.2.2.2.2.2.2.2.1, q1.2.2.2.2.2.2.2.2.2.2.2.2.2.2.2.2.2.2.2.1, q1.2.2.2.2.2.2.2.2.2.2.2.2.2.2.2.2.2.2.2.2.1, q1.2.2.2.2.2.2.2.2.2.2.2.2.2.2.2.2.2.2.2.2.2.1, q1.2.2.2.2.2.2.2.2.2.2.2.2.2.2.2.2.2.2.2.2.2.2)) B0 B1 B2 B3)) Q := by
    intro T4 f a1 a2 a0 a3 a4
    simp only [q77_10i, isl_i, isl_r, isl_n]
    rw [q77_12]
    simp only [q77_14, q77_77, q77_79, q77_88, q77_90]
    rw [if_pos (by decide), if_pos (by decide)]
    exact hq0 f 0 T4 xs a1 a2 a0 a3 a4 rfl
  apply t_checkNumber (a := 0) (by omega) hmx hT
  · intro e2 e3
    simp only [sl_i, q77_10i, isl_i, isl_r, isl_n]
    exact key room 0 T xs (by omega) hT hf e2 e3.2 rfl (fun i hi => by omega) (fun i hi => rfl) rfl
  · intro e2 e3 T5 hT5 hf5
    have hnm := l_nm_4 (tp := tp) (mx := mx) (j := j) (r := room) (t := 0) e2 (fun y => e3 ⟨Nat.zero_le _, y⟩)
    exact hstop0 T5 _ (by rw [hnm]; rfl) (flt_ne (by omega)) (flt_lt hT.2.2.2.2.2 (by omega)) ⟨_, hT5⟩ hf5
  · intro e2 T5 hT5 hf5
    have hnm := l_nm_end (tp := tp) (mx := mx) (j := j) (r := room) (t := 0) e2
    exact hstop0 T5 _ (by rw [hnm, if_pos rfl]; rfl) (flt_ne (by omega)) (flt_lt hT.2.2.2.2.2 (by omega)) ⟨_, hT5⟩ hf5
theorem t_kindAt (hE : ELt E) (h : TKx tp n k T) (hq : Q (some (.int (io (kdO tp k)))) (px_h z E M (px_l sw c2 w2 T D S S1 K R C W U q q1 B0 B1 B2 B3))) : wm (mp_P fx) (d + 4) 71 [.ref 60] (px_h z E M (px_l sw c2 w2 T D S S1 K R C W U q q1 B0 B1 B2 B3)) Q := by
  unfold kdO at hq
  simp only [e71, q71_0, q71_1]
  simp only [q71_3, xc_T, xg_T_0, xg_T_1, xs_T_1, xg_T_2, xs_T_2, xg_T_3, xg_T_4, xg_T_5, xg_T_6, xs_T_6, xg_T_7, xs_T_7, xg_T_8, xs_T_8, xa_T_signs, xb_T_signs, xn_T_signs, xa_T_types, xb_T_types, xn_T_types, xa_T_starts, xb_T_starts, xn_T_starts, xa_T_values, xb_T_values, xn_T_values]
  apply t_atWord (w := 15) hE (by omega) (by omega) h
  · intro y
    rw [if_pos (wdB_t.mpr y)] at hq
    simp only [sl_i, q71_6, q71_9, q71_10]
    rw [if_neg (by decide)]; exact hq
  intro y
  rw [if_neg (fun e => y (wdB_t.mp e))] at hq
  simp only [sl_i, q71_6, q71_11, q71_12]
  rw [if_pos (by decide)]
  simp only [q71_14, xc_T, xg_T_0, xg_T_1, xs_T_1, xg_T_2, xs_T_2, xg_T_3, xg_T_4, xg_T_5, xg_T_6, xs_T_6, xg_T_7, xs_T_7, xg_T_8, xs_T_8, xa_T_signs, xb_T_signs, xn_T_signs, xa_T_types, xb_T_types, xn_T_types, xa_T_starts, xb_T_starts, xn_T_starts, xa_T_values, xb_T_values, xn_T_values]
  apply t_atWord (w := 16) hE (by omega) (by omega) h
  · intro y
    rw [if_pos (wdB_t.mpr y)] at hq
    simp only [sl_i, q71_17, q71_20, q71_21]
    rw [if_neg (by decide)]; exact hq
  intro y
  rw [if_neg (fun e => y (wdB_t.mp e))] at hq
  simp only [sl_i, q71_17, q71_22, q71_23]
  rw [if_pos (by decide)]
  simp only [q71_25, xc_T, xg_T_0, xg_T_1, xs_T_1, xg_T_2, xs_T_2, xg_T_3, xg_T_4, xg_T_5, xg_T_6, xs_T_6, xg_T_7, xs_T_7, xg_T_8, xs_T_8, xa_T_signs, xb_T_signs, xn_T_signs, xa_T_types, xb_T_types, xn_T_types, xa_T_starts, xb_T_starts, xn_T_starts, xa_T_values, xb_T_values, xn_T_values]
  apply t_atWord (w := 17) hE (by omega) (by omega) h
  · intro y
    rw [if_pos (wdB_t.mpr y)] at hq
    simp only [sl_i, q71_28, q71_31, q71_32]
    rw [if_neg (by decide)]; exact hq
  intro y
  rw [if_neg (fun e => y (wdB_t.mp e))] at hq
  simp only [sl_i, q71_28, q71_33, q71_34]
  rw [if_pos (by decide)]
  simp only [q71_36, xc_T, xg_T_0, xg_T_1, xs_T_1, xg_T_2, xs_T_2, xg_T_3, xg_T_4, xg_T_5, xg_T_6, xs_T_6, xg_T_7, xs_T_7, xg_T_8, xs_T_8, xa_T_signs, xb_T_signs, xn_T_signs, xa_T_types, xb_T_types, xn_T_types, xa_T_starts, xb_T_starts, xn_T_starts, xa_T_values, xb_T_values, xn_T_values]
  apply t_atWord (w := 18) hE (by omega) (by omega) h
  · intro y
    rw [if_pos (wdB_t.mpr y)] at hq
    simp only [sl_i, q71_39, q71_42, q71_43, q71_46, q71_47]
    rw [if_neg (by decide)]; exact hq
  intro y
  rw [if_neg (fun e => y (wdB_t.mp e))] at hq
  simp only [sl_i, q71_39, q71_46, q71_47]
  rw [if_pos (by decide)]; exact hq
def WNx (i : Nat) (l : Int64) (q : px_q) : Prop := (q.2.2.2.2.2.2.2.2.2.2.1)[i]? = some l
def KDx (i v : Nat) (q : px_q) : Prop := (q.2.2.2.2.2.2.2.2.2.2.2.1)[i]? = some (nI v)
/-- behind a walker's name, kind and colour -/
def WKx (tp : List Nat) (k : Nat) (o : PS) (kd co : Nat) (q : px_q) : Prop := (q.2.2.2.2.2.2.2.2.2.2.1)[k_nW o.1]? = some (w_x (LT tp (k + 1))) ∧ (q.2.2.2.2.2.2.2.2.2.2.2.1)[k_nW o.1]? = some (nI kd) ∧ (q.2.2.2.2.2.2.2.2.2.2.2.2.1)[k_nW o.1]? = some (nI co)
theorem t_addWalker (hE : ELt E) (h : OKx tp n k o T q1) (hw : ¬ TY tp k = 0) (hq1 : ∀ kd co T' q', ¬ 7 ≤ k_nW o.1 → isNm tp (k + 1) → c_new tp o.2.1 o.1 (k + 1) = 0 → kdO tp (k + 2) = some kd → c_named tp o.2.1 1 (k_nC o.1) (k + 3) = (0, co) → OKx tp n (k + 4) o T' q' → WKx tp k o kd co q' → Q (some (.int 1)) (px_h z E M (px_l sw c2 w2 (T') D S S1 K R C W U q (q') B0 B1 B2 B3))) (hq0 : ∀ f T' q', (l_walk tp k o).1 = f → BDx tp n f T' q' → Q (some (.int 0)) (px_h z E M (px_l sw c2 w2 (T') D S S1 K R C W U q (q') B0 B1 B2 B3))) : wm (mp_P fx) (d + 5) 70 [.ref 60, .ref (px_ta (!sw))] (px_h z E M (px_l sw c2 w2 T D S S1 K R C W U q q1 B0 B1 B2 B3)) Q := by
  obtain ⟨hT, hf, ⟨hs, hN, hy, hLD⟩, hP⟩ := id h
  obtain ⟨ho, hnm, hsy, hsl⟩ := id hP
  have h6 := ho.1.2.2.2.1
  have h61 := ho.1.2.1
  have l1 := hs.1.2.2.2.2.2.2.1
  have l2 := hs.1.2.2.2.2.2.2.2.1
  have l3 := hs.1.2.2.2.2.2.2.2.2.1
  unfold l_walk at hq0
  simp only [e70, b70_0, b70_1, bn_0 b70_0, bn_1 b70_1, q70_0, q70_1, q70_4r, q70_5, q70_6, q70_8, q70_11, q70_12, xc_q1, xg_q1_0, xg_q1_1, xs_q1_1, xg_q1_2, xg_q1_3, xg_q1_4, xs_q1_4, xg_q1_5, xg_q1_6, xg_q1_7, xg_q1_8, xs_q1_8, xg_q1_9, xs_q1_9, xg_q1_10, xg_q1_11, xg_q1_12, xg_q1_13, xg_q1_14, xg_q1_15, xg_q1_16, xs_q1_16, xg_q1_17, xg_q1_18, xs_q1_18, xg_q1_19, xa_q1_sortNames, xb_q1_sortNames, xn_q1_sortNames, xa_q1_colourNames, xb_q1_colourNames, xn_q1_colourNames, xa_q1_colourSorts, xb_q1_colourSorts, xn_q1_colourSorts, xa_q1_ruleMakes, xb_q1_ruleMakes, xn_q1_ruleMakes, xa_q1_ruleFirsts, xb_q1_ruleFirsts, xn_q1_ruleFirsts, xa_q1_ruleSeconds, xb_q1_ruleSeconds, xn_q1_ruleSeconds, xa_q1_walkerNames, xb_q1_walkerNames, xn_q1_walkerNames, xa_q1_kinds, xb_q1_kinds, xn_q1_kinds, xa_q1_walkerColours, xb_q1_walkerColours, xn_q1_walkerColours, xa_q1_starts, xb_q1_starts, xn_q1_starts, xa_q1_stepRows, xb_q1_stepRows, xn_q1_stepRows, xa_q1_stepCounts, xb_q1_stepCounts, xn_q1_stepCounts, xa_q1_gusts, xb_q1_gusts, xn_q1_gusts, xc_q1l, xg_q1l_0, xg_q1l_1, xs_q1l_1, xg_q1l_2, xg_q1l_3, xs_q1l_3, xa_q1_parts, xb_q1_parts, xn_q1_parts, xa_q1_stack, xb_q1_stack, xn_q1_stack, wx_some, wx_ref, isl_i, isl_r, isl_n, hs.2.1.2.2.2.1]
  by_cases e6 : 7 ≤ k_nW o.1
  · rw [if_pos e6] at hq0
    rw [if_neg (by rw [nl_7, nI_ltI (by omega) (by omega)]; omega)]
    simp only [b70_0, b70_1, bn_0 b70_0, bn_1 b70_1, q70_13, xc_T, xg_T_0, xg_T_1, xs_T_1, xg_T_2, xs_T_2, xg_T_3, xg_T_4, xg_T_5, xg_T_6, xs_T_6, xg_T_7, xs_T_7, xg_T_8, xs_T_8, xa_T_signs, xb_T_signs, xn_T_signs, xa_T_types, xb_T_types, xn_T_types, xa_T_starts, xb_T_starts, xn_T_starts, xa_T_values, xb_T_values, xn_T_values]
    apply t_refuse (kd := 5) hT
    intro T' h2 h3
    simp only [sl_i, b70_0, b70_1, bn_0 b70_0, bn_1 b70_1, q70_16]
    exact hq0 _ T' q1 rfl ⟨flt_ne (by omega), h3, hs.1, k, h2⟩
  rw [if_neg e6] at hq0
  rw [if_pos (by rw [nl_7, nI_ltI (by omega) (by omega)]; omega)]
  simp only [b70_0, b70_1, bn_0 b70_0, bn_1 b70_1, q70_17, q70_18, xc_T, xg_T_0, xg_T_1, xs_T_1, xg_T_2, xs_T_2, xg_T_3, xg_T_4, xg_T_5, xg_T_6, xs_T_6, xg_T_7, xs_T_7, xg_T_8, xs_T_8, xa_T_signs, xb_T_signs, xn_T_signs, xa_T_types, xb_T_types, xn_T_types, xa_T_starts, xb_T_starts, xn_T_starts, xa_T_values, xb_T_values, xn_T_values]
  apply t_pass hT hw
  intro hT1
  simp only [sl_i, b70_0, b70_1, bn_0 b70_0, bn_1 b70_1, q70_21, q70_22, q70_23, q70_24]
  apply t_newName hT1 hs ho hN hnm
  rotate_left
  · intro T' f y1 y2 y3 y4
    rw [if_neg (by rw [y1]; exact y2)] at hq0
    simp only [sl_i, b70_0, b70_1, bn_0 b70_0, bn_1 b70_1, q70_27, q70_30, q70_31]
    rw [if_neg (by decide)]
    exact hq0 f T' q1 y1 ⟨y2, y4, hs.1, _, y3⟩
  intro y1 y2
  rw [if_pos y2] at hq0
  simp only [sl_i, b70_0, b70_1, bn_0 b70_0, bn_1 b70_1, q70_27, b70_0, b70_1, bn_0 b70_0, bn_1 b70_1, q70_32, q70_33, q70_36, q70_37, xc_q1, xg_q1_0, xg_q1_1, xs_q1_1, xg_q1_2, xg_q1_3, xg_q1_4, xs_q1_4, xg_q1_5, xg_q1_6, xg_q1_7, xg_q1_8, xs_q1_8, xg_q1_9, xs_q1_9, xg_q1_10, xg_q1_11, xg_q1_12, xg_q1_13, xg_q1_14, xg_q1_15, xg_q1_16, xs_q1_16, xg_q1_17, xg_q1_18, xs_q1_18, xg_q1_19, xa_q1_sortNames, xb_q1_sortNames, xn_q1_sortNames, xa_q1_colourNames, xb_q1_colourNames, xn_q1_colourNames, xa_q1_colourSorts, xb_q1_colourSorts, xn_q1_colourSorts, xa_q1_ruleMakes, xb_q1_ruleMakes, xn_q1_ruleMakes, xa_q1_ruleFirsts, xb_q1_ruleFirsts, xn_q1_ruleFirsts, xa_q1_ruleSeconds, xb_q1_ruleSeconds, xn_q1_ruleSeconds, xa_q1_walkerNames, xb_q1_walkerNames, xn_q1_walkerNames, xa_q1_kinds, xb_q1_kinds, xn_q1_kinds, xa_q1_walkerColours, xb_q1_walkerColours, xn_q1_walkerColours, xa_q1_starts, xb_q1_starts, xn_q1_starts, xa_q1_stepRows, xb_q1_stepRows, xn_q1_stepRows, xa_q1_stepCounts, xb_q1_stepCounts, xn_q1_stepCounts, xa_q1_gusts, xb_q1_gusts, xn_q1_gusts, xc_q1l, xg_q1l_0, xg_q1l_1, xs_q1l_1, xg_q1l_2, xg_q1l_3, xs_q1l_3, xa_q1_parts, xb_q1_parts, xn_q1_parts, xa_q1_stack, xb_q1_stack, xn_q1_stack, wx_some, wx_ref]
  rw [if_pos (by decide)]
  simp only [b70_0, b70_1, bn_0 b70_0, bn_1 b70_1, q70_38, xc_T, xg_T_0, xg_T_1, xs_T_1, xg_T_2, xs_T_2, xg_T_3, xg_T_4, xg_T_5, xg_T_6, xs_T_6, xg_T_7, xs_T_7, xg_T_8, xs_T_8, xa_T_signs, xb_T_signs, xn_T_signs, xa_T_types, xb_T_types, xn_T_types, xa_T_starts, xb_T_starts, xn_T_starts, xa_T_values, xb_T_values, xn_T_values]
  apply t_word hT1 y1.1
  simp only [sl_i, b70_0, b70_1, bn_0 b70_0, bn_1 b70_1, q70_41, q70_42, xc_q1, xg_q1_0, xg_q1_1, xs_q1_1, xg_q1_2, xg_q1_3, xg_q1_4, xs_q1_4, xg_q1_5, xg_q1_6, xg_q1_7, xg_q1_8, xs_q1_8, xg_q1_9, xs_q1_9, xg_q1_10, xg_q1_11, xg_q1_12, xg_q1_13, xg_q1_14, xg_q1_15, xg_q1_16, xs_q1_16, xg_q1_17, xg_q1_18, xs_q1_18, xg_q1_19, xa_q1_sortNames, xb_q1_sortNames, xn_q1_sortNames, xa_q1_colourNames, xb_q1_colourNames, xn_q1_colourNames, xa_q1_colourSorts, xb_q1_colourSorts, xn_q1_colourSorts, xa_q1_ruleMakes, xb_q1_ruleMakes, xn_q1_ruleMakes, xa_q1_ruleFirsts, xb_q1_ruleFirsts, xn_q1_ruleFirsts, xa_q1_ruleSeconds, xb_q1_ruleSeconds, xn_q1_ruleSeconds, xa_q1_walkerNames, xb_q1_walkerNames, xn_q1_walkerNames, xa_q1_kinds, xb_q1_kinds, xn_q1_kinds, xa_q1_walkerColours, xb_q1_walkerColours, xn_q1_walkerColours, xa_q1_starts, xb_q1_starts, xn_q1_starts, xa_q1_stepRows, xb_q1_stepRows, xn_q1_stepRows, xa_q1_stepCounts, xb_q1_stepCounts, xn_q1_stepCounts, xa_q1_gusts, xb_q1_gusts, xn_q1_gusts, xc_q1l, xg_q1l_0, xg_q1l_1, xs_q1l_1, xg_q1l_2, xg_q1l_3, xs_q1l_3, xa_q1_parts, xb_q1_parts, xn_q1_parts, xa_q1_stack, xb_q1_stack, xn_q1_stack, wx_some, wx_ref, aS_n (show k_nW o.1 < (q1.2.2.2.2.2.2.2.2.2.2.1).length by omega) (show (q1.2.2.2.2.2.2.2.2.2.2.1).length < 2 ^ 31 by omega)]
  have hD2 : DRx o (q1.1, q1.2.1, q1.2.2.1, q1.2.2.2.1, q1.2.2.2.2.1, q1.2.2.2.2.2.1, q1.2.2.2.2.2.2.1, q1.2.2.2.2.2.2.2.1, q1.2.2.2.2.2.2.2.2.1, q1.2.2.2.2.2.2.2.2.2.1, (q1.2.2.2.2.2.2.2.2.2.2.1).set (k_nW o.1) (w_x (LT tp (k + 1))), q1.2.2.2.2.2.2.2.2.2.2.2.1, q1.2.2.2.2.2.2.2.2.2.2.2.2.1, q1.2.2.2.2.2.2.2.2.2.2.2.2.2.1, q1.2.2.2.2.2.2.2.2.2.2.2.2.2.2.1, q1.2.2.2.2.2.2.2.2.2.2.2.2.2.2.2.1, q1.2.2.2.2.2.2.2.2.2.2.2.2.2.2.2.2.1, q1.2.2.2.2.2.2.2.2.2.2.2.2.2.2.2.2.2.1, q1.2.2.2.2.2.2.2.2.2.2.2.2.2.2.2.2.2.2.1, q1.2.2.2.2.2.2.2.2.2.2.2.2.2.2.2.2.2.2.2.1, q1.2.2.2.2.2.2.2.2.2.2.2.2.2.2.2.2.2.2.2.2.1, q1.2.2.2.2.2.2.2.2.2.2.2.2.2.2.2.2.2.2.2.2.2.1, q1.2.2.2.2.2.2.2.2.2.2.2.2.2.2.2.2.2.2.2.2.2.2) := ⟨⟨⟨hs.1.1, hs.1.2.1, hs.1.2.2.1, hs.1.2.2.2.1, hs.1.2.2.2.2.1, hs.1.2.2.2.2.2.1, by show (List.set _ _ _).length = 7; rw [List.length_set]; exact l1, hs.1.2.2.2.2.2.2.2⟩, hs.2⟩, ⟨hN.1, hN.2.1, fun i hi => (List.getElem?_set_ne (by omega)).trans (hN.2.2 i hi)⟩, hy, hLD⟩
  have hx2 : WNx (k_nW o.1) (w_x (LT tp (k + 1))) (q1.1, q1.2.1, q1.2.2.1, q1.2.2.2.1, q1.2.2.2.2.1, q1.2.2.2.2.2.1, q1.2.2.2.2.2.2.1, q1.2.2.2.2.2.2.2.1, q1.2.2.2.2.2.2.2.2.1, q1.2.2.2.2.2.2.2.2.2.1, (q1.2.2.2.2.2.2.2.2.2.2.1).set (k_nW o.1) (w_x (LT tp (k + 1))), q1.2.2.2.2.2.2.2.2.2.2.2.1, q1.2.2.2.2.2.2.2.2.2.2.2.2.1, q1.2.2.2.2.2.2.2.2.2.2.2.2.2.1, q1.2.2.2.2.2.2.2.2.2.2.2.2.2.2.1, q1.2.2.2.2.2.2.2.2.2.2.2.2.2.2.2.1, q1.2.2.2.2.2.2.2.2.2.2.2.2.2.2.2.2.1, q1.2.2.2.2.2.2.2.2.2.2.2.2.2.2.2.2.2.1, q1.2.2.2.2.2.2.2.2.2.2.2.2.2.2.2.2.2.2.1, q1.2.2.2.2.2.2.2.2.2.2.2.2.2.2.2.2.2.2.2.1, q1.2.2.2.2.2.2.2.2.2.2.2.2.2.2.2.2.2.2.2.2.1, q1.2.2.2.2.2.2.2.2.2.2.2.2.2.2.2.2.2.2.2.2.2.1, q1.2.2.2.2.2.2.2.2.2.2.2.2.2.2.2.2.2.2.2.2.2.2) := List.getElem?_set_self (by omega)
  revert hD2 hx2
  generalize (q1.1, q1.2.1, q1.2.2.1, q1.2.2.2.1, q1.2.2.2.2.1, q1.2.2.2.2.2.1, q1.2.2.2.2.2.2.1, q1.2.2.2.2.2.2.2.1, q1.2.2.2.2.2.2.2.2.1, q1.2.2.2.2.2.2.2.2.2.1, (q1.2.2.2.2.2.2.2.2.2.2.1).set (k_nW o.1) (w_x (LT tp (k + 1))), q1.2.2.2.2.2.2.2.2.2.2.2.1, q1.2.2.2.2.2.2.2.2.2.2.2.2.1, q1.2.2.2.2.2.2.2.2.2.2.2.2.2.1, q1.2.2.2.2.2.2.2.2.2.2.2.2.2.2.1, q1.2.2.2.2.2.2.2.2.2.2.2.2.2.2.2.1, q1.2.2.2.2.2.2.2.2.2.2.2.2.2.2.2.2.1, q1.2.2.2.2.2.2.2.2.2.2.2.2.2.2.2.2.2.1, q1.2.2.2.2.2.2.2.2.2.2.2.2.2.2.2.2.2.2.1, q1.2.2.2.2.2.2.2.2.2.2.2.2.2.2.2.2.2.2.2.1, q1.2.2.2.2.2.2.2.2.2.2.2.2.2.2.2.2.2.2.2.2.1, q1.2.2.2.2.2.2.2.2.2.2.2.2.2.2.2.2.2.2.2.2.2.1, q1.2.2.2.2.2.2.2.2.2.2.2.2.2.2.2.2.2.2.2.2.2.2) = q2
  intro hD2 hx2
  obtain ⟨hs2, hN2, hy2, hLD2⟩ := id hD2
  simp only [b70_0, b70_1, bn_0 b70_0, bn_1 b70_1, q70_43, xc_T, xg_T_0, xg_T_1, xs_T_1, xg_T_2, xs_T_2, xg_T_3, xg_T_4, xg_T_5, xg_T_6, xs_T_6, xg_T_7, xs_T_7, xg_T_8, xs_T_8, xa_T_signs, xb_T_signs, xn_T_signs, xa_T_types, xb_T_types, xn_T_types, xa_T_starts, xb_T_starts, xn_T_starts, xa_T_values, xb_T_values, xn_T_values]
  apply t_pass hT1 (by rw [y1.1]; decide)
  intro hT2
  simp only [sl_i, b70_0, b70_1, bn_0 b70_0, bn_1 b70_1, q70_46, q70_47, q70_48]
  apply t_kindAt hE hT2
  simp only [sl_i, b70_0, b70_1, bn_0 b70_0, bn_1 b70_1, q70_51i, q70_52, q70_53, q70_54, q70_57, q70_58, isl_i, isl_r, isl_n]
  cases ek : kdO tp (k + 2) with
  | none =>
    rw [ek] at hq0
    rw [if_neg (fun y => y rfl)]
    simp only [b70_0, b70_1, bn_0 b70_0, bn_1 b70_1, q70_59, xc_T, xg_T_0, xg_T_1, xs_T_1, xg_T_2, xs_T_2, xg_T_3, xg_T_4, xg_T_5, xg_T_6, xs_T_6, xg_T_7, xs_T_7, xg_T_8, xs_T_8, xa_T_signs, xb_T_signs, xn_T_signs, xa_T_types, xb_T_types, xn_T_types, xa_T_starts, xb_T_starts, xn_T_starts, xa_T_values, xb_T_values, xn_T_values]
    apply t_refuse (kd := 1) hT2
    intro T' h2 h3
    simp only [sl_i, b70_0, b70_1, bn_0 b70_0, bn_1 b70_1, q70_62]
    exact hq0 _ T' q2 rfl ⟨flt_ne (by omega), h3, hs2.1, _, h2⟩
  | some kd =>
  rw [ek] at hq0
  have hkd := kdO_lt ek
  have l2' := hs2.1.2.2.2.2.2.2.2.1
  rw [if_pos (io_some_ne (by omega))]
  simp only [b70_0, b70_1, bn_0 b70_0, bn_1 b70_1, q70_63, q70_64, q70_67, q70_68, q70_69, q70_70, xc_q1, xg_q1_0, xg_q1_1, xs_q1_1, xg_q1_2, xg_q1_3, xg_q1_4, xs_q1_4, xg_q1_5, xg_q1_6, xg_q1_7, xg_q1_8, xs_q1_8, xg_q1_9, xs_q1_9, xg_q1_10, xg_q1_11, xg_q1_12, xg_q1_13, xg_q1_14, xg_q1_15, xg_q1_16, xs_q1_16, xg_q1_17, xg_q1_18, xs_q1_18, xg_q1_19, xa_q1_sortNames, xb_q1_sortNames, xn_q1_sortNames, xa_q1_colourNames, xb_q1_colourNames, xn_q1_colourNames, xa_q1_colourSorts, xb_q1_colourSorts, xn_q1_colourSorts, xa_q1_ruleMakes, xb_q1_ruleMakes, xn_q1_ruleMakes, xa_q1_ruleFirsts, xb_q1_ruleFirsts, xn_q1_ruleFirsts, xa_q1_ruleSeconds, xb_q1_ruleSeconds, xn_q1_ruleSeconds, xa_q1_walkerNames, xb_q1_walkerNames, xn_q1_walkerNames, xa_q1_kinds, xb_q1_kinds, xn_q1_kinds, xa_q1_walkerColours, xb_q1_walkerColours, xn_q1_walkerColours, xa_q1_starts, xb_q1_starts, xn_q1_starts, xa_q1_stepRows, xb_q1_stepRows, xn_q1_stepRows, xa_q1_stepCounts, xb_q1_stepCounts, xn_q1_stepCounts, xa_q1_gusts, xb_q1_gusts, xn_q1_gusts, xc_q1l, xg_q1l_0, xg_q1l_1, xs_q1l_1, xg_q1l_2, xg_q1l_3, xs_q1l_3, xa_q1_parts, xb_q1_parts, xn_q1_parts, xa_q1_stack, xb_q1_stack, xn_q1_stack, wx_some, wx_ref, aS_n (show k_nW o.1 < (q2.2.2.2.2.2.2.2.2.2.2.2.1).length by omega) (show (q2.2.2.2.2.2.2.2.2.2.2.2.1).length < 2 ^ 31 by omega)]
  have hD3 : DRx o (q2.1, q2.2.1, q2.2.2.1, q2.2.2.2.1, q2.2.2.2.2.1, q2.2.2.2.2.2.1, q2.2.2.2.2.2.2.1, q2.2.2.2.2.2.2.2.1, q2.2.2.2.2.2.2.2.2.1, q2.2.2.2.2.2.2.2.2.2.1, q2.2.2.2.2.2.2.2.2.2.2.1, (q2.2.2.2.2.2.2.2.2.2.2.2.1).set (k_nW o.1) (io (some kd)), q2.2.2.2.2.2.2.2.2.2.2.2.2.1, q2.2.2.2.2.2.2.2.2.2.2.2.2.2.1, q2.2.2.2.2.2.2.2.2.2.2.2.2.2.2.1, q2.2.2.2.2.2.2.2.2.2.2.2.2.2.2.2.1, q2.2.2.2.2.2.2.2.2.2.2.2.2.2.2.2.2.1, q2.2.2.2.2.2.2.2.2.2.2.2.2.2.2.2.2.2.1, q2.2.2.2.2.2.2.2.2.2.2.2.2.2.2.2.2.2.2.1, q2.2.2.2.2.2.2.2.2.2.2.2.2.2.2.2.2.2.2.2.1, q2.2.2.2.2.2.2.2.2.2.2.2.2.2.2.2.2.2.2.2.2.1, q2.2.2.2.2.2.2.2.2.2.2.2.2.2.2.2.2.2.2.2.2.2.1, q2.2.2.2.2.2.2.2.2.2.2.2.2.2.2.2.2.2.2.2.2.2.2) := ⟨⟨⟨hs2.1.1, hs2.1.2.1, hs2.1.2.2.1, hs2.1.2.2.2.1, hs2.1.2.2.2.2.1, hs2.1.2.2.2.2.2.1, hs2.1.2.2.2.2.2.2.1, by show (List.set _ _ _).length = 7; rw [List.length_set]; exact l2', hs2.1.2.2.2.2.2.2.2.2⟩, hs2.2.1, hs2.2.2.1, hs2.2.2.2.1, ⟨fun i hi => (List.getElem?_set_ne (by omega)).trans (hs2.2.2.2.2.1.1 i hi), hs2.2.2.2.2.1.2⟩, hs2.2.2.2.2.2⟩, hN2, hy2, hLD2⟩
  have hx3 : WNx (k_nW o.1) (w_x (LT tp (k + 1))) (q2.1, q2.2.1, q2.2.2.1, q2.2.2.2.1, q2.2.2.2.2.1, q2.2.2.2.2.2.1, q2.2.2.2.2.2.2.1, q2.2.2.2.2.2.2.2.1, q2.2.2.2.2.2.2.2.2.1, q2.2.2.2.2.2.2.2.2.2.1, q2.2.2.2.2.2.2.2.2.2.2.1, (q2.2.2.2.2.2.2.2.2.2.2.2.1).set (k_nW o.1) (io (some kd)), q2.2.2.2.2.2.2.2.2.2.2.2.2.1, q2.2.2.2.2.2.2.2.2.2.2.2.2.2.1, q2.2.2.2.2.2.2.2.2.2.2.2.2.2.2.1, q2.2.2.2.2.2.2.2.2.2.2.2.2.2.2.2.1, q2.2.2.2.2.2.2.2.2.2.2.2.2.2.2.2.2.1, q2.2.2.2.2.2.2.2.2.2.2.2.2.2.2.2.2.2.1, q2.2.2.2.2.2.2.2.2.2.2.2.2.2.2.2.2.2.2.1, q2.2.2.2.2.2.2.2.2.2.2.2.2.2.2.2.2.2.2.2.1, q2.2.2.2.2.2.2.2.2.2.2.2.2.2.2.2.2.2.2.2.2.1, q2.2.2.2.2.2.2.2.2.2.2.2.2.2.2.2.2.2.2.2.2.2.1, q2.2.2.2.2.2.2.2.2.2.2.2.2.2.2.2.2.2.2.2.2.2.2) ∧ KDx (k_nW o.1) kd (q2.1, q2.2.1, q2.2.2.1, q2.2.2.2.1, q2.2.2.2.2.1, q2.2.2.2.2.2.1, q2.2.2.2.2.2.2.1, q2.2.2.2.2.2.2.2.1, q2.2.2.2.2.2.2.2.2.1, q2.2.2.2.2.2.2.2.2.2.1, q2.2.2.2.2.2.2.2.2.2.2.1, (q2.2.2.2.2.2.2.2.2.2.2.2.1).set (k_nW o.1) (io (some kd)), q2.2.2.2.2.2.2.2.2.2.2.2.2.1, q2.2.2.2.2.2.2.2.2.2.2.2.2.2.1, q2.2.2.2.2.2.2.2.2.2.2.2.2.2.2.1, q2.2.2.2.2.2.2.2.2.2.2.2.2.2.2.2.1, q2.2.2.2.2.2.2.2.2.2.2.2.2.2.2.2.2.1, q2.2.2.2.2.2.2.2.2.2.2.2.2.2.2.2.2.2.1, q2.2.2.2.2.2.2.2.2.2.2.2.2.2.2.2.2.2.2.1, q2.2.2.2.2.2.2.2.2.2.2.2.2.2.2.2.2.2.2.2.1, q2.2.2.2.2.2.2.2.2.2.2.2.2.2.2.2.2.2.2.2.2.1, q2.2.2.2.2.2.2.2.2.2.2.2.2.2.2.2.2.2.2.2.2.2.1, q2.2.2.2.2.2.2.2.2.2.2.2.2.2.2.2.2.2.2.2.2.2.2) := ⟨hx2, List.getElem?_set_self (by omega)⟩
  revert hD3 hx3
  generalize (q2.1, q2.2.1, q2.2.2.1, q2.2.2.2.1, q2.2.2.2.2.1, q2.2.2.2.2.2.1, q2.2.2.2.2.2.2.1, q2.2.2.2.2.2.2.2.1, q2.2.2.2.2.2.2.2.2.1, q2.2.2.2.2.2.2.2.2.2.1, q2.2.2.2.2.2.2.2.2.2.2.1, (q2.2.2.2.2.2.2.2.2.2.2.2.1).set (k_nW o.1) (io (some kd)), q2.2.2.2.2.2.2.2.2.2.2.2.2.1, q2.2.2.2.2.2.2.2.2.2.2.2.2.2.1, q2.2.2.2.2.2.2.2.2.2.2.2.2.2.2.1, q2.2.2.2.2.2.2.2.2.2.2.2.2.2.2.2.1, q2.2.2.2.2.2.2.2.2.2.2.2.2.2.2.2.2.1, q2.2.2.2.2.2.2.2.2.2.2.2.2.2.2.2.2.2.1, q2.2.2.2.2.2.2.2.2.2.2.2.2.2.2.2.2.2.2.1, q2.2.2.2.2.2.2.2.2.2.2.2.2.2.2.2.2.2.2.2.1, q2.2.2.2.2.2.2.2.2.2.2.2.2.2.2.2.2.2.2.2.2.1, q2.2.2.2.2.2.2.2.2.2.2.2.2.2.2.2.2.2.2.2.2.2.1, q2.2.2.2.2.2.2.2.2.2.2.2.2.2.2.2.2.2.2.2.2.2.2) = q3
  intro hD3 hx3
  obtain ⟨hs3, hN3, hy3, hLD3⟩ := id hD3
  simp only [b70_0, b70_1, bn_0 b70_0, bn_1 b70_1, q70_71, xc_T, xg_T_0, xg_T_1, xs_T_1, xg_T_2, xs_T_2, xg_T_3, xg_T_4, xg_T_5, xg_T_6, xs_T_6, xg_T_7, xs_T_7, xg_T_8, xs_T_8, xa_T_signs, xb_T_signs, xn_T_signs, xa_T_types, xb_T_types, xn_T_types, xa_T_starts, xb_T_starts, xn_T_starts, xa_T_values, xb_T_values, xn_T_values]
  apply t_pass hT2 (by rw [kdO_ty ek]; decide)
  intro hT3
  simp only [sl_i, b70_0, b70_1, bn_0 b70_0, bn_1 b70_1, q70_74, q70_75, q70_76, q70_77]
  apply t_checkColourq1 hT3 hs3 ho hN3 hnm
  rotate_left
  · intro T' f y3 y4 y5 y6
    simp only [] at hq0
    rw [if_neg (by rw [y3]; exact y4)] at hq0
    simp only [sl_i, b70_0, b70_1, bn_0 b70_0, bn_1 b70_1, q70_80, q70_83, q70_84]
    rw [if_neg (by decide)]
    exact hq0 f T' q3 y3 ⟨y4, y6, hs3.1, _, y5⟩
  intro y3 co y4 y5
  have hco := fnd_lt y4
  have l3' := hs3.1.2.2.2.2.2.2.2.2.1
  simp only [sl_i, b70_0, b70_1, bn_0 b70_0, bn_1 b70_1, q70_80, b70_0, b70_1, bn_0 b70_0, bn_1 b70_1, q70_85, q70_86, q70_89, q70_90, q70_91, xc_q1, xg_q1_0, xg_q1_1, xs_q1_1, xg_q1_2, xg_q1_3, xg_q1_4, xs_q1_4, xg_q1_5, xg_q1_6, xg_q1_7, xg_q1_8, xs_q1_8, xg_q1_9, xs_q1_9, xg_q1_10, xg_q1_11, xg_q1_12, xg_q1_13, xg_q1_14, xg_q1_15, xg_q1_16, xs_q1_16, xg_q1_17, xg_q1_18, xs_q1_18, xg_q1_19, xa_q1_sortNames, xb_q1_sortNames, xn_q1_sortNames, xa_q1_colourNames, xb_q1_colourNames, xn_q1_colourNames, xa_q1_colourSorts, xb_q1_colourSorts, xn_q1_colourSorts, xa_q1_ruleMakes, xb_q1_ruleMakes, xn_q1_ruleMakes, xa_q1_ruleFirsts, xb_q1_ruleFirsts, xn_q1_ruleFirsts, xa_q1_ruleSeconds, xb_q1_ruleSeconds, xn_q1_ruleSeconds, xa_q1_walkerNames, xb_q1_walkerNames, xn_q1_walkerNames, xa_q1_kinds, xb_q1_kinds, xn_q1_kinds, xa_q1_walkerColours, xb_q1_walkerColours, xn_q1_walkerColours, xa_q1_starts, xb_q1_starts, xn_q1_starts, xa_q1_stepRows, xb_q1_stepRows, xn_q1_stepRows, xa_q1_stepCounts, xb_q1_stepCounts, xn_q1_stepCounts, xa_q1_gusts, xb_q1_gusts, xn_q1_gusts, xc_q1l, xg_q1l_0, xg_q1l_1, xs_q1l_1, xg_q1l_2, xg_q1l_3, xs_q1l_3, xa_q1_parts, xb_q1_parts, xn_q1_parts, xa_q1_stack, xb_q1_stack, xn_q1_stack, wx_some, wx_ref]
  rw [if_pos (by decide)]
  simp only [b70_0, b70_1, bn_0 b70_0, bn_1 b70_1, q70_92, xc_T, xg_T_0, xg_T_1, xs_T_1, xg_T_2, xs_T_2, xg_T_3, xg_T_4, xg_T_5, xg_T_6, xs_T_6, xg_T_7, xs_T_7, xg_T_8, xs_T_8, xa_T_signs, xb_T_signs, xn_T_signs, xa_T_types, xb_T_types, xn_T_types, xa_T_starts, xb_T_starts, xn_T_starts, xa_T_values, xb_T_values, xn_T_values]
  apply t_word hT3 y3.1
  simp only [sl_i, b70_0, b70_1, bn_0 b70_0, bn_1 b70_1, q70_95, xc_q1, xg_q1_0, xg_q1_1, xs_q1_1, xg_q1_2, xg_q1_3, xg_q1_4, xs_q1_4, xg_q1_5, xg_q1_6, xg_q1_7, xg_q1_8, xs_q1_8, xg_q1_9, xs_q1_9, xg_q1_10, xg_q1_11, xg_q1_12, xg_q1_13, xg_q1_14, xg_q1_15, xg_q1_16, xs_q1_16, xg_q1_17, xg_q1_18, xs_q1_18, xg_q1_19, xa_q1_sortNames, xb_q1_sortNames, xn_q1_sortNames, xa_q1_colourNames, xb_q1_colourNames, xn_q1_colourNames, xa_q1_colourSorts, xb_q1_colourSorts, xn_q1_colourSorts, xa_q1_ruleMakes, xb_q1_ruleMakes, xn_q1_ruleMakes, xa_q1_ruleFirsts, xb_q1_ruleFirsts, xn_q1_ruleFirsts, xa_q1_ruleSeconds, xb_q1_ruleSeconds, xn_q1_ruleSeconds, xa_q1_walkerNames, xb_q1_walkerNames, xn_q1_walkerNames, xa_q1_kinds, xb_q1_kinds, xn_q1_kinds, xa_q1_walkerColours, xb_q1_walkerColours, xn_q1_walkerColours, xa_q1_starts, xb_q1_starts, xn_q1_starts, xa_q1_stepRows, xb_q1_stepRows, xn_q1_stepRows, xa_q1_stepCounts, xb_q1_stepCounts, xn_q1_stepCounts, xa_q1_gusts, xb_q1_gusts, xn_q1_gusts, xc_q1l, xg_q1l_0, xg_q1l_1, xs_q1l_1, xg_q1l_2, xg_q1l_3, xs_q1l_3, xa_q1_parts, xb_q1_parts, xn_q1_parts, xa_q1_stack, xb_q1_stack, xn_q1_stack]
  apply t_colourNamedq1 hs3 ho hN3 hnm (isNm_wf y3)
  simp only [sl_i, b70_0, b70_1, bn_0 b70_0, bn_1 b70_1, q70_98, q70_99, xc_q1, xg_q1_0, xg_q1_1, xs_q1_1, xg_q1_2, xg_q1_3, xg_q1_4, xs_q1_4, xg_q1_5, xg_q1_6, xg_q1_7, xg_q1_8, xs_q1_8, xg_q1_9, xs_q1_9, xg_q1_10, xg_q1_11, xg_q1_12, xg_q1_13, xg_q1_14, xg_q1_15, xg_q1_16, xs_q1_16, xg_q1_17, xg_q1_18, xs_q1_18, xg_q1_19, xa_q1_sortNames, xb_q1_sortNames, xn_q1_sortNames, xa_q1_colourNames, xb_q1_colourNames, xn_q1_colourNames, xa_q1_colourSorts, xb_q1_colourSorts, xn_q1_colourSorts, xa_q1_ruleMakes, xb_q1_ruleMakes, xn_q1_ruleMakes, xa_q1_ruleFirsts, xb_q1_ruleFirsts, xn_q1_ruleFirsts, xa_q1_ruleSeconds, xb_q1_ruleSeconds, xn_q1_ruleSeconds, xa_q1_walkerNames, xb_q1_walkerNames, xn_q1_walkerNames, xa_q1_kinds, xb_q1_kinds, xn_q1_kinds, xa_q1_walkerColours, xb_q1_walkerColours, xn_q1_walkerColours, xa_q1_starts, xb_q1_starts, xn_q1_starts, xa_q1_stepRows, xb_q1_stepRows, xn_q1_stepRows, xa_q1_stepCounts, xb_q1_stepCounts, xn_q1_stepCounts, xa_q1_gusts, xb_q1_gusts, xn_q1_gusts, xc_q1l, xg_q1l_0, xg_q1l_1, xs_q1l_1, xg_q1l_2, xg_q1l_3, xs_q1l_3, xa_q1_parts, xb_q1_parts, xn_q1_parts, xa_q1_stack, xb_q1_stack, xn_q1_stack, wx_some, wx_ref, y4, aS_n (show k_nW o.1 < (q3.2.2.2.2.2.2.2.2.2.2.2.2.1).length by omega) (show (q3.2.2.2.2.2.2.2.2.2.2.2.2.1).length < 2 ^ 31 by omega)]
  simp only [b70_0, b70_1, bn_0 b70_0, bn_1 b70_1, q70_100, xc_T, xg_T_0, xg_T_1, xs_T_1, xg_T_2, xs_T_2, xg_T_3, xg_T_4, xg_T_5, xg_T_6, xs_T_6, xg_T_7, xs_T_7, xg_T_8, xs_T_8, xa_T_signs, xb_T_signs, xn_T_signs, xa_T_types, xb_T_types, xn_T_types, xa_T_starts, xb_T_starts, xn_T_starts, xa_T_values, xb_T_values, xn_T_values]
  apply t_pass hT3 (by rw [y3.1]; decide)
  intro hT4
  simp only [sl_i, b70_0, b70_1, bn_0 b70_0, bn_1 b70_1, q70_103]
  exact hq1 kd co _ (q3.1, q3.2.1, q3.2.2.1, q3.2.2.2.1, q3.2.2.2.2.1, q3.2.2.2.2.2.1, q3.2.2.2.2.2.2.1, q3.2.2.2.2.2.2.2.1, q3.2.2.2.2.2.2.2.2.1, q3.2.2.2.2.2.2.2.2.2.1, q3.2.2.2.2.2.2.2.2.2.2.1, q3.2.2.2.2.2.2.2.2.2.2.2.1, (q3.2.2.2.2.2.2.2.2.2.2.2.2.1).set (k_nW o.1) (io (some co)), q3.2.2.2.2.2.2.2.2.2.2.2.2.2.1, q3.2.2.2.2.2.2.2.2.2.2.2.2.2.2.1, q3.2.2.2.2.2.2.2.2.2.2.2.2.2.2.2.1, q3.2.2.2.2.2.2.2.2.2.2.2.2.2.2.2.2.1, q3.2.2.2.2.2.2.2.2.2.2.2.2.2.2.2.2.2.1, q3.2.2.2.2.2.2.2.2.2.2.2.2.2.2.2.2.2.2.1, q3.2.2.2.2.2.2.2.2.2.2.2.2.2.2.2.2.2.2.2.1, q3.2.2.2.2.2.2.2.2.2.2.2.2.2.2.2.2.2.2.2.2.1, q3.2.2.2.2.2.2.2.2.2.2.2.2.2.2.2.2.2.2.2.2.2.1, q3.2.2.2.2.2.2.2.2.2.2.2.2.2.2.2.2.2.2.2.2.2.2) e6 y1 y2 ek y5 ⟨hT4, hf, ⟨⟨⟨hs3.1.1, hs3.1.2.1, hs3.1.2.2.1, hs3.1.2.2.2.1, hs3.1.2.2.2.2.1, hs3.1.2.2.2.2.2.1, hs3.1.2.2.2.2.2.2.1, hs3.1.2.2.2.2.2.2.2.1, by show (List.set _ _ _).length = 7; rw [List.length_set]; exact l3', hs3.1.2.2.2.2.2.2.2.2.2⟩, hs3.2.1, hs3.2.2.1, hs3.2.2.2.1, ⟨hs3.2.2.2.2.1.1, fun i hi => (List.getElem?_set_ne (by omega)).trans (hs3.2.2.2.2.1.2.1 i hi), hs3.2.2.2.2.1.2.2⟩, hs3.2.2.2.2.2⟩, hN3, hy3, hLD3⟩, hP⟩ ⟨hx3.1, hx3.2, List.getElem?_set_self (by omega)⟩
end LZ
