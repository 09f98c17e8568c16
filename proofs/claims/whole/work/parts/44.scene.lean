/-! the scene's methods -/
section TS
variable {fx : List Value → mm_H → Option (List Value × mm_H)} {z : Nat} {E M : Nat → mm_C} {sw c2 w2 : Bool} {T : px_T} {D : px_D} {S : px_S} {S1 : px_S} {K : px_K} {R : px_R} {C : px_C} {W : px_W} {U : px_U} {q : px_q} {q1 : px_q} {B0 : px_K} {B1 : px_K} {B2 : px_K} {B3 : px_K} {T_signs : List Int32} {T_length : Int32} {T_fault : Int32} {T_types : List Int32} {T_starts : List Int32} {T_values : List Int64} {T_tokens : Int32} {T_at : Int32} {T_behind : Int32} {S_hour : Int32} {S_open : Int32} {S_places : List Int32} {S1_hour : Int32} {S1_open : Int32} {S1_places : List Int32} {K_lines : List Int32} {K_lineCount : Int32} {K_wishes : List Int32} {K_wishCount : Int32} {K_sights : List Int32} {K_sightCount : Int32} {R_shown : List Int32} {R_length : Int32} {R_readers : Int32} {R_begins : List Int32} {R_lengths : List Int32} {R_sentences : Int32} {R_order : List Int32} {R_able : Int32} {R_standing : List Int32} {R_lovers : List Int32} {R_lowest : List Int32} {C_ways : List Int32} {C_rows : List Int32} {C_shallower : List Int32} {C_length : Int32} {C_goal : Int32} {W_row : List Int32} {W_walkers : Int32} {W_names : Int32} {W_wanted : List Int32} {W_shown : List Int32} {W_places : List Int32} {W_rest : List Int32} {W_spent : List Int32} {W_tried : List Int32} {U_undoRows : List Int64} {U_markScenes : List Int64} {U_marksLaid : List Int32} {U_undoCount : Int32} {U_undoEnd : Int32} {q_sortNames : List Int64} {q_sortCount : Int32} {q_colourNames : List Int64} {q_colourSorts : List Int32} {q_colourCount : Int32} {q_ruleMakes : List Int32} {q_ruleFirsts : List Int32} {q_ruleSeconds : List Int32} {q_ruleCount : Int32} {q_saysSort : Int32} {q_walkerNames : List Int64} {q_kinds : List Int32} {q_walkerColours : List Int32} {q_starts : List Int32} {q_stepRows : List Int32} {q_stepCounts : List Int32} {q_walkerCount : Int32} {q_gusts : List Int32} {q_gustCount : Int32} {q_parts : List Int32} {q_count : Int32} {q_stack : List Int32} {q_height : Int32} {q1_sortNames : List Int64} {q1_sortCount : Int32} {q1_colourNames : List Int64} {q1_colourSorts : List Int32} {q1_colourCount : Int32} {q1_ruleMakes : List Int32} {q1_ruleFirsts : List Int32} {q1_ruleSeconds : List Int32} {q1_ruleCount : Int32} {q1_saysSort : Int32} {q1_walkerNames : List Int64} {q1_kinds : List Int32} {q1_walkerColours : List Int32} {q1_starts : List Int32} {q1_stepRows : List Int32} {q1_stepCounts : List Int32} {q1_walkerCount : Int32} {q1_gusts : List Int32} {q1_gustCount : Int32} {q1_parts : List Int32} {q1_count : Int32} {q1_stack : List Int32} {q1_height : Int32} {B0_lines : List Int32} {B0_lineCount : Int32} {B0_wishes : List Int32} {B0_wishCount : Int32} {B0_sights : List Int32} {B0_sightCount : Int32} {B1_lines : List Int32} {B1_lineCount : Int32} {B1_wishes : List Int32} {B1_wishCount : Int32} {B1_sights : List Int32} {B1_sightCount : Int32} {B2_lines : List Int32} {B2_lineCount : Int32} {B2_wishes : List Int32} {B2_wishCount : Int32} {B2_sights : List Int32} {B2_sightCount : Int32} {B3_lines : List Int32} {B3_lineCount : Int32} {B3_wishes : List Int32} {B3_wishCount : Int32} {B3_sights : List Int32} {B3_sightCount : Int32}
variable {d : Nat} {Q : Option Value → mm_H → Prop} {s : SQ} {c : SC}
theorem t_behind {h : mm_H} {p st : Nat} (hp : p < 2 ^ 30) (hs : st < 2 ^ 30) (hq : Q (some (.int (nI (sp_behind p st)))) h) : wm (mp_P fx) d 127 [.int (nI p), .int (nI st)] h Q := by
  unfold sp_behind at hq
  simp only [e127, q127_0, q127_1, q127_2, q127_5, q127_6, q127_7, q127_8, q127_10, q127_13, q127_14, q127_15, q127_16, q127_19, q127_20, q127_21, q127_22, q127_23, q127_26, q127_27, q127_30, q127_31, q127_32, q127_33, q127_36, q127_37]
  simp only [nl_0, nl_1, nl_2, nl_10, nI_add, nI_eq (show st < 2 ^ 31 by omega) (show 1 < 2 ^ 31 by omega), nI_eq (show st < 2 ^ 31 by omega) (show 2 < 2 ^ 31 by omega), nI_leI (show 10 < 2 ^ 31 by omega) (show p + 1 < 2 ^ 31 by omega), nI_leI (show p < 2 ^ 31 by omega) (show 0 < 2 ^ 31 by omega)]
  by_cases h1 : st = 1
  · rw [if_pos h1] at hq
    rw [if_neg (by omega)]
    by_cases h2 : p + 1 < 10
    · rw [if_pos h2] at hq; rw [if_neg (by omega)]; exact hq
    · rw [if_neg h2] at hq; rw [if_pos (by omega)]; exact hq
  · rw [if_neg h1] at hq
    rw [if_pos h1]
    by_cases h2 : st = 2
    · rw [if_neg (by omega)]
      by_cases h3 : 0 < p
      · rw [if_pos ⟨h2, h3⟩] at hq; rw [if_neg (by omega), nI_sub (by omega)]; exact hq
      · rw [if_neg (fun z => h3 z.2)] at hq; rw [if_pos (by omega)]; exact hq
    · rw [if_neg (fun z => h2 z.1)] at hq; rw [if_pos h2]; exact hq
theorem t_stepOf {w hr : Nat} (hs : SQx q s) (ho : k_ok s) (hw : w < k_nW s) (hh : hr < 2 ^ 30) (hq : Q (some (.int (nI (sp_step s w hr)))) (px_h z E M (px_l sw c2 w2 T D S S1 K R C W U q q1 B0 B1 B2 B3))) :
    wm (mp_P fx) d 107 [.ref (px_ta sw), .int (nI w), .int (nI hr)] (px_h z E M (px_l sw c2 w2 T D S S1 K R C W U q q1 B0 B1 B2 B3)) Q := by
  obtain ⟨⟨-, -, -, -, -, -, -, -, -, hl2, hl1, -⟩, -, -, -, ⟨-, -, -, hsc, -⟩, hsr⟩ := hs
  have h6 := (ho.2.2.2.1 w hw).2.2.2.1
  have hn := ho.1.2.2.2.1
  have hm := Nat.mod_lt hr h6.1
  simp only [e107, q107_0, q107_1, q107_4, q107_5, q107_6i, q107_7, q107_8, q107_9, q107_12, q107_13, q107_16, q107_17, q107_20, q107_21, q107_24, q107_25, q107_27, q107_28, q107_29, q107_30, q107_31, q107_32, q107_33, xc_q, xg_q_0, xg_q_1, xs_q_1, xg_q_2, xg_q_3, xg_q_4, xs_q_4, xg_q_5, xg_q_6, xg_q_7, xg_q_8, xs_q_8, xg_q_9, xs_q_9, xg_q_10, xg_q_11, xg_q_12, xg_q_13, xg_q_14, xg_q_15, xg_q_16, xs_q_16, xg_q_17, xg_q_18, xs_q_18, xg_q_19, xa_q_sortNames, xb_q_sortNames, xn_q_sortNames, xa_q_colourNames, xb_q_colourNames, xn_q_colourNames, xa_q_colourSorts, xb_q_colourSorts, xn_q_colourSorts, xa_q_ruleMakes, xb_q_ruleMakes, xn_q_ruleMakes, xa_q_ruleFirsts, xb_q_ruleFirsts, xn_q_ruleFirsts, xa_q_ruleSeconds, xb_q_ruleSeconds, xn_q_ruleSeconds, xa_q_walkerNames, xb_q_walkerNames, xn_q_walkerNames, xa_q_kinds, xb_q_kinds, xn_q_kinds, xa_q_walkerColours, xb_q_walkerColours, xn_q_walkerColours, xa_q_starts, xb_q_starts, xn_q_starts, xa_q_stepRows, xb_q_stepRows, xn_q_stepRows, xa_q_stepCounts, xb_q_stepCounts, xn_q_stepCounts, xa_q_gusts, xb_q_gusts, xn_q_gusts, xc_ql, xg_ql_0, xg_ql_1, xs_ql_1, xg_ql_2, xg_ql_3, xs_ql_3, xa_q_parts, xb_q_parts, xn_q_parts, xa_q_stack, xb_q_stack, xn_q_stack, wx_some, wx_ref, isl_i, isl_r, isl_n, ag_G hsc (by omega) hw]
  rw [nl_1, if_neg (by rw [nI_ltI (by omega) (by omega)]; omega), nl_0, if_pos (by rw [nI_leI (by omega) (by omega)]; omega), if_neg (by rw [nI_eq (by omega) (by omega)]; omega), nI_mod (by omega) (by omega) (by omega), nl_6, pk_mul, nI_add, aG_n (hsr w hw _ hm) (by omega), wx_some]
  exact hq
theorem t_gustOf {hr : Nat} (hs : SQx q s) (ho : k_ok s) (hh : hr < 2 ^ 30) (hq : Q (some (.int (nI (sp_gust s hr)))) (px_h z E M (px_l sw c2 w2 T D S S1 K R C W U q q1 B0 B1 B2 B3))) :
    wm (mp_P fx) d 118 [.ref (px_ta sw), .int (nI hr)] (px_h z E M (px_l sw c2 w2 T D S S1 K R C W U q q1 B0 B1 B2 B3)) Q := by
  obtain ⟨⟨-, -, -, -, -, -, -, -, -, -, -, hl, -⟩, ⟨-, -, -, -, hg⟩, -, -, ⟨-, -, -, -, hgu⟩, -⟩ := hs
  have hn := ho.1.2.2.2.2
  unfold sp_gust at hq
  simp only [e118, q118_0, q118_1, q118_4, q118_5, q118_8, q118_9, q118_12, q118_14, q118_17, q118_18, q118_21, q118_22, q118_23, q118_26, q118_27, q118_28, xc_q, xg_q_0, xg_q_1, xs_q_1, xg_q_2, xg_q_3, xg_q_4, xs_q_4, xg_q_5, xg_q_6, xg_q_7, xg_q_8, xs_q_8, xg_q_9, xs_q_9, xg_q_10, xg_q_11, xg_q_12, xg_q_13, xg_q_14, xg_q_15, xg_q_16, xs_q_16, xg_q_17, xg_q_18, xs_q_18, xg_q_19, xa_q_sortNames, xb_q_sortNames, xn_q_sortNames, xa_q_colourNames, xb_q_colourNames, xn_q_colourNames, xa_q_colourSorts, xb_q_colourSorts, xn_q_colourSorts, xa_q_ruleMakes, xb_q_ruleMakes, xn_q_ruleMakes, xa_q_ruleFirsts, xb_q_ruleFirsts, xn_q_ruleFirsts, xa_q_ruleSeconds, xb_q_ruleSeconds, xn_q_ruleSeconds, xa_q_walkerNames, xb_q_walkerNames, xn_q_walkerNames, xa_q_kinds, xb_q_kinds, xn_q_kinds, xa_q_walkerColours, xb_q_walkerColours, xn_q_walkerColours, xa_q_starts, xb_q_starts, xn_q_starts, xa_q_stepRows, xb_q_stepRows, xn_q_stepRows, xa_q_stepCounts, xb_q_stepCounts, xn_q_stepCounts, xa_q_gusts, xb_q_gusts, xn_q_gusts, xc_ql, xg_ql_0, xg_ql_1, xs_ql_1, xg_ql_2, xg_ql_3, xs_ql_3, xa_q_parts, xb_q_parts, xn_q_parts, xa_q_stack, xb_q_stack, xn_q_stack, wx_some, wx_ref, hg]
  by_cases h0 : k_nG s = 0
  · rw [if_pos h0] at hq
    rw [h0, if_pos (by decide)]; exact hq
  · rw [if_neg h0] at hq
    have hm := Nat.mod_lt hr (show 0 < k_nG s by omega)
    rw [nl_1, if_neg (by rw [nI_ltI (by omega) (by omega)]; omega), nl_0, if_pos (by rw [nI_leI (by omega) (by omega)]; omega), if_neg (by rw [nI_eq (by omega) (by omega)]; omega), nI_mod (by omega) (by omega) (by omega), ag_G hgu (by omega) hm, wx_some]
    exact hq
theorem t_goOn_lS (hs : SQx q s) (ho : k_ok s) (hc : c_ok s c) (hq : ∀ S', SCx s S' (sp_on s c) → Q none (px_h z E M (px_l sw c2 w2 T D (S') S1 K R C W U q q1 B0 B1 B2 B3))) :
    ∀ (n w : Nat) (S' : px_S), w + n = k_nW s → SCx s S' (c.1, c.2.1, fun i => if i < w then (sp_on s c).2.2 i else c.2.2 i) → ww (mp_P fx) (d + 1) 126 2 [some (.ref 67), some (.ref (px_ta sw)), some (.int (nI w))] [] (px_h z E M (px_l sw c2 w2 T D (S') S1 K R C W U q q1 B0 B1 B2 B3)) Q := by
  have hn := hs.2.1.2.2.2.1
  have hW := ho.1.2.2.2.1
  have hh := hc.1
  intro n
  induction n with
  | zero =>
    intro w S' hw hx
    obtain ⟨e1, e2, hr, ha⟩ := hx
    rw [q126_2]
    simp only [e126, q126_0, q126_1r, q126_3, q126_4, q126_7, q126_10, q126_11, q126_14, q126_15, q126_16, q126_19, q126_20, q126_21, q126_22, q126_23, q126_24, q126_27, q126_30, q126_33, q126_34r, q126_37, q126_40, q126_41, q126_42, q126_45, q126_46, q126_47, q126_50, xc_q, xg_q_0, xg_q_1, xs_q_1, xg_q_2, xg_q_3, xg_q_4, xs_q_4, xg_q_5, xg_q_6, xg_q_7, xg_q_8, xs_q_8, xg_q_9, xs_q_9, xg_q_10, xg_q_11, xg_q_12, xg_q_13, xg_q_14, xg_q_15, xg_q_16, xs_q_16, xg_q_17, xg_q_18, xs_q_18, xg_q_19, xa_q_sortNames, xb_q_sortNames, xn_q_sortNames, xa_q_colourNames, xb_q_colourNames, xn_q_colourNames, xa_q_colourSorts, xb_q_colourSorts, xn_q_colourSorts, xa_q_ruleMakes, xb_q_ruleMakes, xn_q_ruleMakes, xa_q_ruleFirsts, xb_q_ruleFirsts, xn_q_ruleFirsts, xa_q_ruleSeconds, xb_q_ruleSeconds, xn_q_ruleSeconds, xa_q_walkerNames, xb_q_walkerNames, xn_q_walkerNames, xa_q_kinds, xb_q_kinds, xn_q_kinds, xa_q_walkerColours, xb_q_walkerColours, xn_q_walkerColours, xa_q_starts, xb_q_starts, xn_q_starts, xa_q_stepRows, xb_q_stepRows, xn_q_stepRows, xa_q_stepCounts, xb_q_stepCounts, xn_q_stepCounts, xa_q_gusts, xb_q_gusts, xn_q_gusts, xc_ql, xg_ql_0, xg_ql_1, xs_ql_1, xg_ql_2, xg_ql_3, xs_ql_3, xa_q_parts, xb_q_parts, xn_q_parts, xa_q_stack, xb_q_stack, xn_q_stack, xc_S, xg_S_0, xs_S_0, xg_S_1, xs_S_1, xg_S_2, xa_S_places, xb_S_places, xn_S_places, wx_some, wx_ref, hn, e1, nl_1, nI_add]
    rw [if_pos (by rw [nI_leI (by omega) (by omega)]; omega)]
    refine hq _ ⟨rfl, e2, hr, ?_⟩
    intro i hi
    rw [ha i hi]
    show some (nI (if i < w then (sp_on s c).2.2 i else c.2.2 i)) = _
    rw [if_pos (by omega)]
  | succ n ih =>
    intro w S' hw hx
    obtain ⟨e1, e2, hr, ha⟩ := hx
    have hl := hr.1
    have haw := ag_G ha (show (S'.2.2).length < 2 ^ 31 by omega) (show w < k_nW s by omega)
    simp only [] at haw
    rw [if_neg (Nat.lt_irrefl w)] at haw
    have hpw := hc.2.2 w (by omega)
    rw [q126_2]
    simp only [e126, q126_0, q126_1r, q126_3, q126_4, q126_7, q126_10, q126_11, q126_14, q126_15, q126_16, q126_19, q126_20, q126_21, q126_22, q126_23, q126_24, q126_27, q126_30, q126_33, q126_34r, q126_37, q126_40, q126_41, q126_42, q126_45, q126_46, q126_47, q126_50, xc_q, xg_q_0, xg_q_1, xs_q_1, xg_q_2, xg_q_3, xg_q_4, xs_q_4, xg_q_5, xg_q_6, xg_q_7, xg_q_8, xs_q_8, xg_q_9, xs_q_9, xg_q_10, xg_q_11, xg_q_12, xg_q_13, xg_q_14, xg_q_15, xg_q_16, xs_q_16, xg_q_17, xg_q_18, xs_q_18, xg_q_19, xa_q_sortNames, xb_q_sortNames, xn_q_sortNames, xa_q_colourNames, xb_q_colourNames, xn_q_colourNames, xa_q_colourSorts, xb_q_colourSorts, xn_q_colourSorts, xa_q_ruleMakes, xb_q_ruleMakes, xn_q_ruleMakes, xa_q_ruleFirsts, xb_q_ruleFirsts, xn_q_ruleFirsts, xa_q_ruleSeconds, xb_q_ruleSeconds, xn_q_ruleSeconds, xa_q_walkerNames, xb_q_walkerNames, xn_q_walkerNames, xa_q_kinds, xb_q_kinds, xn_q_kinds, xa_q_walkerColours, xb_q_walkerColours, xn_q_walkerColours, xa_q_starts, xb_q_starts, xn_q_starts, xa_q_stepRows, xb_q_stepRows, xn_q_stepRows, xa_q_stepCounts, xb_q_stepCounts, xn_q_stepCounts, xa_q_gusts, xb_q_gusts, xn_q_gusts, xc_ql, xg_ql_0, xg_ql_1, xs_ql_1, xg_ql_2, xg_ql_3, xs_ql_3, xa_q_parts, xb_q_parts, xn_q_parts, xa_q_stack, xb_q_stack, xn_q_stack, xc_S, xg_S_0, xs_S_0, xg_S_1, xs_S_1, xg_S_2, xa_S_places, xb_S_places, xn_S_places, wx_some, wx_ref, hn, e1, isl_i, isl_r, isl_n, haw]
    rw [if_neg (by rw [nI_leI (by omega) (by omega)]; omega)]
    apply t_stepOf hs ho (by omega) (by omega)
    have h2 := sp_step_le (hr := c.1) ho (show w < k_nW s by omega)
    simp only [sl_i, e126, q126_0, q126_1r, q126_3, q126_4, q126_7, q126_10, q126_11, q126_14, q126_15, q126_16, q126_19, q126_20, q126_21, q126_22, q126_23, q126_24, q126_27, q126_30, q126_33, q126_34r, q126_37, q126_40, q126_41, q126_42, q126_45, q126_46, q126_47, q126_50]
    apply t_behind (by omega) (by omega)
    simp only [sl_i, e126, q126_0, q126_1r, q126_3, q126_4, q126_7, q126_10, q126_11, q126_14, q126_15, q126_16, q126_19, q126_20, q126_21, q126_22, q126_23, q126_24, q126_27, q126_30, q126_33, q126_34r, q126_37, q126_40, q126_41, q126_42, q126_45, q126_46, q126_47, q126_50, xc_q, xg_q_0, xg_q_1, xs_q_1, xg_q_2, xg_q_3, xg_q_4, xs_q_4, xg_q_5, xg_q_6, xg_q_7, xg_q_8, xs_q_8, xg_q_9, xs_q_9, xg_q_10, xg_q_11, xg_q_12, xg_q_13, xg_q_14, xg_q_15, xg_q_16, xs_q_16, xg_q_17, xg_q_18, xs_q_18, xg_q_19, xa_q_sortNames, xb_q_sortNames, xn_q_sortNames, xa_q_colourNames, xb_q_colourNames, xn_q_colourNames, xa_q_colourSorts, xb_q_colourSorts, xn_q_colourSorts, xa_q_ruleMakes, xb_q_ruleMakes, xn_q_ruleMakes, xa_q_ruleFirsts, xb_q_ruleFirsts, xn_q_ruleFirsts, xa_q_ruleSeconds, xb_q_ruleSeconds, xn_q_ruleSeconds, xa_q_walkerNames, xb_q_walkerNames, xn_q_walkerNames, xa_q_kinds, xb_q_kinds, xn_q_kinds, xa_q_walkerColours, xb_q_walkerColours, xn_q_walkerColours, xa_q_starts, xb_q_starts, xn_q_starts, xa_q_stepRows, xb_q_stepRows, xn_q_stepRows, xa_q_stepCounts, xb_q_stepCounts, xn_q_stepCounts, xa_q_gusts, xb_q_gusts, xn_q_gusts, xc_ql, xg_ql_0, xg_ql_1, xs_ql_1, xg_ql_2, xg_ql_3, xs_ql_3, xa_q_parts, xb_q_parts, xn_q_parts, xa_q_stack, xb_q_stack, xn_q_stack, xc_S, xg_S_0, xs_S_0, xg_S_1, xs_S_1, xg_S_2, xa_S_places, xb_S_places, xn_S_places, aS_n (show w < (S'.2.2).length by omega) (show (S'.2.2).length < 2 ^ 31 by omega), wx_some, isl_i, isl_r, isl_n, nl_1, nI_add]
    apply ih (w + 1) _ (by omega)
    refine ⟨e1, e2, rg_set hr (sp_behind_lt hpw), ?_⟩
    apply ag_set ha (by omega)
    intro j hj
    show (if j < w + 1 then (sp_on s c).2.2 j else c.2.2 j) = _
    by_cases e : j = w
    · subst e; rw [if_pos rfl, if_pos (by omega)]; rfl
    · rw [if_neg e]
      show (if j < w + 1 then (sp_on s c).2.2 j else c.2.2 j) = (if j < w then (sp_on s c).2.2 j else c.2.2 j)
      by_cases e2 : j < w
      · rw [if_pos e2, if_pos (by omega)]
      · rw [if_neg e2, if_neg (by omega)]
theorem t_goOnS (hs : SQx q s) (ho : k_ok s) (hc : c_ok s c) (hS : SCx s S c) (hq : ∀ S', SCx s S' (sp_on s c) → Q none (px_h z E M (px_l sw c2 w2 T D (S') S1 K R C W U q q1 B0 B1 B2 B3))) : wm (mp_P fx) (d + 1) 126 [.ref 67, .ref (px_ta sw)] (px_h z E M (px_l sw c2 w2 T D S S1 K R C W U q q1 B0 B1 B2 B3)) Q := by
  simp only [e126, q126_0, q126_1r, q126_3, q126_4, q126_7, q126_10, q126_11, q126_14, q126_15, q126_16, q126_19, q126_20, q126_21, q126_22, q126_23, q126_24, q126_27, q126_30, q126_33, q126_34r, q126_37, q126_40, q126_41, q126_42, q126_45, q126_46, q126_47, q126_50, isl_i, isl_r, isl_n]
  refine t_goOn_lS hs ho hc hq (k_nW s) 0 S (by omega) ?_
  refine ⟨hS.1, hS.2.1, hS.2.2.1, ?_⟩
  intro i hi
  show _ = some (nI (if i < 0 then (sp_on s c).2.2 i else c.2.2 i))
  rw [if_neg (by omega)]; exact hS.2.2.2 i hi
theorem t_goOn_lS1 (hs : SQx q s) (ho : k_ok s) (hc : c_ok s c) (hq : ∀ S', SCx s S' (sp_on s c) → Q none (px_h z E M (px_l sw c2 w2 T D S (S') K R C W U q q1 B0 B1 B2 B3))) :
    ∀ (n w : Nat) (S' : px_S), w + n = k_nW s → SCx s S' (c.1, c.2.1, fun i => if i < w then (sp_on s c).2.2 i else c.2.2 i) → ww (mp_P fx) (d + 1) 126 2 [some (.ref 69), some (.ref (px_ta sw)), some (.int (nI w))] [] (px_h z E M (px_l sw c2 w2 T D S (S') K R C W U q q1 B0 B1 B2 B3)) Q := by
  have hn := hs.2.1.2.2.2.1
  have hW := ho.1.2.2.2.1
  have hh := hc.1
  intro n
  induction n with
  | zero =>
    intro w S' hw hx
    obtain ⟨e1, e2, hr, ha⟩ := hx
    rw [q126_2]
    simp only [e126, q126_0, q126_1r, q126_3, q126_4, q126_7, q126_10, q126_11, q126_14, q126_15, q126_16, q126_19, q126_20, q126_21, q126_22, q126_23, q126_24, q126_27, q126_30, q126_33, q126_34r, q126_37, q126_40, q126_41, q126_42, q126_45, q126_46, q126_47, q126_50, xc_q, xg_q_0, xg_q_1, xs_q_1, xg_q_2, xg_q_3, xg_q_4, xs_q_4, xg_q_5, xg_q_6, xg_q_7, xg_q_8, xs_q_8, xg_q_9, xs_q_9, xg_q_10, xg_q_11, xg_q_12, xg_q_13, xg_q_14, xg_q_15, xg_q_16, xs_q_16, xg_q_17, xg_q_18, xs_q_18, xg_q_19, xa_q_sortNames, xb_q_sortNames, xn_q_sortNames, xa_q_colourNames, xb_q_colourNames, xn_q_colourNames, xa_q_colourSorts, xb_q_colourSorts, xn_q_colourSorts, xa_q_ruleMakes, xb_q_ruleMakes, xn_q_ruleMakes, xa_q_ruleFirsts, xb_q_ruleFirsts, xn_q_ruleFirsts, xa_q_ruleSeconds, xb_q_ruleSeconds, xn_q_ruleSeconds, xa_q_walkerNames, xb_q_walkerNames, xn_q_walkerNames, xa_q_kinds, xb_q_kinds, xn_q_kinds, xa_q_walkerColours, xb_q_walkerColours, xn_q_walkerColours, xa_q_starts, xb_q_starts, xn_q_starts, xa_q_stepRows, xb_q_stepRows, xn_q_stepRows, xa_q_stepCounts, xb_q_stepCounts, xn_q_stepCounts, xa_q_gusts, xb_q_gusts, xn_q_gusts, xc_ql, xg_ql_0, xg_ql_1, xs_ql_1, xg_ql_2, xg_ql_3, xs_ql_3, xa_q_parts, xb_q_parts, xn_q_parts, xa_q_stack, xb_q_stack, xn_q_stack, xc_S1, xg_S1_0, xs_S1_0, xg_S1_1, xs_S1_1, xg_S1_2, xa_S1_places, xb_S1_places, xn_S1_places, wx_some, wx_ref, hn, e1, nl_1, nI_add]
    rw [if_pos (by rw [nI_leI (by omega) (by omega)]; omega)]
    refine hq _ ⟨rfl, e2, hr, ?_⟩
    intro i hi
    rw [ha i hi]
    show some (nI (if i < w then (sp_on s c).2.2 i else c.2.2 i)) = _
    rw [if_pos (by omega)]
  | succ n ih =>
    intro w S' hw hx
    obtain ⟨e1, e2, hr, ha⟩ := hx
    have hl := hr.1
    have haw := ag_G ha (show (S'.2.2).length < 2 ^ 31 by omega) (show w < k_nW s by omega)
    simp only [] at haw
    rw [if_neg (Nat.lt_irrefl w)] at haw
    have hpw := hc.2.2 w (by omega)
    rw [q126_2]
    simp only [e126, q126_0, q126_1r, q126_3, q126_4, q126_7, q126_10, q126_11, q126_14, q126_15, q126_16, q126_19, q126_20, q126_21, q126_22, q126_23, q126_24, q126_27, q126_30, q126_33, q126_34r, q126_37, q126_40, q126_41, q126_42, q126_45, q126_46, q126_47, q126_50, xc_q, xg_q_0, xg_q_1, xs_q_1, xg_q_2, xg_q_3, xg_q_4, xs_q_4, xg_q_5, xg_q_6, xg_q_7, xg_q_8, xs_q_8, xg_q_9, xs_q_9, xg_q_10, xg_q_11, xg_q_12, xg_q_13, xg_q_14, xg_q_15, xg_q_16, xs_q_16, xg_q_17, xg_q_18, xs_q_18, xg_q_19, xa_q_sortNames, xb_q_sortNames, xn_q_sortNames, xa_q_colourNames, xb_q_colourNames, xn_q_colourNames, xa_q_colourSorts, xb_q_colourSorts, xn_q_colourSorts, xa_q_ruleMakes, xb_q_ruleMakes, xn_q_ruleMakes, xa_q_ruleFirsts, xb_q_ruleFirsts, xn_q_ruleFirsts, xa_q_ruleSeconds, xb_q_ruleSeconds, xn_q_ruleSeconds, xa_q_walkerNames, xb_q_walkerNames, xn_q_walkerNames, xa_q_kinds, xb_q_kinds, xn_q_kinds, xa_q_walkerColours, xb_q_walkerColours, xn_q_walkerColours, xa_q_starts, xb_q_starts, xn_q_starts, xa_q_stepRows, xb_q_stepRows, xn_q_stepRows, xa_q_stepCounts, xb_q_stepCounts, xn_q_stepCounts, xa_q_gusts, xb_q_gusts, xn_q_gusts, xc_ql, xg_ql_0, xg_ql_1, xs_ql_1, xg_ql_2, xg_ql_3, xs_ql_3, xa_q_parts, xb_q_parts, xn_q_parts, xa_q_stack, xb_q_stack, xn_q_stack, xc_S1, xg_S1_0, xs_S1_0, xg_S1_1, xs_S1_1, xg_S1_2, xa_S1_places, xb_S1_places, xn_S1_places, wx_some, wx_ref, hn, e1, isl_i, isl_r, isl_n, haw]
    rw [if_neg (by rw [nI_leI (by omega) (by omega)]; omega)]
    apply t_stepOf hs ho (by omega) (by omega)
    have h2 := sp_step_le (hr := c.1) ho (show w < k_nW s by omega)
    simp only [sl_i, e126, q126_0, q126_1r, q126_3, q126_4, q126_7, q126_10, q126_11, q126_14, q126_15, q126_16, q126_19, q126_20, q126_21, q126_22, q126_23, q126_24, q126_27, q126_30, q126_33, q126_34r, q126_37, q126_40, q126_41, q126_42, q126_45, q126_46, q126_47, q126_50]
    apply t_behind (by omega) (by omega)
    simp only [sl_i, e126, q126_0, q126_1r, q126_3, q126_4, q126_7, q126_10, q126_11, q126_14, q126_15, q126_16, q126_19, q126_20, q126_21, q126_22, q126_23, q126_24, q126_27, q126_30, q126_33, q126_34r, q126_37, q126_40, q126_41, q126_42, q126_45, q126_46, q126_47, q126_50, xc_q, xg_q_0, xg_q_1, xs_q_1, xg_q_2, xg_q_3, xg_q_4, xs_q_4, xg_q_5, xg_q_6, xg_q_7, xg_q_8, xs_q_8, xg_q_9, xs_q_9, xg_q_10, xg_q_11, xg_q_12, xg_q_13, xg_q_14, xg_q_15, xg_q_16, xs_q_16, xg_q_17, xg_q_18, xs_q_18, xg_q_19, xa_q_sortNames, xb_q_sortNames, xn_q_sortNames, xa_q_colourNames, xb_q_colourNames, xn_q_colourNames, xa_q_colourSorts, xb_q_colourSorts, xn_q_colourSorts, xa_q_ruleMakes, xb_q_ruleMakes, xn_q_ruleMakes, xa_q_ruleFirsts, xb_q_ruleFirsts, xn_q_ruleFirsts, xa_q_ruleSeconds, xb_q_ruleSeconds, xn_q_ruleSeconds, xa_q_walkerNames, xb_q_walkerNames, xn_q_walkerNames, xa_q_kinds, xb_q_kinds, xn_q_kinds, xa_q_walkerColours, xb_q_walkerColours, xn_q_walkerColours, xa_q_starts, xb_q_starts, xn_q_starts, xa_q_stepRows, xb_q_stepRows, xn_q_stepRows, xa_q_stepCounts, xb_q_stepCounts, xn_q_stepCounts, xa_q_gusts, xb_q_gusts, xn_q_gusts, xc_ql, xg_ql_0, xg_ql_1, xs_ql_1, xg_ql_2, xg_ql_3, xs_ql_3, xa_q_parts, xb_q_parts, xn_q_parts, xa_q_stack, xb_q_stack, xn_q_stack, xc_S1, xg_S1_0, xs_S1_0, xg_S1_1, xs_S1_1, xg_S1_2, xa_S1_places, xb_S1_places, xn_S1_places, aS_n (show w < (S'.2.2).length by omega) (show (S'.2.2).length < 2 ^ 31 by omega), wx_some, isl_i, isl_r, isl_n, nl_1, nI_add]
    apply ih (w + 1) _ (by omega)
    refine ⟨e1, e2, rg_set hr (sp_behind_lt hpw), ?_⟩
    apply ag_set ha (by omega)
    intro j hj
    show (if j < w + 1 then (sp_on s c).2.2 j else c.2.2 j) = _
    by_cases e : j = w
    · subst e; rw [if_pos rfl, if_pos (by omega)]; rfl
    · rw [if_neg e]
      show (if j < w + 1 then (sp_on s c).2.2 j else c.2.2 j) = (if j < w then (sp_on s c).2.2 j else c.2.2 j)
      by_cases e2 : j < w
      · rw [if_pos e2, if_pos (by omega)]
      · rw [if_neg e2, if_neg (by omega)]
theorem t_goOnS1 (hs : SQx q s) (ho : k_ok s) (hc : c_ok s c) (hS : SCx s S1 c) (hq : ∀ S', SCx s S' (sp_on s c) → Q none (px_h z E M (px_l sw c2 w2 T D S (S') K R C W U q q1 B0 B1 B2 B3))) : wm (mp_P fx) (d + 1) 126 [.ref 69, .ref (px_ta sw)] (px_h z E M (px_l sw c2 w2 T D S S1 K R C W U q q1 B0 B1 B2 B3)) Q := by
  simp only [e126, q126_0, q126_1r, q126_3, q126_4, q126_7, q126_10, q126_11, q126_14, q126_15, q126_16, q126_19, q126_20, q126_21, q126_22, q126_23, q126_24, q126_27, q126_30, q126_33, q126_34r, q126_37, q126_40, q126_41, q126_42, q126_45, q126_46, q126_47, q126_50, isl_i, isl_r, isl_n]
  refine t_goOn_lS1 hs ho hc hq (k_nW s) 0 S1 (by omega) ?_
  refine ⟨hS.1, hS.2.1, hS.2.2.1, ?_⟩
  intro i hi
  show _ = some (nI (if i < 0 then (sp_on s c).2.2 i else c.2.2 i))
  rw [if_neg (by omega)]; exact hS.2.2.2 i hi
end TS
