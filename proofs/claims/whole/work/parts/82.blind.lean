/-! blinds; a corner at rest (model) -/
def wsl (v : Int32) : Nat → Int32
  | 0 => 0
  | k + 1 => if (v >>> (nI k &&& 31)) &&& 1 = 1 then wsl v k ^^^ nI (k + 1) else wsl v k
def sp_sl (v : Int32) : Int32 := ((v &&& 1) <<< ((2 : Int32) &&& 31)) ||| ((v &&& 14) <<< ((3 : Int32) &&& 31))
def sp_code (v : Int32) : Int32 := (sp_sl v ||| (wsl (sp_sl v) 7 &&& 3)) ||| ((wsl (sp_sl v) 7 &&& 4) <<< ((1 : Int32) &&& 31))
def sp_right (v : Int32) : Int32 := if ¬ wsl v 7 = 0 then v ^^^ ((1 : Int32) <<< ((wsl v 7 - 1) &&& 31)) else v
def sp_blind (v : Int32) : Int32 := ((sp_right v >>> ((2 : Int32) &&& 31)) &&& 1) ||| ((sp_right v >>> ((3 : Int32) &&& 31)) &&& 14)
section TZ
variable {fx : List Value → mm_H → Option (List Value × mm_H)} {z : Nat} {E M : Nat → mm_C} {sw c2 w2 : Bool} {T : px_T} {D : px_D} {S : px_S} {S1 : px_S} {K : px_K} {R : px_R} {C : px_C} {W : px_W} {U : px_U} {q : px_q} {q1 : px_q} {B0 : px_K} {B1 : px_K} {B2 : px_K} {B3 : px_K} {T_signs : List Int32} {T_length : Int32} {T_fault : Int32} {T_types : List Int32} {T_starts : List Int32} {T_values : List Int64} {T_tokens : Int32} {T_at : Int32} {T_behind : Int32} {S_hour : Int32} {S_open : Int32} {S_places : List Int32} {S1_hour : Int32} {S1_open : Int32} {S1_places : List Int32} {K_lines : List Int32} {K_lineCount : Int32} {K_wishes : List Int32} {K_wishCount : Int32} {K_sights : List Int32} {K_sightCount : Int32} {R_shown : List Int32} {R_length : Int32} {R_readers : Int32} {R_begins : List Int32} {R_lengths : List Int32} {R_sentences : Int32} {R_order : List Int32} {R_able : Int32} {R_standing : List Int32} {R_lovers : List Int32} {R_lowest : List Int32} {C_ways : List Int32} {C_rows : List Int32} {C_shallower : List Int32} {C_length : Int32} {C_goal : Int32} {W_row : List Int32} {W_walkers : Int32} {W_names : Int32} {W_wanted : List Int32} {W_shown : List Int32} {W_places : List Int32} {W_rest : List Int32} {W_spent : List Int32} {W_tried : List Int32} {U_undoRows : List Int64} {U_markScenes : List Int64} {U_marksLaid : List Int32} {U_undoCount : Int32} {U_undoEnd : Int32} {q_sortNames : List Int64} {q_sortCount : Int32} {q_colourNames : List Int64} {q_colourSorts : List Int32} {q_colourCount : Int32} {q_ruleMakes : List Int32} {q_ruleFirsts : List Int32} {q_ruleSeconds : List Int32} {q_ruleCount : Int32} {q_saysSort : Int32} {q_walkerNames : List Int64} {q_kinds : List Int32} {q_walkerColours : List Int32} {q_starts : List Int32} {q_stepRows : List Int32} {q_stepCounts : List Int32} {q_walkerCount : Int32} {q_gusts : List Int32} {q_gustCount : Int32} {q_parts : List Int32} {q_count : Int32} {q_stack : List Int32} {q_height : Int32} {q1_sortNames : List Int64} {q1_sortCount : Int32} {q1_colourNames : List Int64} {q1_colourSorts : List Int32} {q1_colourCount : Int32} {q1_ruleMakes : List Int32} {q1_ruleFirsts : List Int32} {q1_ruleSeconds : List Int32} {q1_ruleCount : Int32} {q1_saysSort : Int32} {q1_walkerNames : List Int64} {q1_kinds : List Int32} {q1_walkerColours : List Int32} {q1_starts : List Int32} {q1_stepRows : List Int32} {q1_stepCounts : List Int32} {q1_walkerCount : Int32} {q1_gusts : List Int32} {q1_gustCount : Int32} {q1_parts : List Int32} {q1_count : Int32} {q1_stack : List Int32} {q1_height : Int32} {B0_lines : List Int32} {B0_lineCount : Int32} {B0_wishes : List Int32} {B0_wishCount : Int32} {B0_sights : List Int32} {B0_sightCount : Int32} {B1_lines : List Int32} {B1_lineCount : Int32} {B1_wishes : List Int32} {B1_wishCount : Int32} {B1_sights : List Int32} {B1_sightCount : Int32} {B2_lines : List Int32} {B2_lineCount : Int32} {B2_wishes : List Int32} {B2_wishCount : Int32} {B2_sights : List Int32} {B2_sightCount : Int32} {B3_lines : List Int32} {B3_lineCount : Int32} {B3_wishes : List Int32} {B3_wishCount : Int32} {B3_sights : List Int32} {B3_sightCount : Int32}
variable {d : Nat} {Q : Option Value → mm_H → Prop} {s : SQ} {c : SC} {nm : NMs}
theorem t_wrong {h : mm_H} {v : Int32} (hq : Q (some (.int (wsl v 7))) h) : wm (mp_P fx) d 184 [.int v] h Q := by
  simp only [e184, q184_0, q184_1i, q184_2, q184_3i, isl_i, isl_r, isl_n]
  have key : ∀ (m k : Nat), k + m = 7 → ww (mp_P fx) d 184 4 [some (.int v), some (.int (wsl v k)), some (.int (nI (k + 1)))] [] h Q := by
    intro m
    induction m with
    | zero =>
      intro k hk
      have hk2 : k = 7 := by omega
      subst hk2
      rw [q184_4]
      simp only [q184_5, q184_7, q184_31, q184_32]
      rw [if_pos (by decide)]
      exact hq
    | succ m ih =>
      intro k hk
      have hgo := ih (k + 1) (by omega)
      rw [wsl] at hgo
      rw [q184_4]
      simp only [q184_5, q184_7, q184_10, q184_11, q184_12, q184_13, q184_14, q184_15, q184_16, q184_17, q184_18, q184_21, q184_22, q184_23, q184_24i, q184_25i, q184_28, isl_i, isl_r, isl_n, show nI (k + 1) - 1 = nI k from nI_pred k, nI_1]
      rw [nl_7, if_neg (by rw [nI_ltI (by omega) (by omega)]; omega)]
      by_cases e : (v >>> (nI k &&& 31)) &&& 1 = 1
      · rw [if_pos e] at hgo; rw [if_neg (fun z => z e)]; exact hgo
      · rw [if_neg e] at hgo; rw [if_pos e]; exact hgo
  exact key 7 0 (by omega)
theorem t_slats {h : mm_H} {v : Int32} (hq : Q (some (.int (sp_code v))) h) : wm (mp_P fx) (d + 1) 183 [.int v] h Q := by
  simp only [e183, q183_0, q183_1, q183_2, q183_3, q183_4, q183_5, q183_6, q183_8, q183_9, q183_10, q183_11, q183_12i, q183_13, q183_14, q183_17i, q183_18, q183_19, q183_20, q183_21, q183_22, q183_23, q183_24, q183_25, q183_26, q183_27, q183_28, q183_29, isl_i, isl_r, isl_n]
  apply t_wrong
  simp only [sl_i, e183, q183_0, q183_1, q183_2, q183_3, q183_4, q183_5, q183_6, q183_8, q183_9, q183_10, q183_11, q183_12i, q183_13, q183_14, q183_17i, q183_18, q183_19, q183_20, q183_21, q183_22, q183_23, q183_24, q183_25, q183_26, q183_27, q183_28, q183_29, isl_i, isl_r, isl_n]
  exact hq
theorem t_code {v : Int32} (hq : Q (some (.int (match sx 16 v with
    | some _ => sp_code v
    | none => -1))) (px_h z E M (px_l sw c2 w2 T D S S1 K R C W U q q1 B0 B1 B2 B3))) : wm (mp_P fx) (d + 2) 182 [.ref 59, .int v] (px_h z E M (px_l sw c2 w2 T D S S1 K R C W U q q1 B0 B1 B2 B3)) Q := by
  simp only [e182, q182_0, q182_1, q182_4, q182_5, q182_7, q182_10, q182_11, q182_14, q182_17, q182_18]
  rcases sx_c 16 v (by omega) with ⟨e, hv⟩ | ⟨n, hn, rfl, e⟩
  · rw [e] at hq
    rcases hv with hv | ⟨hv, hv2⟩
    · rw [if_pos hv]; exact hq
    · rw [if_neg hv, if_pos (Int32.lt_of_lt_of_le (by decide : (15 : Int32) < nI 16) hv2)]; exact hq
  · rw [e] at hq
    rw [if_neg (by rw [nl_0, nI_ltI (by omega) (by omega)]; omega), show (15 : Int32) = nI 15 from rfl, if_neg (by rw [nI_ltI (by omega) (by omega)]; omega)]
    apply t_slats
    simp only [sl_i, e182, q182_0, q182_1, q182_4, q182_5, q182_7, q182_10, q182_11, q182_14, q182_17, q182_18]
    exact hq
theorem t_amiss {v : Int32} (hq : Q (some (.int (match sx 128 v with
    | some _ => wsl v 7
    | none => -1))) (px_h z E M (px_l sw c2 w2 T D S S1 K R C W U q q1 B0 B1 B2 B3))) : wm (mp_P fx) (d + 1) 185 [.ref 59, .int v] (px_h z E M (px_l sw c2 w2 T D S S1 K R C W U q q1 B0 B1 B2 B3)) Q := by
  simp only [e185, q185_0, q185_1, q185_4, q185_5, q185_7, q185_10, q185_11, q185_14, q185_17, q185_18]
  rcases sx_c 128 v (by omega) with ⟨e, hv⟩ | ⟨n, hn, rfl, e⟩
  · rw [e] at hq
    rcases hv with hv | ⟨hv, hv2⟩
    · rw [if_pos hv]; exact hq
    · rw [if_neg hv, if_pos (Int32.lt_of_lt_of_le (by decide : (127 : Int32) < nI 128) hv2)]; exact hq
  · rw [e] at hq
    rw [if_neg (by rw [nl_0, nI_ltI (by omega) (by omega)]; omega), show (127 : Int32) = nI 127 from rfl, if_neg (by rw [nI_ltI (by omega) (by omega)]; omega)]
    apply t_wrong
    simp only [sl_i, e185, q185_0, q185_1, q185_4, q185_5, q185_7, q185_10, q185_11, q185_14, q185_17, q185_18]
    exact hq
theorem t_blind {v : Int32} (hq : Q (some (.int (match sx 128 v with
    | some _ => sp_blind v
    | none => -1))) (px_h z E M (px_l sw c2 w2 T D S S1 K R C W U q q1 B0 B1 B2 B3))) : wm (mp_P fx) (d + 1) 186 [.ref 59, .int v] (px_h z E M (px_l sw c2 w2 T D S S1 K R C W U q q1 B0 B1 B2 B3)) Q := by
  simp only [e186, q186_0, q186_1, q186_4, q186_5, q186_7, q186_10, q186_11, q186_12, q186_13, q186_16i, q186_17, q186_18, q186_21, q186_22, q186_25, q186_26, q186_27, q186_28, q186_29, q186_30, q186_31, q186_32i, q186_33, q186_34, q186_35, q186_36, q186_37, q186_38, q186_39, q186_40, q186_41, q186_43, q186_44, q186_45, isl_i, isl_r, isl_n]
  rcases sx_c 128 v (by omega) with ⟨e, hv⟩ | ⟨n, hn, rfl, e⟩
  · rw [e] at hq
    rcases hv with hv | ⟨hv, hv2⟩
    · rw [if_pos hv]; exact hq
    · rw [if_neg hv, if_neg (Int32.not_le.mpr (Int32.lt_of_lt_of_le (by decide : (127 : Int32) < nI 128) hv2))]; exact hq
  · rw [e] at hq
    simp only [] at hq
    unfold sp_blind sp_right at hq
    rw [if_neg (by rw [nl_0, nI_ltI (by omega) (by omega)]; omega), show (127 : Int32) = nI 127 from rfl, if_pos (by rw [nI_leI (by omega) (by omega)]; omega)]
    apply t_wrong
    simp only [sl_i, e186, q186_0, q186_1, q186_4, q186_5, q186_7, q186_10, q186_11, q186_12, q186_13, q186_16i, q186_17, q186_18, q186_21, q186_22, q186_25, q186_26, q186_27, q186_28, q186_29, q186_30, q186_31, q186_32i, q186_33, q186_34, q186_35, q186_36, q186_37, q186_38, q186_39, q186_40, q186_41, q186_43, q186_44, q186_45, isl_i, isl_r, isl_n]
    by_cases e0 : wsl (nI n) 7 = 0
    · rw [if_neg (fun z => z e0)] at hq ⊢
      exact hq
    · rw [if_pos e0] at hq ⊢
      exact hq
theorem t_answer (hK : KX nm s q R C) (hc : c_ok s c) (hS : SCx s S c) (hq : ∀ q' R' C', KX nm s q' R' C' → Q (some (.int (sp_code (nI (sp_sd s c))))) (px_h z E M (px_l sw c2 w2 T D S S1 K (R') (C') W U (q') q1 B0 B1 B2 B3))) : wm (mp_P fx) (d + 6) 187 [.ref 59] (px_h z E M (px_l sw c2 w2 T D S S1 K R C W U q q1 B0 B1 B2 B3)) Q := by
  simp only [e187, q187_0, q187_1, q187_2, q187_5, q187_8, q187_11, xc_x, xg_x_0, xg_x_1, xg_x_2, xg_x_3, xg_x_4, xg_x_5, xg_x_6, xg_x_7, xg_x_8, xg_x_9, xg_x_10, xg_x_11, xg_x_12, xg_x_13, xg_x_14, xs_x_14, xg_x_15, xs_x_15, wx_some, wx_ref]
  apply t_sdS hK hc hS
  intro q' R' C' h _
  simp only [sl_i, e187, q187_0, q187_1, q187_2, q187_5, q187_8, q187_11]
  apply t_slats
  simp only [sl_i, e187, q187_0, q187_1, q187_2, q187_5, q187_8, q187_11]
  exact hq q' R' C' h
end TZ
section MZ
variable {fx : List Value → mm_H → Option (List Value × mm_H)} {z : Nat} {X Y : Nat → mm_C} {mV : pm_V} {mT : pm_T} {mQ : pm_Q} {mO : pm_O} {mE : pm_E} {mB : pm_B} {mS : pm_S} {mR : pm_R} {mW : pm_W} {m_thrown : Int32} {m_given : Int32} {m_fresh : Int64} {m_code : Int32} {m_taped : Int32} {m_tape : List Int32} {m_size : Int32} {m_place : Int32} {m_begin : Int32} {m_token : Int32} {m_word : Int64} {m_told : Int32} {m_wrong : Int32} {m_square : List Int32} {m_sortName : List Int64} {m_colourName : List Int64} {m_walkerName : List Int64} {m_sortOf : List Int32} {m_rules : List Int32} {m_kind : List Int32} {m_colour : List Int32} {m_atTold : List Int32} {m_goesMany : List Int32} {m_goes : List Int32} {m_gusts : List Int32} {m_lineFrom : List Int32} {m_lineTo : List Int32} {m_codes : List Int32} {m_opened : List Int32} {m_compared : List Int32} {m_kept : List Int32} {m_keptBy : List Int32} {m_ahead : List Int32} {m_against : List Int32} {m_sum : List Int32} {m_sumBy : List Int32} {m_term : List Int32} {m_termBy : List Int32} {m_byNot : List Int32} {m_valueOf : List Int32} {m_lines : List Int32} {m_lineWhat : List Int32} {m_lineA : List Int32} {m_lineB : List Int32} {m_wishes : List Int32} {m_wishOf : List Int32} {m_seens : List Int32} {m_seenAt : List Int32} {m_seenIn : List Int32} {m_seenThere : List Int32} {m_s : List Int32} {m_aside : List Int32} {m_before : List Int32} {m_marked : List Int32} {m_undone : List Int32} {m_isLaid : List Int32} {m_done : Int32} {m_gustNow : Int32} {m_shown : List Int32} {m_shownMany : Int32} {m_from7 : List Int32} {m_long7 : List Int32} {m_sentences : Int32} {m_text7 : List Int32} {m_textMany : Int32} {m_waysOf : List Int32} {m_rowOf : List Int32} {m_row : List Int32} {m_bestRow : List Int32} {m_leastSteps : Int32} {m_steps10 : List Int32} {m_placeIn : List Int32} {m_g : Int64}
variable {d : Nat} {Q : Option Value → mm_H → Prop} {s : SQ} {c : SC} {nm : NMs}
theorem tm_wrong {h : mm_H} {v : Int32} (hq : Q (some (.int (wsl v 7))) h) : wm (mp_P fx) d 312 [.int v] h Q := by
  simp only [e312, q312_0, q312_1i, q312_2, q312_3i, isl_i, isl_r, isl_n]
  have key : ∀ (m k : Nat), k + m = 7 → ww (mp_P fx) d 312 4 [some (.int v), some (.int (wsl v k)), some (.int (nI (k + 1)))] [] h Q := by
    intro m
    induction m with
    | zero =>
      intro k hk
      have hk2 : k = 7 := by omega
      subst hk2
      rw [q312_4]
      simp only [q312_5, q312_7, q312_31, q312_32]
      rw [if_pos (by decide)]
      exact hq
    | succ m ih =>
      intro k hk
      have hgo := ih (k + 1) (by omega)
      rw [wsl] at hgo
      rw [q312_4]
      simp only [q312_5, q312_7, q312_10, q312_11, q312_12, q312_13, q312_14, q312_15, q312_16, q312_17, q312_18, q312_21, q312_22, q312_23, q312_24i, q312_25i, q312_28, isl_i, isl_r, isl_n, show nI (k + 1) - 1 = nI k from nI_pred k, nI_1]
      rw [nl_8, if_neg (by rw [nI_leI (by omega) (by omega)]; omega)]
      by_cases e : (v >>> (nI k &&& 31)) &&& 1 = 1
      · rw [if_pos e] at hgo; rw [if_neg (fun z => z e)]; exact hgo
      · rw [if_neg e] at hgo; rw [if_pos e]; exact hgo
  exact key 7 0 (by omega)
theorem tm_codeOf {h : mm_H} {n : Nat} (hn : n < 16) (hq : Q (some (.int (sp_code (nI n)))) h) : wm (mp_P fx) (d + 1) 311 [.int (nI n)] h Q := by
  have key : ∀ x : Int32, x = sp_code (nI n) → Q (some (.int x)) h := fun x hx => by rw [hx]; exact hq
  simp only [e311, q311_0, q311_1, q311_2, q311_3, q311_4, q311_5, q311_6, q311_7, q311_8, q311_10, q311_11, q311_12, q311_13, q311_14i, q311_15, q311_16, q311_19i, q311_20, q311_21, q311_22, q311_23, q311_24, q311_25, q311_26, q311_27, q311_28, q311_29, q311_30, q311_31, q311_32, q311_33, q311_34, q311_35, q311_36, q311_37, q311_38, q311_39, q311_40, q311_41, isl_i, isl_r, isl_n]
  apply tm_wrong
  simp only [sl_i, e311, q311_0, q311_1, q311_2, q311_3, q311_4, q311_5, q311_6, q311_7, q311_8, q311_10, q311_11, q311_12, q311_13, q311_14i, q311_15, q311_16, q311_19i, q311_20, q311_21, q311_22, q311_23, q311_24, q311_25, q311_26, q311_27, q311_28, q311_29, q311_30, q311_31, q311_32, q311_33, q311_34, q311_35, q311_36, q311_37, q311_38, q311_39, q311_40, q311_41, isl_i, isl_r, isl_n]
  apply key
  clear key hq
  revert hn
  revert n
  decide +kernel
theorem tm_code {v : Int32} (hq : Q (some (.int (match sx 16 v with
    | some _ => sp_code v
    | none => -1))) (pm_h z X Y (pm_l ((0, mV.2.1, mV.2.2.1, mV.2.2.2)) mT mQ mO mE mB mS mR mW))) : wm (mp_P fx) (d + 2) 310 [.ref 149, .int v] (pm_h z X Y (pm_l mV mT mQ mO mE mB mS mR mW)) Q := by
  simp only [e310, q310_0, q310_1, q310_2, q310_5, q310_6, q310_7, q310_9, q310_12, q310_15, q310_16, q310_19, q310_22, q310_23, mc_o, mg_thrown, mf_thrown, wx_some]
  rcases sx_c 16 v (by omega) with ⟨e, hv⟩ | ⟨n, hn, rfl, e⟩
  · rw [e] at hq
    apply tm_in
    · intro _
      simp only [sl_i, e310, q310_0, q310_1, q310_2, q310_5, q310_6, q310_7, q310_9, q310_12, q310_15, q310_16, q310_19, q310_22, q310_23]
      rw [if_pos (by decide)]
      exact hq
    · intro h1 h2
      rcases hv with hv | ⟨hv, hv2⟩
      · exact absurd h1 (Int32.not_le.mpr hv)
      · exact absurd h2 (Int32.not_le.mpr (Int32.lt_of_lt_of_le (by decide : (15 : Int32) < nI 16) hv2))
  · rw [e] at hq
    apply tm_in
    · intro h0
      rw [nl_0, show (15 : Int32) = nI 15 from rfl, nI_ltI (by omega) (by omega), nI_ltI (by omega) (by omega)] at h0
      omega
    · intro _ _
      simp only [sl_i, e310, q310_0, q310_1, q310_2, q310_5, q310_6, q310_7, q310_9, q310_12, q310_15, q310_16, q310_19, q310_22, q310_23]
      rw [if_neg (by decide)]
      apply tm_codeOf hn
      simp only [sl_i, e310, q310_0, q310_1, q310_2, q310_5, q310_6, q310_7, q310_9, q310_12, q310_15, q310_16, q310_19, q310_22, q310_23]
      exact hq
theorem tm_amiss {v : Int32} (hq : Q (some (.int (match sx 128 v with
    | some _ => wsl v 7
    | none => -1))) (pm_h z X Y (pm_l ((0, mV.2.1, mV.2.2.1, mV.2.2.2)) mT mQ mO mE mB mS mR mW))) : wm (mp_P fx) (d + 1) 313 [.ref 149, .int v] (pm_h z X Y (pm_l mV mT mQ mO mE mB mS mR mW)) Q := by
  simp only [e313, q313_0, q313_1, q313_2, q313_5, q313_6, q313_7, q313_9, q313_12, q313_15, q313_16, q313_19, q313_22, q313_23, mc_o, mg_thrown, mf_thrown, wx_some]
  rcases sx_c 128 v (by omega) with ⟨e, hv⟩ | ⟨n, hn, rfl, e⟩
  · rw [e] at hq
    apply tm_in
    · intro _
      simp only [sl_i, e313, q313_0, q313_1, q313_2, q313_5, q313_6, q313_7, q313_9, q313_12, q313_15, q313_16, q313_19, q313_22, q313_23]
      rw [if_pos (by decide)]
      exact hq
    · intro h1 h2
      rcases hv with hv | ⟨hv, hv2⟩
      · exact absurd h1 (Int32.not_le.mpr hv)
      · exact absurd h2 (Int32.not_le.mpr (Int32.lt_of_lt_of_le (by decide : (127 : Int32) < nI 128) hv2))
  · rw [e] at hq
    apply tm_in
    · intro h0
      rw [nl_0, show (127 : Int32) = nI 127 from rfl, nI_ltI (by omega) (by omega), nI_ltI (by omega) (by omega)] at h0
      omega
    · intro _ _
      simp only [sl_i, e313, q313_0, q313_1, q313_2, q313_5, q313_6, q313_7, q313_9, q313_12, q313_15, q313_16, q313_19, q313_22, q313_23]
      rw [if_neg (by decide)]
      apply tm_wrong
      simp only [sl_i, e313, q313_0, q313_1, q313_2, q313_5, q313_6, q313_7, q313_9, q313_12, q313_15, q313_16, q313_19, q313_22, q313_23]
      exact hq
theorem tm_blind {v : Int32} (hq : Q (some (.int (match sx 128 v with
    | some _ => sp_blind v
    | none => -1))) (pm_h z X Y (pm_l ((0, mV.2.1, mV.2.2.1, mV.2.2.2)) mT mQ mO mE mB mS mR mW))) : wm (mp_P fx) (d + 1) 314 [.ref 149, .int v] (pm_h z X Y (pm_l mV mT mQ mO mE mB mS mR mW)) Q := by
  simp only [e314, q314_0, q314_1, q314_2, q314_5, q314_6, q314_7, q314_9, q314_12, q314_15, q314_16, q314_17, q314_18, q314_21i, q314_22, q314_23, q314_26, q314_27, q314_30, q314_31, q314_32, q314_33, q314_34, q314_35, q314_36, q314_37i, q314_38, q314_39, q314_40, q314_41, q314_42, q314_43, q314_44, q314_45, q314_46, q314_48, q314_49, q314_50, q314_51, q314_52, mc_o, mg_thrown, mf_thrown, wx_some, isl_i, isl_r, isl_n]
  rcases sx_c 128 v (by omega) with ⟨e, hv⟩ | ⟨n, hn, rfl, e⟩
  · rw [e] at hq
    apply tm_in
    · intro _
      simp only [sl_i, e314, q314_0, q314_1, q314_2, q314_5, q314_6, q314_7, q314_9, q314_12, q314_15, q314_16, q314_17, q314_18, q314_21i, q314_22, q314_23, q314_26, q314_27, q314_30, q314_31, q314_32, q314_33, q314_34, q314_35, q314_36, q314_37i, q314_38, q314_39, q314_40, q314_41, q314_42, q314_43, q314_44, q314_45, q314_46, q314_48, q314_49, q314_50, q314_51, q314_52]
      rw [if_neg (by decide)]
      exact hq
    · intro h1 h2
      rcases hv with hv | ⟨hv, hv2⟩
      · exact absurd h1 (Int32.not_le.mpr hv)
      · exact absurd h2 (Int32.not_le.mpr (Int32.lt_of_lt_of_le (by decide : (127 : Int32) < nI 128) hv2))
  · rw [e] at hq
    simp only [] at hq
    apply tm_in
    · intro h0
      rw [nl_0, show (127 : Int32) = nI 127 from rfl, nI_ltI (by omega) (by omega), nI_ltI (by omega) (by omega)] at h0
      omega
    · intro _ _
      simp only [sl_i, e314, q314_0, q314_1, q314_2, q314_5, q314_6, q314_7, q314_9, q314_12, q314_15, q314_16, q314_17, q314_18, q314_21i, q314_22, q314_23, q314_26, q314_27, q314_30, q314_31, q314_32, q314_33, q314_34, q314_35, q314_36, q314_37i, q314_38, q314_39, q314_40, q314_41, q314_42, q314_43, q314_44, q314_45, q314_46, q314_48, q314_49, q314_50, q314_51, q314_52]
      rw [if_pos (by decide)]
      apply tm_wrong
      have key : ∀ x : Int32, x = sp_blind (nI n) → Q (some (.int x)) (pm_h z X Y (pm_l ((0, mV.2.1, mV.2.2.1, mV.2.2.2)) mT mQ mO mE mB mS mR mW)) := fun x hx => by rw [hx]; exact hq
      have hk : ∀ n, n < 128 → ((sp_right (nI n) >>> ((2 : Int32) &&& 31)) &&& 1) ||| (((sp_right (nI n) >>> ((4 : Int32) &&& 31)) &&& 7) <<< ((1 : Int32) &&& 31)) = sp_blind (nI n) := by decide +kernel
      have hkn := hk n hn
      unfold sp_right at hkn
      simp only [sl_i, e314, q314_0, q314_1, q314_2, q314_5, q314_6, q314_7, q314_9, q314_12, q314_15, q314_16, q314_17, q314_18, q314_21i, q314_22, q314_23, q314_26, q314_27, q314_30, q314_31, q314_32, q314_33, q314_34, q314_35, q314_36, q314_37i, q314_38, q314_39, q314_40, q314_41, q314_42, q314_43, q314_44, q314_45, q314_46, q314_48, q314_49, q314_50, q314_51, q314_52, isl_i, isl_r, isl_n]
      by_cases e0 : wsl (nI n) 7 = 0
      · rw [if_neg (fun z => z e0)] at hkn ⊢
        exact key _ hkn
      · rw [if_pos e0] at hkn ⊢
        exact key _ hkn
theorem tm_answer (hK : KM nm s mQ) (hE : KE mE mR) (hc : c_ok s c) (hS : SCm s mS.1 c) (hg : mS.2.2.2.2.2.2.2 = -1) (hq : ∀ mE' mR', KE mE' mR' → Q (some (.int (sp_code (nI (sp_sd s c))))) (pm_h z X Y (pm_l ((0, mV.2.1, mV.2.2.1, mV.2.2.2)) mT mQ mO (mE') mB mS (mR') mW))) : wm (mp_P fx) (d + 6) 315 [.ref 149] (pm_h z X Y (pm_l mV mT mQ mO mE mB mS mR mW)) Q := by
  have h7 := sp_sd_le hc hK.2.2.1
  simp only [e315, q315_0, q315_1, q315_2, q315_5, q315_6, q315_9, q315_12, mc_o, mg_thrown, mf_thrown, wx_some]
  apply tm_sd hK hE hc hS hg
  intro mE' mR' h
  simp only [sl_i, e315, q315_0, q315_1, q315_2, q315_5, q315_6, q315_9, q315_12]
  apply tm_codeOf (show sp_said s (sp_now s c) < 16 by unfold sp_sd at h7; omega)
  simp only [sl_i, e315, q315_0, q315_1, q315_2, q315_5, q315_6, q315_9, q315_12]
  exact hq mE' mR' h
end MZ
