/-! the fewest steps, of the class -/
section WS
variable {fx : List Value → mm_H → Option (List Value × mm_H)} {z : Nat} {E M : Nat → mm_C} {sw c2 w2 : Bool} {T : px_T} {D : px_D} {S : px_S} {S1 : px_S} {K : px_K} {R : px_R} {C : px_C} {W : px_W} {U : px_U} {q : px_q} {q1 : px_q} {B0 : px_K} {B1 : px_K} {B2 : px_K} {B3 : px_K} {T_signs : List Int32} {T_length : Int32} {T_fault : Int32} {T_types : List Int32} {T_starts : List Int32} {T_values : List Int64} {T_tokens : Int32} {T_at : Int32} {T_behind : Int32} {S_hour : Int32} {S_open : Int32} {S_places : List Int32} {S1_hour : Int32} {S1_open : Int32} {S1_places : List Int32} {K_lines : List Int32} {K_lineCount : Int32} {K_wishes : List Int32} {K_wishCount : Int32} {K_sights : List Int32} {K_sightCount : Int32} {R_shown : List Int32} {R_length : Int32} {R_readers : Int32} {R_begins : List Int32} {R_lengths : List Int32} {R_sentences : Int32} {R_order : List Int32} {R_able : Int32} {R_standing : List Int32} {R_lovers : List Int32} {R_lowest : List Int32} {C_ways : List Int32} {C_rows : List Int32} {C_shallower : List Int32} {C_length : Int32} {C_goal : Int32} {W_row : List Int32} {W_walkers : Int32} {W_names : Int32} {W_wanted : List Int32} {W_shown : List Int32} {W_places : List Int32} {W_rest : List Int32} {W_spent : List Int32} {W_tried : List Int32} {U_undoRows : List Int64} {U_markScenes : List Int64} {U_marksLaid : List Int32} {U_undoCount : Int32} {U_undoEnd : Int32} {q_sortNames : List Int64} {q_sortCount : Int32} {q_colourNames : List Int64} {q_colourSorts : List Int32} {q_colourCount : Int32} {q_ruleMakes : List Int32} {q_ruleFirsts : List Int32} {q_ruleSeconds : List Int32} {q_ruleCount : Int32} {q_saysSort : Int32} {q_walkerNames : List Int64} {q_kinds : List Int32} {q_walkerColours : List Int32} {q_starts : List Int32} {q_stepRows : List Int32} {q_stepCounts : List Int32} {q_walkerCount : Int32} {q_gusts : List Int32} {q_gustCount : Int32} {q_parts : List Int32} {q_count : Int32} {q_stack : List Int32} {q_height : Int32} {q1_sortNames : List Int64} {q1_sortCount : Int32} {q1_colourNames : List Int64} {q1_colourSorts : List Int32} {q1_colourCount : Int32} {q1_ruleMakes : List Int32} {q1_ruleFirsts : List Int32} {q1_ruleSeconds : List Int32} {q1_ruleCount : Int32} {q1_saysSort : Int32} {q1_walkerNames : List Int64} {q1_kinds : List Int32} {q1_walkerColours : List Int32} {q1_starts : List Int32} {q1_stepRows : List Int32} {q1_stepCounts : List Int32} {q1_walkerCount : Int32} {q1_gusts : List Int32} {q1_gustCount : Int32} {q1_parts : List Int32} {q1_count : Int32} {q1_stack : List Int32} {q1_height : Int32} {B0_lines : List Int32} {B0_lineCount : Int32} {B0_wishes : List Int32} {B0_wishCount : Int32} {B0_sights : List Int32} {B0_sightCount : Int32} {B1_lines : List Int32} {B1_lineCount : Int32} {B1_wishes : List Int32} {B1_wishCount : Int32} {B1_sights : List Int32} {B1_sightCount : Int32} {B2_lines : List Int32} {B2_lineCount : Int32} {B2_wishes : List Int32} {B2_wishCount : Int32} {B2_sights : List Int32} {B2_sightCount : Int32} {B3_lines : List Int32} {B3_lineCount : Int32} {B3_wishes : List Int32} {B3_wishCount : Int32} {B3_sights : List Int32} {B3_sightCount : Int32}
variable {d : Nat} {Q : Option Value → mm_H → Prop} {s : SQ} {c : SC} {b : BK}
def WHl (W : px_W) : Prop := (W.1).length = 7 ∧ (W.2.2.2.1).length = 7 ∧ (W.2.2.2.2.1).length = 7 ∧ (W.2.2.2.2.2.1).length = 7 ∧ (W.2.2.2.2.2.2.1).length = 1408 ∧ (W.2.2.2.2.2.2.2.1).length = 11 ∧ (W.2.2.2.2.2.2.2.2).length = 11
def WHk (s : SQ) (c : SC) (b : BK) (W : px_W) : Prop := WHl W ∧ W.2.2.1 = nI b.2.1.1 ∧ W.2.1 = nI (k_nW s) ∧ ag W.2.2.2.1 b.2.1.1 b.2.1.2 ∧ ag W.2.2.2.2.1 (k_nW s) (sp_show s) ∧ ag W.2.2.2.2.2.1 (k_nW s) c.2.2
theorem WHk_rest {xs : List Int32} (h : WHk s c b W) (hl : xs.length = 1408) : WHk s c b (W.1, W.2.1, W.2.2.1, W.2.2.2.1, W.2.2.2.2.1, W.2.2.2.2.2.1, xs, W.2.2.2.2.2.2.2.1, W.2.2.2.2.2.2.2.2) := ⟨⟨h.1.1, h.1.2.1, h.1.2.2.1, h.1.2.2.2.1, hl, h.1.2.2.2.2.2⟩, h.2⟩
theorem WHk_tried {xs : List Int32} (h : WHk s c b W) (hl : xs.length = 11) : WHk s c b (W.1, W.2.1, W.2.2.1, W.2.2.2.1, W.2.2.2.2.1, W.2.2.2.2.2.1, W.2.2.2.2.2.2.1, W.2.2.2.2.2.2.2.1, xs) := ⟨⟨h.1.1, h.1.2.1, h.1.2.2.1, h.1.2.2.2.1, h.1.2.2.2.2.1, h.1.2.2.2.2.2.1, hl⟩, h.2⟩
theorem WHk_spent {xs : List Int32} (h : WHk s c b W) (hl : xs.length = 11) : WHk s c b (W.1, W.2.1, W.2.2.1, W.2.2.2.1, W.2.2.2.2.1, W.2.2.2.2.2.1, W.2.2.2.2.2.2.1, xs, W.2.2.2.2.2.2.2.2) := ⟨⟨h.1.1, h.1.2.1, h.1.2.2.1, h.1.2.2.2.1, h.1.2.2.2.2.1, hl, h.1.2.2.2.2.2.2⟩, h.2⟩
theorem WHk_row {xs : List Int32} (h : WHk s c b W) (hl : xs.length = 7) : WHk s c b (xs, W.2.1, W.2.2.1, W.2.2.2.1, W.2.2.2.2.1, W.2.2.2.2.2.1, W.2.2.2.2.2.2.1, W.2.2.2.2.2.2.2.1, W.2.2.2.2.2.2.2.2) := ⟨⟨hl, h.1.2⟩, h.2⟩
theorem t_stepsTo {w p : Nat} (h7 : k_nW s ≤ 7) (hc : c_ok s c) (hK : WHk s c b W) (hw : w < k_nW s) (hp : p < 10) (hq : Q (some (.int (nI (dst (c.2.2 w) p)))) (px_h z E M (px_l sw c2 w2 T D S S1 K R C W U q q1 B0 B1 B2 B3))) : wm (mp_P fx) d 177 [.ref 87, .int (nI w), .int (nI p)] (px_h z E M (px_l sw c2 w2 T D S S1 K R C W U q q1 B0 B1 B2 B3)) Q := by
  have hl := hK.1.2.2.2.1
  simp only [e177, q177_0, q177_1, q177_4, q177_5, q177_6, q177_7, q177_8, q177_11, xc_W, xg_W_0, xg_W_1, xs_W_1, xg_W_2, xs_W_2, xg_W_3, xg_W_4, xg_W_5, xg_W_6, xg_W_7, xg_W_8, xa_W_row, xb_W_row, xn_W_row, xa_W_wanted, xb_W_wanted, xn_W_wanted, xa_W_shown, xb_W_shown, xn_W_shown, xa_W_places, xb_W_places, xn_W_places, xa_W_rest, xb_W_rest, xn_W_rest, xa_W_spent, xb_W_spent, xn_W_spent, xa_W_tried, xb_W_tried, xn_W_tried, wx_some, wx_ref, ag_G hK.2.2.2.2.2 (show (W.2.2.2.2.2.1).length < 2 ^ 31 by omega) hw, absI (hc.2.2 w hw) hp]
  exact hq
theorem t_wfits {w k pc : Nat} (ho : k_ok s) (hb : b_ok s b) (hK : WHk s c b W) (hw : w < k_nW s) (hk : k < b.2.1.1) (hpc : pc < 128) (hq1 : Fit s b k pc w → Q (some (.int 1)) (px_h z E M (px_l sw c2 w2 T D S S1 K R C W U q q1 B0 B1 B2 B3))) (hq0 : ¬ Fit s b k pc w → Q (some (.int 0)) (px_h z E M (px_l sw c2 w2 T D S S1 K R C W U q q1 B0 B1 B2 B3))) : wm (mp_P fx) d 175 [.ref 87, .int (nI w), .int (nI k), .int (nI pc)] (px_h z E M (px_l sw c2 w2 T D S S1 K R C W U q q1 B0 B1 B2 B3)) Q := by
  have h7 := ho.1.2.2.2.1
  have hC := ho.1.2.1
  have hl1 := hK.1.2.1
  have hl2 := hK.1.2.2.1
  have hs6 := sp_show_le ho hw
  have hw6 := hb.2.1.2 k hk
  simp only [e175, b175_0, b175_1, bn_0 b175_0, bn_1 b175_1, q175_0, q175_1, q175_2, q175_3, q175_4, q175_5, q175_8, q175_9, q175_12, q175_13, q175_14, q175_15, q175_18, q175_19, q175_20, q175_23, q175_24, q175_27, q175_28, xc_W, xg_W_0, xg_W_1, xs_W_1, xg_W_2, xs_W_2, xg_W_3, xg_W_4, xg_W_5, xg_W_6, xg_W_7, xg_W_8, xa_W_row, xb_W_row, xn_W_row, xa_W_wanted, xb_W_wanted, xn_W_wanted, xa_W_shown, xb_W_shown, xn_W_shown, xa_W_places, xb_W_places, xn_W_places, xa_W_rest, xb_W_rest, xn_W_rest, xa_W_spent, xb_W_spent, xn_W_spent, xa_W_tried, xb_W_tried, xn_W_tried, wx_some, wx_ref, ag_G hK.2.2.2.1 (show (W.2.2.2.1).length < 2 ^ 31 by omega) hk, ag_G hK.2.2.2.2.1 (show (W.2.2.2.2.1).length < 2 ^ 31 by omega) hw, k7_and2 pc hpc w (show w < 7 by omega)]
  by_cases e1 : pc.testBit w = true
  · rw [if_pos e1, if_pos (nI_ne0 (Nat.two_pow_pos w) (Nat.pow_lt_pow_right (by omega) (by omega)))]
    exact hq0 (fun h => by rw [h.2.1] at e1; cases e1)
  · rw [if_neg e1, if_neg (fun z => z rfl)]
    by_cases e2 : sp_show s w = b.2.1.2 k
    · rw [if_neg (by rw [e2]; exact fun z => z rfl)]
      exact hq1 ⟨hw, by rw [Bool.not_eq_true] at e1; exact e1, e2⟩
    · rw [if_pos (by rw [nI_eq (by omega) (by omega)]; exact e2)]
      exact hq0 (fun h => e2 h.2.2)
theorem t_wtake (hs : SQx q s) (ho : k_ok s) (hc : c_ok s c) (hS : SCx s S c) (hb : b_ok s b) (hB : BKx b K) (hW : WHl W) (hq : ∀ W', WHk s c b W' → Q none (px_h z E M (px_l sw c2 w2 T D S S1 K R C (W') U q q1 B0 B1 B2 B3))) : wm (mp_P fx) (d + 1) 173 [.ref 87, .ref (px_ta sw), .ref 67, .ref 71] (px_h z E M (px_l sw c2 w2 T D S S1 K R C W U q q1 B0 B1 B2 B3)) Q := by
  have h7 := ho.1.2.2.2.1
  obtain ⟨w1, w2', w3, w4, w5, w6, w7⟩ := id hW
  obtain ⟨-, ⟨k1, k2, k3⟩, -⟩ := id hB
  have hn := hs.2.1.2.2.2.1
  have hcp : mm_cpy (px_h z E M (px_l sw c2 w2 T D S S1 K R C ((W.1, W.2.1, K.2.2.2.1, W.2.2.2.1, W.2.2.2.2.1, W.2.2.2.2.2.1, W.2.2.2.2.2.2.1, W.2.2.2.2.2.2.2.1, W.2.2.2.2.2.2.2.2)) U q q1 B0 B1 B2 B3)) 73 0 89 0 7 = some (px_h z E M (px_l sw c2 w2 T D S S1 K R C ((W.1, W.2.1, K.2.2.2.1, (K.2.2.1).take 7, W.2.2.2.2.1, W.2.2.2.2.2.1, W.2.2.2.2.2.2.1, W.2.2.2.2.2.2.2.1, W.2.2.2.2.2.2.2.2)) U q q1 B0 B1 B2 B3)) := cpy_x (n := 7) pk_K_wishes pk_W_wanted w2' (by omega) (by omega) (px_set (i := 30) (by decide) px_ll)
  rw [List.take_of_length_le (by omega)] at hcp
  have key : ∀ (m w : Nat) (sh pl : List Int32), w + m = k_nW s → sh.length = 7 → pl.length = 7 → ag sh w (sp_show s) → ag pl w c.2.2 → ww (mp_P fx) (d + 1) 173 34 [some (.ref 87), some (.ref (px_ta sw)), some (.ref 67), some (.ref 71), some (.int (nI w))] [] (px_h z E M (px_l sw c2 w2 T D S S1 K R C ((W.1, nI (k_nW s), K.2.2.2.1, K.2.2.1, sh, pl, W.2.2.2.2.2.2.1, W.2.2.2.2.2.2.2.1, W.2.2.2.2.2.2.2.2)) U q q1 B0 B1 B2 B3)) Q := by
    intro m
    induction m with
    | zero =>
      intro w sh pl hw l1 l2 a1 a2
      have hw2 : w = k_nW s := by omega
      subst hw2
      rw [q173_34]
      simp only [q173_36, q173_37, q173_40, q173_76, xc_W, xg_W_0, xg_W_1, xs_W_1, xg_W_2, xs_W_2, xg_W_3, xg_W_4, xg_W_5, xg_W_6, xg_W_7, xg_W_8, xa_W_row, xb_W_row, xn_W_row, xa_W_wanted, xb_W_wanted, xn_W_wanted, xa_W_shown, xb_W_shown, xn_W_shown, xa_W_places, xb_W_places, xn_W_places, xa_W_rest, xb_W_rest, xn_W_rest, xa_W_spent, xb_W_spent, xn_W_spent, xa_W_tried, xb_W_tried, xn_W_tried, wx_some, wx_ref]
      rw [if_pos (by rw [nI_leI (by omega) (by omega)]; omega)]
      exact hq _ ⟨⟨w1, k1, l1, l2, w5, w6, w7⟩, k2, rfl, k3, a1, a2⟩
    | succ m ih =>
      intro w sh pl hw l1 l2 a1 a2
      have hwl : w < k_nW s := by omega
      have hSl := hS.2.2.1.1
      rw [q173_34]
      simp only [q173_36, q173_37, q173_40, q173_43, q173_44, q173_47, q173_49, q173_50, xc_W, xg_W_0, xg_W_1, xs_W_1, xg_W_2, xs_W_2, xg_W_3, xg_W_4, xg_W_5, xg_W_6, xg_W_7, xg_W_8, xa_W_row, xb_W_row, xn_W_row, xa_W_wanted, xb_W_wanted, xn_W_wanted, xa_W_shown, xb_W_shown, xn_W_shown, xa_W_places, xb_W_places, xn_W_places, xa_W_rest, xb_W_rest, xn_W_rest, xa_W_spent, xb_W_spent, xn_W_spent, xa_W_tried, xb_W_tried, xn_W_tried, xc_q, xg_q_0, xg_q_1, xs_q_1, xg_q_2, xg_q_3, xg_q_4, xs_q_4, xg_q_5, xg_q_6, xg_q_7, xg_q_8, xs_q_8, xg_q_9, xs_q_9, xg_q_10, xg_q_11, xg_q_12, xg_q_13, xg_q_14, xg_q_15, xg_q_16, xs_q_16, xg_q_17, xg_q_18, xs_q_18, xg_q_19, xa_q_sortNames, xb_q_sortNames, xn_q_sortNames, xa_q_colourNames, xb_q_colourNames, xn_q_colourNames, xa_q_colourSorts, xb_q_colourSorts, xn_q_colourSorts, xa_q_ruleMakes, xb_q_ruleMakes, xn_q_ruleMakes, xa_q_ruleFirsts, xb_q_ruleFirsts, xn_q_ruleFirsts, xa_q_ruleSeconds, xb_q_ruleSeconds, xn_q_ruleSeconds, xa_q_walkerNames, xb_q_walkerNames, xn_q_walkerNames, xa_q_kinds, xb_q_kinds, xn_q_kinds, xa_q_walkerColours, xb_q_walkerColours, xn_q_walkerColours, xa_q_starts, xb_q_starts, xn_q_starts, xa_q_stepRows, xb_q_stepRows, xn_q_stepRows, xa_q_stepCounts, xb_q_stepCounts, xn_q_stepCounts, xa_q_gusts, xb_q_gusts, xn_q_gusts, xc_ql, xg_ql_0, xg_ql_1, xs_ql_1, xg_ql_2, xg_ql_3, xs_ql_3, xa_q_parts, xb_q_parts, xn_q_parts, xa_q_stack, xb_q_stack, xn_q_stack, wx_some, wx_ref, isl_i, isl_r, isl_n]
      rw [if_neg (by rw [nI_leI (by omega) (by omega)]; omega)]
      simp only [q173_52, xc_q, xg_q_0, xg_q_1, xs_q_1, xg_q_2, xg_q_3, xg_q_4, xs_q_4, xg_q_5, xg_q_6, xg_q_7, xg_q_8, xs_q_8, xg_q_9, xs_q_9, xg_q_10, xg_q_11, xg_q_12, xg_q_13, xg_q_14, xg_q_15, xg_q_16, xs_q_16, xg_q_17, xg_q_18, xs_q_18, xg_q_19, xa_q_sortNames, xb_q_sortNames, xn_q_sortNames, xa_q_colourNames, xb_q_colourNames, xn_q_colourNames, xa_q_colourSorts, xb_q_colourSorts, xn_q_colourSorts, xa_q_ruleMakes, xb_q_ruleMakes, xn_q_ruleMakes, xa_q_ruleFirsts, xb_q_ruleFirsts, xn_q_ruleFirsts, xa_q_ruleSeconds, xb_q_ruleSeconds, xn_q_ruleSeconds, xa_q_walkerNames, xb_q_walkerNames, xn_q_walkerNames, xa_q_kinds, xb_q_kinds, xn_q_kinds, xa_q_walkerColours, xb_q_walkerColours, xn_q_walkerColours, xa_q_starts, xb_q_starts, xn_q_starts, xa_q_stepRows, xb_q_stepRows, xn_q_stepRows, xa_q_stepCounts, xb_q_stepCounts, xn_q_stepCounts, xa_q_gusts, xb_q_gusts, xn_q_gusts, xc_ql, xg_ql_0, xg_ql_1, xs_ql_1, xg_ql_2, xg_ql_3, xs_ql_3, xa_q_parts, xb_q_parts, xn_q_parts, xa_q_stack, xb_q_stack, xn_q_stack]
      apply t_shownBy hs ho hwl
      simp only [sl_i, q173_55, q173_56, q173_57, q173_60, q173_62, q173_63, q173_66, q173_68, q173_69, q173_70r, q173_73, xc_W, xg_W_0, xg_W_1, xs_W_1, xg_W_2, xs_W_2, xg_W_3, xg_W_4, xg_W_5, xg_W_6, xg_W_7, xg_W_8, xa_W_row, xb_W_row, xn_W_row, xa_W_wanted, xb_W_wanted, xn_W_wanted, xa_W_shown, xb_W_shown, xn_W_shown, xa_W_places, xb_W_places, xn_W_places, xa_W_rest, xb_W_rest, xn_W_rest, xa_W_spent, xb_W_spent, xn_W_spent, xa_W_tried, xb_W_tried, xn_W_tried, xc_S, xg_S_0, xs_S_0, xg_S_1, xs_S_1, xg_S_2, xa_S_places, xb_S_places, xn_S_places, wx_some, wx_ref, isl_i, isl_r, isl_n, aS_n (show w < sh.length by omega) (show sh.length < 2 ^ 31 by omega), aS_n (show w < pl.length by omega) (show pl.length < 2 ^ 31 by omega), ag_G hS.2.2.2 (show (S.2.2).length < 2 ^ 31 by omega) hwl, nI_1]
      refine ih (w + 1) _ _ (by omega) (by rw [List.length_set]; exact l1) (by rw [List.length_set]; exact l2) (fun i hi => ?_) (fun i hi => ?_)
      · rw [List.getElem?_set]
        by_cases e : w = i
        · subst e; rw [if_pos rfl, if_pos (by omega)]
        · rw [if_neg e]; exact a1 i (by omega)
      · rw [List.getElem?_set]
        by_cases e : w = i
        · subst e; rw [if_pos rfl, if_pos (by omega)]
        · rw [if_neg e]; exact a2 i (by omega)
  simp only [e173, q173_0, q173_1, q173_2, q173_5, q173_8, q173_9, q173_12, q173_13, q173_14, q173_17, q173_18, q173_20, q173_23, q173_24, q173_25, q173_28, q173_31, q173_32r, xc_W, xg_W_0, xg_W_1, xs_W_1, xg_W_2, xs_W_2, xg_W_3, xg_W_4, xg_W_5, xg_W_6, xg_W_7, xg_W_8, xa_W_row, xb_W_row, xn_W_row, xa_W_wanted, xb_W_wanted, xn_W_wanted, xa_W_shown, xb_W_shown, xn_W_shown, xa_W_places, xb_W_places, xn_W_places, xa_W_rest, xb_W_rest, xn_W_rest, xa_W_spent, xb_W_spent, xn_W_spent, xa_W_tried, xb_W_tried, xn_W_tried, xc_K, xg_K_0, xg_K_1, xs_K_1, xg_K_2, xg_K_3, xs_K_3, xg_K_4, xg_K_5, xs_K_5, xa_K_lines, xb_K_lines, xn_K_lines, xa_K_wishes, xb_K_wishes, xn_K_wishes, xa_K_sights, xb_K_sights, xn_K_sights, xc_q, xg_q_0, xg_q_1, xs_q_1, xg_q_2, xg_q_3, xg_q_4, xs_q_4, xg_q_5, xg_q_6, xg_q_7, xg_q_8, xs_q_8, xg_q_9, xs_q_9, xg_q_10, xg_q_11, xg_q_12, xg_q_13, xg_q_14, xg_q_15, xg_q_16, xs_q_16, xg_q_17, xg_q_18, xs_q_18, xg_q_19, xa_q_sortNames, xb_q_sortNames, xn_q_sortNames, xa_q_colourNames, xb_q_colourNames, xn_q_colourNames, xa_q_colourSorts, xb_q_colourSorts, xn_q_colourSorts, xa_q_ruleMakes, xb_q_ruleMakes, xn_q_ruleMakes, xa_q_ruleFirsts, xb_q_ruleFirsts, xn_q_ruleFirsts, xa_q_ruleSeconds, xb_q_ruleSeconds, xn_q_ruleSeconds, xa_q_walkerNames, xb_q_walkerNames, xn_q_walkerNames, xa_q_kinds, xb_q_kinds, xn_q_kinds, xa_q_walkerColours, xb_q_walkerColours, xn_q_walkerColours, xa_q_starts, xb_q_starts, xn_q_starts, xa_q_stepRows, xb_q_stepRows, xn_q_stepRows, xa_q_stepCounts, xb_q_stepCounts, xn_q_stepCounts, xa_q_gusts, xb_q_gusts, xn_q_gusts, xc_ql, xg_ql_0, xg_ql_1, xs_ql_1, xg_ql_2, xg_ql_3, xs_ql_3, xa_q_parts, xb_q_parts, xn_q_parts, xa_q_stack, xb_q_stack, xn_q_stack, wx_some, wx_ref, isl_i, isl_r, isl_n, hcp, hn]
  exact key (k_nW s) 0 W.2.2.2.2.1 W.2.2.2.2.2.1 (by omega) w3 w4 (fun i hi => by omega) (fun i hi => by omega)
/-- what is left behind a set of walkers -/
def RC (s : SQ) (c : SC) (b : BK) (pc p v : Nat) : Prop := ∃ row, VR s b (bc pc) pc row ∧ PL (row.map c.2.2) p v
def R1 (s : SQ) (c : SC) (b : BK) (pc w p v : Nat) : Prop := Fit s b (bc pc) pc w ∧ ∃ u, RC s c b (pc ||| 2 ^ w) (p + 1) u ∧ v = dst (c.2.2 w) p + u
theorem RC_s {pc p v : Nat} (h7 : k_nW s ≤ 7) (hpc : pc < 128) (hN : bc pc < b.2.1.1) : RC s c b pc p v ↔ ∃ w a, w < k_nW s ∧ p ≤ a ∧ a < 10 ∧ R1 s c b pc w a v := by
  constructor
  · rintro ⟨row, h1, e, h2⟩
    cases row with
    | nil => have : bc pc = b.2.1.1 := h1; omega
    | cons w r =>
      obtain ⟨-, g2, g3⟩ := h1
      obtain ⟨k, u, a1, a2, a3, a4⟩ := h2
      refine ⟨w, k, g2.1, a1, a2, g2, u, ⟨r, ?_, e, a3⟩, a4⟩
      rw [(bc_or pc hpc w (by have := g2.1; omega) g2.2.1).1]; exact g3
  · rintro ⟨w, k, -, a1, a2, g2, u, ⟨r, g3, e, a3⟩, a4⟩
    rw [(bc_or pc hpc w (by have := g2.1; omega) g2.2.1).1] at g3
    exact ⟨w :: r, ⟨hN, g2, g3⟩, e, k, u, a1, a2, a3, a4⟩
theorem RC_e {pc p v : Nat} (hN : bc pc = b.2.1.1) : RC s c b pc p v ↔ v = 0 := by
  constructor
  · rintro ⟨row, h1, e, h2⟩
    cases row with
    | nil => exact h2.2
    | cons w r => have := h1.1; omega
  · rintro rfl; exact ⟨[], hN, p, rfl, rfl⟩
def RSd (s : SQ) (c : SC) (b : BK) (ok : Nat → Prop) (xs : List Int32) : Prop := xs.length = 1408 ∧ ∀ pc, ok pc → pc < 2 ^ k_nW s → bc pc ≤ b.2.1.1 → ∀ p, p ≤ 10 → ∃ x, xs[pc * 11 + p]? = some (nI x) ∧ x ≤ 1000 ∧ mc (RC s c b pc p) x
def AW (s : SQ) (c : SC) (b : BK) (pc : Nat) (f : Nat → Nat) (xs : List Int32) : Prop := RSd s c b (fun x => pc < x) xs ∧ xs[pc * 11 + 10]? = some (nI 1000) ∧ ∀ p, p < 10 → ∃ x, xs[pc * 11 + p]? = some (nI x) ∧ x ≤ 1000 ∧ mc (fun v => ∃ w, w < f p ∧ R1 s c b pc w p v) x
theorem AW_ext {pc : Nat} {f g : Nat → Nat} {xs : List Int32} (h : AW s c b pc f xs) (hg : ∀ p, p < 10 → g p = f p) : AW s c b pc g xs := ⟨h.1, h.2.1, fun p hp => by rw [hg p hp]; exact h.2.2 p hp⟩
theorem AW_set {pc p x k : Nat} {f g : Nat → Nat} {xs : List Int32} (h : AW s c b pc f xs) (hpc : pc < 128) (hp : p < 10) (hx : x ≤ 1000) (hm : mc (fun v => ∃ w, w < k ∧ R1 s c b pc w p v) x) (hg : ∀ j, j < 10 → g j = if j = p then k else f j) : AW s c b pc g (xs.set (pc * 11 + p) (nI x)) := by
  have hl := h.1.1
  refine ⟨⟨by rw [List.length_set]; exact hl, fun a h1 h2 h3 j hj => ?_⟩, ?_, fun j hj => ?_⟩
  · rw [List.getElem?_set_ne (by omega)]; exact h.1.2 a h1 h2 h3 j hj
  · rw [List.getElem?_set_ne (by omega)]; exact h.2.1
  · rw [hg j hj]
    by_cases e : j = p
    · subst e
      rw [if_pos rfl]
      exact ⟨x, by rw [List.getElem?_set_self (by omega)], hx, hm⟩
    · rw [if_neg e, List.getElem?_set_ne (by omega)]; exact h.2.2 j hj
theorem t_addWalks {pc w : Nat} {xs : List Int32} (ho : k_ok s) (hc : c_ok s c) (hK : WHk s c b W) (hw : w < k_nW s) (hpc : pc < 2 ^ k_nW s) (hN : bc pc < b.2.1.1) (hfit : Fit s b (bc pc) pc w) (hA : AW s c b pc (fun _ => w) xs) (hq : ∀ ys, AW s c b pc (fun _ => w + 1) ys → Q none (px_h z E M (px_l sw c2 w2 T D S S1 K R C ((W.1, W.2.1, W.2.2.1, W.2.2.2.1, W.2.2.2.2.1, W.2.2.2.2.2.1, ys, W.2.2.2.2.2.2.2.1, W.2.2.2.2.2.2.2.2)) U q q1 B0 B1 B2 B3))) : wm (mp_P fx) (d + 1) 176 [.ref 87, .int (nI w), .int (nI (pc * 11)), .int (nI ((pc ||| 2 ^ w) * 11))] (px_h z E M (px_l sw c2 w2 T D S S1 K R C ((W.1, W.2.1, W.2.2.1, W.2.2.2.1, W.2.2.2.2.1, W.2.2.2.2.2.1, xs, W.2.2.2.2.2.2.2.1, W.2.2.2.2.2.2.2.2)) U q q1 B0 B1 B2 B3)) Q := by
  have h7 := ho.1.2.2.2.1
  have hp27 := p27 h7
  have hbo := bc_or pc (by omega) w (by omega) hfit.2.1
  have key : ∀ (m p : Nat) (ys : List Int32), p + m = 10 → AW s c b pc (fun j => if j < p then w + 1 else w) ys → ww (mp_P fx) (d + 1) 176 3 [some (.ref 87), some (.int (nI w)), some (.int (nI (pc * 11))), some (.int (nI ((pc ||| 2 ^ w) * 11))), some (.int (nI p))] [] (px_h z E M (px_l sw c2 w2 T D S S1 K R C ((W.1, W.2.1, W.2.2.1, W.2.2.2.1, W.2.2.2.2.1, W.2.2.2.2.2.1, ys, W.2.2.2.2.2.2.2.1, W.2.2.2.2.2.2.2.2)) U q q1 B0 B1 B2 B3)) Q := by
    intro m
    induction m with
    | zero =>
      intro p ys hp hY
      have hp2 : p = 10 := by omega
      subst hp2
      rw [q176_3]
      simp only [q176_5, q176_7, q176_56]
      rw [if_pos (by decide)]
      exact hq ys (AW_ext hY (fun j hj => by rw [if_pos hj]))
    | succ m ih =>
      intro p ys hp hY
      have hl := hY.1.1
      obtain ⟨x, x1, x2, x3⟩ := hY.2.2 p (by omega)
      simp only [] at x3
      rw [if_neg (Nat.lt_irrefl p)] at x3
      obtain ⟨y, y1, y2, y3⟩ := hY.1.2 (pc ||| 2 ^ w) hbo.2.1 (or_lt hpc hw) (by omega) (p + 1) (by omega)
      have hd := dst_le (hc.2.2 w hw) (show p < 10 by omega)
      rw [← Nat.add_assoc] at y1
      rw [q176_3]
      simp only [q176_5, q176_7, q176_10, q176_11, q176_14, q176_15, q176_17, q176_18, q176_19, q176_22, q176_23, q176_25, q176_26, q176_27, q176_28, q176_29, xc_W, xg_W_0, xg_W_1, xs_W_1, xg_W_2, xs_W_2, xg_W_3, xg_W_4, xg_W_5, xg_W_6, xg_W_7, xg_W_8, xa_W_row, xb_W_row, xn_W_row, xa_W_wanted, xb_W_wanted, xn_W_wanted, xa_W_shown, xb_W_shown, xn_W_shown, xa_W_places, xb_W_places, xn_W_places, xa_W_rest, xb_W_rest, xn_W_rest, xa_W_spent, xb_W_spent, xn_W_spent, xa_W_tried, xb_W_tried, xn_W_tried, wx_some, wx_ref, isl_i, isl_r, isl_n, nI_add, aG_n x1 (show ys.length < 2 ^ 31 by omega)]
      rw [if_neg (by rw [nl_10, nI_leI (by omega) (by omega)]; omega)]
      simp only [q176_31, xc_W, xg_W_0, xg_W_1, xs_W_1, xg_W_2, xs_W_2, xg_W_3, xg_W_4, xg_W_5, xg_W_6, xg_W_7, xg_W_8, xa_W_row, xb_W_row, xn_W_row, xa_W_wanted, xb_W_wanted, xn_W_wanted, xa_W_shown, xb_W_shown, xn_W_shown, xa_W_places, xb_W_places, xn_W_places, xa_W_rest, xb_W_rest, xn_W_rest, xa_W_spent, xb_W_spent, xn_W_spent, xa_W_tried, xb_W_tried, xn_W_tried]
      apply t_stepsTo (W := (W.1, W.2.1, W.2.2.1, W.2.2.2.1, W.2.2.2.2.1, W.2.2.2.2.2.1, ys, W.2.2.2.2.2.2.2.1, W.2.2.2.2.2.2.2.2)) h7 hc (WHk_rest hK hl) hw (by omega)
      simp only [sl_i, q176_34, q176_35, q176_38, q176_39, q176_41, q176_42, q176_43, q176_44, q176_45, q176_46, q176_49, q176_50i, q176_53, xc_W, xg_W_0, xg_W_1, xs_W_1, xg_W_2, xs_W_2, xg_W_3, xg_W_4, xg_W_5, xg_W_6, xg_W_7, xg_W_8, xa_W_row, xb_W_row, xn_W_row, xa_W_wanted, xb_W_wanted, xn_W_wanted, xa_W_shown, xb_W_shown, xn_W_shown, xa_W_places, xb_W_places, xn_W_places, xa_W_rest, xb_W_rest, xn_W_rest, xa_W_spent, xb_W_spent, xn_W_spent, xa_W_tried, xb_W_tried, xn_W_tried, wx_some, wx_ref, isl_i, isl_r, isl_n, nI_add, nl_1, aG_n y1 (show ys.length < 2 ^ 31 by omega), nI_min (show x < 2 ^ 31 by omega) (show dst (c.2.2 w) p + y < 2 ^ 31 by omega), aS_n (show pc * 11 + p < ys.length by omega) (show ys.length < 2 ^ 31 by omega)]
      refine ih (p + 1) _ (by omega) (AW_set hY (by omega) (by omega) (by omega) (k := w + 1) (mc_or x3 (mc_add (k := dst (c.2.2 w) p) (P2 := R1 s c b pc w p) y3 (fun u => ?_)) (fun u => ?_)) (fun j hj => ?_))
      · exact ⟨fun ⟨_, u', g1, g2⟩ => ⟨u', g1, g2⟩, fun ⟨u', g1, g2⟩ => ⟨hfit, u', g1, g2⟩⟩
      · constructor
        · rintro ⟨w', g1, g2⟩
          by_cases e : w' = w
          · subst e; exact Or.inr g2
          · exact Or.inl ⟨w', by omega, g2⟩
        · rintro (⟨w', g1, g2⟩ | g2)
          · exact ⟨w', by omega, g2⟩
          · exact ⟨w, by omega, g2⟩
      · by_cases e : j = p
        · subst e; rw [if_pos rfl, if_pos (by omega)]
        · rw [if_neg e]
          by_cases e2 : j < p
          · rw [if_pos e2, if_pos (by omega)]
          · rw [if_neg e2, if_neg (by omega)]
  simp only [e176, q176_0, q176_1i, isl_i, isl_r, isl_n]
  exact key 10 0 xs (by omega) (AW_ext hA (fun j hj => by rw [if_neg (by omega)]))
/-- a row of the table, its least ones taken from behind down to a place -/
def GF (s : SQ) (c : SC) (b : BK) (pc p : Nat) (xs : List Int32) : Prop := RSd s c b (fun x => pc < x) xs ∧ (∀ j, j < p → ∃ x, xs[pc * 11 + j]? = some (nI x) ∧ x ≤ 1000 ∧ (bc pc < b.2.1.1 → mc (fun v => ∃ w, w < k_nW s ∧ R1 s c b pc w j v) x) ∧ (b.2.1.1 ≤ bc pc → x = 0)) ∧ ∀ j, p ≤ j → j ≤ 10 → ∃ x, xs[pc * 11 + j]? = some (nI x) ∧ x ≤ 1000 ∧ (bc pc ≤ b.2.1.1 → mc (RC s c b pc j) x) ∧ (b.2.1.1 ≤ bc pc → x = 0)
theorem GF_set {pc p x y : Nat} {xs : List Int32} (h7 : k_nW s ≤ 7) (hpc : pc < 128) (h : GF s c b pc (p + 1) xs) (hp : p < 10) (hx : xs[pc * 11 + p]? = some (nI x)) (hx2 : x ≤ 1000) (hx3 : (bc pc < b.2.1.1 → mc (fun v => ∃ w, w < k_nW s ∧ R1 s c b pc w p v) x) ∧ (b.2.1.1 ≤ bc pc → x = 0)) (hy3 : (bc pc ≤ b.2.1.1 → mc (RC s c b pc (p + 1)) y) ∧ (b.2.1.1 ≤ bc pc → y = 0)) : GF s c b pc p (xs.set (pc * 11 + p) (nI (min x y))) := by
  have hl := h.1.1
  refine ⟨⟨by rw [List.length_set]; exact hl, fun a h1 h2 h3 j hj => ?_⟩, fun j hj => ?_, fun j hj hj2 => ?_⟩
  · rw [List.getElem?_set_ne (by omega)]; exact h.1.2 a h1 h2 h3 j hj
  · rw [List.getElem?_set_ne (by omega)]; exact h.2.1 j (by omega)
  · by_cases e : j = p
    · subst e
      refine ⟨min x y, by rw [List.getElem?_set_self (by omega)], by omega, fun hN => ?_, fun hN => ?_⟩
      · by_cases eN : bc pc < b.2.1.1
        · refine mc_or (hx3.1 eN) (hy3.1 hN) (fun u => ?_)
          rw [RC_s h7 hpc eN, RC_s h7 hpc eN]
          constructor
          · rintro ⟨w, a, g1, g2, g3, g4⟩
            by_cases e : a = j
            · subst e; exact Or.inl ⟨w, g1, g4⟩
            · exact Or.inr ⟨w, a, g1, by omega, g3, g4⟩
          · rintro (⟨w, g1, g4⟩ | ⟨w, a, g1, g2, g3, g4⟩)
            · exact ⟨w, j, g1, by omega, hp, g4⟩
            · exact ⟨w, a, g1, by omega, g3, g4⟩
        · rw [hx3.2 (by omega), Nat.zero_min]
          exact ⟨fun u _ => Nat.zero_le u, fun _ => (RC_e (by omega)).mpr rfl⟩
      · rw [hx3.2 hN, Nat.zero_min]
    · rw [List.getElem?_set_ne (by omega)]; exact h.2.2 j (by omega) hj2
theorem t_fillRest {pc : Nat} {xs : List Int32} (ho : k_ok s) (hc : c_ok s c) (hb : b_ok s b) (hK : WHk s c b W) (hpc : pc < 2 ^ k_nW s) (hA : RSd s c b (fun x => pc < x) xs) (hq : ∀ ys, RSd s c b (fun x => pc ≤ x) ys → Q none (px_h z E M (px_l sw c2 w2 T D S S1 K R C ((W.1, W.2.1, W.2.2.1, W.2.2.2.1, W.2.2.2.2.1, W.2.2.2.2.2.1, ys, W.2.2.2.2.2.2.2.1, W.2.2.2.2.2.2.2.2)) U q q1 B0 B1 B2 B3))) : wm (mp_P fx) (d + 2) 174 [.ref 87, .int (nI pc)] (px_h z E M (px_l sw c2 w2 T D S S1 K R C ((W.1, W.2.1, W.2.2.1, W.2.2.2.1, W.2.2.2.2.1, W.2.2.2.2.2.1, xs, W.2.2.2.2.2.2.2.1, W.2.2.2.2.2.2.2.2)) U q q1 B0 B1 B2 B3)) Q := by
  have h7 := ho.1.2.2.2.1
  have hp27 := p27 h7
  have hN7 := hb.2.1.1
  have hbc := bc_ln (k_nW s) (by omega) pc hpc
  have hxl := hA.1
  have key2 : ∀ (p : Nat) (ys : List Int32), p ≤ 10 → GF s c b pc p ys → ww (mp_P fx) (d + 2) 174 94 [some (.ref 87), some (.int (nI pc)), some (.int (nI (pc * 11))), some (.int (nI (bc pc))), some (.int (nI p - 1))] [] (px_h z E M (px_l sw c2 w2 T D S S1 K R C ((W.1, W.2.1, W.2.2.1, W.2.2.2.1, W.2.2.2.2.1, W.2.2.2.2.2.1, ys, W.2.2.2.2.2.2.2.1, W.2.2.2.2.2.2.2.2)) U q q1 B0 B1 B2 B3)) Q := by
    intro p
    induction p with
    | zero =>
      intro ys hp hY
      rw [q174_94]
      simp only [q174_96, q174_137]
      rw [if_pos (by decide)]
      refine hq ys ⟨hY.1.1, fun a h1 h2 h3 j hj => ?_⟩
      by_cases e : a = pc
      · subst e
        obtain ⟨x, x1, x2, x3, -⟩ := hY.2.2 j (by omega) hj
        exact ⟨x, x1, x2, x3 h3⟩
      · exact hY.1.2 a (by omega) h2 h3 j hj
    | succ p ih =>
      intro ys hp hY
      have hl := hY.1.1
      obtain ⟨x, x1, x2, x3⟩ := hY.2.1 p (by omega)
      obtain ⟨y, y1, y2, y3⟩ := hY.2.2 (p + 1) (by omega) (by omega)
      rw [← Nat.add_assoc] at y1
      rw [nl_1, nI_sub (show 1 ≤ p + 1 by omega), Nat.add_sub_cancel, q174_94]
      simp only [q174_96, q174_99, q174_100, q174_103, q174_104, q174_106, q174_107, q174_108, q174_111, q174_112, q174_114, q174_115, q174_116, q174_117, q174_120, q174_121, q174_123, q174_124, q174_125, q174_126, q174_127, q174_130, q174_131i, q174_134, xc_W, xg_W_0, xg_W_1, xs_W_1, xg_W_2, xs_W_2, xg_W_3, xg_W_4, xg_W_5, xg_W_6, xg_W_7, xg_W_8, xa_W_row, xb_W_row, xn_W_row, xa_W_wanted, xb_W_wanted, xn_W_wanted, xa_W_shown, xb_W_shown, xn_W_shown, xa_W_places, xb_W_places, xn_W_places, xa_W_rest, xb_W_rest, xn_W_rest, xa_W_spent, xb_W_spent, xn_W_spent, xa_W_tried, xb_W_tried, xn_W_tried, wx_some, wx_ref, isl_i, isl_r, isl_n, nI_add, show (1 : Int32) = nI 1 from rfl, aG_n x1 (show ys.length < 2 ^ 31 by omega), aG_n y1 (show ys.length < 2 ^ 31 by omega), nI_min (show x < 2 ^ 31 by omega) (show y < 2 ^ 31 by omega), aS_n (show pc * 11 + p < ys.length by omega) (show ys.length < 2 ^ 31 by omega)]
      rw [if_neg (by rw [nl_0, nI_ltI (by omega) (by omega)]; omega)]
      have := ih _ (by omega) (GF_set h7 (by omega) hY (by omega) x1 x2 x3 y3)
      rw [i_m1']
      exact this
  have key1 : bc pc < b.2.1.1 → ∀ (m w : Nat) (ys : List Int32), w + m = k_nW s → AW s c b pc (fun _ => w) ys → ww (mp_P fx) (d + 2) 174 40 [some (.ref 87), some (.int (nI pc)), some (.int (nI (pc * 11))), some (.int (nI (bc pc))), some (.int (nI w))] [] (px_h z E M (px_l sw c2 w2 T D S S1 K R C ((W.1, W.2.1, W.2.2.1, W.2.2.2.1, W.2.2.2.2.1, W.2.2.2.2.2.1, ys, W.2.2.2.2.2.2.2.1, W.2.2.2.2.2.2.2.2)) U q q1 B0 B1 B2 B3)) Q := by
    intro hN m
    induction m with
    | zero =>
      intro w ys hw hY
      have hw2 : w = k_nW s := by omega
      subst hw2
      rw [q174_40]
      simp only [q174_42, q174_43, q174_46, q174_90, q174_92i, xc_W, xg_W_0, xg_W_1, xs_W_1, xg_W_2, xs_W_2, xg_W_3, xg_W_4, xg_W_5, xg_W_6, xg_W_7, xg_W_8, xa_W_row, xb_W_row, xn_W_row, xa_W_wanted, xb_W_wanted, xn_W_wanted, xa_W_shown, xb_W_shown, xn_W_shown, xa_W_places, xb_W_places, xn_W_places, xa_W_rest, xb_W_rest, xn_W_rest, xa_W_spent, xb_W_spent, xn_W_spent, xa_W_tried, xb_W_tried, xn_W_tried, wx_some, wx_ref, isl_i, isl_r, isl_n]
      rw [if_pos (by rw [hK.2.2.1, nI_leI (by omega) (by omega)]; omega)]
      refine key2 10 ys (by omega) ⟨hY.1, fun j hj => ?_, fun j hj hj2 => ?_⟩
      · obtain ⟨x, x1, x2, x3⟩ := hY.2.2 j hj
        exact ⟨x, x1, x2, fun _ => x3, fun z => by omega⟩
      · have : j = 10 := by omega
        subst this
        exact ⟨1000, hY.2.1, by omega, fun _ => mc_no (fun u hu => by
          obtain ⟨w, a, g1, g2, g3, g4⟩ := (RC_s h7 (by omega) hN).mp hu
          omega) (by omega), fun z => by omega⟩
    | succ m ih =>
      intro w ys hw hY
      have hwl : w < k_nW s := by omega
      have hl := hY.1.1
      rw [q174_40]
      simp only [q174_42, q174_43, q174_46, q174_49, q174_50, q174_51, q174_54, q174_57, q174_58, q174_60, q174_61, xc_W, xg_W_0, xg_W_1, xs_W_1, xg_W_2, xs_W_2, xg_W_3, xg_W_4, xg_W_5, xg_W_6, xg_W_7, xg_W_8, xa_W_row, xb_W_row, xn_W_row, xa_W_wanted, xb_W_wanted, xn_W_wanted, xa_W_shown, xb_W_shown, xn_W_shown, xa_W_places, xb_W_places, xn_W_places, xa_W_rest, xb_W_rest, xn_W_rest, xa_W_spent, xb_W_spent, xn_W_spent, xa_W_tried, xb_W_tried, xn_W_tried, wx_some, wx_ref, isl_i, isl_r, isl_n]
      rw [if_neg (by rw [hK.2.2.1, nI_leI (by omega) (by omega)]; omega), if_neg (by rw [hK.2.1, nI_leI (by omega) (by omega)]; omega)]
      simp only [q174_62, xc_W, xg_W_0, xg_W_1, xs_W_1, xg_W_2, xs_W_2, xg_W_3, xg_W_4, xg_W_5, xg_W_6, xg_W_7, xg_W_8, xa_W_row, xb_W_row, xn_W_row, xa_W_wanted, xb_W_wanted, xn_W_wanted, xa_W_shown, xb_W_shown, xn_W_shown, xa_W_places, xb_W_places, xn_W_places, xa_W_rest, xb_W_rest, xn_W_rest, xa_W_spent, xb_W_spent, xn_W_spent, xa_W_tried, xb_W_tried, xn_W_tried]
      apply t_wfits (W := (W.1, W.2.1, W.2.2.1, W.2.2.2.1, W.2.2.2.2.1, W.2.2.2.2.2.1, ys, W.2.2.2.2.2.2.2.1, W.2.2.2.2.2.2.2.2)) ho hb (WHk_rest hK hl) hwl hN (by omega)
      · intro hf
        have hbo := bc_or pc (by omega) w (by omega) hf.2.1
        simp only [sl_i, q174_65, q174_68, q174_69, q174_71, q174_72, q174_73, q174_74, q174_76, q174_77, q174_78, q174_80, isl_i, isl_r, isl_n, k7_or pc (show pc < 128 by omega) w (show w < 7 by omega), show (11 : Int32) = nI 11 from rfl, pk_mul]
        rw [if_neg (by decide)]
        simp only [q174_81, xc_W, xg_W_0, xg_W_1, xs_W_1, xg_W_2, xs_W_2, xg_W_3, xg_W_4, xg_W_5, xg_W_6, xg_W_7, xg_W_8, xa_W_row, xb_W_row, xn_W_row, xa_W_wanted, xb_W_wanted, xn_W_wanted, xa_W_shown, xb_W_shown, xn_W_shown, xa_W_places, xb_W_places, xn_W_places, xa_W_rest, xb_W_rest, xn_W_rest, xa_W_spent, xb_W_spent, xn_W_spent, xa_W_tried, xb_W_tried, xn_W_tried]
        apply t_addWalks ho hc hK hwl hpc hN hf hY
        intro zs hZ
        simp only [sl_n, q174_84i, q174_87, isl_i, isl_r, isl_n, nI_1]
        exact ih (w + 1) zs (by omega) hZ
      · intro hf
        simp only [sl_i, q174_65, q174_84i, q174_87, isl_i, isl_r, isl_n, nI_1]
        rw [if_pos (by decide)]
        refine ih (w + 1) ys (by omega) ⟨hY.1, hY.2.1, fun p hp => ?_⟩
        obtain ⟨x, x1, x2, x3⟩ := hY.2.2 p hp
        refine ⟨x, x1, x2, mc_iff x3 (fun u => ?_)⟩
        show (∃ w', w' < w + 1 ∧ R1 s c b pc w' p u) ↔ (∃ w', w' < w ∧ R1 s c b pc w' p u)
        constructor
        · rintro ⟨w', g1, g2⟩
          by_cases e : w' = w
          · subst e; exact absurd g2.1 hf
          · exact ⟨w', by omega, g2⟩
        · rintro ⟨w', g1, g2⟩; exact ⟨w', by omega, g2⟩
  simp only [e174, q174_0, q174_1, q174_3, q174_4i, q174_5, isl_i, isl_r, isl_n, show (11 : Int32) = nI 11 from rfl, pk_mul]
  simp only [q174_6]
  apply t_bitCount (show pc < 128 by omega)
  simp only [sl_i, q174_9i, q174_10, q174_11, q174_14, q174_15, q174_16, q174_18, q174_19, q174_20, q174_21, q174_24, q174_27, q174_30, q174_33, xc_W, xg_W_0, xg_W_1, xs_W_1, xg_W_2, xs_W_2, xg_W_3, xg_W_4, xg_W_5, xg_W_6, xg_W_7, xg_W_8, xa_W_row, xb_W_row, xn_W_row, xa_W_wanted, xb_W_wanted, xn_W_wanted, xa_W_shown, xb_W_shown, xn_W_shown, xa_W_places, xb_W_places, xn_W_places, xa_W_rest, xb_W_rest, xn_W_rest, xa_W_spent, xb_W_spent, xn_W_spent, xa_W_tried, xb_W_tried, xn_W_tried, wx_some, wx_ref, isl_i, isl_r, isl_n, show (11 : Int32) = nI 11 from rfl, nI_add]
  by_cases hN : bc pc < b.2.1.1
  · rw [if_neg (by rw [hK.2.1, nI_leI (by omega) (by omega)]; omega)]
    simp only [q174_34]
    apply t_fillr (H := fun l => (px_h z E M (px_l sw c2 w2 T D S S1 K R C ((W.1, W.2.1, W.2.2.1, W.2.2.2.1, W.2.2.2.2.1, W.2.2.2.2.2.1, l, W.2.2.2.2.2.2.2.1, W.2.2.2.2.2.2.2.2)) U q q1 B0 B1 B2 B3))) (fun _ _ _ => xb_W_rest) (fun _ => xn_W_rest) (xs := xs) (i0 := pc * 11) (i1 := pc * 11 + 11) (by omega) (by omega) (by omega)
    intro ys yl yv
    simp only [sl_n, q174_37, q174_38i, isl_i, isl_r, isl_n]
    refine key1 hN (k_nW s) 0 ys (by omega) ⟨⟨by omega, fun a h1 h2 h3 j hj => ?_⟩, by rw [yv, if_pos (by omega)]; rfl, fun p hp => ⟨1000, by rw [yv, if_pos (by omega)]; rfl, by omega, mc_no (fun u ⟨w, h1, _⟩ => absurd h1 (Nat.not_lt_zero _)) (by omega)⟩⟩
    rw [yv, if_neg (by omega)]; exact hA.2 a h1 h2 h3 j hj
  · rw [if_pos (by rw [hK.2.1, nI_leI (by omega) (by omega)]; omega)]
    simp only [q174_34]
    apply t_fillr (H := fun l => (px_h z E M (px_l sw c2 w2 T D S S1 K R C ((W.1, W.2.1, W.2.2.1, W.2.2.2.1, W.2.2.2.2.1, W.2.2.2.2.2.1, l, W.2.2.2.2.2.2.2.1, W.2.2.2.2.2.2.2.2)) U q q1 B0 B1 B2 B3))) (fun _ _ _ => xb_W_rest) (fun _ => xn_W_rest) (xs := xs) (i0 := pc * 11) (i1 := pc * 11 + 11) (by omega) (by omega) (by omega)
    intro ys yl yv
    simp only [sl_n, q174_37, q174_38i, isl_i, isl_r, isl_n]
    have hg : GF s c b pc 10 ys := by
      refine ⟨⟨by omega, fun a h1 h2 h3 j hj => by rw [yv, if_neg (by omega)]; exact hA.2 a h1 h2 h3 j hj⟩, fun j hj => ⟨0, by rw [yv, if_pos (by omega)]; rfl, by omega, fun z => absurd z hN, fun _ => rfl⟩, fun j h1 h2 => ⟨0, by rw [yv, if_pos (by omega)]; rfl, by omega, fun z => ⟨fun u _ => Nat.zero_le u, fun _ => (RC_e (by omega)).mpr rfl⟩, fun _ => rfl⟩⟩
    rw [nl_0, q174_40]
    simp only [q174_42, q174_43, q174_46, q174_49, q174_50, q174_51, q174_54, q174_90, q174_92i, xc_W, xg_W_0, xg_W_1, xs_W_1, xg_W_2, xs_W_2, xg_W_3, xg_W_4, xg_W_5, xg_W_6, xg_W_7, xg_W_8, xa_W_row, xb_W_row, xn_W_row, xa_W_wanted, xb_W_wanted, xn_W_wanted, xa_W_shown, xb_W_shown, xn_W_shown, xa_W_places, xb_W_places, xn_W_places, xa_W_rest, xb_W_rest, xn_W_rest, xa_W_spent, xb_W_spent, xn_W_spent, xa_W_tried, xb_W_tried, xn_W_tried, wx_some, wx_ref, isl_i, isl_r, isl_n]
    by_cases e0 : k_nW s = 0
    · rw [if_pos (by rw [hK.2.2.1, nI_leI (by omega) (by omega)]; omega)]
      exact key2 10 ys (by omega) hg
    · rw [if_neg (by rw [hK.2.2.1, nI_leI (by omega) (by omega)]; omega), if_pos (by rw [hK.2.1, nI_leI (by omega) (by omega)]; omega)]
      exact key2 10 ys (by omega) hg
end WS
