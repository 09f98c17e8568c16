/-! when to look -/
section TA
variable {fx : List Value → mm_H → Option (List Value × mm_H)} {z : Nat} {E M : Nat → mm_C} {sw c2 w2 : Bool} {T : px_T} {D : px_D} {S : px_S} {S1 : px_S} {K : px_K} {R : px_R} {C : px_C} {W : px_W} {U : px_U} {q : px_q} {q1 : px_q} {B0 : px_K} {B1 : px_K} {B2 : px_K} {B3 : px_K} {T_signs : List Int32} {T_length : Int32} {T_fault : Int32} {T_types : List Int32} {T_starts : List Int32} {T_values : List Int64} {T_tokens : Int32} {T_at : Int32} {T_behind : Int32} {S_hour : Int32} {S_open : Int32} {S_places : List Int32} {S1_hour : Int32} {S1_open : Int32} {S1_places : List Int32} {K_lines : List Int32} {K_lineCount : Int32} {K_wishes : List Int32} {K_wishCount : Int32} {K_sights : List Int32} {K_sightCount : Int32} {R_shown : List Int32} {R_length : Int32} {R_readers : Int32} {R_begins : List Int32} {R_lengths : List Int32} {R_sentences : Int32} {R_order : List Int32} {R_able : Int32} {R_standing : List Int32} {R_lovers : List Int32} {R_lowest : List Int32} {C_ways : List Int32} {C_rows : List Int32} {C_shallower : List Int32} {C_length : Int32} {C_goal : Int32} {W_row : List Int32} {W_walkers : Int32} {W_names : Int32} {W_wanted : List Int32} {W_shown : List Int32} {W_places : List Int32} {W_rest : List Int32} {W_spent : List Int32} {W_tried : List Int32} {U_undoRows : List Int64} {U_markScenes : List Int64} {U_marksLaid : List Int32} {U_undoCount : Int32} {U_undoEnd : Int32} {q_sortNames : List Int64} {q_sortCount : Int32} {q_colourNames : List Int64} {q_colourSorts : List Int32} {q_colourCount : Int32} {q_ruleMakes : List Int32} {q_ruleFirsts : List Int32} {q_ruleSeconds : List Int32} {q_ruleCount : Int32} {q_saysSort : Int32} {q_walkerNames : List Int64} {q_kinds : List Int32} {q_walkerColours : List Int32} {q_starts : List Int32} {q_stepRows : List Int32} {q_stepCounts : List Int32} {q_walkerCount : Int32} {q_gusts : List Int32} {q_gustCount : Int32} {q_parts : List Int32} {q_count : Int32} {q_stack : List Int32} {q_height : Int32} {q1_sortNames : List Int64} {q1_sortCount : Int32} {q1_colourNames : List Int64} {q1_colourSorts : List Int32} {q1_colourCount : Int32} {q1_ruleMakes : List Int32} {q1_ruleFirsts : List Int32} {q1_ruleSeconds : List Int32} {q1_ruleCount : Int32} {q1_saysSort : Int32} {q1_walkerNames : List Int64} {q1_kinds : List Int32} {q1_walkerColours : List Int32} {q1_starts : List Int32} {q1_stepRows : List Int32} {q1_stepCounts : List Int32} {q1_walkerCount : Int32} {q1_gusts : List Int32} {q1_gustCount : Int32} {q1_parts : List Int32} {q1_count : Int32} {q1_stack : List Int32} {q1_height : Int32} {B0_lines : List Int32} {B0_lineCount : Int32} {B0_wishes : List Int32} {B0_wishCount : Int32} {B0_sights : List Int32} {B0_sightCount : Int32} {B1_lines : List Int32} {B1_lineCount : Int32} {B1_wishes : List Int32} {B1_wishCount : Int32} {B1_sights : List Int32} {B1_sightCount : Int32} {B2_lines : List Int32} {B2_lineCount : Int32} {B2_wishes : List Int32} {B2_wishCount : Int32} {B2_sights : List Int32} {B2_sightCount : Int32} {B3_lines : List Int32} {B3_lineCount : Int32} {B3_wishes : List Int32} {B3_wishCount : Int32} {B3_sights : List Int32} {B3_sightCount : Int32}
variable {d : Nat} {Q : Option Value → mm_H → Prop} {s : SQ} {c : SC} {nm : NMs} {b : BK}
theorem nI_max {a b : Nat} (ha : a < 2 ^ 31) (hb : b < 2 ^ 31) : (if nI a < nI b then nI b else nI a) = nI (max a b) := by
  by_cases e : a < b
  · rw [if_pos (by rw [nI_ltI ha hb]; exact e), Nat.max_eq_right (by omega)]
  · rw [if_neg (by rw [nI_ltI ha hb]; exact e), Nat.max_eq_left (by omega)]
theorem t_ask (hK : KX nm s q R C) (hc : c_ok s c) (hh : c.1 + 100 < 2 ^ 20) (hS : SCx s S c) (hb : b_ok s b) (hB : BKx b K) (hl1 : (S1.2.2).length = 7) (hq : ∀ S1', (S1'.2.2).length = 7 → Q (some (.int (sp_ak s c (sp_who s c b) 410).2)) (px_h z E M (px_l sw c2 w2 T D S (S1') K R C W U q q1 B0 B1 B2 B3))) : wm (mp_P fx) (d + 4) 195 [.ref 59] (px_h z E M (px_l sw c2 w2 T D S S1 K R C W U q q1 B0 B1 B2 B3)) Q := by
  have ho := hK.2.2.1
  have h7 := ho.1.2.2.2.1
  have hwl := sp_who_lt (c := c) (b := b) h7
  simp only [e195, q195_0, q195_1, xc_x, xg_x_0, xg_x_1, xg_x_2, xg_x_3, xg_x_4, xg_x_5, xg_x_6, xg_x_7, xg_x_8, xg_x_9, xg_x_10, xg_x_11, xg_x_12, xg_x_13, xg_x_14, xs_x_14, xg_x_15, xs_x_15, isl_i, isl_r, isl_n]
  apply t_who hK hc hh hS hb hB
  generalize sp_who s c b = wh at *
  have hbw := bc_le wh
  simp only [sl_i, q195_4r, q195_5, q195_6, isl_i, isl_r, isl_n]
  apply t_bitCount hwl
  simp only [sl_i, q195_9i, q195_10, q195_11i, q195_12, q195_13i, q195_15, q195_16, q195_19, q195_20, q195_23, xc_x, xg_x_0, xg_x_1, xg_x_2, xg_x_3, xg_x_4, xg_x_5, xg_x_6, xg_x_7, xg_x_8, xg_x_9, xg_x_10, xg_x_11, xg_x_12, xg_x_13, xg_x_14, xs_x_14, xg_x_15, xs_x_15, xc_S1, xg_S1_0, xs_S1_0, xg_S1_1, xs_S1_1, xg_S1_2, xa_S1_places, xb_S1_places, xn_S1_places, wx_some, wx_ref, isl_i, isl_r, isl_n]
  apply t_copy hS.2.2.1.1 hl1
  simp only [sl_n, q195_26, q195_27i, isl_i, isl_r, isl_n]
  have hle : ∀ k, (sp_ak s c wh k).1 ≤ 7 := by
    intro k
    induction k with
    | zero => exact hbw
    | succ k ih =>
      rw [sp_ak]
      split
      · show sp_gr s c wh k ≤ 7; omega
      · exact ih
  have key2 : ∀ (t : Nat), t ≤ 40 → ∀ (S1' : px_S), SCx s S1' (sp_onk s t c) → (∀ l6 l7 l8, ww (mp_P fx) (d + 4) 195 106 [some (.ref 59), some (.int (nI wh)), some (.int (nI (bc wh))), some (.int (sp_ak s c wh (10 * t + 10)).2), some (.int (nI (sp_ak s c wh (10 * t + 10)).1)), some (.int (nI t)), l6, l7, l8] [] (px_h z E M (px_l sw c2 w2 T D S (S1') K R C W U q q1 B0 B1 B2 B3)) Q) → ∀ (m p : Nat) (l7 l8 : Option Value), p + m = 10 → ww (mp_P fx) (d + 4) 195 39 [some (.ref 59), some (.int (nI wh)), some (.int (nI (bc wh))), some (.int (sp_ak s c wh (10 * t + p)).2), some (.int (nI (sp_ak s c wh (10 * t + p)).1)), some (.int (nI t)), some (.int (nI p)), l7, l8] [] (px_h z E M (px_l sw c2 w2 T D S (S1') K R C W U q q1 B0 B1 B2 B3)) Q := by
    intro t ht S1' hS1 hgo m
    induction m with
    | zero =>
      intro p l7 l8 hp
      have hp2 : p = 10 := by omega
      subst hp2
      rw [q195_39]
      simp only [q195_41, q195_43]
      rw [if_pos (by decide)]
      exact hgo _ l7 l8
    | succ m ih =>
      intro p l7 l8 hp
      have hct := (c_onk hc t (by omega)).1
      have hth : cn (fun w => wh.testBit w && decide ((sp_onk s t c).2.2 w = p)) (k_nW s) = sp_th s c wh (10 * t + p) := by
        unfold sp_th
        rw [show (10 * t + p) / 10 = t by omega, show (10 * t + p) % 10 = p by omega]
      have hthl := sp_th_le (c := c) (wh := wh) (k := 10 * t + p) h7
      have hmask : bmk (fun w => decide ((sp_onk s t c).2.2 w = p)) (k_nW s) < 128 := Nat.lt_of_lt_of_le bmk_lt (p27 h7)
      have hgr : sp_gr s c wh (10 * t + p) = max (sp_th s c wh (10 * t + p)) (bc wh - sp_th s c wh (10 * t + p)) := rfl
      have hl' := hle (10 * t + p)
      rw [q195_39]
      simp only [q195_41, q195_43, q195_46, q195_47, q195_50, q195_52, q195_53, q195_56, q195_59, xc_x, xg_x_0, xg_x_1, xg_x_2, xg_x_3, xg_x_4, xg_x_5, xg_x_6, xg_x_7, xg_x_8, xg_x_9, xg_x_10, xg_x_11, xg_x_12, xg_x_13, xg_x_14, xs_x_14, xg_x_15, xs_x_15, xc_S1, xg_S1_0, xs_S1_0, xg_S1_1, xs_S1_1, xg_S1_2, xa_S1_places, xb_S1_places, xn_S1_places, xc_q, xg_q_0, xg_q_1, xs_q_1, xg_q_2, xg_q_3, xg_q_4, xs_q_4, xg_q_5, xg_q_6, xg_q_7, xg_q_8, xs_q_8, xg_q_9, xs_q_9, xg_q_10, xg_q_11, xg_q_12, xg_q_13, xg_q_14, xg_q_15, xg_q_16, xs_q_16, xg_q_17, xg_q_18, xs_q_18, xg_q_19, xa_q_sortNames, xb_q_sortNames, xn_q_sortNames, xa_q_colourNames, xb_q_colourNames, xn_q_colourNames, xa_q_colourSorts, xb_q_colourSorts, xn_q_colourSorts, xa_q_ruleMakes, xb_q_ruleMakes, xn_q_ruleMakes, xa_q_ruleFirsts, xb_q_ruleFirsts, xn_q_ruleFirsts, xa_q_ruleSeconds, xb_q_ruleSeconds, xn_q_ruleSeconds, xa_q_walkerNames, xb_q_walkerNames, xn_q_walkerNames, xa_q_kinds, xb_q_kinds, xn_q_kinds, xa_q_walkerColours, xb_q_walkerColours, xn_q_walkerColours, xa_q_starts, xb_q_starts, xn_q_starts, xa_q_stepRows, xb_q_stepRows, xn_q_stepRows, xa_q_stepCounts, xb_q_stepCounts, xn_q_stepCounts, xa_q_gusts, xb_q_gusts, xn_q_gusts, xc_ql, xg_ql_0, xg_ql_1, xs_ql_1, xg_ql_2, xg_ql_3, xs_ql_3, xa_q_parts, xb_q_parts, xn_q_parts, xa_q_stack, xb_q_stack, xn_q_stack, wx_some, wx_ref, hK.1.2.1.2.2.2.1]
      rw [nl_10, if_neg (by rw [nI_leI (by omega) (by omega)]; omega)]
      apply t_stand ho hct hS1 (by omega) rfl
      simp only [sl_i, q195_62, q195_63, q195_64, k7_and3 _ hmask _ hwl]
      apply t_bitCount (Nat.lt_of_le_of_lt Nat.and_le_left hmask)
      rw [bc_and h7, hth]
      simp only [sl_i, q195_67i, q195_69, q195_71, q195_72, q195_74, q195_75, q195_78i, q195_80, q195_82, q195_84, q195_87, q195_89i, q195_91, q195_93, q195_95, q195_96, q195_98, q195_99i, q195_100i, q195_103, isl_i, isl_r, isl_n, nI_sub hthl, nI_max (show sp_th s c wh (10 * t + p) < 2 ^ 31 by omega) (show bc wh - sp_th s c wh (10 * t + p) < 2 ^ 31 by omega), ← hgr, nl_10, pk_mul, nI_add, nI_1]
      have hgrl : sp_gr s c wh (10 * t + p) ≤ 7 := by rw [hgr]; omega
      have hgo2 := fun l7 l8 => ih (p + 1) l7 l8 (by omega)
      rw [show 10 * t + (p + 1) = 10 * t + p + 1 by omega, sp_ak] at hgo2
      by_cases e : sp_gr s c wh (10 * t + p) < (sp_ak s c wh (10 * t + p)).1
      · rw [if_pos e] at hgo2
        rw [if_neg (by rw [nI_leI (by omega) (by omega)]; omega)]
        exact hgo2 _ _
      · rw [if_neg e] at hgo2
        rw [if_pos (by rw [nI_leI (by omega) (by omega)]; omega)]
        exact hgo2 _ _
  have key1 : ∀ (m t : Nat) (l6 l7 l8 : Option Value) (S1' : px_S), t + m = 41 → SCx s S1' (sp_onk s t c) → ww (mp_P fx) (d + 4) 195 29 [some (.ref 59), some (.int (nI wh)), some (.int (nI (bc wh))), some (.int (sp_ak s c wh (10 * t)).2), some (.int (nI (sp_ak s c wh (10 * t)).1)), some (.int (nI t)), l6, l7, l8] [] (px_h z E M (px_l sw c2 w2 T D S (S1') K R C W U q q1 B0 B1 B2 B3)) Q := by
    intro m
    induction m with
    | zero =>
      intro t l6 l7 l8 S1' ht hS1
      have ht2 : t = 41 := by omega
      subst ht2
      rw [q195_29]
      simp only [q195_31, q195_33, q195_123, q195_124]
      rw [if_pos (by decide)]
      exact hq S1' hS1.2.2.1.1
    | succ m ih =>
      intro t l6 l7 l8 S1' ht hS1
      have hct := c_onk hc t (by omega)
      rw [q195_29]
      simp only [q195_31, q195_33, q195_36, q195_37i, isl_i, isl_r, isl_n]
      rw [show (40 : Int32) = nI 40 from rfl, if_neg (by rw [nI_ltI (by omega) (by omega)]; omega)]
      refine key2 t (by omega) S1' hS1 (fun l6 l7 l8 => ?_) 10 0 l7 l8 (by omega)
      simp only [q195_106, q195_107, q195_110, q195_111, q195_114, xc_x, xg_x_0, xg_x_1, xg_x_2, xg_x_3, xg_x_4, xg_x_5, xg_x_6, xg_x_7, xg_x_8, xg_x_9, xg_x_10, xg_x_11, xg_x_12, xg_x_13, xg_x_14, xs_x_14, xg_x_15, xs_x_15, xc_S1, xg_S1_0, xs_S1_0, xg_S1_1, xs_S1_1, xg_S1_2, xa_S1_places, xb_S1_places, xn_S1_places, xc_q, xg_q_0, xg_q_1, xs_q_1, xg_q_2, xg_q_3, xg_q_4, xs_q_4, xg_q_5, xg_q_6, xg_q_7, xg_q_8, xs_q_8, xg_q_9, xs_q_9, xg_q_10, xg_q_11, xg_q_12, xg_q_13, xg_q_14, xg_q_15, xg_q_16, xs_q_16, xg_q_17, xg_q_18, xs_q_18, xg_q_19, xa_q_sortNames, xb_q_sortNames, xn_q_sortNames, xa_q_colourNames, xb_q_colourNames, xn_q_colourNames, xa_q_colourSorts, xb_q_colourSorts, xn_q_colourSorts, xa_q_ruleMakes, xb_q_ruleMakes, xn_q_ruleMakes, xa_q_ruleFirsts, xb_q_ruleFirsts, xn_q_ruleFirsts, xa_q_ruleSeconds, xb_q_ruleSeconds, xn_q_ruleSeconds, xa_q_walkerNames, xb_q_walkerNames, xn_q_walkerNames, xa_q_kinds, xb_q_kinds, xn_q_kinds, xa_q_walkerColours, xb_q_walkerColours, xn_q_walkerColours, xa_q_starts, xb_q_starts, xn_q_starts, xa_q_stepRows, xb_q_stepRows, xn_q_stepRows, xa_q_stepCounts, xb_q_stepCounts, xn_q_stepCounts, xa_q_gusts, xb_q_gusts, xn_q_gusts, xc_ql, xg_ql_0, xg_ql_1, xs_ql_1, xg_ql_2, xg_ql_3, xs_ql_3, xa_q_parts, xb_q_parts, xn_q_parts, xa_q_stack, xb_q_stack, xn_q_stack, wx_some, wx_ref]
      apply t_goOnS1 hK.1 ho hct.1 hS1
      intro S2 hS2
      simp only [sl_n, q195_117i, q195_120, isl_i, isl_r, isl_n, nI_1]
      have := ih (t + 1) l6 l7 l8 S2 (by omega) hS2
      rw [show 10 * (t + 1) = 10 * t + 10 by omega] at this
      exact this
  exact key1 41 0 none none none S (by omega) hS
end TA
section MA
variable {fx : List Value → mm_H → Option (List Value × mm_H)} {z : Nat} {X Y : Nat → mm_C} {mV : pm_V} {mT : pm_T} {mQ : pm_Q} {mO : pm_O} {mE : pm_E} {mB : pm_B} {mS : pm_S} {mR : pm_R} {mW : pm_W} {m_thrown : Int32} {m_given : Int32} {m_fresh : Int64} {m_code : Int32} {m_taped : Int32} {m_tape : List Int32} {m_size : Int32} {m_place : Int32} {m_begin : Int32} {m_token : Int32} {m_word : Int64} {m_told : Int32} {m_wrong : Int32} {m_square : List Int32} {m_sortName : List Int64} {m_colourName : List Int64} {m_walkerName : List Int64} {m_sortOf : List Int32} {m_rules : List Int32} {m_kind : List Int32} {m_colour : List Int32} {m_atTold : List Int32} {m_goesMany : List Int32} {m_goes : List Int32} {m_gusts : List Int32} {m_lineFrom : List Int32} {m_lineTo : List Int32} {m_codes : List Int32} {m_opened : List Int32} {m_compared : List Int32} {m_kept : List Int32} {m_keptBy : List Int32} {m_ahead : List Int32} {m_against : List Int32} {m_sum : List Int32} {m_sumBy : List Int32} {m_term : List Int32} {m_termBy : List Int32} {m_byNot : List Int32} {m_valueOf : List Int32} {m_lines : List Int32} {m_lineWhat : List Int32} {m_lineA : List Int32} {m_lineB : List Int32} {m_wishes : List Int32} {m_wishOf : List Int32} {m_seens : List Int32} {m_seenAt : List Int32} {m_seenIn : List Int32} {m_seenThere : List Int32} {m_s : List Int32} {m_aside : List Int32} {m_before : List Int32} {m_marked : List Int32} {m_undone : List Int32} {m_isLaid : List Int32} {m_done : Int32} {m_gustNow : Int32} {m_shown : List Int32} {m_shownMany : Int32} {m_from7 : List Int32} {m_long7 : List Int32} {m_sentences : Int32} {m_text7 : List Int32} {m_textMany : Int32} {m_waysOf : List Int32} {m_rowOf : List Int32} {m_row : List Int32} {m_bestRow : List Int32} {m_leastSteps : Int32} {m_steps10 : List Int32} {m_placeIn : List Int32} {m_g : Int64}
variable {d : Nat} {Q : Option Value → mm_H → Prop} {s : SQ} {c : SC} {nm : NMs} {b : BK}
def PLm (s : SQ) (c : SC) (n : Nat) (xs : List Int32) : Prop := xs.length = 287 ∧ ∀ t, t < n → ∀ w, w < 7 → xs[7 * t + w]? = some (nI (if w < k_nW s then (sp_onk s t c).2.2 w else 0))
theorem tm_laysPlaces (hK : KM nm s mQ) (hc : c_ok s c) (hh : c.1 + 100 < 2 ^ 20) (hS : SCm s mS.1 c) (hb9 : (mS.2.2.1).length = 9) (hl : (mW.2.2.2.2.1).length = 287) (hq : ∀ pl, PLm s c 41 pl → Q none (pm_h z X Y (pm_l mV mT mQ mO mE mB ((mS.1, mS.2.1, mS.1, mS.2.2.2.1, mS.2.2.2.2.1, mS.2.2.2.2.2.1, mS.2.2.2.2.2.2.1, mS.2.2.2.2.2.2.2)) mR ((mW.1, mW.2.1, mW.2.2.1, mW.2.2.2.1, pl, mW.2.2.2.2.2))))) : wm (mp_P fx) (d + 3) 318 [.ref 149] (pm_h z X Y (pm_l mV mT mQ mO mE mB mS mR mW)) Q := by
  have hs9 := hS.1
  have ho := hK.2.2.1
  simp only [e318, q318_0, q318_1, q318_4, q318_5, q318_6, q318_9, q318_10, mc_o, mg_s, ma_s, mb_s, mn_s, mg_before, ma_before, mb_before, mn_before, wx_some, wx_ref, isl_i, isl_r, isl_n]
  apply tm_savebefore hs9 hb9
  simp only [sl_n, q318_13, q318_14r, isl_i, isl_r, isl_n]
  have key2 : ∀ (t : Nat), t ≤ 40 → ∀ (r : List Int32), SCm s r (sp_onk s t c) → (∀ pl l2, PLm s c (t + 1) pl → ww (mp_P fx) (d + 3) 318 54 [some (.ref 149), some (.int (nI t)), l2] [] (pm_h z X Y (pm_l mV mT mQ mO mE mB ((r, mS.2.1, mS.1, mS.2.2.2.1, mS.2.2.2.2.1, mS.2.2.2.2.2.1, mS.2.2.2.2.2.2.1, mS.2.2.2.2.2.2.2)) mR ((mW.1, mW.2.1, mW.2.2.1, mW.2.2.2.1, pl, mW.2.2.2.2.2)))) Q) → ∀ (m w : Nat) (pl : List Int32), w + m = 7 → PLm s c t pl → (∀ i, i < w → pl[7 * t + i]? = some (nI (if i < k_nW s then (sp_onk s t c).2.2 i else 0))) → ww (mp_P fx) (d + 3) 318 23 [some (.ref 149), some (.int (nI t)), some (.int (nI w))] [] (pm_h z X Y (pm_l mV mT mQ mO mE mB ((r, mS.2.1, mS.1, mS.2.2.2.1, mS.2.2.2.2.1, mS.2.2.2.2.2.1, mS.2.2.2.2.2.2.1, mS.2.2.2.2.2.2.2)) mR ((mW.1, mW.2.1, mW.2.2.1, mW.2.2.2.1, pl, mW.2.2.2.2.2)))) Q := by
    intro t ht r hr hgo m
    induction m with
    | zero =>
      intro w pl hw hP hI
      have hw2 : w = 7 := by omega
      subst hw2
      rw [q318_23]
      simp only [q318_24, q318_26]
      rw [if_pos (by decide)]
      refine hgo pl _ ⟨hP.1, fun t' ht' i hi => ?_⟩
      by_cases e : t' = t
      · subst e; exact hI i hi
      · exact hP.2 t' (by omega) i hi
    | succ m ih =>
      intro w pl hw hP hI
      have hpl := hP.1
      have hr9 := hr.1
      have g1 := hr.2.2.2 w (by omega)
      rw [q318_23]
      simp only [q318_24, q318_26, q318_29, q318_30, q318_33, q318_35, q318_36, q318_37, q318_38, q318_39, q318_40, q318_43, q318_44, q318_45, q318_46, q318_47, q318_48i, q318_51, mc_o, mg_s, ma_s, mb_s, mn_s, mg_placeIn, ma_placeIn, mb_placeIn, mn_placeIn, wx_some, wx_ref, isl_i, isl_r, isl_n, nl_1, nl_2, nl_7, pk_mul, nI_add, aG_n g1 (show r.length < 2 ^ 31 by omega), aS_n (show 7 * t + w < pl.length by omega) (show pl.length < 2 ^ 31 by omega)]
      rw [if_neg (by rw [nI_leI (by omega) (by omega)]; omega)]
      refine ih (w + 1) _ (by omega) ⟨by rw [List.length_set]; exact hpl, fun t' ht' i hi => ?_⟩ (fun i hi => ?_)
      · rw [List.getElem?_set_ne (by omega)]; exact hP.2 t' ht' i hi
      · rw [List.getElem?_set]
        by_cases e : w = i
        · subst e; rw [if_pos rfl, if_pos (by omega)]
        · rw [if_neg (by omega)]; exact hI i (by omega)
  have key1 : ∀ (m t : Nat) (l2 : Option Value) (r pl : List Int32), t + m = 41 → SCm s r (sp_onk s t c) → PLm s c t pl → ww (mp_P fx) (d + 3) 318 15 [some (.ref 149), some (.int (nI t)), l2] [] (pm_h z X Y (pm_l mV mT mQ mO mE mB ((r, mS.2.1, mS.1, mS.2.2.2.1, mS.2.2.2.2.1, mS.2.2.2.2.2.1, mS.2.2.2.2.2.2.1, mS.2.2.2.2.2.2.2)) mR ((mW.1, mW.2.1, mW.2.2.1, mW.2.2.2.1, pl, mW.2.2.2.2.2)))) Q := by
    intro m
    induction m with
    | zero =>
      intro t l2 r pl ht hr hP
      have ht2 : t = 41 := by omega
      subst ht2
      rw [q318_15]
      simp only [q318_16, q318_18, q318_64, q318_65, q318_68, q318_69, q318_70, q318_73, q318_74, mc_o, mg_s, ma_s, mb_s, mn_s, mg_before, ma_before, mb_before, mn_before, wx_some, wx_ref]
      rw [if_pos (by decide)]
      apply tm_backbefore hr.1 hs9
      simp only [sl_n, q318_77]
      exact hq pl hP
    | succ m ih =>
      intro t l2 r pl ht hr hP
      have hct := (c_onk hc t (by omega)).1
      rw [q318_15]
      simp only [q318_16, q318_18, q318_21, q318_22i, isl_i, isl_r, isl_n]
      rw [show (40 : Int32) = nI 40 from rfl, if_neg (by rw [nI_ltI (by omega) (by omega)]; omega)]
      refine key2 t (by omega) r hr (fun pl2 l2 hP2 => ?_) 7 0 pl (by omega) hP (fun i hi => by omega)
      simp only [q318_54, q318_55, mc_o]
      apply tm_passes (mS := (r, mS.2.1, mS.1, mS.2.2.2.1, mS.2.2.2.2.1, mS.2.2.2.2.2.1, mS.2.2.2.2.2.2.1, mS.2.2.2.2.2.2.2)) hK.1 ho hct hr
      intro r2 hr2
      simp only [sl_n, q318_58r, q318_61, isl_i, isl_r, isl_n, nI_1]
      exact ih (t + 1) l2 r2 pl2 (by omega) hr2 hP2
  exact key1 41 0 none mS.1 mW.2.2.2.2.1 (by omega) hS ⟨hl, fun t ht => by omega⟩
theorem tm_isAsSeen {w : Nat} (ho : k_ok s) (hc : c_ok s c) (hh : c.1 + 100 < 2 ^ 20) (hP : PLm s c 41 mW.2.2.2.2.1) (hb : b_ok s b) (hL : BLm mB) (hB : BKm b mB 0) (hw : w < k_nW s) (hq : Q (some (.int (if sp_fit s c b w = true then 1 else 0))) (pm_h z X Y (pm_l mV mT mQ mO mE mB mS mR mW))) : wm (mp_P fx) d 319 [.ref 149, .int (nI w)] (pm_h z X Y (pm_l mV mT mQ mO mE mB mS mR mW)) Q := by
  have h7 := ho.1.2.2.2.1
  have hb8 := hb.2.2.1
  obtain ⟨-, -, -, -, -, -, l7, l8, l9, l10⟩ := hL
  have hpl := hP.1
  simp only [e319, b319_0, b319_1, bn_0 b319_0, bn_1 b319_1, q319_0, q319_1i, isl_i, isl_r, isl_n]
  have key : ∀ (m i : Nat), i + m = b.2.2.1 → (∀ j, j < i → sp_bad s c b w j = false) → ww (mp_P fx) d 319 2 [some (.ref 149), some (.int (nI w)), some (.int (nI i))] [] (pm_h z X Y (pm_l mV mT mQ mO mE mB mS mR mW)) Q := by
    intro m
    induction m with
    | zero =>
      intro i hi hI
      have hi2 : i = b.2.2.1 := by omega
      subst hi2
      have hf : sp_fit s c b w = true := by unfold sp_fit; rw [ffl_none _ hI]; rfl
      rw [hf, if_pos rfl] at hq
      rw [q319_2]
      simp only [e319, b319_0, b319_1, bn_0 b319_0, bn_1 b319_1, q319_0, q319_1i, q319_3, q319_4, q319_7, q319_8, q319_9, q319_12, q319_13, q319_16, q319_18, q319_19, q319_22, q319_23, q319_24, q319_25, q319_26, q319_27, q319_28, q319_29, q319_32, q319_33, q319_34, q319_37, q319_38, q319_41, q319_42, q319_43, q319_46, q319_47, q319_48, q319_51, q319_52, q319_53i, q319_56, q319_59, q319_60, mc_o, mg_seens, ma_seens, mb_seens, mn_seens, wx_some, wx_ref, show aG (mB.2.2.2.2.2.2.1) 0 = some (nI b.2.2.1) from aG_n hB.2.2.1 (by omega)]
      rw [if_pos (by rw [nI_leI (by omega) (by omega)]; omega)]
      exact hq
    | succ m ih =>
      intro i hi hI
      obtain ⟨u1, u2⟩ := hb.2.2.2 i (by omega)
      obtain ⟨y1, y2, y3⟩ := hB.2.2.2 i (by omega)
      rw [Nat.mul_zero, Nat.zero_add] at y1 y2 y3
      have hbad : sp_bad s c b w i = (decide ((sp_onk s (b.2.2.2 i).2.1 c).2.2 w = (b.2.2.2 i).1) != (b.2.2.2 i).2.2) := rfl
      generalize hsi : b.2.2.2 i = l at *
      obtain ⟨p, t, th⟩ := l
      simp only [] at u1 u2 y1 y2 y3 hbad
      have hct := (c_onk hc t (by omega)).1
      have hpt := hct.2.2 w hw
      have gp := hP.2 t (by omega) w (by omega)
      rw [if_pos hw] at gp
      have fin : ∀ v : Int32, v = (if decide ((sp_onk s t c).2.2 w = p) = true then 1 else 0) → ww (mp_P fx) d 319 42 [some (.ref 149), some (.int (nI w)), some (.int (nI i))] [.int v] (pm_h z X Y (pm_l mV mT mQ mO mE mB mS mR mW)) Q := by
        intro v hv
        simp only [b319_0, b319_1, bn_0 b319_0, bn_1 b319_1, q319_42, q319_43, q319_46, q319_47, q319_48, q319_51, q319_52, q319_53i, q319_56, mc_o, mg_seenThere, ma_seenThere, mb_seenThere, mn_seenThere, wx_some, wx_ref, isl_i, isl_r, isl_n, aG_n y3 (show (mB.2.2.2.2.2.2.2.2.2).length < 2 ^ 31 by omega), nI_1]
        by_cases ebad : sp_bad s c b w i = true
        · have hf : sp_fit s c b w = false := by unfold sp_fit; rw [ffl_at hI ebad _ (by omega)]; rfl
          rw [hf, if_neg Bool.false_ne_true] at hq
          rw [if_neg (fun z => by
            rw [hbad] at ebad
            rw [hv] at z
            generalize decide ((sp_onk s t c).2.2 w = p) = y at ebad z
            cases y <;> cases th <;> first | (exact absurd ebad (by decide)) | (exact absurd z (by simp)))]
          exact hq
        · rw [if_pos (by
            rw [hbad] at ebad
            rw [hv]
            generalize decide ((sp_onk s t c).2.2 w = p) = y at ebad
            cases y <;> cases th <;> first | rfl | (exact absurd rfl ebad))]
          refine ih (i + 1) (by omega) (fun j hj => ?_)
          by_cases ej : j = i
          · subst ej; exact Bool.eq_false_iff.mpr ebad
          · exact hI j (by omega)
      rw [q319_2]
      simp only [b319_0, b319_1, bn_0 b319_0, bn_1 b319_1, q319_3, q319_4, q319_7, q319_8, q319_9, q319_12, q319_13, q319_16, q319_18, q319_19, q319_22, q319_23, q319_24, q319_25, q319_26, q319_27, q319_28, q319_29, q319_32, q319_33, q319_34, q319_37, q319_38, q319_41, mc_o, mg_seens, ma_seens, mb_seens, mn_seens, mg_seenIn, ma_seenIn, mb_seenIn, mn_seenIn, mg_seenAt, ma_seenAt, mb_seenAt, mn_seenAt, mg_placeIn, ma_placeIn, mb_placeIn, mn_placeIn, wx_some, wx_ref, show aG (mB.2.2.2.2.2.2.1) 0 = some (nI b.2.2.1) from aG_n hB.2.2.1 (by omega), aG_n y1 (show (mB.2.2.2.2.2.2.2.1).length < 2 ^ 31 by omega), aG_n y2 (show (mB.2.2.2.2.2.2.2.2.1).length < 2 ^ 31 by omega), nl_7, pk_mul, nI_add, aG_n gp (show (mW.2.2.2.2.1).length < 2 ^ 31 by omega)]
      rw [if_neg (by rw [nI_leI (by omega) (by omega)]; omega)]
      by_cases e : (sp_onk s t c).2.2 w = p
      · rw [if_neg (by rw [e]; exact fun z => z rfl)]
        exact fin 1 (by rw [decide_eq_true e]; rfl)
      · rw [if_pos (by rw [nI_eq (by omega) (by omega)]; exact e)]
        exact fin 0 (by rw [decide_eq_false e]; rfl)
  exact key b.2.2.1 0 (by omega) (fun j hj => by omega)
theorem tm_who (hK : KM nm s mQ) (hc : c_ok s c) (hh : c.1 + 100 < 2 ^ 20) (hS : SCm s mS.1 c) (hb9 : (mS.2.2.1).length = 9) (hl : (mW.2.2.2.2.1).length = 287) (hb : b_ok s b) (hL : BLm mB) (hB : BKm b mB 0) (hq : ∀ pl, PLm s c 41 pl → Q (some (.int (nI (sp_who s c b)))) (pm_h z X Y (pm_l ((0, mV.2.1, mV.2.2.1, mV.2.2.2)) mT mQ mO mE mB ((mS.1, mS.2.1, mS.1, mS.2.2.2.1, mS.2.2.2.2.1, mS.2.2.2.2.2.1, mS.2.2.2.2.2.2.1, mS.2.2.2.2.2.2.2)) mR ((mW.1, mW.2.1, mW.2.2.1, mW.2.2.2.1, pl, mW.2.2.2.2.2))))) : wm (mp_P fx) (d + 4) 317 [.ref 149] (pm_h z X Y (pm_l mV mT mQ mO mE mB mS mR mW)) Q := by
  have ho := hK.2.2.1
  have h7 := ho.1.2.2.2.1
  have hsl := hK.1.1.1
  have hn := hK.1.2.1.2.2.2.1
  simp only [e317, q317_0, q317_1, q317_2, q317_5, q317_6, mc_o, mg_thrown, mf_thrown, wx_some, wx_ref, isl_i, isl_r, isl_n]
  apply tm_laysPlaces hK hc hh hS hb9 hl
  intro pl hP
  simp only [sl_n, q317_9, q317_10r, q317_11, q317_12i, isl_i, isl_r, isl_n]
  have key : ∀ (m w : Nat), w + m = k_nW s → ww (mp_P fx) (d + 4) 317 13 [some (.ref 149), some (.int (nI (bmk (sp_fit s c b) w))), some (.int (nI w))] [] (pm_h z X Y (pm_l ((0, mV.2.1, mV.2.2.1, mV.2.2.2)) mT mQ mO mE mB ((mS.1, mS.2.1, mS.1, mS.2.2.2.1, mS.2.2.2.2.1, mS.2.2.2.2.2.1, mS.2.2.2.2.2.2.1, mS.2.2.2.2.2.2.2)) mR ((mW.1, mW.2.1, mW.2.2.1, mW.2.2.2.1, pl, mW.2.2.2.2.2)))) Q := by
    intro m
    induction m with
    | zero =>
      intro w hw
      have hw2 : w = k_nW s := by omega
      subst hw2
      rw [q317_13]
      simp only [q317_14, q317_15, q317_18, q317_19, q317_20, q317_47, q317_48, mc_o, mg_square, ma_square, mb_square, mn_square, wx_some, wx_ref, nl_3, aG_n hn (show (mQ.1).length < 2 ^ 31 by omega)]
      rw [if_pos (by rw [nI_leI (by omega) (by omega)]; omega)]
      exact hq pl hP
    | succ m ih =>
      intro w hw
      have hlt : bmk (sp_fit s c b) w < 128 := Nat.lt_of_lt_of_le bmk_lt (p27 (by omega))
      have hgo := ih (w + 1) (by omega)
      rw [bmk] at hgo
      rw [q317_13]
      simp only [q317_14, q317_15, q317_18, q317_19, q317_20, q317_23, q317_24, q317_25, q317_26, mc_o, mg_square, ma_square, mb_square, mn_square, wx_some, wx_ref, nl_3, aG_n hn (show (mQ.1).length < 2 ^ 31 by omega)]
      rw [if_neg (by rw [nI_leI (by omega) (by omega)]; omega)]
      apply tm_isAsSeen (mW := (mW.1, mW.2.1, mW.2.2.1, mW.2.2.2.1, pl, mW.2.2.2.2.2)) ho hc hh hP hb hL hB (show w < k_nW s by omega)
      simp only [sl_i, q317_29, q317_32, q317_33, q317_34, q317_35, q317_38, q317_39, q317_40r, q317_41i, q317_44, isl_i, isl_r, isl_n, k7_or _ hlt w (show w < 7 by omega), nI_1]
      by_cases e : sp_fit s c b w = true
      · rw [if_pos e] at hgo ⊢
        rw [if_neg (by decide)]
        exact hgo
      · rw [if_neg e, Nat.or_zero] at hgo
        rw [if_neg e, if_pos (by decide), Int32.or_zero]
        exact hgo
  exact key (k_nW s) 0 (by omega)
theorem tm_ask (hK : KM nm s mQ) (hc : c_ok s c) (hh : c.1 + 100 < 2 ^ 20) (hS : SCm s mS.1 c) (hb9 : (mS.2.2.1).length = 9) (hl : (mW.2.2.2.2.1).length = 287) (hb : b_ok s b) (hL : BLm mB) (hB : BKm b mB 0) (hq : ∀ pl, pl.length = 287 → Q (some (.int (sp_ak s c (sp_who s c b) 410).2)) (pm_h z X Y (pm_l ((0, mV.2.1, mV.2.2.1, mV.2.2.2)) mT mQ mO mE mB ((mS.1, mS.2.1, mS.1, mS.2.2.2.1, mS.2.2.2.2.1, mS.2.2.2.2.2.1, mS.2.2.2.2.2.2.1, mS.2.2.2.2.2.2.2)) mR ((mW.1, mW.2.1, mW.2.2.1, mW.2.2.2.1, pl, mW.2.2.2.2.2))))) : wm (mp_P fx) (d + 5) 320 [.ref 149] (pm_h z X Y (pm_l mV mT mQ mO mE mB mS mR mW)) Q := by
  have ho := hK.2.2.1
  have h7 := ho.1.2.2.2.1
  have hsl := hK.1.1.1
  have hn := hK.1.2.1.2.2.2.1
  have hwl := sp_who_lt (c := c) (b := b) h7
  simp only [e320, q320_0, q320_1, q320_2, q320_5, q320_6, mc_o, mg_thrown, mf_thrown, wx_some, wx_ref, isl_i, isl_r, isl_n]
  apply tm_who hK hc hh hS hb9 hl hb hL hB
  intro pl hP
  have hpl := hP.1
  generalize sp_who s c b = wh at *
  have hbw := bc_le wh
  simp only [sl_i, q320_9r, q320_10, q320_11, isl_i, isl_r, isl_n]
  apply tm_bits hwl
  simp only [sl_i, q320_14i, q320_15, q320_16i, q320_17, q320_18i, q320_20, q320_21i, isl_i, isl_r, isl_n]
  have hle : ∀ k, (sp_ak s c wh k).1 ≤ 7 := by
    intro k
    induction k with
    | zero => exact hbw
    | succ k ih =>
      rw [sp_ak]
      split
      · show sp_gr s c wh k ≤ 7; omega
      · exact ih
  have key2 : ∀ (k : Nat), k < 410 → (∀ l7, ww (mp_P fx) (d + 5) 320 98 [some (.ref 149), some (.int (nI wh)), some (.int (nI (bc wh))), some (.int (nI (sp_ak s c wh k).1)), some (.int (sp_ak s c wh k).2), some (.int (nI k)), some (.int (nI (sp_th s c wh k))), l7] [] (pm_h z X Y (pm_l ((0, mV.2.1, mV.2.2.1, mV.2.2.2)) mT mQ mO mE mB ((mS.1, mS.2.1, mS.1, mS.2.2.2.1, mS.2.2.2.2.1, mS.2.2.2.2.2.1, mS.2.2.2.2.2.2.1, mS.2.2.2.2.2.2.2)) mR ((mW.1, mW.2.1, mW.2.2.1, mW.2.2.2.1, pl, mW.2.2.2.2.2)))) Q) → ∀ (m w : Nat), w + m = k_nW s → ww (mp_P fx) (d + 5) 320 37 [some (.ref 149), some (.int (nI wh)), some (.int (nI (bc wh))), some (.int (nI (sp_ak s c wh k).1)), some (.int (sp_ak s c wh k).2), some (.int (nI k)), some (.int (nI (cn (fun w => wh.testBit w && decide ((sp_onk s (k / 10) c).2.2 w = k % 10)) w))), some (.int (nI w))] [] (pm_h z X Y (pm_l ((0, mV.2.1, mV.2.2.1, mV.2.2.2)) mT mQ mO mE mB ((mS.1, mS.2.1, mS.1, mS.2.2.2.1, mS.2.2.2.2.1, mS.2.2.2.2.2.1, mS.2.2.2.2.2.2.1, mS.2.2.2.2.2.2.2)) mR ((mW.1, mW.2.1, mW.2.2.1, mW.2.2.2.1, pl, mW.2.2.2.2.2)))) Q := by
    intro k hk hgo m
    induction m with
    | zero =>
      intro w hw
      have hw2 : w = k_nW s := by omega
      subst hw2
      rw [q320_37]
      simp only [q320_39, q320_40, q320_43, q320_44, q320_45, mc_o, mg_square, ma_square, mb_square, mn_square, wx_some, wx_ref, nl_3, aG_n hn (show (mQ.1).length < 2 ^ 31 by omega)]
      rw [if_pos (by rw [nI_leI (by omega) (by omega)]; omega)]
      exact hgo _
    | succ m ih =>
      intro w hw
      have hw' : w < k_nW s := by omega
      have hgo2 := ih (w + 1) (by omega)
      rw [cn] at hgo2
      have hct := (c_onk hc (k / 10) (by omega)).1
      have hpt := hct.2.2 w hw'
      have gp := hP.2 (k / 10) (by omega) w (by omega)
      rw [if_pos hw'] at gp
      rw [q320_37]
      simp only [q320_39, q320_40, q320_43, q320_44, q320_45, q320_48, q320_50, q320_51, q320_53, q320_54, q320_55, q320_56, q320_57, q320_60, q320_61, q320_64, q320_66, q320_68, q320_70, q320_71, q320_72, q320_74, q320_75, q320_76, q320_78, q320_80, q320_81, q320_84, q320_85, q320_88, q320_89, q320_90i, q320_92i, q320_95, mc_o, mg_square, ma_square, mb_square, mn_square, mg_placeIn, ma_placeIn, mb_placeIn, mn_placeIn, wx_some, wx_ref, isl_i, isl_r, isl_n, nl_3, aG_n hn (show (mQ.1).length < 2 ^ 31 by omega), k7_bit0 wh hwl w (show w < 7 by omega), if_neg (show ¬ (10 : Int32) = 0 by decide), show nI k / 10 = nI (k / 10) from pk_div (d := 10) (by omega) (by omega) (by omega), show nI k - nI (k / 10) * 10 = nI (k % 10) by rw [← pk_div (d := 10) (show k < 2 ^ 31 by omega) (by omega) (by omega)]; exact nI_mod (b := 10) (by omega) (by omega) (by omega), nl_7, pk_mul, nI_add, aG_n gp (show pl.length < 2 ^ 31 by omega), nI_1]
      rw [if_neg (by rw [nI_leI (by omega) (by omega)]; omega)]
      by_cases eb : wh.testBit w = true
      · rw [eb, Bool.true_and] at hgo2
        rw [if_pos eb, if_neg (by decide)]
        by_cases e : (sp_onk s (k / 10) c).2.2 w = k % 10
        · rw [if_pos (decide_eq_true e)] at hgo2
          rw [if_neg (by rw [e]; exact fun z => z rfl)]
          exact hgo2
        · rw [if_neg (by rw [decide_eq_false e]; exact Bool.false_ne_true)] at hgo2
          rw [if_pos (by rw [nI_eq (by omega) (by omega)]; exact e), Int32.add_zero]
          exact hgo2
      · rw [Bool.eq_false_iff.mpr eb, Bool.false_and, if_neg Bool.false_ne_true] at hgo2
        rw [if_neg eb, if_pos (by decide), Int32.add_zero]
        exact hgo2
  have key1 : ∀ (m k : Nat) (l6 l7 : Option Value), k + m = 410 → ww (mp_P fx) (d + 5) 320 23 [some (.ref 149), some (.int (nI wh)), some (.int (nI (bc wh))), some (.int (nI (sp_ak s c wh k).1)), some (.int (sp_ak s c wh k).2), some (.int (nI k)), l6, l7] [] (pm_h z X Y (pm_l ((0, mV.2.1, mV.2.2.1, mV.2.2.2)) mT mQ mO mE mB ((mS.1, mS.2.1, mS.1, mS.2.2.2.1, mS.2.2.2.2.1, mS.2.2.2.2.2.1, mS.2.2.2.2.2.2.1, mS.2.2.2.2.2.2.2)) mR ((mW.1, mW.2.1, mW.2.2.1, mW.2.2.2.1, pl, mW.2.2.2.2.2)))) Q := by
    intro m
    induction m with
    | zero =>
      intro k l6 l7 hk
      have hk2 : k = 410 := by omega
      subst hk2
      rw [q320_23]
      simp only [q320_25, q320_28, q320_131, q320_133]
      rw [if_pos (by decide)]
      exact hq pl hpl
    | succ m ih =>
      intro k l6 l7 hk
      have hthl := sp_th_le (c := c) (wh := wh) (k := k) h7
      have hl' := hle k
      have hgr : sp_gr s c wh k = max (sp_th s c wh k) (bc wh - sp_th s c wh k) := rfl
      have hgrl : sp_gr s c wh k ≤ 7 := by rw [hgr]; omega
      rw [q320_23]
      simp only [q320_25, q320_28, q320_31, q320_32i, q320_34, q320_35i, isl_i, isl_r, isl_n]
      rw [show (410 : Int32) = nI 410 from rfl, if_neg (by rw [nI_leI (by omega) (by omega)]; omega)]
      refine key2 k (by omega) (fun l7 => ?_) (k_nW s) 0 (by omega)
      have hgo2 := fun l6 => ih (k + 1) l6 l7 (by omega)
      rw [sp_ak] at hgo2
      simp only [q320_98, q320_100, q320_101, q320_103, q320_104, q320_107i, q320_109, q320_111, q320_112, q320_115, q320_118, q320_120i, q320_121, q320_123i, q320_125i, q320_128, isl_i, isl_r, isl_n, nI_sub hthl, nI_max (show sp_th s c wh k < 2 ^ 31 by omega) (show bc wh - sp_th s c wh k < 2 ^ 31 by omega), ← hgr, nI_1]
      by_cases e : sp_gr s c wh k < (sp_ak s c wh k).1
      · rw [if_pos e] at hgo2
        rw [if_pos (by rw [nI_ltI (by omega) (by omega)]; exact e)]
        exact hgo2 _
      · rw [if_neg e] at hgo2
        rw [if_neg (by rw [nI_ltI (by omega) (by omega)]; exact e)]
        exact hgo2 _
  exact key1 410 0 none none (by omega)
end MA
