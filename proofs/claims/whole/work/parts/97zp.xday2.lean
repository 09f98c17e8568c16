/-! the call day, of the class -/
section XZP
variable {fx : List Value → mm_H → Option (List Value × mm_H)} {z : Nat} {E M : Nat → mm_C} {sw c2 w2 : Bool} {T : px_T} {D : px_D} {S : px_S} {S1 : px_S} {K : px_K} {R : px_R} {C : px_C} {W : px_W} {U : px_U} {q : px_q} {q1 : px_q} {B0 : px_K} {B1 : px_K} {B2 : px_K} {B3 : px_K} {T_signs : List Int32} {T_length : Int32} {T_fault : Int32} {T_types : List Int32} {T_starts : List Int32} {T_values : List Int64} {T_tokens : Int32} {T_at : Int32} {T_behind : Int32} {S_hour : Int32} {S_open : Int32} {S_places : List Int32} {S1_hour : Int32} {S1_open : Int32} {S1_places : List Int32} {K_lines : List Int32} {K_lineCount : Int32} {K_wishes : List Int32} {K_wishCount : Int32} {K_sights : List Int32} {K_sightCount : Int32} {R_shown : List Int32} {R_length : Int32} {R_readers : Int32} {R_begins : List Int32} {R_lengths : List Int32} {R_sentences : Int32} {R_order : List Int32} {R_able : Int32} {R_standing : List Int32} {R_lovers : List Int32} {R_lowest : List Int32} {C_ways : List Int32} {C_rows : List Int32} {C_shallower : List Int32} {C_length : Int32} {C_goal : Int32} {W_row : List Int32} {W_walkers : Int32} {W_names : Int32} {W_wanted : List Int32} {W_shown : List Int32} {W_places : List Int32} {W_rest : List Int32} {W_spent : List Int32} {W_tried : List Int32} {U_undoRows : List Int64} {U_markScenes : List Int64} {U_marksLaid : List Int32} {U_undoCount : Int32} {U_undoEnd : Int32} {q_sortNames : List Int64} {q_sortCount : Int32} {q_colourNames : List Int64} {q_colourSorts : List Int32} {q_colourCount : Int32} {q_ruleMakes : List Int32} {q_ruleFirsts : List Int32} {q_ruleSeconds : List Int32} {q_ruleCount : Int32} {q_saysSort : Int32} {q_walkerNames : List Int64} {q_kinds : List Int32} {q_walkerColours : List Int32} {q_starts : List Int32} {q_stepRows : List Int32} {q_stepCounts : List Int32} {q_walkerCount : Int32} {q_gusts : List Int32} {q_gustCount : Int32} {q_parts : List Int32} {q_count : Int32} {q_stack : List Int32} {q_height : Int32} {q1_sortNames : List Int64} {q1_sortCount : Int32} {q1_colourNames : List Int64} {q1_colourSorts : List Int32} {q1_colourCount : Int32} {q1_ruleMakes : List Int32} {q1_ruleFirsts : List Int32} {q1_ruleSeconds : List Int32} {q1_ruleCount : Int32} {q1_saysSort : Int32} {q1_walkerNames : List Int64} {q1_kinds : List Int32} {q1_walkerColours : List Int32} {q1_starts : List Int32} {q1_stepRows : List Int32} {q1_stepCounts : List Int32} {q1_walkerCount : Int32} {q1_gusts : List Int32} {q1_gustCount : Int32} {q1_parts : List Int32} {q1_count : Int32} {q1_stack : List Int32} {q1_height : Int32} {B0_lines : List Int32} {B0_lineCount : Int32} {B0_wishes : List Int32} {B0_wishCount : Int32} {B0_sights : List Int32} {B0_sightCount : Int32} {B1_lines : List Int32} {B1_lineCount : Int32} {B1_wishes : List Int32} {B1_wishCount : Int32} {B1_sights : List Int32} {B1_sightCount : Int32} {B2_lines : List Int32} {B2_lineCount : Int32} {B2_wishes : List Int32} {B2_wishCount : Int32} {B2_sights : List Int32} {B2_sightCount : Int32} {B3_lines : List Int32} {B3_lineCount : Int32} {B3_wishes : List Int32} {B3_wishCount : Int32} {B3_sights : List Int32} {B3_sightCount : Int32}
variable {d : Nat} {Q : Option Value → mm_H → Prop} {tp : List Nat} {n k c : Nat} {nm : NMs} {s : SQ} {b : BK}
theorem t_fillDay (hE : ELt E) (ht : tp_ok tp) (hT : TPx tp T) (hs : SQx q s) (ho : k_ok s) (hN : NMx nm s q) (hw : nmok nm s) (hD : D.length = 40) (hB : BKx b K) (hb : b_ok s b) (hq1 : ∀ n fl T' D' K', sp_dy tp nm s 41 0 0 (fun _ => (0, 0, 0)) = (0, n, fl) → TPx [] T' → D'.length = 40 → b_ok s ((n, fl), b.2) → BKx ((n, fl), b.2) K' → Q (some (.int 0)) (px_h z E M (px_l sw c2 w2 (T') (D') S S1 (K') R C W U q q1 B0 B1 B2 B3))) (hq0 : ∀ f T' D', (sp_dy tp nm s 41 0 0 (fun _ => (0, 0, 0))).1 = f → ¬ f = 0 → TPx [] T' → D'.length = 40 → Q (some (.int (nI f))) (px_h z E M (px_l sw c2 w2 (T') (D') S S1 K R C W U q q1 B0 B1 B2 B3))) : wm (mp_P fx) (d + 7) 95 [.ref 65, .ref 60, .ref (px_ta sw), .ref 71] (px_h z E M (px_l sw c2 w2 T D S S1 K R C W U q q1 B0 B1 B2 B3)) Q := by
  obtain ⟨⟨g2, g3, g4⟩, g1, g5⟩ := id hB
  have finB : ∀ (f n k : Nat) (T' : px_T) (D' : List Int32) (l4 : Int32), (sp_dy tp nm s 41 0 0 (fun _ => (0, 0, 0))).1 = f → ¬ f = 0 → TKx tp n k T' → T'.2.2.1 = nI f → D'.length = 40 → ww (mp_P fx) (d + 7) 95 101 [some (.ref 65), some (.ref 60), some (.ref (px_ta sw)), some (.ref 71), some (.int l4), some (.int 0)] [] (px_h z E M (px_l sw c2 w2 (T') (D') S S1 K R C W U q q1 B0 B1 B2 B3)) Q := by
    intro f n k T' D' l4 a1 a2 a4 a5 a6
    simp only [q95_101, q95_103]
    rw [if_pos (by decide)]
    simp only [q95_116, q95_117, q95_120, xc_T, xg_T_0, xg_T_1, xs_T_1, xg_T_2, xs_T_2, xg_T_3, xg_T_4, xg_T_5, xg_T_6, xs_T_6, xg_T_7, xs_T_7, xg_T_8, xs_T_8, xa_T_signs, xb_T_signs, xn_T_signs, xa_T_types, xb_T_types, xn_T_types, xa_T_starts, xb_T_starts, xn_T_starts, xa_T_values, xb_T_values, xn_T_values, wx_some, wx_ref, a5]
    exact hq0 f T' D' a1 a2 (TKx_tp a4) a6
  have fin5 : ∀ (f n k : Nat) (T' : px_T) (D' : List Int32) (l4 : Int32), (sp_dy tp nm s 41 0 0 (fun _ => (0, 0, 0))).1 = f → ¬ f = 0 → TKx tp n k T' → T'.2.2.1 = nI f → D'.length = 40 → ww (mp_P fx) (d + 7) 95 10 [some (.ref 65), some (.ref 60), some (.ref (px_ta sw)), some (.ref 71), some (.int l4), some (.int 0)] [] (px_h z E M (px_l sw c2 w2 (T') (D') S S1 K R C W U q q1 B0 B1 B2 B3)) Q := by
    intro f n k T' D' l4 a1 a2 a4 a5 a6
    rw [q95_10]
    simp only [q95_12, q95_70, q95_72]
    rw [if_pos (by decide), if_pos (by decide)]
    exact finB f n k T' D' l4 a1 a2 a4 a5 a6
  have finE : ∀ (n i c : Nat) (fl : Nat → Nat × Nat × Nat) (T' : px_T) (D' : List Int32), sp_dy tp nm s 41 0 0 (fun _ => (0, 0, 0)) = (0, c, fl) → c ≤ 40 → TY tp i = 0 → TKx tp n i T' → T'.2.2.1 = 0 → D'.length = 40 → (∀ j : Nat, j < c → LNo s (fl j) ∧ D'[j]? = some (nI (b_ln (fl j)))) → ww (mp_P fx) (d + 7) 95 70 [some (.ref 65), some (.ref 60), some (.ref (px_ta sw)), some (.ref 71), some (.int (nI c)), some (.int 1)] [] (px_h z E M (px_l sw c2 w2 (T') (D') S S1 K R C W U q q1 B0 B1 B2 B3)) Q := by
    intro n i c fl T' D' hsp hc y hT2 hf2 hl hg
    simp only [q95_70, q95_72, q95_75, q95_76, xc_T, xg_T_0, xg_T_1, xs_T_1, xg_T_2, xs_T_2, xg_T_3, xg_T_4, xg_T_5, xg_T_6, xs_T_6, xg_T_7, xs_T_7, xg_T_8, xs_T_8, xa_T_signs, xb_T_signs, xn_T_signs, xa_T_types, xb_T_types, xn_T_types, xa_T_starts, xb_T_starts, xn_T_starts, xa_T_values, xb_T_values, xn_T_values]
    rw [if_neg (by decide)]
    apply t_atEnd hT2
    · intro _
      simp only [sl_i, q95_79, q95_101, q95_103, q95_106, q95_107, q95_108, q95_111, xc_D, xg_D_0, xa_D_draft, xb_D_draft, xn_D_draft, xc_K, xg_K_0, xg_K_1, xs_K_1, xg_K_2, xg_K_3, xs_K_3, xg_K_4, xg_K_5, xs_K_5, xa_K_lines, xb_K_lines, xn_K_lines, xa_K_wishes, xb_K_wishes, xn_K_wishes, xa_K_sights, xb_K_sights, xn_K_sights, wx_some, wx_ref]
      rw [if_pos (by decide), if_neg (by decide)]
      simp only [q95_113, xc_K, xg_K_0, xg_K_1, xs_K_1, xg_K_2, xg_K_3, xs_K_3, xg_K_4, xg_K_5, xs_K_5, xa_K_lines, xb_K_lines, xn_K_lines, xa_K_wishes, xb_K_wishes, xn_K_wishes, xa_K_sights, xb_K_sights, xn_K_sights]
      apply t_setLines hl g2
      simp only [sl_n, q95_116, q95_117, q95_120, xc_T, xg_T_0, xg_T_1, xs_T_1, xg_T_2, xs_T_2, xg_T_3, xg_T_4, xg_T_5, xg_T_6, xs_T_6, xg_T_7, xs_T_7, xg_T_8, xs_T_8, xa_T_signs, xb_T_signs, xn_T_signs, xa_T_types, xb_T_types, xn_T_types, xa_T_starts, xb_T_starts, xn_T_starts, xa_T_values, xb_T_values, xn_T_values, wx_some, wx_ref, hf2]
      exact hq1 c fl T' D' _ hsp (TKx_tp hT2) hl ⟨⟨hc, fun j hj => (hg j hj).1⟩, hb.2⟩ ⟨⟨hl, rfl, fun j hj => (hg j hj).2⟩, g1, g5⟩
    · intro e; exact absurd y e
  have key : ∀ (m c i n : Nat) (fl : Nat → Nat × Nat × Nat) (T' : px_T) (D' : List Int32), m + c = 41 → c ≤ 40 → TKx tp n i T' → T'.2.2.1 = 0 → D'.length = 40 → (∀ j : Nat, j < c → LNo s (fl j) ∧ D'[j]? = some (nI (b_ln (fl j)))) → sp_dy tp nm s 41 0 0 (fun _ => (0, 0, 0)) = sp_dy tp nm s m i c fl → ww (mp_P fx) (d + 7) 95 10 [some (.ref 65), some (.ref 60), some (.ref (px_ta sw)), some (.ref 71), some (.int (nI c)), some (.int 1)] [] (px_h z E M (px_l sw c2 w2 (T') (D') S S1 K R C W U q q1 B0 B1 B2 B3)) Q := by
    intro m
    induction m with
    | zero => intro c i n fl T' D' hm hc; omega
    | succ m ih =>
      intro c i n fl T' D' hm hc a1 a2 a6 a7 hsp
      rw [show sp_dy tp nm s (m + 1) i c fl = if TY tp i = 0 then (0, c, fl) else if (dlc tp (dl tp nm s i c)).1 = 0 then sp_dy tp nm s m (dlc tp (dl tp nm s i c)).2.1 (c + 1) (fun j => if j = c then (dlc tp (dl tp nm s i c)).2.2 else fl j) else ((dlc tp (dl tp nm s i c)).1, c, fl) from rfl] at hsp
      rw [q95_10]
      simp only [q95_12, q95_15, q95_17, q95_19]
      rw [if_neg (by decide)]
      by_cases e40 : c = 40
      · rw [show (40 : Int32) = nI 40 from rfl, if_pos (by rw [nI_leI (by omega) (by omega)]; omega)]
        by_cases e0 : TY tp i = 0
        · rw [if_pos e0] at hsp
          exact finE n i c fl T' D' hsp hc e0 a1 a2 a6 a7
        rw [if_neg e0] at hsp
        simp only [q95_70, q95_72, q95_75, q95_76, xc_T, xg_T_0, xg_T_1, xs_T_1, xg_T_2, xs_T_2, xg_T_3, xg_T_4, xg_T_5, xg_T_6, xs_T_6, xg_T_7, xs_T_7, xg_T_8, xs_T_8, xa_T_signs, xb_T_signs, xn_T_signs, xa_T_types, xb_T_types, xn_T_types, xa_T_starts, xb_T_starts, xn_T_starts, xa_T_values, xb_T_values, xn_T_values]
        rw [if_neg (by decide)]
        apply t_atEnd a1
        · intro y; exact absurd y e0
        intro _
        simp only [sl_i, q95_79, q95_82, q95_83]
        rw [if_neg (by decide)]
        simp only [q95_84]
        apply t_kindAtB hE a1
        cases ek : kdD tp i with
        | none =>
          have hdl : dl tp nm s i c = (flt tp 1 i, i, (0, 0, 0)) := by unfold dl; rw [ek]
          have hn : ¬ flt tp 1 i = 0 := flt_ne (by omega)
          have hdc : (dlc tp (dl tp nm s i c)).1 = flt tp 1 i := by rw [hdl]; unfold dlc; rw [if_neg hn]
          rw [if_neg (by rw [hdc]; exact hn)] at hsp
          simp only [sl_i, q95_87, q95_88]
          rw [if_neg (fun z => z rfl)]
          simp only [q95_91, q95_92, q95_96, xc_T, xg_T_0, xg_T_1, xs_T_1, xg_T_2, xs_T_2, xg_T_3, xg_T_4, xg_T_5, xg_T_6, xs_T_6, xg_T_7, xs_T_7, xg_T_8, xs_T_8, xa_T_signs, xb_T_signs, xn_T_signs, xa_T_types, xb_T_types, xn_T_types, xa_T_starts, xb_T_starts, xn_T_starts, xa_T_values, xb_T_values, xn_T_values]
          apply t_refuse (kd := 1) a1
          intro T2 h2 h3
          simp only [sl_i, q95_99i, isl_i, isl_r, isl_n]
          exact finB _ n i T2 D' _ (by rw [hsp]; exact hdc) hn h2 h3 a6
        | some kd =>
          obtain ⟨hkd, hty⟩ := kdD_lt ek
          have hdl : dl tp nm s i c = (flt tp 5 i, i, (0, 0, 0)) := by unfold dl; rw [ek]; exact if_pos e40
          have hn : ¬ flt tp 5 i = 0 := flt_ne (by omega)
          have hdc : (dlc tp (dl tp nm s i c)).1 = flt tp 5 i := by rw [hdl]; unfold dlc; rw [if_neg hn]
          rw [if_neg (by rw [hdc]; exact hn)] at hsp
          simp only [sl_i, q95_87, q95_88]
          rw [if_pos (io_some_ne (by omega))]
          simp only [q95_95, q95_96, xc_T, xg_T_0, xg_T_1, xs_T_1, xg_T_2, xs_T_2, xg_T_3, xg_T_4, xg_T_5, xg_T_6, xs_T_6, xg_T_7, xs_T_7, xg_T_8, xs_T_8, xa_T_signs, xb_T_signs, xn_T_signs, xa_T_types, xb_T_types, xn_T_types, xa_T_starts, xb_T_starts, xn_T_starts, xa_T_values, xb_T_values, xn_T_values]
          apply t_refuse (kd := 5) a1
          intro T2 h2 h3
          simp only [sl_i, q95_99i, isl_i, isl_r, isl_n]
          exact finB _ n i T2 D' _ (by rw [hsp]; exact hdc) hn h2 h3 a6
      · rw [show (40 : Int32) = nI 40 from rfl, if_neg (by rw [nI_leI (by omega) (by omega)]; omega)]
        simp only [q95_22, q95_23, xc_T, xg_T_0, xg_T_1, xs_T_1, xg_T_2, xs_T_2, xg_T_3, xg_T_4, xg_T_5, xg_T_6, xs_T_6, xg_T_7, xs_T_7, xg_T_8, xs_T_8, xa_T_signs, xb_T_signs, xn_T_signs, xa_T_types, xb_T_types, xn_T_types, xa_T_starts, xb_T_starts, xn_T_starts, xa_T_values, xb_T_values, xn_T_values]
        apply t_atEnd a1
        · intro e0
          rw [if_pos e0] at hsp
          simp only [sl_i, q95_26]
          rw [if_pos (by decide)]
          exact finE n i c fl T' D' hsp hc e0 a1 a2 a6 a7
        intro e0
        rw [if_neg e0] at hsp
        simp only [sl_i, q95_26, q95_29, q95_30, q95_33, q95_35, q95_36, xc_D, xg_D_0, xa_D_draft, xb_D_draft, xn_D_draft, wx_some, wx_ref]
        rw [if_neg (by decide)]
        simp only [q95_37]
        apply t_takeLine (c := c) hE a1 a2 hs ho hN hw e40
        · intro j ln T2 b1 b2 b3 b4
          have hl : (D'.set c (nI (b_ln ln))).length = 40 := by rw [List.length_set]; exact a6
          have hg : ∀ j : Nat, j < c + 1 → LNo s ((fun j => if j = c then ln else fl j) j) ∧ (D'.set c (nI (b_ln ln)))[j]? = some (nI (b_ln ((fun j => if j = c then ln else fl j) j))) := by
            intro i hi
            by_cases e : i = c
            · subst e; simp only [if_true]; exact ⟨b2, List.getElem?_set_self (by omega)⟩
            · simp only [if_neg e]; exact ⟨(a7 i (by omega)).1, (List.getElem?_set_ne (by omega)).trans (a7 i (by omega)).2⟩
          simp only [sl_i, q95_40, q95_41, q95_42, q95_45, xc_D, xg_D_0, xa_D_draft, xb_D_draft, xn_D_draft, xc_T, xg_T_0, xg_T_1, xs_T_1, xg_T_2, xs_T_2, xg_T_3, xg_T_4, xg_T_5, xg_T_6, xs_T_6, xg_T_7, xs_T_7, xg_T_8, xs_T_8, xa_T_signs, xb_T_signs, xn_T_signs, xa_T_types, xb_T_types, xn_T_types, xa_T_starts, xb_T_starts, xn_T_starts, xa_T_values, xb_T_values, xn_T_values, aS_n (show c < D'.length by omega) (show D'.length < 2 ^ 31 by omega), wx_some, wx_ref, b4]
          revert hl hg
          generalize D'.set c (nI (b_ln ln)) = D2
          intro hl hg
          rw [if_neg (fun z => z trivial)]
          simp only [q95_48, q95_49, q95_51, xc_T, xg_T_0, xg_T_1, xs_T_1, xg_T_2, xs_T_2, xg_T_3, xg_T_4, xg_T_5, xg_T_6, xs_T_6, xg_T_7, xs_T_7, xg_T_8, xs_T_8, xa_T_signs, xb_T_signs, xn_T_signs, xa_T_types, xb_T_types, xn_T_types, xa_T_starts, xb_T_starts, xn_T_starts, xa_T_values, xb_T_values, xn_T_values]
          apply t_passSign (c := 59) (by omega) b3
          · intro y2 T3 hT3 hf3
            have hdc : dlc tp (dl tp nm s i c) = (0, j + 1, ln) := by rw [b1]; unfold dlc; rw [if_pos rfl, if_pos (snB_t.mpr y2)]
            rw [hdc, if_pos rfl] at hsp
            simp only [sl_i, q95_54, q95_57, q95_58, q95_62i, q95_64r, q95_67, isl_i, isl_r, isl_n, nI_1]
            rw [if_neg (by decide)]
            exact ih (c + 1) (j + 1) n _ T3 D2 (by omega) (by omega) hT3 (hf3.trans b4) hl hg hsp
          · intro y2 T3 hT3 hf3
            have hn : ¬ flt tp 1 j = 0 := flt_ne (by omega)
            have hdc : (dlc tp (dl tp nm s i c)).1 = flt tp 1 j := by rw [b1]; unfold dlc; rw [if_pos rfl, if_neg (fun e => y2 (snB_t.mp e))]
            rw [if_neg (by rw [hdc]; exact hn)] at hsp
            simp only [sl_i, q95_54, q95_61, q95_62i, q95_64r, q95_67, isl_i, isl_r, isl_n, nI_1]
            rw [if_pos (by decide)]
            exact fin5 _ n j T3 D2 _ (by rw [hsp]; exact hdc) hn hT3 hf3 hl
        · intro f v T2 b1 b2 b2' ⟨j, b3⟩ b4
          have hdc : (dlc tp (dl tp nm s i c)).1 = f := by unfold dlc; rw [if_neg (by rw [b1]; exact b2)]; exact b1
          rw [if_neg (by rw [hdc]; exact b2)] at hsp
          simp only [sl_i, q95_40, q95_41, q95_42, q95_45, xc_D, xg_D_0, xa_D_draft, xb_D_draft, xn_D_draft, xc_T, xg_T_0, xg_T_1, xs_T_1, xg_T_2, xs_T_2, xg_T_3, xg_T_4, xg_T_5, xg_T_6, xs_T_6, xg_T_7, xs_T_7, xg_T_8, xs_T_8, xa_T_signs, xb_T_signs, xn_T_signs, xa_T_types, xb_T_types, xn_T_types, xa_T_starts, xb_T_starts, xn_T_starts, xa_T_values, xb_T_values, xn_T_values, aS_n (show c < D'.length by omega) (show D'.length < 2 ^ 31 by omega), wx_some, wx_ref, b4]
          rw [if_pos (by rw [nl_0, nI_eq (by omega) (by omega)]; exact b2)]
          simp only [q95_61, q95_62i, q95_64r, q95_67, isl_i, isl_r, isl_n, nI_1]
          exact fin5 f n j T2 _ _ (by rw [hsp]; exact hdc) b2 b3 b4 (by rw [List.length_set]; exact a6)
  simp only [e95, q95_0, q95_1r, q95_3, q95_4i, q95_6, q95_7, xc_T, xg_T_0, xg_T_1, xs_T_1, xg_T_2, xs_T_2, xg_T_3, xg_T_4, xg_T_5, xg_T_6, xs_T_6, xg_T_7, xs_T_7, xg_T_8, xs_T_8, xa_T_signs, xb_T_signs, xn_T_signs, xa_T_types, xb_T_types, xn_T_types, xa_T_starts, xb_T_starts, xn_T_starts, xa_T_values, xb_T_values, xn_T_values, isl_i, isl_r, isl_n]
  apply t_begin hE ht hT
  intro T1 n hT1 hf1
  simp only [sl_n]
  exact key 41 0 0 n _ T1 D rfl (by omega) hT1 hf1 hD (fun i hi => absurd hi (Nat.not_lt_zero _)) rfl
theorem t_day (hE : ELt E) (ht : tp_ok tp) (hT : TPx tp T) (hs : SQx q s) (ho : k_ok s) (hN : NMx nm s q) (hw : nmok nm s) (hD : D.length = 40) (hB : BKx b K) (hb : b_ok s b) (hq1 : ∀ n fl T' D' K', sp_dy tp nm s 41 0 0 (fun _ => (0, 0, 0)) = (0, n, fl) → TPx [] T' → D'.length = 40 → b_ok s ((n, fl), b.2) → BKx ((n, fl), b.2) K' → Q (some (.int 0)) (px_h z E M (px_l sw c2 w2 (T') (D') S S1 (K') R C W U q q1 B0 B1 B2 B3))) (hq0 : ∀ f T' D', (sp_dy tp nm s 41 0 0 (fun _ => (0, 0, 0))).1 = f → ¬ f = 0 → TPx [] T' → D'.length = 40 → Q (some (.int (nI f))) (px_h z E M (px_l sw c2 w2 (T') (D') S S1 K R C W U q q1 B0 B1 B2 B3))) : wm (mp_P fx) (d + 8) 94 [.ref 59] (px_h z E M (px_l sw c2 w2 T D S S1 K R C W U q q1 B0 B1 B2 B3)) Q := by
  simp only [e94, q94_0, q94_1, q94_4, q94_5, q94_8, q94_9, q94_12, q94_13, xc_x, xg_x_0, xg_x_1, xg_x_2, xg_x_3, xg_x_4, xg_x_5, xg_x_6, xg_x_7, xg_x_8, xg_x_9, xg_x_10, xg_x_11, xg_x_12, xg_x_13, xg_x_14, xs_x_14, xg_x_15, xs_x_15, wx_some, wx_ref]
  simp only [q94_16, xc_D, xg_D_0, xa_D_draft, xb_D_draft, xn_D_draft]
  apply t_fillDay hE ht hT hs ho hN hw hD hB hb
  · intro t fl T' D' K' a1 a2 a3 a4 a5
    simp only [sl_i, q94_19]
    exact hq1 t fl T' D' K' a1 a2 a3 a4 a5
  · intro f T' D' a1 a2 a3 a4
    simp only [sl_i, q94_19]
    exact hq0 f T' D' a1 a2 a3 a4
end XZP
