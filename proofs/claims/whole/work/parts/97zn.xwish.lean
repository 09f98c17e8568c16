/-! the call wish, of the class -/
theorem sp_ws_end {tp : List Nat} {nm : NMs} {s : SQ} {t : Nat} (r : Nat) (h : ¬ t = 0) (h2 : TY tp t = 0) : sp_ws tp nm s r t = (0, t) := by
  cases r with
  | zero => rw [sp_ws, if_pos ⟨h, h2⟩]
  | succ r => rw [sp_ws, if_pos ⟨h, h2⟩]
theorem sp_ws_bad {tp : List Nat} {nm : NMs} {s : SQ} {t : Nat} (r : Nat) (h : ¬ (¬ t = 0 ∧ TY tp t = 0)) (h2 : ¬ (c_named tp nm 1 (k_nC s) t).1 = 0) : sp_ws tp nm s r t = ((c_named tp nm 1 (k_nC s) t).1, t) := by
  cases r with
  | zero => rw [sp_ws, if_neg h, if_neg h2]
  | succ r => rw [sp_ws, if_neg h, if_neg h2]
section XZN
variable {fx : List Value → mm_H → Option (List Value × mm_H)} {z : Nat} {E M : Nat → mm_C} {sw c2 w2 : Bool} {T : px_T} {D : px_D} {S : px_S} {S1 : px_S} {K : px_K} {R : px_R} {C : px_C} {W : px_W} {U : px_U} {q : px_q} {q1 : px_q} {B0 : px_K} {B1 : px_K} {B2 : px_K} {B3 : px_K} {T_signs : List Int32} {T_length : Int32} {T_fault : Int32} {T_types : List Int32} {T_starts : List Int32} {T_values : List Int64} {T_tokens : Int32} {T_at : Int32} {T_behind : Int32} {S_hour : Int32} {S_open : Int32} {S_places : List Int32} {S1_hour : Int32} {S1_open : Int32} {S1_places : List Int32} {K_lines : List Int32} {K_lineCount : Int32} {K_wishes : List Int32} {K_wishCount : Int32} {K_sights : List Int32} {K_sightCount : Int32} {R_shown : List Int32} {R_length : Int32} {R_readers : Int32} {R_begins : List Int32} {R_lengths : List Int32} {R_sentences : Int32} {R_order : List Int32} {R_able : Int32} {R_standing : List Int32} {R_lovers : List Int32} {R_lowest : List Int32} {C_ways : List Int32} {C_rows : List Int32} {C_shallower : List Int32} {C_length : Int32} {C_goal : Int32} {W_row : List Int32} {W_walkers : Int32} {W_names : Int32} {W_wanted : List Int32} {W_shown : List Int32} {W_places : List Int32} {W_rest : List Int32} {W_spent : List Int32} {W_tried : List Int32} {U_undoRows : List Int64} {U_markScenes : List Int64} {U_marksLaid : List Int32} {U_undoCount : Int32} {U_undoEnd : Int32} {q_sortNames : List Int64} {q_sortCount : Int32} {q_colourNames : List Int64} {q_colourSorts : List Int32} {q_colourCount : Int32} {q_ruleMakes : List Int32} {q_ruleFirsts : List Int32} {q_ruleSeconds : List Int32} {q_ruleCount : Int32} {q_saysSort : Int32} {q_walkerNames : List Int64} {q_kinds : List Int32} {q_walkerColours : List Int32} {q_starts : List Int32} {q_stepRows : List Int32} {q_stepCounts : List Int32} {q_walkerCount : Int32} {q_gusts : List Int32} {q_gustCount : Int32} {q_parts : List Int32} {q_count : Int32} {q_stack : List Int32} {q_height : Int32} {q1_sortNames : List Int64} {q1_sortCount : Int32} {q1_colourNames : List Int64} {q1_colourSorts : List Int32} {q1_colourCount : Int32} {q1_ruleMakes : List Int32} {q1_ruleFirsts : List Int32} {q1_ruleSeconds : List Int32} {q1_ruleCount : Int32} {q1_saysSort : Int32} {q1_walkerNames : List Int64} {q1_kinds : List Int32} {q1_walkerColours : List Int32} {q1_starts : List Int32} {q1_stepRows : List Int32} {q1_stepCounts : List Int32} {q1_walkerCount : Int32} {q1_gusts : List Int32} {q1_gustCount : Int32} {q1_parts : List Int32} {q1_count : Int32} {q1_stack : List Int32} {q1_height : Int32} {B0_lines : List Int32} {B0_lineCount : Int32} {B0_wishes : List Int32} {B0_wishCount : Int32} {B0_sights : List Int32} {B0_sightCount : Int32} {B1_lines : List Int32} {B1_lineCount : Int32} {B1_wishes : List Int32} {B1_wishCount : Int32} {B1_sights : List Int32} {B1_sightCount : Int32} {B2_lines : List Int32} {B2_lineCount : Int32} {B2_wishes : List Int32} {B2_wishCount : Int32} {B2_sights : List Int32} {B2_sightCount : Int32} {B3_lines : List Int32} {B3_lineCount : Int32} {B3_wishes : List Int32} {B3_wishCount : Int32} {B3_sights : List Int32} {B3_sightCount : Int32}
variable {d : Nat} {Q : Option Value → mm_H → Prop} {tp : List Nat} {n k : Nat} {nm : NMs} {s : SQ} {b : BK}
theorem t_setWishes {c : Int32} (hD : D.length = 40) (hK : (K.2.2.1).length = 7) (hq : Q none (px_h z E M (px_l sw c2 w2 T D S S1 ((K.1, K.2.1, D.take 7, c, K.2.2.2.2.1, K.2.2.2.2.2)) R C W U q q1 B0 B1 B2 B3))) : wm (mp_P fx) d 103 [.ref 71, .ref 66, .int c] (px_h z E M (px_l sw c2 w2 T D S S1 K R C W U q q1 B0 B1 B2 B3)) Q := by
  have c1 : mm_cpy (px_h z E M (px_l sw c2 w2 T D S S1 K R C W U q q1 B0 B1 B2 B3)) 66 0 73 0 7 = some (px_h z E M (px_l sw c2 w2 T D S S1 ((K.1, K.2.1, D.take 7, K.2.2.2.1, K.2.2.2.2.1, K.2.2.2.2.2)) R C W U q q1 B0 B1 B2 B3)) := cpy_x (n := 7) pk_D_draft pk_K_wishes hK (by omega) (by omega) (px_set (i := 14) (by decide) px_ll)
  simp only [e103, q103_0, q103_1, q103_2, q103_3, q103_6, q103_7, q103_9, q103_12, q103_13, q103_14, q103_17, xc_K, xg_K_0, xg_K_1, xs_K_1, xg_K_2, xg_K_3, xs_K_3, xg_K_4, xg_K_5, xs_K_5, xa_K_lines, xb_K_lines, xn_K_lines, xa_K_wishes, xb_K_wishes, xn_K_wishes, xa_K_sights, xb_K_sights, xn_K_sights, wx_some, wx_ref, c1]
  exact hq
theorem t_fillWish (hE : ELt E) (ht : tp_ok tp) (hT : TPx tp T) (hs : SQx q s) (ho : k_ok s) (hN : NMx nm s q) (hw : nmok nm s) (hD : D.length = 40) (hB : BKx b K) (hb : b_ok s b) (hq1 : ∀ t T' D' K', sp_ws tp nm s 7 0 = (0, t) → TPx [] T' → D'.length = 40 → b_ok s (b.1, (t, fun i => (c_named tp nm 1 (k_nC s) i).2), b.2.2) → BKx (b.1, (t, fun i => (c_named tp nm 1 (k_nC s) i).2), b.2.2) K' → Q (some (.int 0)) (px_h z E M (px_l sw c2 w2 (T') (D') S S1 (K') R C W U q q1 B0 B1 B2 B3))) (hq0 : ∀ f T' D', (sp_ws tp nm s 7 0).1 = f → ¬ f = 0 → TPx [] T' → D'.length = 40 → Q (some (.int (nI f))) (px_h z E M (px_l sw c2 w2 (T') (D') S S1 K R C W U q q1 B0 B1 B2 B3))) : wm (mp_P fx) (d + 7) 102 [.ref 65, .ref 60, .ref (px_ta sw), .ref 71] (px_h z E M (px_l sw c2 w2 T D S S1 K R C W U q q1 B0 B1 B2 B3)) Q := by
  obtain ⟨g1, ⟨g2, g3, g4⟩, g5⟩ := id hB
  have h6 := ho.1.2.1
  have finB : ∀ (f n k : Nat) (T' : px_T) (D' : List Int32) (l4 : Int32), (sp_ws tp nm s 7 0).1 = f → ¬ f = 0 → f < 2 ^ 20 → TKx tp n k T' → T'.2.2.1 = nI f → D'.length = 40 → ww (mp_P fx) (d + 7) 102 85 [some (.ref 65), some (.ref 60), some (.ref (px_ta sw)), some (.ref 71), some (.int l4), some (.int 0)] [] (px_h z E M (px_l sw c2 w2 (T') (D') S S1 K R C W U q q1 B0 B1 B2 B3)) Q := by
    intro f n k T' D' l4 a1 a2 a3 a4 a5 a6
    simp only [q102_85, q102_86, q102_89, xc_T, xg_T_0, xg_T_1, xs_T_1, xg_T_2, xs_T_2, xg_T_3, xg_T_4, xg_T_5, xg_T_6, xs_T_6, xg_T_7, xs_T_7, xg_T_8, xs_T_8, xa_T_signs, xb_T_signs, xn_T_signs, xa_T_types, xb_T_types, xn_T_types, xa_T_starts, xb_T_starts, xn_T_starts, xa_T_values, xb_T_values, xn_T_values, wx_some, wx_ref, a5]
    rw [if_pos (by rw [nl_0, nI_eq (by omega) (by omega)]; exact a2)]
    simp only [q102_102, q102_103, q102_106, xc_T, xg_T_0, xg_T_1, xs_T_1, xg_T_2, xs_T_2, xg_T_3, xg_T_4, xg_T_5, xg_T_6, xs_T_6, xg_T_7, xs_T_7, xg_T_8, xs_T_8, xa_T_signs, xb_T_signs, xn_T_signs, xa_T_types, xb_T_types, xn_T_types, xa_T_starts, xb_T_starts, xn_T_starts, xa_T_values, xb_T_values, xn_T_values, wx_some, wx_ref, a5]
    exact hq0 f T' D' a1 a2 (TKx_tp a4) a6
  have fin5 : ∀ (f n k : Nat) (T' : px_T) (D' : List Int32) (l4 : Int32), (sp_ws tp nm s 7 0).1 = f → ¬ f = 0 → f < 2 ^ 20 → TKx tp n k T' → T'.2.2.1 = nI f → D'.length = 40 → ww (mp_P fx) (d + 7) 102 14 [some (.ref 65), some (.ref 60), some (.ref (px_ta sw)), some (.ref 71), some (.int l4), some (.int 0)] [] (px_h z E M (px_l sw c2 w2 (T') (D') S S1 K R C W U q q1 B0 B1 B2 B3)) Q := by
    intro f n k T' D' l4 a1 a2 a3 a4 a5 a6
    rw [q102_14]
    simp only [q102_16, q102_74, q102_76, q102_79, q102_80, q102_81, q102_84]
    rw [if_pos (by decide), if_pos (by decide)]
    exact finB f n k T' D' l4 a1 a2 a3 a4 a5 a6
  have key : ∀ (r t n v : Nat) (T' : px_T) (D' : List Int32), t + r = 7 → TKx tp n t T' → T'.2.2.1 = 0 → isNm tp t → fnd nm 1 (k_nC s) (LT tp t) = some v → c_named tp nm 1 (k_nC s) t = (0, v) → D'.length = 40 → (∀ i : Nat, i < t → (c_named tp nm 1 (k_nC s) i).2 < k_nC s ∧ D'[i]? = some (nI (c_named tp nm 1 (k_nC s) i).2)) → sp_ws tp nm s 7 0 = sp_ws tp nm s r t → ww (mp_P fx) (d + 7) 102 14 [some (.ref 65), some (.ref 60), some (.ref (px_ta sw)), some (.ref 71), some (.int (nI t)), some (.int 1)] [] (px_h z E M (px_l sw c2 w2 (T') (D') S S1 K R C W U q q1 B0 B1 B2 B3)) Q := by
    intro r
    induction r with
    | zero =>
      intro t n v T' D' hr a1 a2 a3 a4 a5 a6 a7 hsp
      rw [sp_ws, if_neg (fun e => by have := a3.1; omega), if_pos (by rw [a5])] at hsp
      rw [q102_14]
      simp only [q102_16, q102_19, q102_21, q102_23]
      rw [if_neg (by decide), if_pos (by rw [nl_7, nI_leI (by omega) (by omega)]; omega)]
      simp only [q102_74, q102_76]
      rw [if_neg (by decide)]
      simp only [q102_79, q102_80, q102_81, xc_T, xg_T_0, xg_T_1, xs_T_1, xg_T_2, xs_T_2, xg_T_3, xg_T_4, xg_T_5, xg_T_6, xs_T_6, xg_T_7, xs_T_7, xg_T_8, xs_T_8, xa_T_signs, xb_T_signs, xn_T_signs, xa_T_types, xb_T_types, xn_T_types, xa_T_starts, xb_T_starts, xn_T_starts, xa_T_values, xb_T_values, xn_T_values]
      apply t_refuse (kd := 5) a1
      intro T2 h2 h3
      simp only [sl_i, q102_84, q102_85, q102_86, q102_89, xc_T, xg_T_0, xg_T_1, xs_T_1, xg_T_2, xs_T_2, xg_T_3, xg_T_4, xg_T_5, xg_T_6, xs_T_6, xg_T_7, xs_T_7, xg_T_8, xs_T_8, xa_T_signs, xb_T_signs, xn_T_signs, xa_T_types, xb_T_types, xn_T_types, xa_T_starts, xb_T_starts, xn_T_starts, xa_T_values, xb_T_values, xn_T_values, wx_some, wx_ref, h3]
      have hf := flt_sm (k := 5) (i := t) ht (by omega)
      have hn : ¬ flt tp 5 t = 0 := flt_ne (by omega)
      rw [if_pos (by rw [nl_0, nI_eq (by omega) (by omega)]; exact hn)]
      simp only [q102_102, q102_103, q102_106, xc_T, xg_T_0, xg_T_1, xs_T_1, xg_T_2, xs_T_2, xg_T_3, xg_T_4, xg_T_5, xg_T_6, xs_T_6, xg_T_7, xs_T_7, xg_T_8, xs_T_8, xa_T_signs, xb_T_signs, xn_T_signs, xa_T_types, xb_T_types, xn_T_types, xa_T_starts, xb_T_starts, xn_T_starts, xa_T_values, xb_T_values, xn_T_values, wx_some, wx_ref, h3]
      exact hq0 _ T2 D' (by rw [hsp]) hn (TKx_tp h2) a6
    | succ r ih =>
      intro t n v T' D' hr a1 a2 a3 a4 a5 a6 a7 hsp
      have hv := fnd_lt a4
      rw [show sp_ws tp nm s (r + 1) t = if ¬ t = 0 ∧ TY tp t = 0 then (0, t) else if (c_named tp nm 1 (k_nC s) t).1 = 0 then sp_ws tp nm s r (t + 1) else ((c_named tp nm 1 (k_nC s) t).1, t) from rfl, if_neg (fun e => by have := a3.1; omega), if_pos (by rw [a5])] at hsp
      rw [q102_14]
      simp only [q102_16, q102_19, q102_21, q102_23]
      rw [if_neg (by decide), if_neg (by rw [nl_7, nI_leI (by omega) (by omega)]; omega)]
      simp only [q102_26, q102_27, q102_30, q102_32, q102_33, q102_34, xc_D, xg_D_0, xa_D_draft, xb_D_draft, xn_D_draft, xc_T, xg_T_0, xg_T_1, xs_T_1, xg_T_2, xs_T_2, xg_T_3, xg_T_4, xg_T_5, xg_T_6, xs_T_6, xg_T_7, xs_T_7, xg_T_8, xs_T_8, xa_T_signs, xb_T_signs, xn_T_signs, xa_T_types, xb_T_types, xn_T_types, xa_T_starts, xb_T_starts, xn_T_starts, xa_T_values, xb_T_values, xn_T_values, wx_some, wx_ref]
      apply t_word a1 a3.1
      simp only [sl_i, q102_37, xc_q, xg_q_0, xg_q_1, xs_q_1, xg_q_2, xg_q_3, xg_q_4, xs_q_4, xg_q_5, xg_q_6, xg_q_7, xg_q_8, xs_q_8, xg_q_9, xs_q_9, xg_q_10, xg_q_11, xg_q_12, xg_q_13, xg_q_14, xg_q_15, xg_q_16, xs_q_16, xg_q_17, xg_q_18, xs_q_18, xg_q_19, xa_q_sortNames, xb_q_sortNames, xn_q_sortNames, xa_q_colourNames, xb_q_colourNames, xn_q_colourNames, xa_q_colourSorts, xb_q_colourSorts, xn_q_colourSorts, xa_q_ruleMakes, xb_q_ruleMakes, xn_q_ruleMakes, xa_q_ruleFirsts, xb_q_ruleFirsts, xn_q_ruleFirsts, xa_q_ruleSeconds, xb_q_ruleSeconds, xn_q_ruleSeconds, xa_q_walkerNames, xb_q_walkerNames, xn_q_walkerNames, xa_q_kinds, xb_q_kinds, xn_q_kinds, xa_q_walkerColours, xb_q_walkerColours, xn_q_walkerColours, xa_q_starts, xb_q_starts, xn_q_starts, xa_q_stepRows, xb_q_stepRows, xn_q_stepRows, xa_q_stepCounts, xb_q_stepCounts, xn_q_stepCounts, xa_q_gusts, xb_q_gusts, xn_q_gusts, xc_ql, xg_ql_0, xg_ql_1, xs_ql_1, xg_ql_2, xg_ql_3, xs_ql_3, xa_q_parts, xb_q_parts, xn_q_parts, xa_q_stack, xb_q_stack, xn_q_stack]
      apply t_colourNamedq hs ho hN hw (isNm_wf a3)
      rw [a4]
      simp only [sl_i, q102_40, q102_41r, q102_44, q102_45, xc_D, xg_D_0, xa_D_draft, xb_D_draft, xn_D_draft, xc_T, xg_T_0, xg_T_1, xs_T_1, xg_T_2, xs_T_2, xg_T_3, xg_T_4, xg_T_5, xg_T_6, xs_T_6, xg_T_7, xs_T_7, xg_T_8, xs_T_8, xa_T_signs, xb_T_signs, xn_T_signs, xa_T_types, xb_T_types, xn_T_types, xa_T_starts, xb_T_starts, xn_T_starts, xa_T_values, xb_T_values, xn_T_values, isl_i, isl_r, isl_n, nI_1, aS_n (show t < D'.length by omega) (show D'.length < 2 ^ 31 by omega), wx_some, wx_ref]
      apply t_pass a1 (by rw [a3.1]; decide)
      intro hT2
      have hf2 : (T'.1, T'.2.1, T'.2.2.1, T'.2.2.2.1, T'.2.2.2.2.1, T'.2.2.2.2.2.1, nI n, nI (t + 1), T'.2.2.2.2.2.2.2.2).2.2.1 = 0 := a2
      revert hT2 hf2
      generalize ((T'.1, T'.2.1, T'.2.2.1, T'.2.2.2.1, T'.2.2.2.2.1, T'.2.2.2.2.2.1, nI n, nI (t + 1), T'.2.2.2.2.2.2.2.2) : px_T) = T2
      intro hT2 hf2
      have hl : (D'.set t (io (some v))).length = 40 := by rw [List.length_set]; exact a6
      have hg : ∀ i : Nat, i < t + 1 → (c_named tp nm 1 (k_nC s) i).2 < k_nC s ∧ (D'.set t (io (some v)))[i]? = some (nI (c_named tp nm 1 (k_nC s) i).2) := by
        intro i hi
        by_cases e : i = t
        · subst e; rw [a5]; exact ⟨hv, List.getElem?_set_self (by omega)⟩
        · exact ⟨(a7 i (by omega)).1, (List.getElem?_set_ne (by omega)).trans (a7 i (by omega)).2⟩
      revert hl hg
      generalize D'.set t (io (some v)) = D2
      intro hl hg
      simp only [sl_i, q102_48, q102_49, q102_50, xc_T, xg_T_0, xg_T_1, xs_T_1, xg_T_2, xs_T_2, xg_T_3, xg_T_4, xg_T_5, xg_T_6, xs_T_6, xg_T_7, xs_T_7, xg_T_8, xs_T_8, xa_T_signs, xb_T_signs, xn_T_signs, xa_T_types, xb_T_types, xn_T_types, xa_T_starts, xb_T_starts, xn_T_starts, xa_T_values, xb_T_values, xn_T_values]
      apply t_atEnd hT2
      · intro y
        rw [sp_ws_end r (by omega) y] at hsp
        simp only [sl_i, q102_53, q102_68, q102_69i, q102_71, isl_i, isl_r, isl_n]
        rw [if_pos (by decide)]
        rw [q102_14]
        simp only [q102_16, q102_74, q102_76]
        rw [if_pos (by decide), if_pos (by decide)]
        simp only [q102_85, q102_86, q102_89, xc_T, xg_T_0, xg_T_1, xs_T_1, xg_T_2, xs_T_2, xg_T_3, xg_T_4, xg_T_5, xg_T_6, xs_T_6, xg_T_7, xs_T_7, xg_T_8, xs_T_8, xa_T_signs, xb_T_signs, xn_T_signs, xa_T_types, xb_T_types, xn_T_types, xa_T_starts, xb_T_starts, xn_T_starts, xa_T_values, xb_T_values, xn_T_values, wx_some, wx_ref, hf2]
        rw [if_neg (fun z => z trivial)]
        simp only [q102_92, q102_93, q102_94, q102_97, q102_99, xc_D, xg_D_0, xa_D_draft, xb_D_draft, xn_D_draft, xc_K, xg_K_0, xg_K_1, xs_K_1, xg_K_2, xg_K_3, xs_K_3, xg_K_4, xg_K_5, xs_K_5, xa_K_lines, xb_K_lines, xn_K_lines, xa_K_wishes, xb_K_wishes, xn_K_wishes, xa_K_sights, xb_K_sights, xn_K_sights, wx_some, wx_ref]
        apply t_setWishes hl g2
        simp only [sl_n, q102_102, q102_103, q102_106, xc_T, xg_T_0, xg_T_1, xs_T_1, xg_T_2, xs_T_2, xg_T_3, xg_T_4, xg_T_5, xg_T_6, xs_T_6, xg_T_7, xs_T_7, xg_T_8, xs_T_8, xa_T_signs, xb_T_signs, xn_T_signs, xa_T_types, xb_T_types, xn_T_types, xa_T_starts, xb_T_starts, xn_T_starts, xa_T_values, xb_T_values, xn_T_values, wx_some, wx_ref, hf2]
        refine hq1 (t + 1) T2 D2 _ hsp (TKx_tp hT2) hl ⟨hb.1, ⟨by show t + 1 ≤ 7; omega, fun i hi => (hg i hi).1⟩, hb.2.2⟩ ⟨g1, ⟨by show (D2.take 7).length = 7; rw [List.length_take]; omega, rfl, fun i hi => ?_⟩, g5⟩
        have hi : i < t + 1 := hi
        show (D2.take 7)[i]? = some (nI (c_named tp nm 1 (k_nC s) i).2)
        rw [List.getElem?_take_of_lt (by omega)]
        exact (hg i hi).2
      · intro y
        simp only [sl_i, q102_53, q102_56, q102_57, q102_58, xc_T, xg_T_0, xg_T_1, xs_T_1, xg_T_2, xs_T_2, xg_T_3, xg_T_4, xg_T_5, xg_T_6, xs_T_6, xg_T_7, xs_T_7, xg_T_8, xs_T_8, xa_T_signs, xb_T_signs, xn_T_signs, xa_T_types, xb_T_types, xn_T_types, xa_T_starts, xb_T_starts, xn_T_starts, xa_T_values, xb_T_values, xn_T_values]
        rw [if_neg (by decide)]
        apply t_checkColourq hT2 hs ho hN hw
        · intro y1 v2 y2 y3
          simp only [sl_i, q102_61, q102_64, q102_65, q102_69i, q102_71, isl_i, isl_r, isl_n]
          rw [if_neg (by decide)]
          exact ih (t + 1) n v2 T2 D2 (by omega) hT2 hf2 y1 y2 y3 hl hg hsp
        · intro T3 f c1 c2' c3 c4
          have hfs : f < 2 ^ 20 := by rw [← c1]; exact c_named_sm ht
          simp only [sl_i, q102_61, q102_68, q102_69i, q102_71, isl_i, isl_r, isl_n]
          rw [if_pos (by decide)]
          rw [sp_ws_bad r (fun e => y e.2) (by rw [c1]; exact c2')] at hsp
          exact fin5 f n (t + 1) T3 D2 _ (by rw [hsp]; exact c1) c2' hfs c3 c4 hl
  simp only [e102, q102_0, q102_1r, q102_3, q102_4, xc_T, xg_T_0, xg_T_1, xs_T_1, xg_T_2, xs_T_2, xg_T_3, xg_T_4, xg_T_5, xg_T_6, xs_T_6, xg_T_7, xs_T_7, xg_T_8, xs_T_8, xa_T_signs, xb_T_signs, xn_T_signs, xa_T_types, xb_T_types, xn_T_types, xa_T_starts, xb_T_starts, xn_T_starts, xa_T_values, xb_T_values, xn_T_values, isl_i, isl_r, isl_n]
  apply t_begin hE ht hT
  intro T1 n hT1 hf1
  simp only [sl_n, q102_7, q102_8, q102_9]
  apply t_checkColourq hT1 hs ho hN hw
  · intro y1 v y2 y3
    simp only [sl_i, q102_12i, isl_i, isl_r, isl_n]
    exact key 7 0 n v T1 D rfl hT1 hf1 y1 y2 y3 hD (fun i hi => absurd hi (Nat.not_lt_zero _)) rfl
  · intro T3 f c1 c2' c3 c4
    have hfs : f < 2 ^ 20 := by rw [← c1]; exact c_named_sm ht
    simp only [sl_i, q102_12i, isl_i, isl_r, isl_n]
    exact fin5 f n 0 T3 D _ (by rw [sp_ws_bad 7 (fun e => e.1 rfl) (by rw [c1]; exact c2')]; exact c1) c2' hfs c3 c4 hD
theorem t_wish (hE : ELt E) (ht : tp_ok tp) (hT : TPx tp T) (hs : SQx q s) (ho : k_ok s) (hN : NMx nm s q) (hw : nmok nm s) (hD : D.length = 40) (hB : BKx b K) (hb : b_ok s b) (hq1 : ∀ t T' D' K', sp_ws tp nm s 7 0 = (0, t) → TPx [] T' → D'.length = 40 → b_ok s (b.1, (t, fun i => (c_named tp nm 1 (k_nC s) i).2), b.2.2) → BKx (b.1, (t, fun i => (c_named tp nm 1 (k_nC s) i).2), b.2.2) K' → Q (some (.int 0)) (px_h z E M (px_l sw c2 w2 (T') (D') S S1 (K') R C W U q q1 B0 B1 B2 B3))) (hq0 : ∀ f T' D', (sp_ws tp nm s 7 0).1 = f → ¬ f = 0 → TPx [] T' → D'.length = 40 → Q (some (.int (nI f))) (px_h z E M (px_l sw c2 w2 (T') (D') S S1 K R C W U q q1 B0 B1 B2 B3))) : wm (mp_P fx) (d + 8) 101 [.ref 59] (px_h z E M (px_l sw c2 w2 T D S S1 K R C W U q q1 B0 B1 B2 B3)) Q := by
  simp only [e101, q101_0, q101_1, q101_4, q101_5, q101_8, q101_9, q101_12, q101_13, xc_x, xg_x_0, xg_x_1, xg_x_2, xg_x_3, xg_x_4, xg_x_5, xg_x_6, xg_x_7, xg_x_8, xg_x_9, xg_x_10, xg_x_11, xg_x_12, xg_x_13, xg_x_14, xs_x_14, xg_x_15, xs_x_15, wx_some, wx_ref]
  simp only [q101_16, xc_D, xg_D_0, xa_D_draft, xb_D_draft, xn_D_draft]
  apply t_fillWish hE ht hT hs ho hN hw hD hB hb
  · intro t T' D' K' a1 a2 a3 a4 a5
    simp only [sl_i, q101_19]
    exact hq1 t T' D' K' a1 a2 a3 a4 a5
  · intro f T' D' a1 a2 a3 a4
    simp only [sl_i, q101_19]
    exact hq0 f T' D' a1 a2 a3 a4
end XZN
