/-! the law's reader of the class: products, tests, parts -/
section GM
variable {fx : List Value → mm_H → Option (List Value × mm_H)} {z : Nat} {E M : Nat → mm_C} {sw c2 w2 : Bool} {T : px_T} {D : px_D} {S : px_S} {S1 : px_S} {K : px_K} {R : px_R} {C : px_C} {W : px_W} {U : px_U} {q : px_q} {q1 : px_q} {B0 : px_K} {B1 : px_K} {B2 : px_K} {B3 : px_K} {T_signs : List Int32} {T_length : Int32} {T_fault : Int32} {T_types : List Int32} {T_starts : List Int32} {T_values : List Int64} {T_tokens : Int32} {T_at : Int32} {T_behind : Int32} {S_hour : Int32} {S_open : Int32} {S_places : List Int32} {S1_hour : Int32} {S1_open : Int32} {S1_places : List Int32} {K_lines : List Int32} {K_lineCount : Int32} {K_wishes : List Int32} {K_wishCount : Int32} {K_sights : List Int32} {K_sightCount : Int32} {R_shown : List Int32} {R_length : Int32} {R_readers : Int32} {R_begins : List Int32} {R_lengths : List Int32} {R_sentences : Int32} {R_order : List Int32} {R_able : Int32} {R_standing : List Int32} {R_lovers : List Int32} {R_lowest : List Int32} {C_ways : List Int32} {C_rows : List Int32} {C_shallower : List Int32} {C_length : Int32} {C_goal : Int32} {W_row : List Int32} {W_walkers : Int32} {W_names : Int32} {W_wanted : List Int32} {W_shown : List Int32} {W_places : List Int32} {W_rest : List Int32} {W_spent : List Int32} {W_tried : List Int32} {U_undoRows : List Int64} {U_markScenes : List Int64} {U_marksLaid : List Int32} {U_undoCount : Int32} {U_undoEnd : Int32} {q_sortNames : List Int64} {q_sortCount : Int32} {q_colourNames : List Int64} {q_colourSorts : List Int32} {q_colourCount : Int32} {q_ruleMakes : List Int32} {q_ruleFirsts : List Int32} {q_ruleSeconds : List Int32} {q_ruleCount : Int32} {q_saysSort : Int32} {q_walkerNames : List Int64} {q_kinds : List Int32} {q_walkerColours : List Int32} {q_starts : List Int32} {q_stepRows : List Int32} {q_stepCounts : List Int32} {q_walkerCount : Int32} {q_gusts : List Int32} {q_gustCount : Int32} {q_parts : List Int32} {q_count : Int32} {q_stack : List Int32} {q_height : Int32} {q1_sortNames : List Int64} {q1_sortCount : Int32} {q1_colourNames : List Int64} {q1_colourSorts : List Int32} {q1_colourCount : Int32} {q1_ruleMakes : List Int32} {q1_ruleFirsts : List Int32} {q1_ruleSeconds : List Int32} {q1_ruleCount : Int32} {q1_saysSort : Int32} {q1_walkerNames : List Int64} {q1_kinds : List Int32} {q1_walkerColours : List Int32} {q1_starts : List Int32} {q1_stepRows : List Int32} {q1_stepCounts : List Int32} {q1_walkerCount : Int32} {q1_gusts : List Int32} {q1_gustCount : Int32} {q1_parts : List Int32} {q1_count : Int32} {q1_stack : List Int32} {q1_height : Int32} {B0_lines : List Int32} {B0_lineCount : Int32} {B0_wishes : List Int32} {B0_wishCount : Int32} {B0_sights : List Int32} {B0_sightCount : Int32} {B1_lines : List Int32} {B1_lineCount : Int32} {B1_wishes : List Int32} {B1_wishCount : Int32} {B1_sights : List Int32} {B1_sightCount : Int32} {B2_lines : List Int32} {B2_lineCount : Int32} {B2_wishes : List Int32} {B2_wishCount : Int32} {B2_sights : List Int32} {B2_sightCount : Int32} {B3_lines : List Int32} {B3_lineCount : Int32} {B3_wishes : List Int32} {B3_wishCount : Int32} {B3_sights : List Int32} {B3_sightCount : Int32}
variable {d : Nat} {Q : Option Value → mm_H → Prop} {tp : List Nat} {n k dp : Nat}
theorem t_lprod {dep : Nat} {pt : Nat → GR} (hsub : PTx fx z E M sw c2 w2 D S S1 K R C W U q q1 B0 B1 B2 B3 tp n 85 (dep + 3) dp pt) : PTx fx z E M sw c2 w2 D S S1 K R C W U q q1 B0 B1 B2 B3 tp n 84 (dep + 4) dp (g_P tp pt) := by
  intro Q ps q' T i hT hf hL hps hq1 hq0
  unfold g_P at hq1 hq0
  have fail : ∀ (T4 : px_T) (q4 : px_q) (l4 : Int32), Q (some (.int 0)) (px_h z E M (px_l sw c2 w2 (T4) D S S1 K R C W U q (q4) B0 B1 B2 B3)) → ww (mp_P fx) (dep + 4) 84 10 [some (.ref 60), some (.ref (px_ta (!sw) + 14)), some (.int (nI dp)), some (.int 0), some (.int l4)] [] (px_h z E M (px_l sw c2 w2 (T4) D S S1 K R C W U q (q4) B0 B1 B2 B3)) Q := by
    intro T4 q4 l4 hh
    rw [q84_10]
    simp only [b84_0, b84_1, bn_0 b84_0, bn_1 b84_1, q84_11, b84_0, b84_1, bn_0 b84_0, bn_1 b84_1, q84_68, q84_69]
    rw [if_pos (by decide)]
    exact hh
  have key : (pt i).1 = 0 → ∀ (m t : Nat) (x : GR) (q2 : px_q) (T2 : px_T), t + m = 1000 → x.1 = 0 → TKx tp n x.2.1 T2 → T2.2.2.1 = 0 → LQx q1 (ps ++ x.2.2.1) q2 → i + x.2.2.1.length ≤ x.2.1 → g_lp pt (opM tp) 1000 (pt i) = g_lp pt (opM tp) m x → ww (mp_P fx) (dep + 4) 84 10 [some (.ref 60), some (.ref (px_ta (!sw) + 14)), some (.int (nI dp)), some (.int 1), some (.int (nI t))] [] (px_h z E M (px_l sw c2 w2 (T2) D S S1 K R C W U q (q2) B0 B1 B2 B3)) Q := by
    intro g0 m
    rw [if_pos g0] at hq1 hq0
    induction m with
    | zero =>
      intro t x q2 T2 ht hx hT2 hf2 hL2 hl2 hlp
      rw [g_lp] at hlp
      rw [hlp] at hq1
      rw [q84_10]
      simp only [b84_0, b84_1, bn_0 b84_0, bn_1 b84_1, q84_11, q84_14, q84_16, q84_19, b84_0, b84_1, bn_0 b84_0, bn_1 b84_1, q84_68, q84_69]
      rw [if_neg (by decide), if_pos (by rw [show (1000 : Int32) = nI 1000 from rfl, nI_leI (by omega) (by omega)]; omega)]
      exact hq1 T2 q2 hx hT2 hf2 hL2 hl2
    | succ m ih =>
      intro t x q2 T2 ht hx hT2 hf2 hL2 hl2 hlp
      have h1000 := hT2.2.2.2.1
      have hxn := hT2.2.2.2.2.1
      rw [g_lp_s (m := m) (x := x)] at hlp
      rw [q84_10]
      simp only [b84_0, b84_1, bn_0 b84_0, bn_1 b84_1, q84_11, q84_14, q84_16, q84_19, q84_22, q84_23]
      rw [if_neg (by decide), if_neg (by rw [show (1000 : Int32) = nI 1000 from rfl, nI_leI (by omega) (by omega)]; omega)]
      simp only [b84_0, b84_1, bn_0 b84_0, bn_1 b84_1, q84_25, xc_T, xg_T_0, xg_T_1, xs_T_1, xg_T_2, xs_T_2, xg_T_3, xg_T_4, xg_T_5, xg_T_6, xs_T_6, xg_T_7, xs_T_7, xg_T_8, xs_T_8, xa_T_signs, xb_T_signs, xn_T_signs, xa_T_types, xb_T_types, xn_T_types, xa_T_starts, xb_T_starts, xn_T_starts, xa_T_values, xb_T_values, xn_T_values]
      apply t_atSign (c := 42) (by omega) hT2
      · intro y
        have hop : opM tp x.2.1 = some (-12, 22) := by unfold opM; rw [if_pos (snB_t.mpr y)]
        rw [hop] at hlp
        simp only [] at hlp
        simp only [sl_i, b84_0, b84_1, bn_0 b84_0, bn_1 b84_1, q84_28, q84_31]
        rw [if_neg (by decide)]
        simp only [b84_0, b84_1, bn_0 b84_0, bn_1 b84_1, q84_32, xc_T, xg_T_0, xg_T_1, xs_T_1, xg_T_2, xs_T_2, xg_T_3, xg_T_4, xg_T_5, xg_T_6, xs_T_6, xg_T_7, xs_T_7, xg_T_8, xs_T_8, xa_T_signs, xb_T_signs, xn_T_signs, xa_T_types, xb_T_types, xn_T_types, xa_T_starts, xb_T_starts, xn_T_starts, xa_T_values, xb_T_values, xn_T_values]
        apply t_pass hT2 (by rw [y.1]; decide)
        intro hT3
        simp only [sl_i, b84_0, b84_1, bn_0 b84_0, bn_1 b84_1, q84_35, q84_38, q84_39, q84_40]
        rw [if_neg (by decide)]
        simp only [b84_0, b84_1, bn_0 b84_0, bn_1 b84_1, q84_41]
        apply hsub _ (ps ++ x.2.2.1) q2 _ (x.2.1 + 1) hT3 hf2 hL2 (by rw [List.length_append]; omega)
        · intro T4 q4 a0 hT4 hf4 hL4 hl4
          rw [if_pos a0] at hlp
          have hn4 := hT4.2.2.2.2.1
          have hn4' := hT4.2.2.2.1
          simp only [sl_i, b84_0, b84_1, bn_0 b84_0, bn_1 b84_1, q84_44, q84_47, q84_48]
          rw [if_neg (by decide)]
          simp only [b84_0, b84_1, bn_0 b84_0, bn_1 b84_1, q84_50, xc_q1, xg_q1_0, xg_q1_1, xs_q1_1, xg_q1_2, xg_q1_3, xg_q1_4, xs_q1_4, xg_q1_5, xg_q1_6, xg_q1_7, xg_q1_8, xs_q1_8, xg_q1_9, xs_q1_9, xg_q1_10, xg_q1_11, xg_q1_12, xg_q1_13, xg_q1_14, xg_q1_15, xg_q1_16, xs_q1_16, xg_q1_17, xg_q1_18, xs_q1_18, xg_q1_19, xa_q1_sortNames, xb_q1_sortNames, xn_q1_sortNames, xa_q1_colourNames, xb_q1_colourNames, xn_q1_colourNames, xa_q1_colourSorts, xb_q1_colourSorts, xn_q1_colourSorts, xa_q1_ruleMakes, xb_q1_ruleMakes, xn_q1_ruleMakes, xa_q1_ruleFirsts, xb_q1_ruleFirsts, xn_q1_ruleFirsts, xa_q1_ruleSeconds, xb_q1_ruleSeconds, xn_q1_ruleSeconds, xa_q1_walkerNames, xb_q1_walkerNames, xn_q1_walkerNames, xa_q1_kinds, xb_q1_kinds, xn_q1_kinds, xa_q1_walkerColours, xb_q1_walkerColours, xn_q1_walkerColours, xa_q1_starts, xb_q1_starts, xn_q1_starts, xa_q1_stepRows, xb_q1_stepRows, xn_q1_stepRows, xa_q1_stepCounts, xb_q1_stepCounts, xn_q1_stepCounts, xa_q1_gusts, xb_q1_gusts, xn_q1_gusts, xc_q1l, xg_q1l_0, xg_q1l_1, xs_q1l_1, xg_q1l_2, xg_q1l_3, xs_q1l_3, xa_q1_parts, xb_q1_parts, xn_q1_parts, xa_q1_stack, xb_q1_stack, xn_q1_stack]
          apply t_lawAdd hL4 (by rw [List.length_append, List.length_append]; omega)
          intro q5 hL5
          rw [List.append_assoc, List.append_assoc, ← List.append_assoc x.2.2.1] at hL5
          rw [List.append_assoc x.2.2.1] at hL5
          simp only [sl_i, b84_0, b84_1, bn_0 b84_0, bn_1 b84_1, q84_53, q84_56, q84_57, b84_0, b84_1, bn_0 b84_0, bn_1 b84_1, q84_61i, q84_62i, q84_65, isl_i, isl_r, isl_n, nI_1]
          rw [if_neg (by decide)]
          refine ih (t + 1) (g_jn x (-12) 22 (pt (x.2.1 + 1))) q5 T4 (by omega) rfl hT4 hf4 hL5 ?_ hlp
          show i + (x.2.2.1 ++ ((pt (x.2.1 + 1)).2.2.1 ++ [-12])).length ≤ (pt (x.2.1 + 1)).2.1
          rw [List.length_append, List.length_append, List.length_singleton]; omega
        · intro T4 q4 ps4 a0 hk4 hf4 hL4
          rw [if_neg a0] at hlp
          rw [hlp] at hq0
          simp only [sl_i, b84_0, b84_1, bn_0 b84_0, bn_1 b84_1, q84_44, b84_0, b84_1, bn_0 b84_0, bn_1 b84_1, q84_60, q84_61i, q84_62i, q84_65, isl_i, isl_r, isl_n]
          rw [if_pos (by decide)]
          exact fail T4 q4 _ (hq0 T4 q4 ps4 a0 hk4 hf4 hL4)
      · intro y
        have hop : opM tp x.2.1 = none := by unfold opM; rw [if_neg (fun e => y (snB_t.mp e))]
        rw [hop] at hlp
        simp only [] at hlp
        rw [hlp] at hq1
        simp only [sl_i, b84_0, b84_1, bn_0 b84_0, bn_1 b84_1, q84_28, b84_0, b84_1, bn_0 b84_0, bn_1 b84_1, q84_68, q84_69]
        rw [if_pos (by decide)]
        exact hq1 T2 q2 hx hT2 hf2 hL2 hl2
  simp only [e84, b84_0, b84_1, bn_0 b84_0, bn_1 b84_1, q84_0, q84_1, q84_2]
  simp only [b84_0, b84_1, bn_0 b84_0, bn_1 b84_1, q84_3]
  apply hsub _ ps q' T i hT hf hL hps
  · intro T2 q2 g0 hT2 hf2 hL2 hl2
    simp only [sl_i, b84_0, b84_1, bn_0 b84_0, bn_1 b84_1, q84_6i, q84_7, q84_8i, isl_i, isl_r, isl_n]
    exact key g0 1000 0 _ q2 T2 (by omega) g0 hT2 hf2 hL2 hl2 rfl
  · intro T2 q2 ps2 g0 hk2 hf2 hL2
    rw [if_neg g0] at hq0
    simp only [sl_i, b84_0, b84_1, bn_0 b84_0, bn_1 b84_1, q84_6i, q84_7, q84_8i, isl_i, isl_r, isl_n]
    exact fail T2 q2 _ (hq0 T2 q2 ps2 g0 hk2 hf2 hL2)
theorem t_ltest {dep : Nat} {pt : Nat → GR} (hsub : PTx fx z E M sw c2 w2 D S S1 K R C W U q q1 B0 B1 B2 B3 tp n 83 (dep + 3) dp (g_S tp pt)) : PTx fx z E M sw c2 w2 D S S1 K R C W U q q1 B0 B1 B2 B3 tp n 82 (dep + 4) dp (g_T tp pt) := by
  intro Q ps q' T i hT hf hL hps hq1 hq0
  unfold g_T at hq1 hq0
  simp only [e82, b82_0, b82_1, bn_0 b82_0, bn_1 b82_1, q82_0, q82_1, q82_2]
  simp only [b82_0, b82_1, bn_0 b82_0, bn_1 b82_1, q82_3]
  apply hsub _ ps q' T i hT hf hL hps
  rotate_left
  · intro T2 q2 ps2 g0 hk2 hf2 hL2
    rw [if_neg g0] at hq0
    simp only [sl_i, b82_0, b82_1, bn_0 b82_0, bn_1 b82_1, q82_6i, q82_7, q82_8, b82_0, b82_1, bn_0 b82_0, bn_1 b82_1, q82_78, q82_79, isl_i, isl_r, isl_n]
    rw [if_pos (by decide)]
    exact hq0 T2 q2 ps2 g0 hk2 hf2 hL2
  intro T2 q2 g0 hT2 hf2 hL2 hl2
  rw [if_pos g0] at hq1 hq0
  simp only [sl_i, b82_0, b82_1, bn_0 b82_0, bn_1 b82_1, q82_6i, q82_7, q82_8, q82_11, q82_12, isl_i, isl_r, isl_n]
  rw [if_neg (by decide)]
  have h1000 := hT2.2.2.2.1
  have hxn := hT2.2.2.2.2.1
  have hcont : ∀ (p : Int32) (cc : Nat), opT tp (g_S tp pt i).2.1 = some (p, cc) → ¬ TY tp (g_S tp pt i).2.1 = 0 → ww (mp_P fx) (dep + 4) 82 45 [some (.ref 60), some (.ref (px_ta (!sw) + 14)), some (.int (nI dp)), some (.int 1), none] [.int p] (px_h z E M (px_l sw c2 w2 (T2) D S S1 K R C W U q (q2) B0 B1 B2 B3)) Q := by
    intro p cc hop hty
    rw [hop] at hq1 hq0
    simp only [] at hq1 hq0
    simp only [b82_0, b82_1, bn_0 b82_0, bn_1 b82_1, q82_45i, q82_47, q82_48, xc_T, xg_T_0, xg_T_1, xs_T_1, xg_T_2, xs_T_2, xg_T_3, xg_T_4, xg_T_5, xg_T_6, xs_T_6, xg_T_7, xs_T_7, xg_T_8, xs_T_8, xa_T_signs, xb_T_signs, xn_T_signs, xa_T_types, xb_T_types, xn_T_types, xa_T_starts, xb_T_starts, xn_T_starts, xa_T_values, xb_T_values, xn_T_values, isl_i, isl_r, isl_n]
    apply t_pass hT2 hty
    intro hT3
    simp only [sl_i, b82_0, b82_1, bn_0 b82_0, bn_1 b82_1, q82_51, q82_54, q82_55, q82_56]
    rw [if_neg (by decide)]
    simp only [b82_0, b82_1, bn_0 b82_0, bn_1 b82_1, q82_57]
    apply hsub _ (ps ++ (g_S tp pt i).2.2.1) q2 _ ((g_S tp pt i).2.1 + 1) hT3 hf2 hL2 (by rw [List.length_append]; omega)
    · intro T4 q4 a0 hT4 hf4 hL4 hl4
      rw [if_pos a0] at hq1
      have hn4 := hT4.2.2.2.2.1
      have hn4' := hT4.2.2.2.1
      simp only [sl_i, b82_0, b82_1, bn_0 b82_0, bn_1 b82_1, q82_60, q82_63, q82_64]
      rw [if_neg (by decide)]
      simp only [b82_0, b82_1, bn_0 b82_0, bn_1 b82_1, q82_66, xc_q1, xg_q1_0, xg_q1_1, xs_q1_1, xg_q1_2, xg_q1_3, xg_q1_4, xs_q1_4, xg_q1_5, xg_q1_6, xg_q1_7, xg_q1_8, xs_q1_8, xg_q1_9, xs_q1_9, xg_q1_10, xg_q1_11, xg_q1_12, xg_q1_13, xg_q1_14, xg_q1_15, xg_q1_16, xs_q1_16, xg_q1_17, xg_q1_18, xs_q1_18, xg_q1_19, xa_q1_sortNames, xb_q1_sortNames, xn_q1_sortNames, xa_q1_colourNames, xb_q1_colourNames, xn_q1_colourNames, xa_q1_colourSorts, xb_q1_colourSorts, xn_q1_colourSorts, xa_q1_ruleMakes, xb_q1_ruleMakes, xn_q1_ruleMakes, xa_q1_ruleFirsts, xb_q1_ruleFirsts, xn_q1_ruleFirsts, xa_q1_ruleSeconds, xb_q1_ruleSeconds, xn_q1_ruleSeconds, xa_q1_walkerNames, xb_q1_walkerNames, xn_q1_walkerNames, xa_q1_kinds, xb_q1_kinds, xn_q1_kinds, xa_q1_walkerColours, xb_q1_walkerColours, xn_q1_walkerColours, xa_q1_starts, xb_q1_starts, xn_q1_starts, xa_q1_stepRows, xb_q1_stepRows, xn_q1_stepRows, xa_q1_stepCounts, xb_q1_stepCounts, xn_q1_stepCounts, xa_q1_gusts, xb_q1_gusts, xn_q1_gusts, xc_q1l, xg_q1l_0, xg_q1l_1, xs_q1l_1, xg_q1l_2, xg_q1l_3, xs_q1l_3, xa_q1_parts, xb_q1_parts, xn_q1_parts, xa_q1_stack, xb_q1_stack, xn_q1_stack]
      apply t_lawAdd hL4 (by rw [List.length_append, List.length_append]; omega)
      intro q5 hL5
      rw [List.append_assoc, List.append_assoc, ← List.append_assoc (g_S tp pt i).2.2.1] at hL5
      rw [List.append_assoc (g_S tp pt i).2.2.1] at hL5
      simp only [sl_i, b82_0, b82_1, bn_0 b82_0, bn_1 b82_1, q82_69, q82_72, q82_73, b82_0, b82_1, bn_0 b82_0, bn_1 b82_1, q82_77i, q82_78, q82_79, isl_i, isl_r, isl_n]
      rw [if_neg (by decide)]
      refine hq1 T4 q5 rfl hT4 hf4 hL5 ?_
      show i + ((g_S tp pt i).2.2.1 ++ ((g_S tp pt ((g_S tp pt i).2.1 + 1)).2.2.1 ++ [p])).length ≤ (g_S tp pt ((g_S tp pt i).2.1 + 1)).2.1
      rw [List.length_append, List.length_append, List.length_singleton]; omega
    · intro T4 q4 ps4 a0 hk4 hf4 hL4
      rw [if_neg a0] at hq0
      simp only [sl_i, b82_0, b82_1, bn_0 b82_0, bn_1 b82_1, q82_60, b82_0, b82_1, bn_0 b82_0, bn_1 b82_1, q82_76, q82_77i, q82_78, q82_79, isl_i, isl_r, isl_n]
      rw [if_pos (by decide)]
      exact hq0 T4 q4 ps4 a0 hk4 hf4 hL4
  have hagain : ¬ TY tp (g_S tp pt i).2.1 = 0 → ¬ opT tp (g_S tp pt i).2.1 = none → ww (mp_P fx) (dep + 4) 82 29 [some (.ref 60), some (.ref (px_ta (!sw) + 14)), some (.int (nI dp)), some (.int 1), none] [] (px_h z E M (px_l sw c2 w2 (T2) D S S1 K R C W U q (q2) B0 B1 B2 B3)) Q := by
    intro hty hnn
    simp only [b82_0, b82_1, bn_0 b82_0, bn_1 b82_1, q82_29, q82_30]
    simp only [b82_0, b82_1, bn_0 b82_0, bn_1 b82_1, q82_32, xc_T, xg_T_0, xg_T_1, xs_T_1, xg_T_2, xs_T_2, xg_T_3, xg_T_4, xg_T_5, xg_T_6, xs_T_6, xg_T_7, xs_T_7, xg_T_8, xs_T_8, xa_T_signs, xb_T_signs, xn_T_signs, xa_T_types, xb_T_types, xn_T_types, xa_T_starts, xb_T_starts, xn_T_starts, xa_T_values, xb_T_values, xn_T_values]
    apply t_atSign (c := 60) (by omega) hT2
    · intro y
      simp only [sl_i, b82_0, b82_1, bn_0 b82_0, bn_1 b82_1, q82_35, q82_38, q82_40, q82_43]
      rw [if_neg (by decide)]
      exact hcont (-8) 24 (by unfold opT; rw [if_pos (snB_t.mpr y)]) hty
    · intro y
      simp only [sl_i, b82_0, b82_1, bn_0 b82_0, bn_1 b82_1, q82_35, b82_0, b82_1, bn_0 b82_0, bn_1 b82_1, q82_43]
      rw [if_pos (by decide)]
      refine hcont (-9) 25 ?_ hty
      unfold opT at hnn ⊢
      rw [if_neg (fun e => y (snB_t.mp e))] at hnn ⊢
      split at hnn
      · rename_i e; rw [if_pos e]
      · exact absurd rfl hnn
  simp only [b82_0, b82_1, bn_0 b82_0, bn_1 b82_1, q82_14, xc_T, xg_T_0, xg_T_1, xs_T_1, xg_T_2, xs_T_2, xg_T_3, xg_T_4, xg_T_5, xg_T_6, xs_T_6, xg_T_7, xs_T_7, xg_T_8, xs_T_8, xa_T_signs, xb_T_signs, xn_T_signs, xa_T_types, xb_T_types, xn_T_types, xa_T_starts, xb_T_starts, xn_T_starts, xa_T_values, xb_T_values, xn_T_values]
  apply t_atSign (c := 60) (by omega) hT2
  · intro y
    simp only [sl_i, b82_0, b82_1, bn_0 b82_0, bn_1 b82_1, q82_17]
    rw [if_pos (by decide)]
    exact hagain (by rw [y.1]; decide) (fun e => by unfold opT at e; rw [if_pos (snB_t.mpr y)] at e; cases e)
  · intro y
    simp only [sl_i, b82_0, b82_1, bn_0 b82_0, bn_1 b82_1, q82_17, q82_20, q82_21]
    rw [if_neg (by decide)]
    simp only [b82_0, b82_1, bn_0 b82_0, bn_1 b82_1, q82_23, xc_T, xg_T_0, xg_T_1, xs_T_1, xg_T_2, xs_T_2, xg_T_3, xg_T_4, xg_T_5, xg_T_6, xs_T_6, xg_T_7, xs_T_7, xg_T_8, xs_T_8, xa_T_signs, xb_T_signs, xn_T_signs, xa_T_types, xb_T_types, xn_T_types, xa_T_starts, xb_T_starts, xn_T_starts, xa_T_values, xb_T_values, xn_T_values]
    apply t_atSign (c := 61) (by omega) hT2
    · intro y2
      simp only [sl_i, b82_0, b82_1, bn_0 b82_0, bn_1 b82_1, q82_26]
      rw [if_neg (by decide)]
      exact hagain (by rw [y2.1]; decide) (fun e => by unfold opT at e; rw [if_neg (fun e => y (snB_t.mp e)), if_pos (snB_t.mpr y2)] at e; cases e)
    · intro y2
      simp only [sl_i, b82_0, b82_1, bn_0 b82_0, bn_1 b82_1, q82_26, b82_0, b82_1, bn_0 b82_0, bn_1 b82_1, q82_78, q82_79]
      rw [if_pos (by decide)]
      rw [show opT tp (g_S tp pt i).2.1 = none by unfold opT; rw [if_neg (fun e => y (snB_t.mp e)), if_neg (fun e => y2 (snB_t.mp e))]] at hq1
      exact hq1 T2 q2 g0 hT2 hf2 hL2 hl2
theorem t_factAt (hE : ELt E) (h : TKx tp n k T) (hq : Q (some (.int (0 - nI (g_fc tp k)))) (px_h z E M (px_l sw c2 w2 T D S S1 K R C W U q q1 B0 B1 B2 B3))) : wm (mp_P fx) (d + 4) 86 [.ref 60] (px_h z E M (px_l sw c2 w2 T D S S1 K R C W U q q1 B0 B1 B2 B3)) Q := by
  unfold g_fc at hq
  simp only [e86, q86_0, q86_1]
  simp only [q86_3, xc_T, xg_T_0, xg_T_1, xs_T_1, xg_T_2, xs_T_2, xg_T_3, xg_T_4, xg_T_5, xg_T_6, xs_T_6, xg_T_7, xs_T_7, xg_T_8, xs_T_8, xa_T_signs, xb_T_signs, xn_T_signs, xa_T_types, xb_T_types, xn_T_types, xa_T_starts, xb_T_starts, xn_T_starts, xa_T_values, xb_T_values, xn_T_values]
  apply t_atWord (w := 23) hE (by omega) (by omega) h
  · intro y
    rw [if_pos (wdB_t.mpr y)] at hq
    simp only [sl_i, q86_6, q86_9, q86_10]
    rw [if_neg (by decide)]; exact hq
  intro y
  rw [if_neg (fun e => y (wdB_t.mp e))] at hq
  simp only [sl_i, q86_6, q86_11, q86_12]
  rw [if_pos (by decide)]
  simp only [q86_14, xc_T, xg_T_0, xg_T_1, xs_T_1, xg_T_2, xs_T_2, xg_T_3, xg_T_4, xg_T_5, xg_T_6, xs_T_6, xg_T_7, xs_T_7, xg_T_8, xs_T_8, xa_T_signs, xb_T_signs, xn_T_signs, xa_T_types, xb_T_types, xn_T_types, xa_T_starts, xb_T_starts, xn_T_starts, xa_T_values, xb_T_values, xn_T_values]
  apply t_atWord (w := 24) hE (by omega) (by omega) h
  · intro y
    rw [if_pos (wdB_t.mpr y)] at hq
    simp only [sl_i, q86_17, q86_20, q86_22]
    rw [if_neg (by decide)]; exact hq
  intro y
  rw [if_neg (fun e => y (wdB_t.mp e))] at hq
  simp only [sl_i, q86_17, q86_23, q86_24]
  rw [if_pos (by decide)]
  simp only [q86_26, xc_T, xg_T_0, xg_T_1, xs_T_1, xg_T_2, xs_T_2, xg_T_3, xg_T_4, xg_T_5, xg_T_6, xs_T_6, xg_T_7, xs_T_7, xg_T_8, xs_T_8, xa_T_signs, xb_T_signs, xn_T_signs, xa_T_types, xb_T_types, xn_T_types, xa_T_starts, xb_T_starts, xn_T_starts, xa_T_values, xb_T_values, xn_T_values]
  apply t_atWord (w := 25) hE (by omega) (by omega) h
  · intro y
    rw [if_pos (wdB_t.mpr y)] at hq
    simp only [sl_i, q86_29, q86_32, q86_34]
    rw [if_neg (by decide)]; exact hq
  intro y
  rw [if_neg (fun e => y (wdB_t.mp e))] at hq
  simp only [sl_i, q86_29, q86_35, q86_36]
  rw [if_pos (by decide)]
  simp only [q86_38, xc_T, xg_T_0, xg_T_1, xs_T_1, xg_T_2, xs_T_2, xg_T_3, xg_T_4, xg_T_5, xg_T_6, xs_T_6, xg_T_7, xs_T_7, xg_T_8, xs_T_8, xa_T_signs, xb_T_signs, xn_T_signs, xa_T_types, xb_T_types, xn_T_types, xa_T_starts, xb_T_starts, xn_T_starts, xa_T_values, xb_T_values, xn_T_values]
  apply t_atWord (w := 26) hE (by omega) (by omega) h
  · intro y
    rw [if_pos (wdB_t.mpr y)] at hq
    simp only [sl_i, q86_41, q86_44, q86_46, q86_49, q86_50]
    rw [if_neg (by decide)]; exact hq
  intro y
  rw [if_neg (fun e => y (wdB_t.mp e))] at hq
  simp only [sl_i, q86_41, q86_49, q86_50]
  rw [if_pos (by decide)]; exact hq
end GM
