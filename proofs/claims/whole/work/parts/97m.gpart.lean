/-! the law's reader of the class: parts -/
theorem fc_0 : ∀ f, f < 5 → ((0 : Int32) - nI f = 0 ↔ f = 0) := by decide
theorem g_fc_lt {tp : List Nat} {i : Nat} : g_fc tp i < 5 := by
  unfold g_fc
  repeat' split
  all_goals omega
theorem g_fc_ty {tp : List Nat} {i : Nat} (h : ¬ g_fc tp i = 0) : TY tp i = 1 := by
  unfold g_fc at h
  repeat' split at h
  all_goals first | (rename_i e; exact (wdB_t.mp e).1) | (exact absurd rfl h)
section GN
variable {fx : List Value → mm_H → Option (List Value × mm_H)} {z : Nat} {E M : Nat → mm_C} {sw c2 w2 : Bool} {T : px_T} {D : px_D} {S : px_S} {S1 : px_S} {K : px_K} {R : px_R} {C : px_C} {W : px_W} {U : px_U} {q : px_q} {q1 : px_q} {B0 : px_K} {B1 : px_K} {B2 : px_K} {B3 : px_K} {T_signs : List Int32} {T_length : Int32} {T_fault : Int32} {T_types : List Int32} {T_starts : List Int32} {T_values : List Int64} {T_tokens : Int32} {T_at : Int32} {T_behind : Int32} {S_hour : Int32} {S_open : Int32} {S_places : List Int32} {S1_hour : Int32} {S1_open : Int32} {S1_places : List Int32} {K_lines : List Int32} {K_lineCount : Int32} {K_wishes : List Int32} {K_wishCount : Int32} {K_sights : List Int32} {K_sightCount : Int32} {R_shown : List Int32} {R_length : Int32} {R_readers : Int32} {R_begins : List Int32} {R_lengths : List Int32} {R_sentences : Int32} {R_order : List Int32} {R_able : Int32} {R_standing : List Int32} {R_lovers : List Int32} {R_lowest : List Int32} {C_ways : List Int32} {C_rows : List Int32} {C_shallower : List Int32} {C_length : Int32} {C_goal : Int32} {W_row : List Int32} {W_walkers : Int32} {W_names : Int32} {W_wanted : List Int32} {W_shown : List Int32} {W_places : List Int32} {W_rest : List Int32} {W_spent : List Int32} {W_tried : List Int32} {U_undoRows : List Int64} {U_markScenes : List Int64} {U_marksLaid : List Int32} {U_undoCount : Int32} {U_undoEnd : Int32} {q_sortNames : List Int64} {q_sortCount : Int32} {q_colourNames : List Int64} {q_colourSorts : List Int32} {q_colourCount : Int32} {q_ruleMakes : List Int32} {q_ruleFirsts : List Int32} {q_ruleSeconds : List Int32} {q_ruleCount : Int32} {q_saysSort : Int32} {q_walkerNames : List Int64} {q_kinds : List Int32} {q_walkerColours : List Int32} {q_starts : List Int32} {q_stepRows : List Int32} {q_stepCounts : List Int32} {q_walkerCount : Int32} {q_gusts : List Int32} {q_gustCount : Int32} {q_parts : List Int32} {q_count : Int32} {q_stack : List Int32} {q_height : Int32} {q1_sortNames : List Int64} {q1_sortCount : Int32} {q1_colourNames : List Int64} {q1_colourSorts : List Int32} {q1_colourCount : Int32} {q1_ruleMakes : List Int32} {q1_ruleFirsts : List Int32} {q1_ruleSeconds : List Int32} {q1_ruleCount : Int32} {q1_saysSort : Int32} {q1_walkerNames : List Int64} {q1_kinds : List Int32} {q1_walkerColours : List Int32} {q1_starts : List Int32} {q1_stepRows : List Int32} {q1_stepCounts : List Int32} {q1_walkerCount : Int32} {q1_gusts : List Int32} {q1_gustCount : Int32} {q1_parts : List Int32} {q1_count : Int32} {q1_stack : List Int32} {q1_height : Int32} {B0_lines : List Int32} {B0_lineCount : Int32} {B0_wishes : List Int32} {B0_wishCount : Int32} {B0_sights : List Int32} {B0_sightCount : Int32} {B1_lines : List Int32} {B1_lineCount : Int32} {B1_wishes : List Int32} {B1_wishCount : Int32} {B1_sights : List Int32} {B1_sightCount : Int32} {B2_lines : List Int32} {B2_lineCount : Int32} {B2_wishes : List Int32} {B2_wishCount : Int32} {B2_sights : List Int32} {B2_sightCount : Int32} {B3_lines : List Int32} {B3_lineCount : Int32} {B3_wishes : List Int32} {B3_wishCount : Int32} {B3_sights : List Int32} {B3_sightCount : Int32}
variable {d : Nat} {Q : Option Value → mm_H → Prop} {tp : List Nat} {n k dp i : Nat}
theorem t_lpre {dep : Nat} (hE : ELt E) (h : TKx tp n i T) (hq1 : g_st tp i = true → ww (mp_P fx) (dep + 5) 85 48 [some (.ref 60), some (.ref (px_ta (!sw) + 14)), some (.int (nI dp)), some (.int (0 - nI (g_fc tp i))), some (.int (if wdB tp i 19 = true then 1 else 0)), some (.int (if snB tp i 40 = true then 1 else 0))] [] (px_h z E M (px_l sw c2 w2 T D S S1 K R C W U q q1 B0 B1 B2 B3)) Q) (hq0 : g_st tp i = false → ∀ T', TKx tp n i T' → T'.2.2.1 = nI (flt tp 1 i) → Q (some (.int 0)) (px_h z E M (px_l sw c2 w2 (T') D S S1 K R C W U q q1 B0 B1 B2 B3))) : wm (mp_P fx) (dep + 5) 85 [.ref 60, .ref (px_ta (!sw) + 14), .int (nI dp)] (px_h z E M (px_l sw c2 w2 T D S S1 K R C W U q q1 B0 B1 B2 B3)) Q := by
  have hf5 := g_fc_lt (tp := tp) (i := i)
  unfold g_st at hq1 hq0
  simp only [e85, b85_0, b85_1, bn_0 b85_0, bn_1 b85_1, q85_0]
  simp only [b85_0, b85_1, bn_0 b85_0, bn_1 b85_1, q85_1]
  apply t_factAt hE h
  simp only [sl_i, b85_0, b85_1, bn_0 b85_0, bn_1 b85_1, q85_4i, q85_5, q85_6, isl_i, isl_r, isl_n]
  simp only [b85_0, b85_1, bn_0 b85_0, bn_1 b85_1, q85_8, xc_T, xg_T_0, xg_T_1, xs_T_1, xg_T_2, xs_T_2, xg_T_3, xg_T_4, xg_T_5, xg_T_6, xs_T_6, xg_T_7, xs_T_7, xg_T_8, xs_T_8, xa_T_signs, xb_T_signs, xn_T_signs, xa_T_types, xb_T_types, xn_T_types, xa_T_starts, xb_T_starts, xn_T_starts, xa_T_values, xb_T_values, xn_T_values]
  have rest : ∀ a : Int32, a = (if wdB tp i 19 = true then 1 else 0) → ww (mp_P fx) (dep + 5) 85 11 [some (.ref 60), some (.ref (px_ta (!sw) + 14)), some (.int (nI dp)), some (.int (0 - nI (g_fc tp i))), none, none] [.int a] (px_h z E M (px_l sw c2 w2 T D S S1 K R C W U q q1 B0 B1 B2 B3)) Q := by
    intro a ha
    simp only [b85_0, b85_1, bn_0 b85_0, bn_1 b85_1, q85_11i, q85_13, q85_14, isl_i, isl_r, isl_n]
    simp only [b85_0, b85_1, bn_0 b85_0, bn_1 b85_1, q85_16, xc_T, xg_T_0, xg_T_1, xs_T_1, xg_T_2, xs_T_2, xg_T_3, xg_T_4, xg_T_5, xg_T_6, xs_T_6, xg_T_7, xs_T_7, xg_T_8, xs_T_8, xa_T_signs, xb_T_signs, xn_T_signs, xa_T_types, xb_T_types, xn_T_types, xa_T_starts, xb_T_starts, xn_T_starts, xa_T_values, xb_T_values, xn_T_values]
    have rest2 : ∀ b : Int32, b = (if snB tp i 40 = true then 1 else 0) → ww (mp_P fx) (dep + 5) 85 19 [some (.ref 60), some (.ref (px_ta (!sw) + 14)), some (.int (nI dp)), some (.int (0 - nI (g_fc tp i))), some (.int a), none] [.int b] (px_h z E M (px_l sw c2 w2 T D S S1 K R C W U q q1 B0 B1 B2 B3)) Q := by
      intro b hb
      rw [← ha, ← hb] at hq1
      simp only [b85_0, b85_1, bn_0 b85_0, bn_1 b85_1, q85_19i, q85_21, q85_22, q85_25, q85_27, q85_30, q85_32, q85_35, isl_i, isl_r, isl_n]
      by_cases e1 : g_fc tp i = 0
      · rw [if_neg (fun y => y ((fc_0 _ hf5).mpr e1))]
        rw [decide_eq_true e1] at hq1 hq0
        by_cases e2 : wdB tp i 19 = true
        · rw [if_pos (by rw [ha, if_pos e2]; decide)]
          exact hq1 (by rw [e2]; rfl)
        · rw [if_neg (by rw [ha, if_neg e2]; decide)]
          rw [Bool.not_eq_true] at e2
          by_cases e3 : snB tp i 40 = true
          · rw [if_pos (by rw [hb, if_pos e3]; decide)]
            exact hq1 (by rw [e2, e3]; rfl)
          · rw [if_neg (by rw [hb, if_neg e3]; decide)]
            rw [Bool.not_eq_true] at e3
            simp only [b85_0, b85_1, bn_0 b85_0, bn_1 b85_1, q85_36, xc_T, xg_T_0, xg_T_1, xs_T_1, xg_T_2, xs_T_2, xg_T_3, xg_T_4, xg_T_5, xg_T_6, xs_T_6, xg_T_7, xs_T_7, xg_T_8, xs_T_8, xa_T_signs, xb_T_signs, xn_T_signs, xa_T_types, xb_T_types, xn_T_types, xa_T_starts, xb_T_starts, xn_T_starts, xa_T_values, xb_T_values, xn_T_values]
            apply t_atNumber h
            · intro y
              simp only [sl_i, b85_0, b85_1, bn_0 b85_0, bn_1 b85_1, q85_39]
              rw [if_pos (by decide)]
              exact hq1 (by rw [e2, e3, decide_eq_true y]; rfl)
            · intro y
              simp only [sl_i, b85_0, b85_1, bn_0 b85_0, bn_1 b85_1, q85_39, q85_42, q85_43]
              rw [if_neg (by decide)]
              simp only [b85_0, b85_1, bn_0 b85_0, bn_1 b85_1, q85_44, xc_T, xg_T_0, xg_T_1, xs_T_1, xg_T_2, xs_T_2, xg_T_3, xg_T_4, xg_T_5, xg_T_6, xs_T_6, xg_T_7, xs_T_7, xg_T_8, xs_T_8, xa_T_signs, xb_T_signs, xn_T_signs, xa_T_types, xb_T_types, xn_T_types, xa_T_starts, xb_T_starts, xn_T_starts, xa_T_values, xb_T_values, xn_T_values]
              apply t_refuse (kd := 1) h
              intro T' h2 h3
              simp only [sl_i, b85_0, b85_1, bn_0 b85_0, bn_1 b85_1, q85_47]
              exact hq0 (by rw [e2, e3, decide_eq_false y]; rfl) T' h2 h3
      · rw [if_pos (fun y => e1 ((fc_0 _ hf5).mp y))]
        exact hq1 (by rw [decide_eq_false e1]; rfl)
    apply t_atSign (c := 40) (by omega) h
    · intro y
      exact rest2 1 (by rw [if_pos (snB_t.mpr y)])
    · intro y
      exact rest2 0 (by rw [if_neg (fun e => y (snB_t.mp e))])
  apply t_atWord (w := 19) hE (by omega) (by omega) h
  · intro y
    exact rest 1 (by rw [if_pos (wdB_t.mpr y)])
  · intro y
    exact rest 0 (by rw [if_neg (fun e => y (wdB_t.mp e))])
theorem t_lpart (hE : ELt E) : ∀ (k dp d : Nat), dp + k = 5 → PTx fx z E M sw c2 w2 D S S1 K R C W U q q1 B0 B1 B2 B3 tp n 85 (d + 5 * k + 8) dp (g_part tp k) := by
  intro k
  induction k with
  | zero =>
    intro dp d hdp Q ps q' T i hT hf hL hps hq1 hq0
    have hdp5 : dp = 5 := by omega
    subst hdp5
    rw [g_part] at hq1 hq0
    apply t_lpre hE hT
    · intro y
      rw [if_pos y] at hq0
      simp only [b85_0, b85_1, bn_0 b85_0, bn_1 b85_1, q85_48, q85_49, q85_50, q85_53, q85_54]
      rw [if_neg (by decide)]
      simp only [b85_0, b85_1, bn_0 b85_0, bn_1 b85_1, q85_55, xc_T, xg_T_0, xg_T_1, xs_T_1, xg_T_2, xs_T_2, xg_T_3, xg_T_4, xg_T_5, xg_T_6, xs_T_6, xg_T_7, xs_T_7, xg_T_8, xs_T_8, xa_T_signs, xb_T_signs, xn_T_signs, xa_T_types, xb_T_types, xn_T_types, xa_T_starts, xb_T_starts, xn_T_starts, xa_T_values, xb_T_values, xn_T_values]
      apply t_refuse (kd := 5) hT
      intro T' h2 h3
      simp only [sl_i, b85_0, b85_1, bn_0 b85_0, bn_1 b85_1, q85_58]
      exact hq0 T' q' ps (flt_ne (by omega)) ⟨_, h2⟩ h3 hL
    · intro y T' h2 h3
      rw [if_neg (by rw [y]; exact Bool.false_ne_true)] at hq0
      exact hq0 T' q' ps (flt_ne (by omega)) ⟨_, h2⟩ h3 hL
  | succ k ih =>
    intro dp d hdp Q ps q' T i hT hf hL hps hq1 hq0
    have ih4 := ih (dp + 1) (d + 4) (by omega)
    rw [show d + 4 + 5 * k + 8 = d + 5 * k + 12 by omega] at ih4
    have ih := ih (dp + 1) d (by omega)
    have hfill := t_lfill hE (t_ltest (t_lsum (t_lprod (dep := d + 5 * k + 5) ih)))
    rw [show d + 5 * (k + 1) + 8 = d + 5 * k + 8 + 5 by omega]
    rw [g_part] at hq1 hq0
    have h1000 := hT.2.2.2.1
    have hin := hT.2.2.2.2.1
    apply t_lpre hE hT
    rotate_left
    · intro y T' h2 h3
      rw [if_neg (by rw [y]; exact Bool.false_ne_true)] at hq0
      exact hq0 T' q' ps (flt_ne (by omega)) ⟨_, h2⟩ h3 hL
    intro y
    rw [if_pos y] at hq1 hq0
    simp only [b85_0, b85_1, bn_0 b85_0, bn_1 b85_1, q85_48, q85_49, q85_50, b85_0, b85_1, bn_0 b85_0, bn_1 b85_1, q85_59, q85_61]
    rw [if_pos (by rw [nl_5, nI_ltI (by omega) (by omega)]; omega)]
    by_cases e1 : wdB tp i 19 = true
    · rw [if_pos e1] at hq1 hq0
      rw [if_neg (by rw [if_pos e1]; decide)]
      simp only [b85_0, b85_1, bn_0 b85_0, bn_1 b85_1, q85_64, q85_65, xc_T, xg_T_0, xg_T_1, xs_T_1, xg_T_2, xs_T_2, xg_T_3, xg_T_4, xg_T_5, xg_T_6, xs_T_6, xg_T_7, xs_T_7, xg_T_8, xs_T_8, xa_T_signs, xb_T_signs, xn_T_signs, xa_T_types, xb_T_types, xn_T_types, xa_T_starts, xb_T_starts, xn_T_starts, xa_T_values, xb_T_values, xn_T_values]
      apply t_pass hT (by rw [(wdB_t.mp e1).1]; decide)
      intro hT3
      simp only [sl_i, b85_0, b85_1, bn_0 b85_0, bn_1 b85_1, q85_68, q85_71, q85_72, q85_73, q85_74, q85_75, nI_1]
      rw [if_neg (by decide)]
      simp only [b85_0, b85_1, bn_0 b85_0, bn_1 b85_1, q85_76]
      apply ih4 _ ps q' _ (i + 1) hT3 hf hL (by omega)
      · intro T4 q4 a0 hT4 hf4 hL4 hl4
        rw [if_pos a0] at hq1
        have hn4 := hT4.2.2.2.2.1
        simp only [sl_i, b85_0, b85_1, bn_0 b85_0, bn_1 b85_1, q85_79, q85_82, q85_83]
        rw [if_neg (by decide)]
        simp only [b85_0, b85_1, bn_0 b85_0, bn_1 b85_1, q85_85, xc_q1, xg_q1_0, xg_q1_1, xs_q1_1, xg_q1_2, xg_q1_3, xg_q1_4, xs_q1_4, xg_q1_5, xg_q1_6, xg_q1_7, xg_q1_8, xs_q1_8, xg_q1_9, xs_q1_9, xg_q1_10, xg_q1_11, xg_q1_12, xg_q1_13, xg_q1_14, xg_q1_15, xg_q1_16, xs_q1_16, xg_q1_17, xg_q1_18, xs_q1_18, xg_q1_19, xa_q1_sortNames, xb_q1_sortNames, xn_q1_sortNames, xa_q1_colourNames, xb_q1_colourNames, xn_q1_colourNames, xa_q1_colourSorts, xb_q1_colourSorts, xn_q1_colourSorts, xa_q1_ruleMakes, xb_q1_ruleMakes, xn_q1_ruleMakes, xa_q1_ruleFirsts, xb_q1_ruleFirsts, xn_q1_ruleFirsts, xa_q1_ruleSeconds, xb_q1_ruleSeconds, xn_q1_ruleSeconds, xa_q1_walkerNames, xb_q1_walkerNames, xn_q1_walkerNames, xa_q1_kinds, xb_q1_kinds, xn_q1_kinds, xa_q1_walkerColours, xb_q1_walkerColours, xn_q1_walkerColours, xa_q1_starts, xb_q1_starts, xn_q1_starts, xa_q1_stepRows, xb_q1_stepRows, xn_q1_stepRows, xa_q1_stepCounts, xb_q1_stepCounts, xn_q1_stepCounts, xa_q1_gusts, xb_q1_gusts, xn_q1_gusts, xc_q1l, xg_q1l_0, xg_q1l_1, xs_q1l_1, xg_q1l_2, xg_q1l_3, xs_q1l_3, xa_q1_parts, xb_q1_parts, xn_q1_parts, xa_q1_stack, xb_q1_stack, xn_q1_stack]
        apply t_lawAdd hL4 (by rw [List.length_append]; omega)
        intro q5 hL5
        rw [List.append_assoc] at hL5
        simp only [sl_i, b85_0, b85_1, bn_0 b85_0, bn_1 b85_1, q85_88, q85_91, q85_92, q85_95, q85_96]
        rw [if_neg (by decide)]
        refine hq1 T4 q5 rfl hT4 hf4 hL5 ?_
        show i + ((g_part tp k (i + 1)).2.2.1 ++ [-5]).length ≤ (g_part tp k (i + 1)).2.1
        rw [List.length_append, List.length_singleton]; omega
      · intro T4 q4 ps4 a0 hk4 hf4 hL4
        rw [if_neg a0] at hq0
        simp only [sl_i, b85_0, b85_1, bn_0 b85_0, bn_1 b85_1, q85_79, b85_0, b85_1, bn_0 b85_0, bn_1 b85_1, q85_95, q85_96]
        rw [if_pos (by decide)]
        exact hq0 T4 q4 ps4 a0 hk4 hf4 hL4
    rw [if_neg e1] at hq1 hq0
    rw [if_pos (by rw [if_neg e1])]
    simp only [b85_0, b85_1, bn_0 b85_0, bn_1 b85_1, q85_97, q85_99]
    by_cases e2 : snB tp i 40 = true
    · rw [if_pos e2] at hq1 hq0
      rw [if_neg (by rw [if_pos e2]; decide)]
      simp only [b85_0, b85_1, bn_0 b85_0, bn_1 b85_1, q85_102, q85_103, xc_T, xg_T_0, xg_T_1, xs_T_1, xg_T_2, xs_T_2, xg_T_3, xg_T_4, xg_T_5, xg_T_6, xs_T_6, xg_T_7, xs_T_7, xg_T_8, xs_T_8, xa_T_signs, xb_T_signs, xn_T_signs, xa_T_types, xb_T_types, xn_T_types, xa_T_starts, xb_T_starts, xn_T_starts, xa_T_values, xb_T_values, xn_T_values]
      apply t_pass hT (by rw [(snB_t.mp e2).1]; decide)
      intro hT3
      simp only [sl_i, b85_0, b85_1, bn_0 b85_0, bn_1 b85_1, q85_106, q85_109, q85_110, q85_111, q85_112, q85_113, nI_1]
      rw [if_neg (by decide)]
      simp only [b85_0, b85_1, bn_0 b85_0, bn_1 b85_1, q85_114]
      apply hfill _ ps q' _ (i + 1) hT3 hf hL (by omega)
      · intro T4 q4 a0 hT4 hf4 hL4 hl4
        rw [if_pos a0] at hq1 hq0
        simp only [sl_i, b85_0, b85_1, bn_0 b85_0, bn_1 b85_1, q85_117, q85_120, q85_121]
        rw [if_neg (by decide)]
        simp only [b85_0, b85_1, bn_0 b85_0, bn_1 b85_1, q85_123, xc_T, xg_T_0, xg_T_1, xs_T_1, xg_T_2, xs_T_2, xg_T_3, xg_T_4, xg_T_5, xg_T_6, xs_T_6, xg_T_7, xs_T_7, xg_T_8, xs_T_8, xa_T_signs, xb_T_signs, xn_T_signs, xa_T_types, xb_T_types, xn_T_types, xa_T_starts, xb_T_starts, xn_T_starts, xa_T_values, xb_T_values, xn_T_values]
        apply t_passSign (c := 41) (by omega) hT4
        · intro y4 T5 hT5 hf5
          rw [if_pos (snB_t.mpr y4)] at hq1
          simp only [sl_i, b85_0, b85_1, bn_0 b85_0, bn_1 b85_1, q85_126, q85_129, q85_130, q85_133, q85_134]
          rw [if_neg (by decide)]
          refine hq1 T5 q4 rfl hT5 (hf5.trans hf4) hL4 ?_
          show i + (g_E tp (g_part tp k) (i + 1)).2.2.1.length ≤ (g_E tp (g_part tp k) (i + 1)).2.1 + 1
          omega
        · intro y4 T5 hT5 hf5
          rw [if_neg (fun e => y4 (snB_t.mp e))] at hq0
          simp only [sl_i, b85_0, b85_1, bn_0 b85_0, bn_1 b85_1, q85_126, b85_0, b85_1, bn_0 b85_0, bn_1 b85_1, q85_133, q85_134]
          rw [if_pos (by decide)]
          exact hq0 T5 q4 _ (flt_ne (by omega)) ⟨_, hT5⟩ hf5 hL4
      · intro T4 q4 ps4 a0 hk4 hf4 hL4
        rw [if_neg a0] at hq0
        simp only [sl_i, b85_0, b85_1, bn_0 b85_0, bn_1 b85_1, q85_117, b85_0, b85_1, bn_0 b85_0, bn_1 b85_1, q85_133, q85_134]
        rw [if_pos (by decide)]
        exact hq0 T4 q4 ps4 a0 hk4 hf4 hL4
    rw [if_neg e2] at hq1
    rw [if_pos (by rw [if_neg e2])]
    simp only [b85_0, b85_1, bn_0 b85_0, bn_1 b85_1, q85_135, q85_136, q85_137, q85_140]
    have fin : ∀ p : Int32, ¬ TY tp i = 0 → (∀ T' q2, TKx tp n (i + 1) T' → T'.2.2.1 = 0 → LQx q1 (ps ++ [p]) q2 → Q (some (.int 1)) (px_h z E M (px_l sw c2 w2 (T') D S S1 K R C W U q (q2) B0 B1 B2 B3))) → ww (mp_P fx) (d + 5 * k + 8 + 5) 85 148 [some (.ref 60), some (.ref (px_ta (!sw) + 14)), some (.int (nI dp)), some (.int (0 - nI (g_fc tp i))), some (.int (if wdB tp i 19 = true then 1 else 0)), some (.int (if snB tp i 40 = true then 1 else 0))] [.int p, .ref (px_ta (!sw) + 14)] (px_h z E M (px_l sw c2 w2 (T) D S S1 K R C W U q (q') B0 B1 B2 B3)) Q := by
      intro p hty hh
      have hlt := TY_lt hT.2.2.1 hin hty
      simp only [b85_0, b85_1, bn_0 b85_0, bn_1 b85_1, q85_148, xc_q1, xg_q1_0, xg_q1_1, xs_q1_1, xg_q1_2, xg_q1_3, xg_q1_4, xs_q1_4, xg_q1_5, xg_q1_6, xg_q1_7, xg_q1_8, xs_q1_8, xg_q1_9, xs_q1_9, xg_q1_10, xg_q1_11, xg_q1_12, xg_q1_13, xg_q1_14, xg_q1_15, xg_q1_16, xs_q1_16, xg_q1_17, xg_q1_18, xs_q1_18, xg_q1_19, xa_q1_sortNames, xb_q1_sortNames, xn_q1_sortNames, xa_q1_colourNames, xb_q1_colourNames, xn_q1_colourNames, xa_q1_colourSorts, xb_q1_colourSorts, xn_q1_colourSorts, xa_q1_ruleMakes, xb_q1_ruleMakes, xn_q1_ruleMakes, xa_q1_ruleFirsts, xb_q1_ruleFirsts, xn_q1_ruleFirsts, xa_q1_ruleSeconds, xb_q1_ruleSeconds, xn_q1_ruleSeconds, xa_q1_walkerNames, xb_q1_walkerNames, xn_q1_walkerNames, xa_q1_kinds, xb_q1_kinds, xn_q1_kinds, xa_q1_walkerColours, xb_q1_walkerColours, xn_q1_walkerColours, xa_q1_starts, xb_q1_starts, xn_q1_starts, xa_q1_stepRows, xb_q1_stepRows, xn_q1_stepRows, xa_q1_stepCounts, xb_q1_stepCounts, xn_q1_stepCounts, xa_q1_gusts, xb_q1_gusts, xn_q1_gusts, xc_q1l, xg_q1l_0, xg_q1l_1, xs_q1l_1, xg_q1l_2, xg_q1l_3, xs_q1l_3, xa_q1_parts, xb_q1_parts, xn_q1_parts, xa_q1_stack, xb_q1_stack, xn_q1_stack]
      apply t_lawAdd hL (by omega)
      intro q5 hL5
      simp only [sl_i, b85_0, b85_1, bn_0 b85_0, bn_1 b85_1, q85_151, q85_154, q85_155, xc_T, xg_T_0, xg_T_1, xs_T_1, xg_T_2, xs_T_2, xg_T_3, xg_T_4, xg_T_5, xg_T_6, xs_T_6, xg_T_7, xs_T_7, xg_T_8, xs_T_8, xa_T_signs, xb_T_signs, xn_T_signs, xa_T_types, xb_T_types, xn_T_types, xa_T_starts, xb_T_starts, xn_T_starts, xa_T_values, xb_T_values, xn_T_values]
      rw [if_neg (by decide)]
      apply t_pass hT hty
      intro hT3
      simp only [sl_i, b85_0, b85_1, bn_0 b85_0, bn_1 b85_1, q85_158, q85_161, q85_162, q85_165, q85_166]
      rw [if_neg (by decide)]
      exact hh _ q5 hT3 hf hL5
    by_cases e3 : g_fc tp i = 0
    · rw [if_pos e3] at hq1
      have h2 : TY tp i = 2 := by
        unfold g_st at y
        rw [Bool.not_eq_true] at e1 e2
        rw [decide_eq_true e3, e1, e2] at y
        exact of_decide_eq_true y
      rw [if_neg (fun y => y ((fc_0 _ g_fc_lt).mpr e3))]
      simp only [b85_0, b85_1, bn_0 b85_0, bn_1 b85_1, q85_141, xc_T, xg_T_0, xg_T_1, xs_T_1, xg_T_2, xs_T_2, xg_T_3, xg_T_4, xg_T_5, xg_T_6, xs_T_6, xg_T_7, xs_T_7, xg_T_8, xs_T_8, xa_T_signs, xb_T_signs, xn_T_signs, xa_T_types, xb_T_types, xn_T_types, xa_T_starts, xb_T_starts, xn_T_starts, xa_T_values, xb_T_values, xn_T_values]
      apply t_number hT h2
      simp only [sl_i, b85_0, b85_1, bn_0 b85_0, bn_1 b85_1, q85_144]
      exact fin _ (by rw [h2]; decide) (fun T' q2 a b c => hq1 T' q2 rfl a b c (Nat.le_refl _))
    · rw [if_neg e3] at hq1
      rw [if_pos (fun y => e3 ((fc_0 _ g_fc_lt).mp y))]
      simp only [b85_0, b85_1, bn_0 b85_0, bn_1 b85_1, q85_147]
      exact fin _ (by rw [g_fc_ty e3]; decide) (fun T' q2 a b c => hq1 T' q2 rfl a b c (Nat.le_refl _))
end GN
