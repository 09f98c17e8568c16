/-! a square, of the class: all lines -/
section SX3
variable {fx : List Value → mm_H → Option (List Value × mm_H)} {z : Nat} {E M : Nat → mm_C} {sw c2 w2 : Bool} {T : px_T} {D : px_D} {S : px_S} {S1 : px_S} {K : px_K} {R : px_R} {C : px_C} {W : px_W} {U : px_U} {q : px_q} {q1 : px_q} {B0 : px_K} {B1 : px_K} {B2 : px_K} {B3 : px_K} {T_signs : List Int32} {T_length : Int32} {T_fault : Int32} {T_types : List Int32} {T_starts : List Int32} {T_values : List Int64} {T_tokens : Int32} {T_at : Int32} {T_behind : Int32} {S_hour : Int32} {S_open : Int32} {S_places : List Int32} {S1_hour : Int32} {S1_open : Int32} {S1_places : List Int32} {K_lines : List Int32} {K_lineCount : Int32} {K_wishes : List Int32} {K_wishCount : Int32} {K_sights : List Int32} {K_sightCount : Int32} {R_shown : List Int32} {R_length : Int32} {R_readers : Int32} {R_begins : List Int32} {R_lengths : List Int32} {R_sentences : Int32} {R_order : List Int32} {R_able : Int32} {R_standing : List Int32} {R_lovers : List Int32} {R_lowest : List Int32} {C_ways : List Int32} {C_rows : List Int32} {C_shallower : List Int32} {C_length : Int32} {C_goal : Int32} {W_row : List Int32} {W_walkers : Int32} {W_names : Int32} {W_wanted : List Int32} {W_shown : List Int32} {W_places : List Int32} {W_rest : List Int32} {W_spent : List Int32} {W_tried : List Int32} {U_undoRows : List Int64} {U_markScenes : List Int64} {U_marksLaid : List Int32} {U_undoCount : Int32} {U_undoEnd : Int32} {q_sortNames : List Int64} {q_sortCount : Int32} {q_colourNames : List Int64} {q_colourSorts : List Int32} {q_colourCount : Int32} {q_ruleMakes : List Int32} {q_ruleFirsts : List Int32} {q_ruleSeconds : List Int32} {q_ruleCount : Int32} {q_saysSort : Int32} {q_walkerNames : List Int64} {q_kinds : List Int32} {q_walkerColours : List Int32} {q_starts : List Int32} {q_stepRows : List Int32} {q_stepCounts : List Int32} {q_walkerCount : Int32} {q_gusts : List Int32} {q_gustCount : Int32} {q_parts : List Int32} {q_count : Int32} {q_stack : List Int32} {q_height : Int32} {q1_sortNames : List Int64} {q1_sortCount : Int32} {q1_colourNames : List Int64} {q1_colourSorts : List Int32} {q1_colourCount : Int32} {q1_ruleMakes : List Int32} {q1_ruleFirsts : List Int32} {q1_ruleSeconds : List Int32} {q1_ruleCount : Int32} {q1_saysSort : Int32} {q1_walkerNames : List Int64} {q1_kinds : List Int32} {q1_walkerColours : List Int32} {q1_starts : List Int32} {q1_stepRows : List Int32} {q1_stepCounts : List Int32} {q1_walkerCount : Int32} {q1_gusts : List Int32} {q1_gustCount : Int32} {q1_parts : List Int32} {q1_count : Int32} {q1_stack : List Int32} {q1_height : Int32} {B0_lines : List Int32} {B0_lineCount : Int32} {B0_wishes : List Int32} {B0_wishCount : Int32} {B0_sights : List Int32} {B0_sightCount : Int32} {B1_lines : List Int32} {B1_lineCount : Int32} {B1_wishes : List Int32} {B1_wishCount : Int32} {B1_sights : List Int32} {B1_sightCount : Int32} {B2_lines : List Int32} {B2_lineCount : Int32} {B2_wishes : List Int32} {B2_wishCount : Int32} {B2_sights : List Int32} {B2_sightCount : Int32} {B3_lines : List Int32} {B3_lineCount : Int32} {B3_wishes : List Int32} {B3_wishCount : Int32} {B3_sights : List Int32} {B3_sightCount : Int32}
variable {d : Nat} {Q : Option Value → mm_H → Prop} {tp : List Nat} {n k : Nat} {o : PS}
theorem t_addLine (hE : ELt E) (h : OKx tp n k o T q1) (hq1 : ∀ j o' T' q', sp_line tp k o = (0, j, o') → OKx tp n j o' T' q' → Q (some (.int 1)) (px_h z E M (px_l sw c2 w2 (T') D S S1 K R C W U q (q') B0 B1 B2 B3))) (hq0 : ∀ f T' q', (sp_line tp k o).1 = f → BDx tp n f T' q' → Q (some (.int 0)) (px_h z E M (px_l sw c2 w2 (T') D S S1 K R C W U q (q') B0 B1 B2 B3))) : wm (mp_P fx) (d + 39) 51 [.ref 60, .ref (px_ta (!sw))] (px_h z E M (px_l sw c2 w2 T D S S1 K R C W U q q1 B0 B1 B2 B3)) Q := by
  have hT := h.1
  unfold sp_line at hq1 hq0
  simp only [e51, b51_0, b51_1, bn_0 b51_0, bn_1 b51_1, q51_0, q51_1]
  simp only [b51_0, b51_1, bn_0 b51_0, bn_1 b51_1, q51_3, xc_T, xg_T_0, xg_T_1, xs_T_1, xg_T_2, xs_T_2, xg_T_3, xg_T_4, xg_T_5, xg_T_6, xs_T_6, xg_T_7, xs_T_7, xg_T_8, xs_T_8, xa_T_signs, xb_T_signs, xn_T_signs, xa_T_types, xb_T_types, xn_T_types, xa_T_starts, xb_T_starts, xn_T_starts, xa_T_values, xb_T_values, xn_T_values]
  apply t_atWord (w := 0) hE (by omega) (by omega) hT
  · intro y
    rw [if_pos (wdB_t.mpr y)] at hq1 hq0
    simp only [sl_i, b51_0, b51_1, bn_0 b51_0, bn_1 b51_1, q51_6, q51_9, q51_10]
    rw [if_neg (by decide)]
    simp only [b51_0, b51_1, bn_0 b51_0, bn_1 b51_1, q51_11]
    apply t_addSort h (by rw [y.1]; decide)
    · intro j o' T' q' a1 a2
      simp only [sl_i, b51_0, b51_1, bn_0 b51_0, bn_1 b51_1, q51_14]
      exact hq1 j o' T' q' a1 a2
    · intro f T' q' a1 a2
      simp only [sl_i, b51_0, b51_1, bn_0 b51_0, bn_1 b51_1, q51_14]
      exact hq0 f T' q' a1 a2
  intro y
  rw [if_neg (fun e => y (wdB_t.mp e))] at hq1 hq0
  simp only [sl_i, b51_0, b51_1, bn_0 b51_0, bn_1 b51_1, q51_6, b51_0, b51_1, bn_0 b51_0, bn_1 b51_1, q51_15, q51_16]
  rw [if_pos (by decide)]
  simp only [b51_0, b51_1, bn_0 b51_0, bn_1 b51_1, q51_18, xc_T, xg_T_0, xg_T_1, xs_T_1, xg_T_2, xs_T_2, xg_T_3, xg_T_4, xg_T_5, xg_T_6, xs_T_6, xg_T_7, xs_T_7, xg_T_8, xs_T_8, xa_T_signs, xb_T_signs, xn_T_signs, xa_T_types, xb_T_types, xn_T_types, xa_T_starts, xb_T_starts, xn_T_starts, xa_T_values, xb_T_values, xn_T_values]
  apply t_atWord (w := 1) hE (by omega) (by omega) hT
  · intro y
    rw [if_pos (wdB_t.mpr y)] at hq1 hq0
    simp only [sl_i, b51_0, b51_1, bn_0 b51_0, bn_1 b51_1, q51_21, q51_24, q51_25]
    rw [if_neg (by decide)]
    simp only [b51_0, b51_1, bn_0 b51_0, bn_1 b51_1, q51_26]
    apply t_addColour hE h (by rw [y.1]; decide)
    · intro j o' T' q' a1 a2
      simp only [sl_i, b51_0, b51_1, bn_0 b51_0, bn_1 b51_1, q51_29]
      exact hq1 j o' T' q' a1 a2
    · intro f T' q' a1 a2
      simp only [sl_i, b51_0, b51_1, bn_0 b51_0, bn_1 b51_1, q51_29]
      exact hq0 f T' q' a1 a2
  intro y
  rw [if_neg (fun e => y (wdB_t.mp e))] at hq1 hq0
  simp only [sl_i, b51_0, b51_1, bn_0 b51_0, bn_1 b51_1, q51_21, b51_0, b51_1, bn_0 b51_0, bn_1 b51_1, q51_30, q51_31]
  rw [if_pos (by decide)]
  simp only [b51_0, b51_1, bn_0 b51_0, bn_1 b51_1, q51_33, xc_T, xg_T_0, xg_T_1, xs_T_1, xg_T_2, xs_T_2, xg_T_3, xg_T_4, xg_T_5, xg_T_6, xs_T_6, xg_T_7, xs_T_7, xg_T_8, xs_T_8, xa_T_signs, xb_T_signs, xn_T_signs, xa_T_types, xb_T_types, xn_T_types, xa_T_starts, xb_T_starts, xn_T_starts, xa_T_values, xb_T_values, xn_T_values]
  apply t_atWord (w := 3) hE (by omega) (by omega) hT
  · intro y
    rw [if_pos (wdB_t.mpr y)] at hq1 hq0
    simp only [sl_i, b51_0, b51_1, bn_0 b51_0, bn_1 b51_1, q51_36, q51_39, q51_40]
    rw [if_neg (by decide)]
    simp only [b51_0, b51_1, bn_0 b51_0, bn_1 b51_1, q51_41]
    apply t_addRule hE h (by rw [y.1]; decide)
    · intro j o' T' q' a1 a2
      simp only [sl_i, b51_0, b51_1, bn_0 b51_0, bn_1 b51_1, q51_44]
      exact hq1 j o' T' q' a1 a2
    · intro f T' q' a1 a2
      simp only [sl_i, b51_0, b51_1, bn_0 b51_0, bn_1 b51_1, q51_44]
      exact hq0 f T' q' a1 a2
  intro y
  rw [if_neg (fun e => y (wdB_t.mp e))] at hq1 hq0
  simp only [sl_i, b51_0, b51_1, bn_0 b51_0, bn_1 b51_1, q51_36, b51_0, b51_1, bn_0 b51_0, bn_1 b51_1, q51_45, q51_46]
  rw [if_pos (by decide)]
  simp only [b51_0, b51_1, bn_0 b51_0, bn_1 b51_1, q51_48, xc_T, xg_T_0, xg_T_1, xs_T_1, xg_T_2, xs_T_2, xg_T_3, xg_T_4, xg_T_5, xg_T_6, xs_T_6, xg_T_7, xs_T_7, xg_T_8, xs_T_8, xa_T_signs, xb_T_signs, xn_T_signs, xa_T_types, xb_T_types, xn_T_types, xa_T_starts, xb_T_starts, xn_T_starts, xa_T_values, xb_T_values, xn_T_values]
  apply t_atWord (w := 5) hE (by omega) (by omega) hT
  · intro y
    rw [if_pos (wdB_t.mpr y)] at hq1 hq0
    simp only [sl_i, b51_0, b51_1, bn_0 b51_0, bn_1 b51_1, q51_51, q51_54, q51_55]
    rw [if_neg (by decide)]
    simp only [b51_0, b51_1, bn_0 b51_0, bn_1 b51_1, q51_56]
    apply t_addSays h (by rw [y.1]; decide)
    · intro j o' T' q' a1 a2
      simp only [sl_i, b51_0, b51_1, bn_0 b51_0, bn_1 b51_1, q51_59]
      exact hq1 j o' T' q' a1 a2
    · intro f T' q' a1 a2
      simp only [sl_i, b51_0, b51_1, bn_0 b51_0, bn_1 b51_1, q51_59]
      exact hq0 f T' q' a1 a2
  intro y
  rw [if_neg (fun e => y (wdB_t.mp e))] at hq1 hq0
  simp only [sl_i, b51_0, b51_1, bn_0 b51_0, bn_1 b51_1, q51_51, b51_0, b51_1, bn_0 b51_0, bn_1 b51_1, q51_60, q51_61]
  rw [if_pos (by decide)]
  simp only [b51_0, b51_1, bn_0 b51_0, bn_1 b51_1, q51_63, xc_T, xg_T_0, xg_T_1, xs_T_1, xg_T_2, xs_T_2, xg_T_3, xg_T_4, xg_T_5, xg_T_6, xs_T_6, xg_T_7, xs_T_7, xg_T_8, xs_T_8, xa_T_signs, xb_T_signs, xn_T_signs, xa_T_types, xb_T_types, xn_T_types, xa_T_starts, xb_T_starts, xn_T_starts, xa_T_values, xb_T_values, xn_T_values]
  apply t_atWord (w := 6) hE (by omega) (by omega) hT
  · intro y
    rw [if_pos (wdB_t.mpr y)] at hq1 hq0
    simp only [sl_i, b51_0, b51_1, bn_0 b51_0, bn_1 b51_1, q51_66, q51_69, q51_70]
    rw [if_neg (by decide)]
    simp only [b51_0, b51_1, bn_0 b51_0, bn_1 b51_1, q51_71]
    apply t_addWalker hE h (by rw [y.1]; decide)
    · intro kd co T' q' a1 a2 a3 a4 a5 a6 a7
      simp only [sl_i, b51_0, b51_1, bn_0 b51_0, bn_1 b51_1, q51_74, q51_77, q51_78]
      rw [if_neg (by decide)]
      simp only [b51_0, b51_1, bn_0 b51_0, bn_1 b51_1, q51_79]
      apply t_addWalk hE a6 a7 a1 a2 a3 a4 a5
      · intro j o' T2 q2 b1 b2
        simp only [sl_i, b51_0, b51_1, bn_0 b51_0, bn_1 b51_1, q51_82, q51_85, q51_86, q51_89, q51_90]
        rw [if_neg (by decide)]
        exact hq1 j o' T2 q2 b1 b2
      · intro f T2 q2 b1 b2
        simp only [sl_i, b51_0, b51_1, bn_0 b51_0, bn_1 b51_1, q51_82, b51_0, b51_1, bn_0 b51_0, bn_1 b51_1, q51_89, q51_90]
        rw [if_pos (by decide)]
        exact hq0 f T2 q2 b1 b2
    · intro f T' q' a1 a2
      simp only [sl_i, b51_0, b51_1, bn_0 b51_0, bn_1 b51_1, q51_74, b51_0, b51_1, bn_0 b51_0, bn_1 b51_1, q51_89, q51_90]
      rw [if_pos (by decide)]
      exact hq0 f T' q' a1 a2
  intro y
  rw [if_neg (fun e => y (wdB_t.mp e))] at hq1 hq0
  simp only [sl_i, b51_0, b51_1, bn_0 b51_0, bn_1 b51_1, q51_66, b51_0, b51_1, bn_0 b51_0, bn_1 b51_1, q51_91, q51_92]
  rw [if_pos (by decide)]
  simp only [b51_0, b51_1, bn_0 b51_0, bn_1 b51_1, q51_94, xc_T, xg_T_0, xg_T_1, xs_T_1, xg_T_2, xs_T_2, xg_T_3, xg_T_4, xg_T_5, xg_T_6, xs_T_6, xg_T_7, xs_T_7, xg_T_8, xs_T_8, xa_T_signs, xb_T_signs, xn_T_signs, xa_T_types, xb_T_types, xn_T_types, xa_T_starts, xb_T_starts, xn_T_starts, xa_T_values, xb_T_values, xn_T_values]
  apply t_atWord (w := 9) hE (by omega) (by omega) hT
  · intro y
    rw [if_pos (wdB_t.mpr y)] at hq1 hq0
    simp only [sl_i, b51_0, b51_1, bn_0 b51_0, bn_1 b51_1, q51_97, q51_100, q51_101]
    rw [if_neg (by decide)]
    simp only [b51_0, b51_1, bn_0 b51_0, bn_1 b51_1, q51_102]
    apply t_addGusts h (by rw [y.1]; decide)
    · intro j o' T' q' a1 a2
      simp only [sl_i, b51_0, b51_1, bn_0 b51_0, bn_1 b51_1, q51_105]
      exact hq1 j o' T' q' a1 a2
    · intro f T' q' a1 a2
      simp only [sl_i, b51_0, b51_1, bn_0 b51_0, bn_1 b51_1, q51_105]
      exact hq0 f T' q' a1 a2
  intro y
  rw [if_neg (fun e => y (wdB_t.mp e))] at hq1 hq0
  simp only [sl_i, b51_0, b51_1, bn_0 b51_0, bn_1 b51_1, q51_97, b51_0, b51_1, bn_0 b51_0, bn_1 b51_1, q51_106, q51_107]
  rw [if_pos (by decide)]
  simp only [b51_0, b51_1, bn_0 b51_0, bn_1 b51_1, q51_109, xc_T, xg_T_0, xg_T_1, xs_T_1, xg_T_2, xs_T_2, xg_T_3, xg_T_4, xg_T_5, xg_T_6, xs_T_6, xg_T_7, xs_T_7, xg_T_8, xs_T_8, xa_T_signs, xb_T_signs, xn_T_signs, xa_T_types, xb_T_types, xn_T_types, xa_T_starts, xb_T_starts, xn_T_starts, xa_T_values, xb_T_values, xn_T_values]
  apply t_atWord (w := 10) hE (by omega) (by omega) hT
  · intro y
    rw [if_pos (wdB_t.mpr y)] at hq1 hq0
    simp only [sl_i, b51_0, b51_1, bn_0 b51_0, bn_1 b51_1, q51_112, q51_115, q51_116]
    rw [if_neg (by decide)]
    simp only [b51_0, b51_1, bn_0 b51_0, bn_1 b51_1, q51_117]
    apply t_addReads hE h (by rw [y.1]; decide)
    · intro j o' T' q' a1 a2
      simp only [sl_i, b51_0, b51_1, bn_0 b51_0, bn_1 b51_1, q51_120, b51_0, b51_1, bn_0 b51_0, bn_1 b51_1, q51_128]
      exact hq1 j o' T' q' a1 a2
    · intro f T' q' a1 a2
      simp only [sl_i, b51_0, b51_1, bn_0 b51_0, bn_1 b51_1, q51_120, b51_0, b51_1, bn_0 b51_0, bn_1 b51_1, q51_128]
      exact hq0 f T' q' a1 a2
  intro y
  rw [if_neg (fun e => y (wdB_t.mp e))] at hq1 hq0
  simp only [sl_i, b51_0, b51_1, bn_0 b51_0, bn_1 b51_1, q51_112, b51_0, b51_1, bn_0 b51_0, bn_1 b51_1, q51_123, q51_124]
  rw [if_pos (by decide)]
  simp only [b51_0, b51_1, bn_0 b51_0, bn_1 b51_1, q51_125, xc_T, xg_T_0, xg_T_1, xs_T_1, xg_T_2, xs_T_2, xg_T_3, xg_T_4, xg_T_5, xg_T_6, xs_T_6, xg_T_7, xs_T_7, xg_T_8, xs_T_8, xa_T_signs, xb_T_signs, xn_T_signs, xa_T_types, xb_T_types, xn_T_types, xa_T_starts, xb_T_starts, xn_T_starts, xa_T_values, xb_T_values, xn_T_values]
  apply t_refuse (kd := 1) hT
  intro T' h2 h3
  simp only [sl_i, b51_0, b51_1, bn_0 b51_0, bn_1 b51_1, q51_128]
  exact hq0 _ T' q1 rfl ⟨flt_ne (by omega), h3, h.2.2.1.1.1, k, h2⟩
theorem t_sqfill (hE : ELt E) (ht : tp_ok tp) (hT : TPx tp T) (hQ : QLx q1) (hq1 : ∀ o' T' q' n, sp_sq tp 1000 0 ps0 = (0, o') → (∃ j, TKx tp n j T') → DRx o' q' → PSok o' → Q (some (.int 0)) (px_h z E M (px_l sw c2 w2 (T') D S S1 K R C W U q (q') B0 B1 B2 B3))) (hq0 : ∀ f T' q' n, (sp_sq tp 1000 0 ps0).1 = f → BDx tp n f T' q' → Q (some (.int (nI f))) (px_h z E M (px_l sw c2 w2 (T') D S S1 K R C W U q (q') B0 B1 B2 B3))) : wm (mp_P fx) (d + 40) 13 [.ref 60, .ref (px_ta (!sw))] (px_h z E M (px_l sw c2 w2 T D S S1 K R C W U q q1 B0 B1 B2 B3)) Q := by
  have fin : ∀ (T' : px_T) (q' : px_q) (l2 l3 : Int32) (f : Int32), T'.2.2.1 = f → Q (some (.int f)) (px_h z E M (px_l sw c2 w2 (T') D S S1 K R C W U q (q') B0 B1 B2 B3)) → ww (mp_P fx) (d + 40) 13 59 [some (.ref 60), some (.ref (px_ta (!sw))), some (.int l2), some (.int l3)] [] (px_h z E M (px_l sw c2 w2 (T') D S S1 K R C W U q (q') B0 B1 B2 B3)) Q := by
    intro T' q' l2 l3 f hf hh
    simp only [q13_59, q13_60, q13_63, xc_T, xg_T_0, xg_T_1, xs_T_1, xg_T_2, xs_T_2, xg_T_3, xg_T_4, xg_T_5, xg_T_6, xs_T_6, xg_T_7, xs_T_7, xg_T_8, xs_T_8, xa_T_signs, xb_T_signs, xn_T_signs, xa_T_types, xb_T_types, xn_T_types, xa_T_starts, xb_T_starts, xn_T_starts, xa_T_values, xb_T_values, xn_T_values, wx_some, wx_ref, hf]
    exact hh
  have key : ∀ (n m t i : Nat) (o : PS) (T' : px_T) (q' : px_q), t + m = 1000 → OKx tp n i o T' q' → sp_sq tp 1000 0 ps0 = sp_sq tp m i o → ww (mp_P fx) (d + 40) 13 12 [some (.ref 60), some (.ref (px_ta (!sw))), some (.int 1), some (.int (nI t))] [] (px_h z E M (px_l sw c2 w2 (T') D S S1 K R C W U q (q') B0 B1 B2 B3)) Q := by
    intro n m
    induction m with
    | zero =>
      intro t i o T' q' hm hO hsp
      rw [sp_sq] at hsp
      rw [q13_12]
      simp only [q13_13, q13_16, q13_17, q13_20]
      rw [if_neg (by decide), if_pos (by rw [show (1000 : Int32) = nI 1000 from rfl, nI_leI (by omega) (by omega)]; omega)]
      exact fin T' q' _ _ 0 hO.2.1 (hq1 o T' q' n hsp ⟨i, hO.1⟩ hO.2.2.1 hO.2.2.2)
    | succ m ih =>
      intro t i o T' q' hm hO hsp
      rw [sp_sq_s (m := m)] at hsp
      rw [q13_12]
      simp only [q13_13, q13_16, q13_17, q13_20, q13_23]
      rw [if_neg (by decide), if_neg (by rw [show (1000 : Int32) = nI 1000 from rfl, nI_leI (by omega) (by omega)]; omega)]
      simp only [q13_24, xc_T, xg_T_0, xg_T_1, xs_T_1, xg_T_2, xs_T_2, xg_T_3, xg_T_4, xg_T_5, xg_T_6, xs_T_6, xg_T_7, xs_T_7, xg_T_8, xs_T_8, xa_T_signs, xb_T_signs, xn_T_signs, xa_T_types, xb_T_types, xn_T_types, xa_T_starts, xb_T_starts, xn_T_starts, xa_T_values, xb_T_values, xn_T_values]
      apply t_atEnd hO.1
      · intro y
        rw [if_pos y] at hsp
        simp only [sl_i, q13_27]
        rw [if_pos (by decide)]
        exact fin T' q' _ _ 0 hO.2.1 (hq1 o T' q' n hsp ⟨i, hO.1⟩ hO.2.2.1 hO.2.2.2)
      · intro y
        rw [if_neg y] at hsp
        simp only [sl_i, q13_27, q13_30, q13_31]
        rw [if_neg (by decide)]
        simp only [q13_32]
        have hbad : ∀ (f : Nat) (T2 : px_T) (q2 : px_q), (sp_cl tp (sp_line tp i o)).1 = f → BDx tp n f T2 q2 → ww (mp_P fx) (d + 40) 13 51 [some (.ref 60), some (.ref (px_ta (!sw))), some (.int 1), some (.int (nI t))] [] (px_h z E M (px_l sw c2 w2 (T2) D S S1 K R C W U q (q2) B0 B1 B2 B3)) Q := by
          intro f T2 q2 a1 a2
          rw [if_neg (by rw [a1]; exact a2.1)] at hsp
          simp only [q13_51, q13_52r, q13_53i, q13_56, isl_i, isl_r, isl_n]
          rw [q13_12]
          simp only [q13_13]
          rw [if_pos (by decide)]
          exact fin T2 q2 _ _ (nI f) a2.2.1 (hq0 f T2 q2 n (by rw [hsp]; exact a1) a2)
        apply t_addLine hE hO
        · intro j o' T2 q2 a1 a2
          have hcl : sp_cl tp (sp_line tp i o) = if snB tp j 59 = true then (0, j + 1, o') else (flt tp 1 j, j, o') := by
            unfold sp_cl; rw [a1]; rfl
          simp only [sl_i, q13_35, q13_38, q13_39]
          rw [if_neg (by decide)]
          simp only [q13_41, xc_T, xg_T_0, xg_T_1, xs_T_1, xg_T_2, xs_T_2, xg_T_3, xg_T_4, xg_T_5, xg_T_6, xs_T_6, xg_T_7, xs_T_7, xg_T_8, xs_T_8, xa_T_signs, xb_T_signs, xn_T_signs, xa_T_types, xb_T_types, xn_T_types, xa_T_starts, xb_T_starts, xn_T_starts, xa_T_values, xb_T_values, xn_T_values]
          apply t_passSign (c := 59) (by omega) a2.1
          · intro y2 T3 hT3 hf3
            rw [hcl, if_pos (snB_t.mpr y2), if_pos rfl] at hsp
            simp only [sl_i, q13_44, q13_47, q13_48, q13_52r, q13_53i, q13_56, isl_i, isl_r, isl_n, nI_1]
            rw [if_neg (by decide)]
            exact ih (t + 1) (j + 1) o' T3 q2 (by omega) ⟨hT3, hf3.trans a2.2.1, a2.2.2⟩ hsp
          · intro y2 T3 hT3 hf3
            simp only [sl_i, q13_44]
            rw [if_pos (by decide)]
            exact hbad (flt tp 1 j) T3 q2 (by rw [hcl, if_neg (fun e => y2 (snB_t.mp e))]) ⟨flt_ne (by omega), hf3, a2.2.2.1.1.1, _, hT3⟩
        · intro f T2 q2 a1 a2
          simp only [sl_i, q13_35]
          rw [if_pos (by decide)]
          refine hbad f T2 q2 ?_ a2
          unfold sp_cl
          rw [if_neg (by rw [a1]; exact a2.1)]; exact a1
  simp only [e13, q13_0]
  simp only [q13_1, e14, q14_0, q14_1, q14_2, q14_5, q14_6, q14_7, q14_10, q14_11, q14_12, q14_15, q14_16, q14_17, q14_20, q14_21, q14_22, q14_25, q14_26, q14_27, q14_30, q14_31, q14_34, q14_37, e15, q15_0, q15_1, q15_2, q15_5, xc_q1, xg_q1_0, xg_q1_1, xs_q1_1, xg_q1_2, xg_q1_3, xg_q1_4, xs_q1_4, xg_q1_5, xg_q1_6, xg_q1_7, xg_q1_8, xs_q1_8, xg_q1_9, xs_q1_9, xg_q1_10, xg_q1_11, xg_q1_12, xg_q1_13, xg_q1_14, xg_q1_15, xg_q1_16, xs_q1_16, xg_q1_17, xg_q1_18, xs_q1_18, xg_q1_19, xa_q1_sortNames, xb_q1_sortNames, xn_q1_sortNames, xa_q1_colourNames, xb_q1_colourNames, xn_q1_colourNames, xa_q1_colourSorts, xb_q1_colourSorts, xn_q1_colourSorts, xa_q1_ruleMakes, xb_q1_ruleMakes, xn_q1_ruleMakes, xa_q1_ruleFirsts, xb_q1_ruleFirsts, xn_q1_ruleFirsts, xa_q1_ruleSeconds, xb_q1_ruleSeconds, xn_q1_ruleSeconds, xa_q1_walkerNames, xb_q1_walkerNames, xn_q1_walkerNames, xa_q1_kinds, xb_q1_kinds, xn_q1_kinds, xa_q1_walkerColours, xb_q1_walkerColours, xn_q1_walkerColours, xa_q1_starts, xb_q1_starts, xn_q1_starts, xa_q1_stepRows, xb_q1_stepRows, xn_q1_stepRows, xa_q1_stepCounts, xb_q1_stepCounts, xn_q1_stepCounts, xa_q1_gusts, xb_q1_gusts, xn_q1_gusts, xc_q1l, xg_q1l_0, xg_q1l_1, xs_q1l_1, xg_q1l_2, xg_q1l_3, xs_q1l_3, xa_q1_parts, xb_q1_parts, xn_q1_parts, xa_q1_stack, xb_q1_stack, xn_q1_stack, wx_some, wx_ref, sl_n]
  have hD0 : DRx ps0 (q1.1, 0, q1.2.2.1, q1.2.2.2.1, 0, q1.2.2.2.2.2.1, q1.2.2.2.2.2.2.1, q1.2.2.2.2.2.2.2.1, 0, -1, q1.2.2.2.2.2.2.2.2.2.2.1, q1.2.2.2.2.2.2.2.2.2.2.2.1, q1.2.2.2.2.2.2.2.2.2.2.2.2.1, q1.2.2.2.2.2.2.2.2.2.2.2.2.2.1, q1.2.2.2.2.2.2.2.2.2.2.2.2.2.2.1, q1.2.2.2.2.2.2.2.2.2.2.2.2.2.2.2.1, 0, q1.2.2.2.2.2.2.2.2.2.2.2.2.2.2.2.2.2.1, 0, q1.2.2.2.2.2.2.2.2.2.2.2.2.2.2.2.2.2.2.2.1, 0, q1.2.2.2.2.2.2.2.2.2.2.2.2.2.2.2.2.2.2.2.2.2.1, q1.2.2.2.2.2.2.2.2.2.2.2.2.2.2.2.2.2.2.2.2.2.2) := ⟨⟨hQ, ⟨rfl, rfl, rfl, rfl, rfl⟩, ⟨fun i hi => absurd hi (Nat.not_lt_zero _), fun i hi => absurd hi (Nat.not_lt_zero _), fun i hi => absurd hi (Nat.not_lt_zero _), fun i hi => absurd hi (Nat.not_lt_zero _)⟩, rfl, ⟨fun i hi => absurd hi (Nat.not_lt_zero _), fun i hi => absurd hi (Nat.not_lt_zero _), fun i hi => absurd hi (Nat.not_lt_zero _), fun i hi => absurd hi (Nat.not_lt_zero _), fun i hi => absurd hi (Nat.not_lt_zero _)⟩, fun w hw => absurd hw (Nat.not_lt_zero _)⟩, ⟨fun i hi => absurd hi (Nat.not_lt_zero _), fun i hi => absurd hi (Nat.not_lt_zero _), fun i hi => absurd hi (Nat.not_lt_zero _)⟩, rfl, 0, by omega, rfl, ⟨fun _ => rfl, fun _ => rfl⟩, fun a b c f => by rw [if_pos rfl]; rfl⟩
  revert hD0
  generalize ((q1.1, 0, q1.2.2.1, q1.2.2.2.1, 0, q1.2.2.2.2.2.1, q1.2.2.2.2.2.2.1, q1.2.2.2.2.2.2.2.1, 0, -1, q1.2.2.2.2.2.2.2.2.2.2.1, q1.2.2.2.2.2.2.2.2.2.2.2.1, q1.2.2.2.2.2.2.2.2.2.2.2.2.1, q1.2.2.2.2.2.2.2.2.2.2.2.2.2.1, q1.2.2.2.2.2.2.2.2.2.2.2.2.2.2.1, q1.2.2.2.2.2.2.2.2.2.2.2.2.2.2.2.1, 0, q1.2.2.2.2.2.2.2.2.2.2.2.2.2.2.2.2.2.1, 0, q1.2.2.2.2.2.2.2.2.2.2.2.2.2.2.2.2.2.2.2.1, 0, q1.2.2.2.2.2.2.2.2.2.2.2.2.2.2.2.2.2.2.2.2.2.1, q1.2.2.2.2.2.2.2.2.2.2.2.2.2.2.2.2.2.2.2.2.2.2) : px_q) = q2
  intro hD0
  simp only [q13_4, q13_5, xc_T, xg_T_0, xg_T_1, xs_T_1, xg_T_2, xs_T_2, xg_T_3, xg_T_4, xg_T_5, xg_T_6, xs_T_6, xg_T_7, xs_T_7, xg_T_8, xs_T_8, xa_T_signs, xb_T_signs, xn_T_signs, xa_T_types, xb_T_types, xn_T_types, xa_T_starts, xb_T_starts, xn_T_starts, xa_T_values, xb_T_values, xn_T_values]
  apply t_begin hE ht hT
  intro T' n hK hf
  simp only [sl_n, q13_8, q13_9r, q13_10, q13_11i, isl_i, isl_r, isl_n]
  exact key n 1000 0 0 ps0 T' q2 (by omega) ⟨hK, hf, hD0, ps0_ok⟩ rfl
end SX3
