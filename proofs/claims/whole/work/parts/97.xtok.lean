/-! tokens, of the class: all of them -/
section XB
variable {fx : List Value → mm_H → Option (List Value × mm_H)} {z : Nat} {E M : Nat → mm_C} {sw c2 w2 : Bool} {T : px_T} {D : px_D} {S : px_S} {S1 : px_S} {K : px_K} {R : px_R} {C : px_C} {W : px_W} {U : px_U} {q : px_q} {q1 : px_q} {B0 : px_K} {B1 : px_K} {B2 : px_K} {B3 : px_K} {T_signs : List Int32} {T_length : Int32} {T_fault : Int32} {T_types : List Int32} {T_starts : List Int32} {T_values : List Int64} {T_tokens : Int32} {T_at : Int32} {T_behind : Int32} {S_hour : Int32} {S_open : Int32} {S_places : List Int32} {S1_hour : Int32} {S1_open : Int32} {S1_places : List Int32} {K_lines : List Int32} {K_lineCount : Int32} {K_wishes : List Int32} {K_wishCount : Int32} {K_sights : List Int32} {K_sightCount : Int32} {R_shown : List Int32} {R_length : Int32} {R_readers : Int32} {R_begins : List Int32} {R_lengths : List Int32} {R_sentences : Int32} {R_order : List Int32} {R_able : Int32} {R_standing : List Int32} {R_lovers : List Int32} {R_lowest : List Int32} {C_ways : List Int32} {C_rows : List Int32} {C_shallower : List Int32} {C_length : Int32} {C_goal : Int32} {W_row : List Int32} {W_walkers : Int32} {W_names : Int32} {W_wanted : List Int32} {W_shown : List Int32} {W_places : List Int32} {W_rest : List Int32} {W_spent : List Int32} {W_tried : List Int32} {U_undoRows : List Int64} {U_markScenes : List Int64} {U_marksLaid : List Int32} {U_undoCount : Int32} {U_undoEnd : Int32} {q_sortNames : List Int64} {q_sortCount : Int32} {q_colourNames : List Int64} {q_colourSorts : List Int32} {q_colourCount : Int32} {q_ruleMakes : List Int32} {q_ruleFirsts : List Int32} {q_ruleSeconds : List Int32} {q_ruleCount : Int32} {q_saysSort : Int32} {q_walkerNames : List Int64} {q_kinds : List Int32} {q_walkerColours : List Int32} {q_starts : List Int32} {q_stepRows : List Int32} {q_stepCounts : List Int32} {q_walkerCount : Int32} {q_gusts : List Int32} {q_gustCount : Int32} {q_parts : List Int32} {q_count : Int32} {q_stack : List Int32} {q_height : Int32} {q1_sortNames : List Int64} {q1_sortCount : Int32} {q1_colourNames : List Int64} {q1_colourSorts : List Int32} {q1_colourCount : Int32} {q1_ruleMakes : List Int32} {q1_ruleFirsts : List Int32} {q1_ruleSeconds : List Int32} {q1_ruleCount : Int32} {q1_saysSort : Int32} {q1_walkerNames : List Int64} {q1_kinds : List Int32} {q1_walkerColours : List Int32} {q1_starts : List Int32} {q1_stepRows : List Int32} {q1_stepCounts : List Int32} {q1_walkerCount : Int32} {q1_gusts : List Int32} {q1_gustCount : Int32} {q1_parts : List Int32} {q1_count : Int32} {q1_stack : List Int32} {q1_height : Int32} {B0_lines : List Int32} {B0_lineCount : Int32} {B0_wishes : List Int32} {B0_wishCount : Int32} {B0_sights : List Int32} {B0_sightCount : Int32} {B1_lines : List Int32} {B1_lineCount : Int32} {B1_wishes : List Int32} {B1_wishCount : Int32} {B1_sights : List Int32} {B1_sightCount : Int32} {B2_lines : List Int32} {B2_lineCount : Int32} {B2_wishes : List Int32} {B2_wishCount : Int32} {B2_sights : List Int32} {B2_sightCount : Int32} {B3_lines : List Int32} {B3_lineCount : Int32} {B3_wishes : List Int32} {B3_wishCount : Int32} {B3_sights : List Int32} {B3_sightCount : Int32}
variable {d : Nat} {Q : Option Value → mm_H → Prop} {tp : List Nat}
theorem t_isSq {i : Nat} (hE : ELt E) (ht : tp_ok tp) (hT : TPl T) (hs : ho_ T.1 tp) (hi : i < 1001) (h1 : TY tp i = 1) (hv : (T.2.2.2.2.2.1)[i]? = some (w_x (LT tp i))) (hst : (T.2.2.2.2.1)[i]? = some (nI (tk tp i))) (hq1 : (∃ n, 0 ≤ n ∧ n < 11 ∧ LT tp i = kw n) → Q (some (.int 1)) (px_h z E M (px_l sw c2 w2 T D S S1 K R C W U q q1 B0 B1 B2 B3))) (hq0 : (∀ n, 0 ≤ n → n < 11 → ¬ LT tp i = kw n) → Q (some (.int 0)) (px_h z E M (px_l sw c2 w2 T D S S1 K R C W U q q1 B0 B1 B2 B3))) : wm (mp_P fx) (d + 3) 21 [.ref 60, .int (nI i)] (px_h z E M (px_l sw c2 w2 T D S S1 K R C W U q q1 B0 B1 B2 B3)) Q := by
  simp only [e21, b21_0, b21_1, bn_0 b21_0, bn_1 b21_1, q21_0, q21_1, q21_2]
  simp only [b21_0, b21_1, bn_0 b21_0, bn_1 b21_1, q21_4, xc_T, xg_T_0, xg_T_1, xs_T_1, xg_T_2, xs_T_2, xg_T_3, xg_T_4, xg_T_5, xg_T_6, xs_T_6, xg_T_7, xs_T_7, xg_T_8, xs_T_8, xa_T_signs, xb_T_signs, xn_T_signs, xa_T_types, xb_T_types, xn_T_types, xa_T_starts, xb_T_starts, xn_T_starts, xa_T_values, xb_T_values, xn_T_values]
  apply t_spells (n := 0) hE ht (by omega) (by omega) hT hs hi h1 hv hst
  · intro h
    simp only [sl_i, b21_0, b21_1, bn_0 b21_0, bn_1 b21_1, q21_7, b21_0, b21_1, bn_0 b21_0, bn_1 b21_1, q21_110, q21_111, q21_114, q21_115]
    rw [if_pos (by decide)]
    exact hq1 ⟨0, by omega, by omega, h⟩
  intro h200
  simp only [sl_i, b21_0, b21_1, bn_0 b21_0, bn_1 b21_1, q21_7]
  rw [if_neg (by decide)]
  simp only [b21_0, b21_1, bn_0 b21_0, bn_1 b21_1, q21_10, q21_11, q21_12]
  simp only [b21_0, b21_1, bn_0 b21_0, bn_1 b21_1, q21_14, xc_T, xg_T_0, xg_T_1, xs_T_1, xg_T_2, xs_T_2, xg_T_3, xg_T_4, xg_T_5, xg_T_6, xs_T_6, xg_T_7, xs_T_7, xg_T_8, xs_T_8, xa_T_signs, xb_T_signs, xn_T_signs, xa_T_types, xb_T_types, xn_T_types, xa_T_starts, xb_T_starts, xn_T_starts, xa_T_values, xb_T_values, xn_T_values]
  apply t_spells (n := 1) hE ht (by omega) (by omega) hT hs hi h1 hv hst
  · intro h
    simp only [sl_i, b21_0, b21_1, bn_0 b21_0, bn_1 b21_1, q21_17, b21_0, b21_1, bn_0 b21_0, bn_1 b21_1, q21_110, q21_111, q21_114, q21_115]
    rw [if_pos (by decide)]
    exact hq1 ⟨1, by omega, by omega, h⟩
  intro h201
  simp only [sl_i, b21_0, b21_1, bn_0 b21_0, bn_1 b21_1, q21_17]
  rw [if_neg (by decide)]
  simp only [b21_0, b21_1, bn_0 b21_0, bn_1 b21_1, q21_20, q21_21, q21_22]
  simp only [b21_0, b21_1, bn_0 b21_0, bn_1 b21_1, q21_24, xc_T, xg_T_0, xg_T_1, xs_T_1, xg_T_2, xs_T_2, xg_T_3, xg_T_4, xg_T_5, xg_T_6, xs_T_6, xg_T_7, xs_T_7, xg_T_8, xs_T_8, xa_T_signs, xb_T_signs, xn_T_signs, xa_T_types, xb_T_types, xn_T_types, xa_T_starts, xb_T_starts, xn_T_starts, xa_T_values, xb_T_values, xn_T_values]
  apply t_spells (n := 2) hE ht (by omega) (by omega) hT hs hi h1 hv hst
  · intro h
    simp only [sl_i, b21_0, b21_1, bn_0 b21_0, bn_1 b21_1, q21_27, b21_0, b21_1, bn_0 b21_0, bn_1 b21_1, q21_110, q21_111, q21_114, q21_115]
    rw [if_pos (by decide)]
    exact hq1 ⟨2, by omega, by omega, h⟩
  intro h202
  simp only [sl_i, b21_0, b21_1, bn_0 b21_0, bn_1 b21_1, q21_27]
  rw [if_neg (by decide)]
  simp only [b21_0, b21_1, bn_0 b21_0, bn_1 b21_1, q21_30, q21_31, q21_32]
  simp only [b21_0, b21_1, bn_0 b21_0, bn_1 b21_1, q21_34, xc_T, xg_T_0, xg_T_1, xs_T_1, xg_T_2, xs_T_2, xg_T_3, xg_T_4, xg_T_5, xg_T_6, xs_T_6, xg_T_7, xs_T_7, xg_T_8, xs_T_8, xa_T_signs, xb_T_signs, xn_T_signs, xa_T_types, xb_T_types, xn_T_types, xa_T_starts, xb_T_starts, xn_T_starts, xa_T_values, xb_T_values, xn_T_values]
  apply t_spells (n := 3) hE ht (by omega) (by omega) hT hs hi h1 hv hst
  · intro h
    simp only [sl_i, b21_0, b21_1, bn_0 b21_0, bn_1 b21_1, q21_37, b21_0, b21_1, bn_0 b21_0, bn_1 b21_1, q21_110, q21_111, q21_114, q21_115]
    rw [if_pos (by decide)]
    exact hq1 ⟨3, by omega, by omega, h⟩
  intro h203
  simp only [sl_i, b21_0, b21_1, bn_0 b21_0, bn_1 b21_1, q21_37]
  rw [if_neg (by decide)]
  simp only [b21_0, b21_1, bn_0 b21_0, bn_1 b21_1, q21_40, q21_41, q21_42]
  simp only [b21_0, b21_1, bn_0 b21_0, bn_1 b21_1, q21_44, xc_T, xg_T_0, xg_T_1, xs_T_1, xg_T_2, xs_T_2, xg_T_3, xg_T_4, xg_T_5, xg_T_6, xs_T_6, xg_T_7, xs_T_7, xg_T_8, xs_T_8, xa_T_signs, xb_T_signs, xn_T_signs, xa_T_types, xb_T_types, xn_T_types, xa_T_starts, xb_T_starts, xn_T_starts, xa_T_values, xb_T_values, xn_T_values]
  apply t_spells (n := 4) hE ht (by omega) (by omega) hT hs hi h1 hv hst
  · intro h
    simp only [sl_i, b21_0, b21_1, bn_0 b21_0, bn_1 b21_1, q21_47, b21_0, b21_1, bn_0 b21_0, bn_1 b21_1, q21_110, q21_111, q21_114, q21_115]
    rw [if_pos (by decide)]
    exact hq1 ⟨4, by omega, by omega, h⟩
  intro h204
  simp only [sl_i, b21_0, b21_1, bn_0 b21_0, bn_1 b21_1, q21_47]
  rw [if_neg (by decide)]
  simp only [b21_0, b21_1, bn_0 b21_0, bn_1 b21_1, q21_50, q21_51, q21_52]
  simp only [b21_0, b21_1, bn_0 b21_0, bn_1 b21_1, q21_54, xc_T, xg_T_0, xg_T_1, xs_T_1, xg_T_2, xs_T_2, xg_T_3, xg_T_4, xg_T_5, xg_T_6, xs_T_6, xg_T_7, xs_T_7, xg_T_8, xs_T_8, xa_T_signs, xb_T_signs, xn_T_signs, xa_T_types, xb_T_types, xn_T_types, xa_T_starts, xb_T_starts, xn_T_starts, xa_T_values, xb_T_values, xn_T_values]
  apply t_spells (n := 5) hE ht (by omega) (by omega) hT hs hi h1 hv hst
  · intro h
    simp only [sl_i, b21_0, b21_1, bn_0 b21_0, bn_1 b21_1, q21_57, b21_0, b21_1, bn_0 b21_0, bn_1 b21_1, q21_110, q21_111, q21_114, q21_115]
    rw [if_pos (by decide)]
    exact hq1 ⟨5, by omega, by omega, h⟩
  intro h205
  simp only [sl_i, b21_0, b21_1, bn_0 b21_0, bn_1 b21_1, q21_57]
  rw [if_neg (by decide)]
  simp only [b21_0, b21_1, bn_0 b21_0, bn_1 b21_1, q21_60, q21_61, q21_62]
  simp only [b21_0, b21_1, bn_0 b21_0, bn_1 b21_1, q21_64, xc_T, xg_T_0, xg_T_1, xs_T_1, xg_T_2, xs_T_2, xg_T_3, xg_T_4, xg_T_5, xg_T_6, xs_T_6, xg_T_7, xs_T_7, xg_T_8, xs_T_8, xa_T_signs, xb_T_signs, xn_T_signs, xa_T_types, xb_T_types, xn_T_types, xa_T_starts, xb_T_starts, xn_T_starts, xa_T_values, xb_T_values, xn_T_values]
  apply t_spells (n := 6) hE ht (by omega) (by omega) hT hs hi h1 hv hst
  · intro h
    simp only [sl_i, b21_0, b21_1, bn_0 b21_0, bn_1 b21_1, q21_67, b21_0, b21_1, bn_0 b21_0, bn_1 b21_1, q21_110, q21_111, q21_114, q21_115]
    rw [if_pos (by decide)]
    exact hq1 ⟨6, by omega, by omega, h⟩
  intro h206
  simp only [sl_i, b21_0, b21_1, bn_0 b21_0, bn_1 b21_1, q21_67]
  rw [if_neg (by decide)]
  simp only [b21_0, b21_1, bn_0 b21_0, bn_1 b21_1, q21_70, q21_71, q21_72]
  simp only [b21_0, b21_1, bn_0 b21_0, bn_1 b21_1, q21_74, xc_T, xg_T_0, xg_T_1, xs_T_1, xg_T_2, xs_T_2, xg_T_3, xg_T_4, xg_T_5, xg_T_6, xs_T_6, xg_T_7, xs_T_7, xg_T_8, xs_T_8, xa_T_signs, xb_T_signs, xn_T_signs, xa_T_types, xb_T_types, xn_T_types, xa_T_starts, xb_T_starts, xn_T_starts, xa_T_values, xb_T_values, xn_T_values]
  apply t_spells (n := 7) hE ht (by omega) (by omega) hT hs hi h1 hv hst
  · intro h
    simp only [sl_i, b21_0, b21_1, bn_0 b21_0, bn_1 b21_1, q21_77, b21_0, b21_1, bn_0 b21_0, bn_1 b21_1, q21_110, q21_111, q21_114, q21_115]
    rw [if_pos (by decide)]
    exact hq1 ⟨7, by omega, by omega, h⟩
  intro h207
  simp only [sl_i, b21_0, b21_1, bn_0 b21_0, bn_1 b21_1, q21_77]
  rw [if_neg (by decide)]
  simp only [b21_0, b21_1, bn_0 b21_0, bn_1 b21_1, q21_80, q21_81, q21_82]
  simp only [b21_0, b21_1, bn_0 b21_0, bn_1 b21_1, q21_84, xc_T, xg_T_0, xg_T_1, xs_T_1, xg_T_2, xs_T_2, xg_T_3, xg_T_4, xg_T_5, xg_T_6, xs_T_6, xg_T_7, xs_T_7, xg_T_8, xs_T_8, xa_T_signs, xb_T_signs, xn_T_signs, xa_T_types, xb_T_types, xn_T_types, xa_T_starts, xb_T_starts, xn_T_starts, xa_T_values, xb_T_values, xn_T_values]
  apply t_spells (n := 8) hE ht (by omega) (by omega) hT hs hi h1 hv hst
  · intro h
    simp only [sl_i, b21_0, b21_1, bn_0 b21_0, bn_1 b21_1, q21_87, b21_0, b21_1, bn_0 b21_0, bn_1 b21_1, q21_110, q21_111, q21_114, q21_115]
    rw [if_pos (by decide)]
    exact hq1 ⟨8, by omega, by omega, h⟩
  intro h208
  simp only [sl_i, b21_0, b21_1, bn_0 b21_0, bn_1 b21_1, q21_87]
  rw [if_neg (by decide)]
  simp only [b21_0, b21_1, bn_0 b21_0, bn_1 b21_1, q21_90, q21_91, q21_92]
  simp only [b21_0, b21_1, bn_0 b21_0, bn_1 b21_1, q21_94, xc_T, xg_T_0, xg_T_1, xs_T_1, xg_T_2, xs_T_2, xg_T_3, xg_T_4, xg_T_5, xg_T_6, xs_T_6, xg_T_7, xs_T_7, xg_T_8, xs_T_8, xa_T_signs, xb_T_signs, xn_T_signs, xa_T_types, xb_T_types, xn_T_types, xa_T_starts, xb_T_starts, xn_T_starts, xa_T_values, xb_T_values, xn_T_values]
  apply t_spells (n := 9) hE ht (by omega) (by omega) hT hs hi h1 hv hst
  · intro h
    simp only [sl_i, b21_0, b21_1, bn_0 b21_0, bn_1 b21_1, q21_97, b21_0, b21_1, bn_0 b21_0, bn_1 b21_1, q21_110, q21_111, q21_114, q21_115]
    rw [if_pos (by decide)]
    exact hq1 ⟨9, by omega, by omega, h⟩
  intro h209
  simp only [sl_i, b21_0, b21_1, bn_0 b21_0, bn_1 b21_1, q21_97]
  rw [if_neg (by decide)]
  simp only [b21_0, b21_1, bn_0 b21_0, bn_1 b21_1, q21_100, q21_101, q21_102]
  simp only [b21_0, b21_1, bn_0 b21_0, bn_1 b21_1, q21_104, xc_T, xg_T_0, xg_T_1, xs_T_1, xg_T_2, xs_T_2, xg_T_3, xg_T_4, xg_T_5, xg_T_6, xs_T_6, xg_T_7, xs_T_7, xg_T_8, xs_T_8, xa_T_signs, xb_T_signs, xn_T_signs, xa_T_types, xb_T_types, xn_T_types, xa_T_starts, xb_T_starts, xn_T_starts, xa_T_values, xb_T_values, xn_T_values]
  apply t_spells (n := 10) hE ht (by omega) (by omega) hT hs hi h1 hv hst
  · intro h
    simp only [sl_i, b21_0, b21_1, bn_0 b21_0, bn_1 b21_1, q21_107, b21_0, b21_1, bn_0 b21_0, bn_1 b21_1, q21_110, q21_111, q21_114, q21_115]
    rw [if_neg (by decide)]
    exact hq1 ⟨10, by omega, by omega, h⟩
  intro h210
  simp only [sl_i, b21_0, b21_1, bn_0 b21_0, bn_1 b21_1, q21_107, b21_0, b21_1, bn_0 b21_0, bn_1 b21_1, q21_114, q21_115]
  rw [if_pos (by decide)]
  refine hq0 (fun n a1 a2 => ?_)
  have : n = 0 ∨ n = 1 ∨ n = 2 ∨ n = 3 ∨ n = 4 ∨ n = 5 ∨ n = 6 ∨ n = 7 ∨ n = 8 ∨ n = 9 ∨ n = 10 := by omega
  rcases this with rfl | rfl | rfl | rfl | rfl | rfl | rfl | rfl | rfl | rfl | rfl
  · exact h200
  · exact h201
  · exact h202
  · exact h203
  · exact h204
  · exact h205
  · exact h206
  · exact h207
  · exact h208
  · exact h209
  · exact h210
theorem t_isOt {i : Nat} (hE : ELt E) (ht : tp_ok tp) (hT : TPl T) (hs : ho_ T.1 tp) (hi : i < 1001) (h1 : TY tp i = 1) (hv : (T.2.2.2.2.2.1)[i]? = some (w_x (LT tp i))) (hst : (T.2.2.2.2.1)[i]? = some (nI (tk tp i))) (hq1 : (∃ n, 11 ≤ n ∧ n < 22 ∧ LT tp i = kw n) → Q (some (.int 1)) (px_h z E M (px_l sw c2 w2 T D S S1 K R C W U q q1 B0 B1 B2 B3))) (hq0 : (∀ n, 11 ≤ n → n < 22 → ¬ LT tp i = kw n) → Q (some (.int 0)) (px_h z E M (px_l sw c2 w2 T D S S1 K R C W U q q1 B0 B1 B2 B3))) : wm (mp_P fx) (d + 3) 32 [.ref 60, .int (nI i)] (px_h z E M (px_l sw c2 w2 T D S S1 K R C W U q q1 B0 B1 B2 B3)) Q := by
  simp only [e32, b32_0, b32_1, bn_0 b32_0, bn_1 b32_1, q32_0, q32_1, q32_2]
  simp only [b32_0, b32_1, bn_0 b32_0, bn_1 b32_1, q32_4, xc_T, xg_T_0, xg_T_1, xs_T_1, xg_T_2, xs_T_2, xg_T_3, xg_T_4, xg_T_5, xg_T_6, xs_T_6, xg_T_7, xs_T_7, xg_T_8, xs_T_8, xa_T_signs, xb_T_signs, xn_T_signs, xa_T_types, xb_T_types, xn_T_types, xa_T_starts, xb_T_starts, xn_T_starts, xa_T_values, xb_T_values, xn_T_values]
  apply t_spells (n := 11) hE ht (by omega) (by omega) hT hs hi h1 hv hst
  · intro h
    simp only [sl_i, b32_0, b32_1, bn_0 b32_0, bn_1 b32_1, q32_7, b32_0, b32_1, bn_0 b32_0, bn_1 b32_1, q32_110, q32_111, q32_114, q32_115]
    rw [if_pos (by decide)]
    exact hq1 ⟨11, by omega, by omega, h⟩
  intro h200
  simp only [sl_i, b32_0, b32_1, bn_0 b32_0, bn_1 b32_1, q32_7]
  rw [if_neg (by decide)]
  simp only [b32_0, b32_1, bn_0 b32_0, bn_1 b32_1, q32_10, q32_11, q32_12]
  simp only [b32_0, b32_1, bn_0 b32_0, bn_1 b32_1, q32_14, xc_T, xg_T_0, xg_T_1, xs_T_1, xg_T_2, xs_T_2, xg_T_3, xg_T_4, xg_T_5, xg_T_6, xs_T_6, xg_T_7, xs_T_7, xg_T_8, xs_T_8, xa_T_signs, xb_T_signs, xn_T_signs, xa_T_types, xb_T_types, xn_T_types, xa_T_starts, xb_T_starts, xn_T_starts, xa_T_values, xb_T_values, xn_T_values]
  apply t_spells (n := 12) hE ht (by omega) (by omega) hT hs hi h1 hv hst
  · intro h
    simp only [sl_i, b32_0, b32_1, bn_0 b32_0, bn_1 b32_1, q32_17, b32_0, b32_1, bn_0 b32_0, bn_1 b32_1, q32_110, q32_111, q32_114, q32_115]
    rw [if_pos (by decide)]
    exact hq1 ⟨12, by omega, by omega, h⟩
  intro h201
  simp only [sl_i, b32_0, b32_1, bn_0 b32_0, bn_1 b32_1, q32_17]
  rw [if_neg (by decide)]
  simp only [b32_0, b32_1, bn_0 b32_0, bn_1 b32_1, q32_20, q32_21, q32_22]
  simp only [b32_0, b32_1, bn_0 b32_0, bn_1 b32_1, q32_24, xc_T, xg_T_0, xg_T_1, xs_T_1, xg_T_2, xs_T_2, xg_T_3, xg_T_4, xg_T_5, xg_T_6, xs_T_6, xg_T_7, xs_T_7, xg_T_8, xs_T_8, xa_T_signs, xb_T_signs, xn_T_signs, xa_T_types, xb_T_types, xn_T_types, xa_T_starts, xb_T_starts, xn_T_starts, xa_T_values, xb_T_values, xn_T_values]
  apply t_spells (n := 13) hE ht (by omega) (by omega) hT hs hi h1 hv hst
  · intro h
    simp only [sl_i, b32_0, b32_1, bn_0 b32_0, bn_1 b32_1, q32_27, b32_0, b32_1, bn_0 b32_0, bn_1 b32_1, q32_110, q32_111, q32_114, q32_115]
    rw [if_pos (by decide)]
    exact hq1 ⟨13, by omega, by omega, h⟩
  intro h202
  simp only [sl_i, b32_0, b32_1, bn_0 b32_0, bn_1 b32_1, q32_27]
  rw [if_neg (by decide)]
  simp only [b32_0, b32_1, bn_0 b32_0, bn_1 b32_1, q32_30, q32_31, q32_32]
  simp only [b32_0, b32_1, bn_0 b32_0, bn_1 b32_1, q32_34, xc_T, xg_T_0, xg_T_1, xs_T_1, xg_T_2, xs_T_2, xg_T_3, xg_T_4, xg_T_5, xg_T_6, xs_T_6, xg_T_7, xs_T_7, xg_T_8, xs_T_8, xa_T_signs, xb_T_signs, xn_T_signs, xa_T_types, xb_T_types, xn_T_types, xa_T_starts, xb_T_starts, xn_T_starts, xa_T_values, xb_T_values, xn_T_values]
  apply t_spells (n := 14) hE ht (by omega) (by omega) hT hs hi h1 hv hst
  · intro h
    simp only [sl_i, b32_0, b32_1, bn_0 b32_0, bn_1 b32_1, q32_37, b32_0, b32_1, bn_0 b32_0, bn_1 b32_1, q32_110, q32_111, q32_114, q32_115]
    rw [if_pos (by decide)]
    exact hq1 ⟨14, by omega, by omega, h⟩
  intro h203
  simp only [sl_i, b32_0, b32_1, bn_0 b32_0, bn_1 b32_1, q32_37]
  rw [if_neg (by decide)]
  simp only [b32_0, b32_1, bn_0 b32_0, bn_1 b32_1, q32_40, q32_41, q32_42]
  simp only [b32_0, b32_1, bn_0 b32_0, bn_1 b32_1, q32_44, xc_T, xg_T_0, xg_T_1, xs_T_1, xg_T_2, xs_T_2, xg_T_3, xg_T_4, xg_T_5, xg_T_6, xs_T_6, xg_T_7, xs_T_7, xg_T_8, xs_T_8, xa_T_signs, xb_T_signs, xn_T_signs, xa_T_types, xb_T_types, xn_T_types, xa_T_starts, xb_T_starts, xn_T_starts, xa_T_values, xb_T_values, xn_T_values]
  apply t_spells (n := 15) hE ht (by omega) (by omega) hT hs hi h1 hv hst
  · intro h
    simp only [sl_i, b32_0, b32_1, bn_0 b32_0, bn_1 b32_1, q32_47, b32_0, b32_1, bn_0 b32_0, bn_1 b32_1, q32_110, q32_111, q32_114, q32_115]
    rw [if_pos (by decide)]
    exact hq1 ⟨15, by omega, by omega, h⟩
  intro h204
  simp only [sl_i, b32_0, b32_1, bn_0 b32_0, bn_1 b32_1, q32_47]
  rw [if_neg (by decide)]
  simp only [b32_0, b32_1, bn_0 b32_0, bn_1 b32_1, q32_50, q32_51, q32_52]
  simp only [b32_0, b32_1, bn_0 b32_0, bn_1 b32_1, q32_54, xc_T, xg_T_0, xg_T_1, xs_T_1, xg_T_2, xs_T_2, xg_T_3, xg_T_4, xg_T_5, xg_T_6, xs_T_6, xg_T_7, xs_T_7, xg_T_8, xs_T_8, xa_T_signs, xb_T_signs, xn_T_signs, xa_T_types, xb_T_types, xn_T_types, xa_T_starts, xb_T_starts, xn_T_starts, xa_T_values, xb_T_values, xn_T_values]
  apply t_spells (n := 16) hE ht (by omega) (by omega) hT hs hi h1 hv hst
  · intro h
    simp only [sl_i, b32_0, b32_1, bn_0 b32_0, bn_1 b32_1, q32_57, b32_0, b32_1, bn_0 b32_0, bn_1 b32_1, q32_110, q32_111, q32_114, q32_115]
    rw [if_pos (by decide)]
    exact hq1 ⟨16, by omega, by omega, h⟩
  intro h205
  simp only [sl_i, b32_0, b32_1, bn_0 b32_0, bn_1 b32_1, q32_57]
  rw [if_neg (by decide)]
  simp only [b32_0, b32_1, bn_0 b32_0, bn_1 b32_1, q32_60, q32_61, q32_62]
  simp only [b32_0, b32_1, bn_0 b32_0, bn_1 b32_1, q32_64, xc_T, xg_T_0, xg_T_1, xs_T_1, xg_T_2, xs_T_2, xg_T_3, xg_T_4, xg_T_5, xg_T_6, xs_T_6, xg_T_7, xs_T_7, xg_T_8, xs_T_8, xa_T_signs, xb_T_signs, xn_T_signs, xa_T_types, xb_T_types, xn_T_types, xa_T_starts, xb_T_starts, xn_T_starts, xa_T_values, xb_T_values, xn_T_values]
  apply t_spells (n := 17) hE ht (by omega) (by omega) hT hs hi h1 hv hst
  · intro h
    simp only [sl_i, b32_0, b32_1, bn_0 b32_0, bn_1 b32_1, q32_67, b32_0, b32_1, bn_0 b32_0, bn_1 b32_1, q32_110, q32_111, q32_114, q32_115]
    rw [if_pos (by decide)]
    exact hq1 ⟨17, by omega, by omega, h⟩
  intro h206
  simp only [sl_i, b32_0, b32_1, bn_0 b32_0, bn_1 b32_1, q32_67]
  rw [if_neg (by decide)]
  simp only [b32_0, b32_1, bn_0 b32_0, bn_1 b32_1, q32_70, q32_71, q32_72]
  simp only [b32_0, b32_1, bn_0 b32_0, bn_1 b32_1, q32_74, xc_T, xg_T_0, xg_T_1, xs_T_1, xg_T_2, xs_T_2, xg_T_3, xg_T_4, xg_T_5, xg_T_6, xs_T_6, xg_T_7, xs_T_7, xg_T_8, xs_T_8, xa_T_signs, xb_T_signs, xn_T_signs, xa_T_types, xb_T_types, xn_T_types, xa_T_starts, xb_T_starts, xn_T_starts, xa_T_values, xb_T_values, xn_T_values]
  apply t_spells (n := 18) hE ht (by omega) (by omega) hT hs hi h1 hv hst
  · intro h
    simp only [sl_i, b32_0, b32_1, bn_0 b32_0, bn_1 b32_1, q32_77, b32_0, b32_1, bn_0 b32_0, bn_1 b32_1, q32_110, q32_111, q32_114, q32_115]
    rw [if_pos (by decide)]
    exact hq1 ⟨18, by omega, by omega, h⟩
  intro h207
  simp only [sl_i, b32_0, b32_1, bn_0 b32_0, bn_1 b32_1, q32_77]
  rw [if_neg (by decide)]
  simp only [b32_0, b32_1, bn_0 b32_0, bn_1 b32_1, q32_80, q32_81, q32_82]
  simp only [b32_0, b32_1, bn_0 b32_0, bn_1 b32_1, q32_84, xc_T, xg_T_0, xg_T_1, xs_T_1, xg_T_2, xs_T_2, xg_T_3, xg_T_4, xg_T_5, xg_T_6, xs_T_6, xg_T_7, xs_T_7, xg_T_8, xs_T_8, xa_T_signs, xb_T_signs, xn_T_signs, xa_T_types, xb_T_types, xn_T_types, xa_T_starts, xb_T_starts, xn_T_starts, xa_T_values, xb_T_values, xn_T_values]
  apply t_spells (n := 19) hE ht (by omega) (by omega) hT hs hi h1 hv hst
  · intro h
    simp only [sl_i, b32_0, b32_1, bn_0 b32_0, bn_1 b32_1, q32_87, b32_0, b32_1, bn_0 b32_0, bn_1 b32_1, q32_110, q32_111, q32_114, q32_115]
    rw [if_pos (by decide)]
    exact hq1 ⟨19, by omega, by omega, h⟩
  intro h208
  simp only [sl_i, b32_0, b32_1, bn_0 b32_0, bn_1 b32_1, q32_87]
  rw [if_neg (by decide)]
  simp only [b32_0, b32_1, bn_0 b32_0, bn_1 b32_1, q32_90, q32_91, q32_92]
  simp only [b32_0, b32_1, bn_0 b32_0, bn_1 b32_1, q32_94, xc_T, xg_T_0, xg_T_1, xs_T_1, xg_T_2, xs_T_2, xg_T_3, xg_T_4, xg_T_5, xg_T_6, xs_T_6, xg_T_7, xs_T_7, xg_T_8, xs_T_8, xa_T_signs, xb_T_signs, xn_T_signs, xa_T_types, xb_T_types, xn_T_types, xa_T_starts, xb_T_starts, xn_T_starts, xa_T_values, xb_T_values, xn_T_values]
  apply t_spells (n := 20) hE ht (by omega) (by omega) hT hs hi h1 hv hst
  · intro h
    simp only [sl_i, b32_0, b32_1, bn_0 b32_0, bn_1 b32_1, q32_97, b32_0, b32_1, bn_0 b32_0, bn_1 b32_1, q32_110, q32_111, q32_114, q32_115]
    rw [if_pos (by decide)]
    exact hq1 ⟨20, by omega, by omega, h⟩
  intro h209
  simp only [sl_i, b32_0, b32_1, bn_0 b32_0, bn_1 b32_1, q32_97]
  rw [if_neg (by decide)]
  simp only [b32_0, b32_1, bn_0 b32_0, bn_1 b32_1, q32_100, q32_101, q32_102]
  simp only [b32_0, b32_1, bn_0 b32_0, bn_1 b32_1, q32_104, xc_T, xg_T_0, xg_T_1, xs_T_1, xg_T_2, xs_T_2, xg_T_3, xg_T_4, xg_T_5, xg_T_6, xs_T_6, xg_T_7, xs_T_7, xg_T_8, xs_T_8, xa_T_signs, xb_T_signs, xn_T_signs, xa_T_types, xb_T_types, xn_T_types, xa_T_starts, xb_T_starts, xn_T_starts, xa_T_values, xb_T_values, xn_T_values]
  apply t_spells (n := 21) hE ht (by omega) (by omega) hT hs hi h1 hv hst
  · intro h
    simp only [sl_i, b32_0, b32_1, bn_0 b32_0, bn_1 b32_1, q32_107, b32_0, b32_1, bn_0 b32_0, bn_1 b32_1, q32_110, q32_111, q32_114, q32_115]
    rw [if_neg (by decide)]
    exact hq1 ⟨21, by omega, by omega, h⟩
  intro h210
  simp only [sl_i, b32_0, b32_1, bn_0 b32_0, bn_1 b32_1, q32_107, b32_0, b32_1, bn_0 b32_0, bn_1 b32_1, q32_114, q32_115]
  rw [if_pos (by decide)]
  refine hq0 (fun n a1 a2 => ?_)
  have : n = 11 ∨ n = 12 ∨ n = 13 ∨ n = 14 ∨ n = 15 ∨ n = 16 ∨ n = 17 ∨ n = 18 ∨ n = 19 ∨ n = 20 ∨ n = 21 := by omega
  rcases this with rfl | rfl | rfl | rfl | rfl | rfl | rfl | rfl | rfl | rfl | rfl
  · exact h200
  · exact h201
  · exact h202
  · exact h203
  · exact h204
  · exact h205
  · exact h206
  · exact h207
  · exact h208
  · exact h209
  · exact h210
theorem kept_t {l : List Nat} : kept l = true ↔ ∃ n, n < 22 ∧ l = kw n := by
  unfold kept
  rw [List.any_eq_true]
  constructor
  · rintro ⟨x, hx, h⟩
    rw [decide_eq_true_eq] at h
    obtain ⟨n, hn, e⟩ := List.mem_iff_getElem.mp hx
    have h22 : (kws.take 22).length = 22 := by decide
    refine ⟨n, by omega, ?_⟩
    rw [h, ← e]
    unfold kw
    have h27 : kws.length = 27 := by decide
    rw [List.getElem_take, List.getD, List.getElem?_eq_getElem (show n < kws.length by omega)]; rfl
  · rintro ⟨n, hn, h⟩
    have key : ∀ n, n < 22 → kw n ∈ kws.take 22 := by decide
    exact ⟨kw n, key n hn, decide_eq_true h⟩
theorem t_isLetter {h : mm_H} {v : Nat} (hv : v < 127) (hq1 : 97 ≤ v ∧ v ≤ 122 → Q (some (.int 1)) h) (hq0 : ¬ (97 ≤ v ∧ v ≤ 122) → Q (some (.int 0)) h) : wm (mp_P fx) d 19 [.int (nI v)] h Q := by
  simp only [e19, b19_0, b19_1, bn_0 b19_0, bn_1 b19_1, q19_0, q19_1, q19_3, q19_6, q19_7, q19_9, q19_12, q19_13, q19_16, q19_17]
  by_cases e1 : 97 ≤ v
  · rw [if_neg (by rw [show (97 : Int32) = nI 97 from rfl, nI_ltI (by omega) (by omega)]; omega)]
    by_cases e2 : v ≤ 122
    · rw [if_neg (by rw [show (122 : Int32) = nI 122 from rfl, nI_ltI (by omega) (by omega)]; omega)]
      exact hq1 ⟨e1, e2⟩
    · rw [if_pos (by rw [show (122 : Int32) = nI 122 from rfl, nI_ltI (by omega) (by omega)]; omega)]
      exact hq0 (fun z => e2 z.2)
  · rw [if_pos (by rw [show (97 : Int32) = nI 97 from rfl, nI_ltI (by omega) (by omega)]; omega)]
    exact hq0 (fun z => e1 z.1)
theorem t_isFigure {h : mm_H} {v : Nat} (hv : v < 127) (hq1 : 48 ≤ v ∧ v ≤ 57 → Q (some (.int 1)) h) (hq0 : ¬ (48 ≤ v ∧ v ≤ 57) → Q (some (.int 0)) h) : wm (mp_P fx) d 33 [.int (nI v)] h Q := by
  simp only [e33, b33_0, b33_1, bn_0 b33_0, bn_1 b33_1, q33_0, q33_1, q33_3, q33_6, q33_7, q33_9, q33_12, q33_13, q33_16, q33_17]
  by_cases e1 : 48 ≤ v
  · rw [if_neg (by rw [show (48 : Int32) = nI 48 from rfl, nI_ltI (by omega) (by omega)]; omega)]
    by_cases e2 : v ≤ 57
    · rw [if_neg (by rw [show (57 : Int32) = nI 57 from rfl, nI_ltI (by omega) (by omega)]; omega)]
      exact hq1 ⟨e1, e2⟩
    · rw [if_pos (by rw [show (57 : Int32) = nI 57 from rfl, nI_ltI (by omega) (by omega)]; omega)]
      exact hq0 (fun z => e2 z.2)
  · rw [if_pos (by rw [show (48 : Int32) = nI 48 from rfl, nI_ltI (by omega) (by omega)]; omega)]
    exact hq0 (fun z => e1 z.1)
theorem lt_t {j : Nat} : lx_lt tp j = true ↔ 97 ≤ tp.getD j 0 ∧ tp.getD j 0 ≤ 122 := by unfold lx_lt; rw [Bool.and_eq_true, decide_eq_true_eq, decide_eq_true_eq]
theorem dg_t {j : Nat} : lx_dg tp j = true ↔ 48 ≤ tp.getD j 0 ∧ tp.getD j 0 ≤ 57 := by unfold lx_dg; rw [Bool.and_eq_true, decide_eq_true_eq, decide_eq_true_eq]
theorem bl_t {j : Nat} : lx_bl tp j = true ↔ tp.getD j 0 = 10 ∨ tp.getD j 0 = 32 := by unfold lx_bl; rw [Bool.or_eq_true, decide_eq_true_eq, decide_eq_true_eq]
theorem t_skip {p : Nat} (ht : tp_ok tp) (hs : ho_ T.1 tp) (hl : T.2.1 = nI tp.length) (hb : T.2.2.2.2.2.2.2.2 = nI p) (hp : p ≤ tp.length) (hq1 : lx_b tp p < tp.length → Q (some (.int 1)) (px_h z E M (px_l sw c2 w2 ((T.1, T.2.1, T.2.2.1, T.2.2.2.1, T.2.2.2.2.1, T.2.2.2.2.2.1, T.2.2.2.2.2.2.1, T.2.2.2.2.2.2.2.1, nI (lx_b tp p))) D S S1 K R C W U q q1 B0 B1 B2 B3))) (hq0 : tp.length ≤ lx_b tp p → Q (some (.int 0)) (px_h z E M (px_l sw c2 w2 ((T.1, T.2.1, T.2.2.1, T.2.2.2.1, T.2.2.2.2.1, T.2.2.2.2.2.1, T.2.2.2.2.2.2.1, T.2.2.2.2.2.2.2.1, nI (lx_b tp p))) D S S1 K R C W U q q1 B0 B1 B2 B3))) : wm (mp_P fx) d 17 [.ref 60] (px_h z E M (px_l sw c2 w2 T D S S1 K R C W U q q1 B0 B1 B2 B3)) Q := by
  have h1000 := ht.1
  have hsl := hs.1
  have fin : ∀ r, p ≤ r → r ≤ tp.length → (∀ j, p ≤ j → j < r → lx_bl tp j = true) → lx_bl tp r = false → ww (mp_P fx) d 17 52 [some (.ref 60)] [] (px_h z E M (px_l sw c2 w2 ((T.1, T.2.1, T.2.2.1, T.2.2.2.1, T.2.2.2.2.1, T.2.2.2.2.2.1, T.2.2.2.2.2.2.1, T.2.2.2.2.2.2.2.1, nI r)) D S S1 K R C W U q q1 B0 B1 B2 B3)) Q := by
    intro r h1 h2 h3 h4
    have e : lx_b tp p = r := run_c 1001 p r h1 (by omega) h3 h4
    rw [e] at hq1 hq0
    simp only [b17_0, b17_1, bn_0 b17_0, bn_1 b17_1, q17_52, q17_53, q17_56, q17_57, q17_60, q17_63, q17_64, q17_67, q17_68, xc_T, xg_T_0, xg_T_1, xs_T_1, xg_T_2, xs_T_2, xg_T_3, xg_T_4, xg_T_5, xg_T_6, xs_T_6, xg_T_7, xs_T_7, xg_T_8, xs_T_8, xa_T_signs, xb_T_signs, xn_T_signs, xa_T_types, xb_T_types, xn_T_types, xa_T_starts, xb_T_starts, xn_T_starts, xa_T_values, xb_T_values, xn_T_values, wx_some, wx_ref]
    by_cases e2 : r < tp.length
    · rw [if_neg (by rw [hl, nI_leI (by omega) (by omega)]; omega)]
      exact hq1 e2
    · rw [if_pos (by rw [hl, nI_leI (by omega) (by omega)]; omega)]
      exact hq0 (by omega)
  have key : ∀ (m r : Nat), r + m = tp.length → p ≤ r → (∀ j, p ≤ j → j < r → lx_bl tp j = true) → ww (mp_P fx) d 17 0 [some (.ref 60)] [] (px_h z E M (px_l sw c2 w2 ((T.1, T.2.1, T.2.2.1, T.2.2.2.1, T.2.2.2.2.1, T.2.2.2.2.2.1, T.2.2.2.2.2.2.1, T.2.2.2.2.2.2.2.1, nI r)) D S S1 K R C W U q q1 B0 B1 B2 B3)) Q := by
    intro m
    induction m with
    | zero =>
      intro r hr h1 h3
      rw [q17_0]
      simp only [b17_0, b17_1, bn_0 b17_0, bn_1 b17_1, q17_1, q17_4, q17_5, q17_8, xc_T, xg_T_0, xg_T_1, xs_T_1, xg_T_2, xs_T_2, xg_T_3, xg_T_4, xg_T_5, xg_T_6, xs_T_6, xg_T_7, xs_T_7, xg_T_8, xs_T_8, xa_T_signs, xb_T_signs, xn_T_signs, xa_T_types, xb_T_types, xn_T_types, xa_T_starts, xb_T_starts, xn_T_starts, xa_T_values, xb_T_values, xn_T_values, wx_some, wx_ref]
      rw [if_pos (by rw [hl, nI_leI (by omega) (by omega)]; omega)]
      exact fin r h1 (by omega) h3 (lx_bl_ge _ (by omega))
    | succ m ih =>
      intro r hr h1 h3
      have g := ho_at hs (show r < tp.length by omega)
      have gl := tp_lt ht r
      have hgo : lx_bl tp r = true → ww (mp_P fx) d 17 0 [some (.ref 60)] [] (px_h z E M (px_l sw c2 w2 ((T.1, T.2.1, T.2.2.1, T.2.2.2.1, T.2.2.2.2.1, T.2.2.2.2.2.1, T.2.2.2.2.2.2.1, T.2.2.2.2.2.2.2.1, nI (r + 1))) D S S1 K R C W U q q1 B0 B1 B2 B3)) Q := fun hbl => ih (r + 1) (by omega) (by omega) (fun j a1 a2 => by
        by_cases e : j = r
        · subst e; exact hbl
        · exact h3 j a1 (by omega))
      rw [q17_0]
      simp only [b17_0, b17_1, bn_0 b17_0, bn_1 b17_1, q17_1, q17_4, q17_5, q17_8, q17_11, q17_12, q17_15, q17_16, q17_19, q17_20, q17_22, q17_25, q17_26, q17_29, q17_30, q17_33, q17_34, q17_36, q17_39, q17_40, q17_41, q17_44, q17_45, q17_46, xc_T, xg_T_0, xg_T_1, xs_T_1, xg_T_2, xs_T_2, xg_T_3, xg_T_4, xg_T_5, xg_T_6, xs_T_6, xg_T_7, xs_T_7, xg_T_8, xs_T_8, xa_T_signs, xb_T_signs, xn_T_signs, xa_T_types, xb_T_types, xn_T_types, xa_T_starts, xb_T_starts, xn_T_starts, xa_T_values, xb_T_values, xn_T_values, wx_some, wx_ref, g, nI_1]
      rw [if_neg (by rw [hl, nI_leI (by omega) (by omega)]; omega)]
      by_cases e1 : tp.getD r 0 = 10
      · rw [if_pos (by rw [e1]; rfl)]
        simp only [b17_0, b17_1, bn_0 b17_0, bn_1 b17_1, q17_49]
        exact hgo (bl_t.mpr (Or.inl e1))
      · rw [if_neg (by rw [nl_10, nI_eq (by omega) (by omega)]; exact e1)]
        by_cases e2 : tp.getD r 0 = 32
        · rw [if_neg (by rw [e2]; exact fun z => z rfl)]
          simp only [b17_0, b17_1, bn_0 b17_0, bn_1 b17_1, q17_49]
          exact hgo (bl_t.mpr (Or.inr e2))
        · rw [if_pos (by rw [show (32 : Int32) = nI 32 from rfl, nI_eq (by omega) (by omega)]; exact e2)]
          exact fin r h1 (by omega) h3 (Bool.eq_false_iff.mpr (fun z => by
            rcases bl_t.mp z with h | h
            · exact e1 h
            · exact e2 h))
  have := key (tp.length - p) p (by omega) (Nat.le_refl _) (fun j a1 a2 => by omega)
  rw [← hb] at this
  simp only [e17]
  exact this
/-- letters, as the program adds them up -/
def wdI (tp : List Nat) (b : Nat) : Nat → Int64
  | 0 => 0
  | k + 1 => (wdI tp b k <<< ((5 : Int32).toInt64 &&& 63)) + (nI (tp.getD (b + k) 0) - 97 + 1).toInt64
theorem lx_w_s {b n : Nat} : lx_w tp b (n + 1) = lx_w tp b n ++ [tp.getD (b + n) 0 - 96] := by
  unfold lx_w; rw [List.range_succ, List.map_append]; rfl
theorem wdI_w {b : Nat} (ht : tp_ok tp) : ∀ k, (∀ j, j < k → lx_lt tp (b + j) = true) → wdI tp b k = lN (w_32 (lx_w tp b k)) := by
  intro k
  induction k with
  | zero => intro _; rfl
  | succ k ih =>
    intro h
    obtain ⟨a1, a2⟩ := lt_t.mp (h k (by omega))
    rw [wdI, ih (fun j hj => h j (by omega)), lN_l5, ltI _ (by omega) a1, lN_add, lx_w_s]
    unfold w_32
    rw [List.foldl_append]; rfl
def vI (tp : List Nat) (b : Nat) : Nat → Int32
  | 0 => 0
  | k + 1 => vI tp b k * 10 + (nI (tp.getD (b + k) 0) - 48)
theorem vI_v {b : Nat} : ∀ k, (∀ j, j < k → lx_dg tp (b + j) = true) → vI tp b k = nI (lx_v tp b k) := by
  intro k
  induction k with
  | zero => intro _; rfl
  | succ k ih =>
    intro h
    obtain ⟨a1, a2⟩ := dg_t.mp (h k (by omega))
    rw [vI, ih (fun j hj => h j (by omega)), lx_v, nl_10, pk_mul, show (48 : Int32) = nI 48 from rfl, nI_sub a1, nI_add]
theorem lx_v_lt {b : Nat} : ∀ k, (∀ j, j < k → lx_dg tp (b + j) = true) → lx_v tp b k < 10 ^ k := by
  intro k
  induction k with
  | zero => intro _; rw [lx_v]; decide
  | succ k ih =>
    intro h
    obtain ⟨a1, a2⟩ := dg_t.mp (h k (by omega))
    have := ih (fun j hj => h j (by omega))
    rw [lx_v, Nat.pow_succ]; omega
theorem TKc_more {n : Nat} {T T' : px_T} (h : TKc tp n T) (hx : ∀ j : Nat, j < n → (T'.2.2.2.1)[j]? = (T.2.2.2.1)[j]? ∧ (T'.2.2.2.2.1)[j]? = (T.2.2.2.2.1)[j]? ∧ (T'.2.2.2.2.2.1)[j]? = (T.2.2.2.2.2.1)[j]?) (h1 : (T'.2.2.2.1)[n]? = some (nI (tyx tp n))) (h2 : (T'.2.2.2.2.1)[n]? = some (nI (tk tp n))) (h3 : (TY tp n = 1 → (T'.2.2.2.2.2.1)[n]? = some (w_x (LT tp n))) ∧ (TY tp n = 2 → (T'.2.2.2.2.2.1)[n]? = some (lN (VL tp n))) ∧ (TY tp n = 3 → (T'.2.2.2.2.2.1)[n]? = some (lN (SG tp n)))) : TKc tp (n + 1) T' := by
  intro i hi
  by_cases e : i = n
  · subst e; exact ⟨h1, h2, h3⟩
  · obtain ⟨a1, a2, a3⟩ := hx i (by omega)
    rw [a1, a2, a3]; exact h i (by omega)
theorem t_addWord {i : Nat} (hE : ELt E) (ht : tp_ok tp) (hi : i < 1001) (hb : tk tp i < tp.length) (hl1 : lx_lt tp (tk tp i) = true) (hT : TB tp i i (tk tp i) T) (hst : (T.2.2.2.2.1)[i]? = some (nI (tk tp i))) (hq : ∀ T', TB tp i (i + 1) (lx_e tp (tk tp i)) T' → Q none (px_h z E M (px_l sw c2 w2 (T') D S S1 K R C W U q q1 B0 B1 B2 B3))) : wm (mp_P fx) (d + 4) 20 [.ref 60] (px_h z E M (px_l sw c2 w2 T D S S1 K R C W U q q1 B0 B1 B2 B3)) Q := by
  have h1000 := ht.1
  obtain ⟨hTl, hs, hln, htk, hbe, hTc, hf⟩ := id hT
  obtain ⟨l1, l2, l3, l4⟩ := id hTl
  have hee : lx_e tp (tk tp i) = run_ (lx_lt tp) 1001 (tk tp i) := by unfold lx_e; rw [if_neg (by omega), if_pos hl1]
  have fin : ∀ k, (∀ j, j < k → lx_lt tp (tk tp i + j) = true) → tk tp i + k ≤ tp.length → lx_lt tp (tk tp i + k) = false → ww (mp_P fx) (d + 4) 20 66 [some (.ref 60), some (.int (nI (tk tp i))), some (.long (wdI tp (tk tp i) k)), none] [] (px_h z E M (px_l sw c2 w2 ((T.1, T.2.1, T.2.2.1, T.2.2.2.1, T.2.2.2.2.1, T.2.2.2.2.2.1, T.2.2.2.2.2.2.1, T.2.2.2.2.2.2.2.1, nI (tk tp i + k))) D S S1 K R C W U q q1 B0 B1 B2 B3)) Q := by
    intro k hk hkl hno
    have e : lx_e tp (tk tp i) = tk tp i + k := by
      rw [hee]
      exact run_c 1001 _ _ (by omega) (by omega) (fun j a1 a2 => by have := hk (j - tk tp i) (by omega); rw [show tk tp i + (j - tk tp i) = j by omega] at this; exact this) hno
    rw [e] at hq
    have hty : TY tp i = if k ≤ 8 then 1 else 4 := by
      unfold TY lx_t
      rw [if_neg (by omega), if_pos hl1, e, show tk tp i + k - tk tp i = k by omega]
    simp only [q20_66, q20_67, q20_70, q20_71, q20_72, q20_74, q20_77, q20_78, q20_81, q20_82, q20_85, q20_86, q20_87, xc_T, xg_T_0, xg_T_1, xs_T_1, xg_T_2, xs_T_2, xg_T_3, xg_T_4, xg_T_5, xg_T_6, xs_T_6, xg_T_7, xs_T_7, xg_T_8, xs_T_8, xa_T_signs, xb_T_signs, xn_T_signs, xa_T_types, xb_T_types, xn_T_types, xa_T_starts, xb_T_starts, xn_T_starts, xa_T_values, xb_T_values, xn_T_values, wx_some, wx_ref, isl_i, isl_r, isl_n, nI_sub (show tk tp i ≤ tk tp i + k by omega), show tk tp i + k - tk tp i = k by omega, htk, aS_n (show i < (T.2.2.2.1).length by omega) (show (T.2.2.2.1).length < 2 ^ 31 by omega)]
    by_cases e8 : k ≤ 8
    · rw [if_pos e8] at hty
      have hLT : LT tp i = lx_w tp (tk tp i) k := by unfold LT; rw [e, show tk tp i + k - tk tp i = k by omega]
      obtain ⟨lo1, lo2⟩ := LT_ok hty
      have hlen : (LT tp i).length = k := by rw [hLT]; unfold lx_w; rw [List.length_map, List.length_range]
      have hwx : (nI k).toInt64 <<< ((40 : Int32).toInt64 &&& 63) + wdI tp (tk tp i) k = w_x (LT tp i) := by
        rw [nI_l (by omega), lN_l40, wdI_w ht k hk, lN_add, ← hLT]
        unfold w_x
        rw [hlen]; rfl
      rw [if_pos (by rw [nl_8, nI_leI (by omega) (by omega)]; exact e8)]
      simp only [q20_88, q20_89, q20_92, q20_93, q20_96, q20_97, q20_100, q20_101, q20_102, q20_103, q20_105, q20_106, q20_107, q20_108, q20_109, q20_110, q20_113, q20_114, q20_117, q20_118, q20_119, xc_T, xg_T_0, xg_T_1, xs_T_1, xg_T_2, xs_T_2, xg_T_3, xg_T_4, xg_T_5, xg_T_6, xs_T_6, xg_T_7, xs_T_7, xg_T_8, xs_T_8, xa_T_signs, xb_T_signs, xn_T_signs, xa_T_types, xb_T_types, xn_T_types, xa_T_starts, xb_T_starts, xn_T_starts, xa_T_values, xb_T_values, xn_T_values, wx_some, wx_ref, isl_i, isl_r, isl_n, nI_sub (show tk tp i ≤ tk tp i + k by omega), show tk tp i + k - tk tp i = k by omega, htk, hwx, aS_n (show i < (T.2.2.2.2.2.1).length by omega) (show (T.2.2.2.2.2.1).length < 2 ^ 31 by omega)]
      have hvs : ((T.2.2.2.2.2.1).set i (w_x (LT tp i)))[i]? = some (w_x (LT tp i)) := List.getElem?_set_self (by omega)
      have hTl' : TPl (T.1, T.2.1, T.2.2.1, T.2.2.2.1, T.2.2.2.2.1, (T.2.2.2.2.2.1).set i (w_x (LT tp i)), nI i, T.2.2.2.2.2.2.2.1, nI (tk tp i + k)) := ⟨l1, l2, l3, by show (List.set _ _ _).length = 1001; rw [List.length_set]; exact l4⟩
      have hend : ∀ v : Nat, v = tyx tp i → ww (mp_P fx) (d + 4) 20 144 [some (.ref 60), some (.int (nI (tk tp i))), some (.long (wdI tp (tk tp i) k)), none] [.int (nI v), .int (nI i), .ref 62] (px_h z E M (px_l sw c2 w2 ((T.1, T.2.1, T.2.2.1, T.2.2.2.1, T.2.2.2.2.1, (T.2.2.2.2.2.1).set i (w_x (LT tp i)), nI i, T.2.2.2.2.2.2.2.1, nI (tk tp i + k))) D S S1 K R C W U q q1 B0 B1 B2 B3)) Q := by
        intro v hv
        simp only [q20_144, q20_145, xc_T, xg_T_0, xg_T_1, xs_T_1, xg_T_2, xs_T_2, xg_T_3, xg_T_4, xg_T_5, xg_T_6, xs_T_6, xg_T_7, xs_T_7, xg_T_8, xs_T_8, xa_T_signs, xb_T_signs, xn_T_signs, xa_T_types, xb_T_types, xn_T_types, xa_T_starts, xb_T_starts, xn_T_starts, xa_T_values, xb_T_values, xn_T_values, wx_some, wx_ref, aS_n (show i < (T.2.2.2.1).length by omega) (show (T.2.2.2.1).length < 2 ^ 31 by omega)]
        refine hq (T.1, T.2.1, T.2.2.1, (T.2.2.2.1).set i (nI v), T.2.2.2.2.1, (T.2.2.2.2.2.1).set i (w_x (LT tp i)), nI i, T.2.2.2.2.2.2.2.1, nI (tk tp i + k)) ⟨⟨l1, by show (List.set _ _ _).length = 1001; rw [List.length_set]; exact l2, l3, by show (List.set _ _ _).length = 1001; rw [List.length_set]; exact l4⟩, hs, hln, rfl, rfl, TKc_more hTc (fun j hj => ⟨List.getElem?_set_ne (by omega), rfl, List.getElem?_set_ne (by omega)⟩) (by rw [hv]; exact List.getElem?_set_self (by omega)) hst ⟨fun _ => hvs, fun z => by omega, fun z => by omega⟩, hf⟩
      simp only [q20_122, xc_T, xg_T_0, xg_T_1, xs_T_1, xg_T_2, xs_T_2, xg_T_3, xg_T_4, xg_T_5, xg_T_6, xs_T_6, xg_T_7, xs_T_7, xg_T_8, xs_T_8, xa_T_signs, xb_T_signs, xn_T_signs, xa_T_types, xb_T_types, xn_T_types, xa_T_starts, xb_T_starts, xn_T_starts, xa_T_values, xb_T_values, xn_T_values]
      apply t_isSq (T := (T.1, T.2.1, T.2.2.1, T.2.2.2.1, T.2.2.2.2.1, (T.2.2.2.2.2.1).set i (w_x (LT tp i)), nI i, T.2.2.2.2.2.2.2.1, nI (tk tp i + k))) hE ht hTl' hs hi hty hvs hst
      · rintro ⟨n, a1, a2, a3⟩
        simp only [sl_i, q20_125, q20_139, q20_140, q20_143]
        rw [if_pos (by decide)]
        exact hend 2 (by unfold tyx; rw [hty, if_neg (by omega), if_pos rfl, if_pos (kept_t.mpr ⟨n, by omega, a3⟩)])
      · intro hn1
        simp only [sl_i, q20_125, q20_128, q20_129, q20_130, xc_T, xg_T_0, xg_T_1, xs_T_1, xg_T_2, xs_T_2, xg_T_3, xg_T_4, xg_T_5, xg_T_6, xs_T_6, xg_T_7, xs_T_7, xg_T_8, xs_T_8, xa_T_signs, xb_T_signs, xn_T_signs, xa_T_types, xb_T_types, xn_T_types, xa_T_starts, xb_T_starts, xn_T_starts, xa_T_values, xb_T_values, xn_T_values, wx_some, wx_ref]
        rw [if_neg (by decide)]
        simp only [q20_128, q20_129, q20_130, q20_133, xc_T, xg_T_0, xg_T_1, xs_T_1, xg_T_2, xs_T_2, xg_T_3, xg_T_4, xg_T_5, xg_T_6, xs_T_6, xg_T_7, xs_T_7, xg_T_8, xs_T_8, xa_T_signs, xb_T_signs, xn_T_signs, xa_T_types, xb_T_types, xn_T_types, xa_T_starts, xb_T_starts, xn_T_starts, xa_T_values, xb_T_values, xn_T_values, wx_some, wx_ref]
        apply t_isOt (T := (T.1, T.2.1, T.2.2.1, T.2.2.2.1, T.2.2.2.2.1, (T.2.2.2.2.2.1).set i (w_x (LT tp i)), nI i, T.2.2.2.2.2.2.2.1, nI (tk tp i + k))) hE ht hTl' hs hi hty hvs hst
        · rintro ⟨n, a1, a2, a3⟩
          simp only [sl_i, q20_136, q20_139, q20_140, q20_143]
          rw [if_neg (by decide)]
          exact hend 2 (by unfold tyx; rw [hty, if_neg (by omega), if_pos rfl, if_pos (kept_t.mpr ⟨n, by omega, a3⟩)])
        · intro hn2
          simp only [sl_i, q20_136, q20_143]
          rw [if_pos (by decide)]
          exact hend 3 (by
            unfold tyx
            rw [hty, if_neg (by omega), if_pos rfl, if_neg (fun z => by
              obtain ⟨n, a1, a2⟩ := kept_t.mp z
              rcases Nat.lt_or_ge n 11 with h | h
              · exact hn1 n (by omega) h a2
              · exact hn2 n h (by omega) a2)])
    · rw [if_neg e8] at hty
      rw [if_neg (by rw [nl_8, nI_leI (by omega) (by omega)]; exact e8)]
      refine hq (T.1, T.2.1, T.2.2.1, (T.2.2.2.1).set i 1, T.2.2.2.2.1, T.2.2.2.2.2.1, nI i, T.2.2.2.2.2.2.2.1, nI (tk tp i + k)) ⟨⟨l1, by show (List.set _ _ _).length = 1001; rw [List.length_set]; exact l2, l3, l4⟩, hs, hln, rfl, rfl, TKc_more hTc (fun j hj => ⟨List.getElem?_set_ne (by omega), rfl, rfl⟩) ?_ hst ⟨fun z => by omega, fun z => by omega, fun z => by omega⟩, hf⟩
      show ((T.2.2.2.1).set i 1)[i]? = _
      rw [List.getElem?_set_self (by omega)]
      unfold tyx
      rw [hty]; rfl
  have key : ∀ (m k : Nat), tk tp i + k + m = tp.length → (∀ j, j < k → lx_lt tp (tk tp i + j) = true) → ww (mp_P fx) (d + 4) 20 7 [some (.ref 60), some (.int (nI (tk tp i))), some (.long (wdI tp (tk tp i) k)), none] [] (px_h z E M (px_l sw c2 w2 ((T.1, T.2.1, T.2.2.1, T.2.2.2.1, T.2.2.2.2.1, T.2.2.2.2.2.1, T.2.2.2.2.2.2.1, T.2.2.2.2.2.2.2.1, nI (tk tp i + k))) D S S1 K R C W U q q1 B0 B1 B2 B3)) Q := by
    intro m
    induction m with
    | zero =>
      intro k hk h
      rw [q20_7]
      simp only [q20_8, q20_11, q20_12, q20_15, xc_T, xg_T_0, xg_T_1, xs_T_1, xg_T_2, xs_T_2, xg_T_3, xg_T_4, xg_T_5, xg_T_6, xs_T_6, xg_T_7, xs_T_7, xg_T_8, xs_T_8, xa_T_signs, xb_T_signs, xn_T_signs, xa_T_types, xb_T_types, xn_T_types, xa_T_starts, xb_T_starts, xn_T_starts, xa_T_values, xb_T_values, xn_T_values, wx_some, wx_ref]
      rw [if_pos (by rw [hln, nI_leI (by omega) (by omega)]; omega)]
      exact fin k h (by omega) (lx_lt_ge _ (by omega))
    | succ m ih =>
      intro k hk h
      have g := ho_at hs (show tk tp i + k < tp.length by omega)
      have gl := tp_lt ht (tk tp i + k)
      rw [q20_7]
      simp only [q20_8, q20_11, q20_12, q20_15, q20_18, q20_19, q20_22, q20_23, q20_26, xc_T, xg_T_0, xg_T_1, xs_T_1, xg_T_2, xs_T_2, xg_T_3, xg_T_4, xg_T_5, xg_T_6, xs_T_6, xg_T_7, xs_T_7, xg_T_8, xs_T_8, xa_T_signs, xb_T_signs, xn_T_signs, xa_T_types, xb_T_types, xn_T_types, xa_T_starts, xb_T_starts, xn_T_starts, xa_T_values, xb_T_values, xn_T_values, wx_some, wx_ref, g]
      rw [if_neg (by rw [hln, nI_leI (by omega) (by omega)]; omega)]
      simp only [q20_27]
      apply t_isLetter gl
      · intro hlet
        simp only [sl_i, q20_30, q20_33, q20_34, q20_35, q20_36, q20_37, q20_40, q20_41, q20_44, q20_45, q20_47, q20_48, q20_49, q20_50, q20_51, q20_52i, q20_53, q20_54, q20_55, q20_58, q20_59, q20_60, xc_T, xg_T_0, xg_T_1, xs_T_1, xg_T_2, xs_T_2, xg_T_3, xg_T_4, xg_T_5, xg_T_6, xs_T_6, xg_T_7, xs_T_7, xg_T_8, xs_T_8, xa_T_signs, xb_T_signs, xn_T_signs, xa_T_types, xb_T_types, xn_T_types, xa_T_starts, xb_T_starts, xn_T_starts, xa_T_values, xb_T_values, xn_T_values, wx_some, wx_ref, isl_i, isl_r, isl_n, g, nI_1]
        rw [if_neg (by decide)]
        simp only [q20_63]
        exact ih (k + 1) (by omega) (fun j hj => by
          by_cases e : j = k
          · subst e; exact lt_t.mpr hlet
          · exact h j (by omega))
      · intro hlet
        simp only [sl_i, q20_30]
        rw [if_pos (by decide)]
        exact fin k h (by omega) (Bool.eq_false_iff.mpr (fun z => hlet (lt_t.mp z)))
  have this : ww (mp_P fx) (d + 4) 20 7 [some (.ref 60), some (.int (nI (tk tp i))), some (.long 0), none] [] (px_h z E M (px_l sw c2 w2 ((T.1, T.2.1, T.2.2.1, T.2.2.2.1, T.2.2.2.2.1, T.2.2.2.2.2.1, T.2.2.2.2.2.2.1, T.2.2.2.2.2.2.2.1, nI (tk tp i))) D S S1 K R C W U q q1 B0 B1 B2 B3)) Q := key (tp.length - tk tp i) 0 (by omega) (fun j hj => by omega)
  simp only [e20, q20_0, q20_1, q20_4r, q20_5, q20_6i, xc_T, xg_T_0, xg_T_1, xs_T_1, xg_T_2, xs_T_2, xg_T_3, xg_T_4, xg_T_5, xg_T_6, xs_T_6, xg_T_7, xs_T_7, xg_T_8, xs_T_8, xa_T_signs, xb_T_signs, xn_T_signs, xa_T_types, xb_T_types, xn_T_types, xa_T_starts, xb_T_starts, xn_T_starts, xa_T_values, xb_T_values, xn_T_values, wx_some, wx_ref, isl_i, isl_r, isl_n, hbe]
  rw [← hbe] at this ⊢
  exact this
theorem t_addNumber {i : Nat} (ht : tp_ok tp) (hi : i < 1001) (hb : tk tp i < tp.length) (hl1 : lx_lt tp (tk tp i) = false) (hd1 : lx_dg tp (tk tp i) = true) (hT : TB tp i i (tk tp i) T) (hst : (T.2.2.2.2.1)[i]? = some (nI (tk tp i))) (hq : ∀ T', TB tp i (i + 1) (lx_e tp (tk tp i)) T' → Q none (px_h z E M (px_l sw c2 w2 (T') D S S1 K R C W U q q1 B0 B1 B2 B3))) : wm (mp_P fx) (d + 1) 34 [.ref 60] (px_h z E M (px_l sw c2 w2 T D S S1 K R C W U q q1 B0 B1 B2 B3)) Q := by
  have h1000 := ht.1
  obtain ⟨hTl, hs, hln, htk, hbe, hTc, hf⟩ := id hT
  obtain ⟨l1, l2, l3, l4⟩ := id hTl
  have hnl : ¬ lx_lt tp (tk tp i) = true := by rw [hl1]; exact Bool.false_ne_true
  have hee : lx_e tp (tk tp i) = run_ (lx_dg tp) 1001 (tk tp i) := by unfold lx_e; rw [if_neg (by omega), if_neg hnl, if_pos hd1]
  have fin : ∀ k, (∀ j, j < k → lx_dg tp (tk tp i + j) = true) → tk tp i + k ≤ tp.length → lx_dg tp (tk tp i + k) = false → ww (mp_P fx) (d + 1) 34 64 [some (.ref 60), some (.int (nI (tk tp i))), some (.int (vI tp (tk tp i) k))] [] (px_h z E M (px_l sw c2 w2 ((T.1, T.2.1, T.2.2.1, T.2.2.2.1, T.2.2.2.2.1, T.2.2.2.2.2.1, T.2.2.2.2.2.2.1, T.2.2.2.2.2.2.2.1, nI (tk tp i + k))) D S S1 K R C W U q q1 B0 B1 B2 B3)) Q := by
    intro k hk hkl hno
    have e : lx_e tp (tk tp i) = tk tp i + k := by
      rw [hee]
      exact run_c 1001 _ _ (by omega) (by omega) (fun j a1 a2 => by have := hk (j - tk tp i) (by omega); rw [show tk tp i + (j - tk tp i) = j by omega] at this; exact this) hno
    rw [e] at hq
    have hty : TY tp i = if k ≤ 4 then 2 else 4 := by
      unfold TY lx_t
      rw [if_neg (by omega), if_neg hnl, if_pos hd1, e, show tk tp i + k - tk tp i = k by omega]
    have hVL : VL tp i = lx_v tp (tk tp i) k := by unfold VL; rw [e, show tk tp i + k - tk tp i = k by omega]
    have hvv : k ≤ 4 → (vI tp (tk tp i) k).toInt64 = lN (VL tp i) := fun h4 => by
      have := lx_v_lt (tp := tp) (b := tk tp i) k hk
      have h10 : 10 ^ k ≤ 10 ^ 4 := Nat.pow_le_pow_right (by omega) h4
      rw [vI_v k hk, hVL, nI_l (by omega)]
    simp only [q34_64, q34_65, q34_68, q34_69, q34_72, q34_73, q34_74, q34_75, q34_76, q34_79, q34_80, q34_83, q34_84, q34_87, q34_88, q34_89, q34_90, q34_93, q34_94, q34_97, xc_T, xg_T_0, xg_T_1, xs_T_1, xg_T_2, xs_T_2, xg_T_3, xg_T_4, xg_T_5, xg_T_6, xs_T_6, xg_T_7, xs_T_7, xg_T_8, xs_T_8, xa_T_signs, xb_T_signs, xn_T_signs, xa_T_types, xb_T_types, xn_T_types, xa_T_starts, xb_T_starts, xn_T_starts, xa_T_values, xb_T_values, xn_T_values, wx_some, wx_ref, isl_i, isl_r, isl_n, nI_sub (show tk tp i ≤ tk tp i + k by omega), show tk tp i + k - tk tp i = k by omega, htk, aS_n (show i < (T.2.2.2.2.2.1).length by omega) (show (T.2.2.2.2.2.1).length < 2 ^ 31 by omega)]
    have hend : ∀ v : Nat, v = tyx tp i → ww (mp_P fx) (d + 1) 34 98 [some (.ref 60), some (.int (nI (tk tp i))), some (.int (vI tp (tk tp i) k))] [.int (nI v), .int (nI i), .ref 62] (px_h z E M (px_l sw c2 w2 ((T.1, T.2.1, T.2.2.1, T.2.2.2.1, T.2.2.2.2.1, (T.2.2.2.2.2.1).set i (vI tp (tk tp i) k).toInt64, nI i, T.2.2.2.2.2.2.2.1, nI (tk tp i + k))) D S S1 K R C W U q q1 B0 B1 B2 B3)) Q := by
      intro v hv
      simp only [q34_98, q34_99, xc_T, xg_T_0, xg_T_1, xs_T_1, xg_T_2, xs_T_2, xg_T_3, xg_T_4, xg_T_5, xg_T_6, xs_T_6, xg_T_7, xs_T_7, xg_T_8, xs_T_8, xa_T_signs, xb_T_signs, xn_T_signs, xa_T_types, xb_T_types, xn_T_types, xa_T_starts, xb_T_starts, xn_T_starts, xa_T_values, xb_T_values, xn_T_values, wx_some, wx_ref, aS_n (show i < (T.2.2.2.1).length by omega) (show (T.2.2.2.1).length < 2 ^ 31 by omega)]
      refine hq (T.1, T.2.1, T.2.2.1, (T.2.2.2.1).set i (nI v), T.2.2.2.2.1, (T.2.2.2.2.2.1).set i (vI tp (tk tp i) k).toInt64, nI i, T.2.2.2.2.2.2.2.1, nI (tk tp i + k)) ⟨⟨l1, by show (List.set _ _ _).length = 1001; rw [List.length_set]; exact l2, l3, by show (List.set _ _ _).length = 1001; rw [List.length_set]; exact l4⟩, hs, hln, rfl, rfl, TKc_more hTc (fun j hj => ⟨List.getElem?_set_ne (by omega), rfl, List.getElem?_set_ne (by omega)⟩) (by rw [hv]; exact List.getElem?_set_self (by omega)) hst ⟨fun z => ?_, fun z => ?_, fun z => ?_⟩, hf⟩
      · rw [hty] at z; split at z <;> omega
      · show ((T.2.2.2.2.2.1).set i (vI tp (tk tp i) k).toInt64)[i]? = _
        rw [List.getElem?_set_self (by omega), hvv (by rw [hty] at z; split at z <;> omega)]
      · rw [hty] at z; split at z <;> omega
    by_cases e4 : k ≤ 4
    · rw [if_pos e4] at hty
      rw [if_pos (by rw [nl_4, nI_leI (by omega) (by omega)]; exact e4)]
      exact hend 4 (by unfold tyx; rw [hty]; rfl)
    · rw [if_neg e4] at hty
      rw [if_neg (by rw [nl_4, nI_leI (by omega) (by omega)]; exact e4)]
      exact hend 1 (by unfold tyx; rw [hty]; rfl)
  have key : ∀ (m k : Nat), tk tp i + k + m = tp.length → (∀ j, j < k → lx_dg tp (tk tp i + j) = true) → ww (mp_P fx) (d + 1) 34 7 [some (.ref 60), some (.int (nI (tk tp i))), some (.int (vI tp (tk tp i) k))] [] (px_h z E M (px_l sw c2 w2 ((T.1, T.2.1, T.2.2.1, T.2.2.2.1, T.2.2.2.2.1, T.2.2.2.2.2.1, T.2.2.2.2.2.2.1, T.2.2.2.2.2.2.2.1, nI (tk tp i + k))) D S S1 K R C W U q q1 B0 B1 B2 B3)) Q := by
    intro m
    induction m with
    | zero =>
      intro k hk h
      rw [q34_7]
      simp only [q34_8, q34_11, q34_12, q34_15, xc_T, xg_T_0, xg_T_1, xs_T_1, xg_T_2, xs_T_2, xg_T_3, xg_T_4, xg_T_5, xg_T_6, xs_T_6, xg_T_7, xs_T_7, xg_T_8, xs_T_8, xa_T_signs, xb_T_signs, xn_T_signs, xa_T_types, xb_T_types, xn_T_types, xa_T_starts, xb_T_starts, xn_T_starts, xa_T_values, xb_T_values, xn_T_values, wx_some, wx_ref]
      rw [if_pos (by rw [hln, nI_leI (by omega) (by omega)]; omega)]
      exact fin k h (by omega) (lx_dg_ge _ (by omega))
    | succ m ih =>
      intro k hk h
      have g := ho_at hs (show tk tp i + k < tp.length by omega)
      have gl := tp_lt ht (tk tp i + k)
      rw [q34_7]
      simp only [q34_8, q34_11, q34_12, q34_15, q34_18, q34_19, q34_22, q34_23, q34_26, xc_T, xg_T_0, xg_T_1, xs_T_1, xg_T_2, xs_T_2, xg_T_3, xg_T_4, xg_T_5, xg_T_6, xs_T_6, xg_T_7, xs_T_7, xg_T_8, xs_T_8, xa_T_signs, xb_T_signs, xn_T_signs, xa_T_types, xb_T_types, xn_T_types, xa_T_starts, xb_T_starts, xn_T_starts, xa_T_values, xb_T_values, xn_T_values, wx_some, wx_ref, g]
      rw [if_neg (by rw [hln, nI_leI (by omega) (by omega)]; omega)]
      simp only [q34_27]
      apply t_isFigure gl
      · intro hlet
        simp only [sl_i, q34_30, q34_33, q34_34, q34_36, q34_37, q34_38, q34_41, q34_42, q34_45, q34_46, q34_48, q34_49, q34_50i, q34_51, q34_52, q34_53, q34_56, q34_57, q34_58, xc_T, xg_T_0, xg_T_1, xs_T_1, xg_T_2, xs_T_2, xg_T_3, xg_T_4, xg_T_5, xg_T_6, xs_T_6, xg_T_7, xs_T_7, xg_T_8, xs_T_8, xa_T_signs, xb_T_signs, xn_T_signs, xa_T_types, xb_T_types, xn_T_types, xa_T_starts, xb_T_starts, xn_T_starts, xa_T_values, xb_T_values, xn_T_values, wx_some, wx_ref, isl_i, isl_r, isl_n, g, nI_1]
        rw [if_neg (by decide)]
        simp only [q34_61]
        exact ih (k + 1) (by omega) (fun j hj => by
          by_cases e : j = k
          · subst e; exact dg_t.mpr hlet
          · exact h j (by omega))
      · intro hlet
        simp only [sl_i, q34_30]
        rw [if_pos (by decide)]
        exact fin k h (by omega) (Bool.eq_false_iff.mpr (fun z => hlet (dg_t.mp z)))
  have this : ww (mp_P fx) (d + 1) 34 7 [some (.ref 60), some (.int (nI (tk tp i))), some (.int 0)] [] (px_h z E M (px_l sw c2 w2 ((T.1, T.2.1, T.2.2.1, T.2.2.2.1, T.2.2.2.2.1, T.2.2.2.2.2.1, T.2.2.2.2.2.2.1, T.2.2.2.2.2.2.2.1, nI (tk tp i))) D S S1 K R C W U q q1 B0 B1 B2 B3)) Q := key (tp.length - tk tp i) 0 (by omega) (fun j hj => by omega)
  simp only [e34, q34_0, q34_1, q34_4r, q34_5, q34_6i, xc_T, xg_T_0, xg_T_1, xs_T_1, xg_T_2, xs_T_2, xg_T_3, xg_T_4, xg_T_5, xg_T_6, xs_T_6, xg_T_7, xs_T_7, xg_T_8, xs_T_8, xa_T_signs, xb_T_signs, xn_T_signs, xa_T_types, xb_T_types, xn_T_types, xa_T_starts, xb_T_starts, xn_T_starts, xa_T_values, xb_T_values, xn_T_values, wx_some, wx_ref, isl_i, isl_r, isl_n, hbe]
  rw [← hbe] at this ⊢
  exact this
end XB
