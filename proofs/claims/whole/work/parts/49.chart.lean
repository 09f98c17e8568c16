/-! the chart, of the class -/
theorem t_fillr {fx : List Value → mm_H → Option (List Value × mm_H)} {d : Nat} {Q : Option Value → mm_H → Prop} {H : List Int32 → mm_H} {a : Nat} (hset : ∀ xs i x, mm_sI (H xs) a 0 i x = aS xs i x H) (hlen : ∀ xs, mm_gN (H xs) a = some (nI xs.length)) {xs : List Int32} {v : Int32} {i0 i1 : Nat} (h01 : i0 ≤ i1) (h1 : i1 ≤ xs.length) (hl : xs.length < 2 ^ 30) (hq : ∀ ys : List Int32, ys.length = xs.length → (∀ j, ys[j]? = if i0 ≤ j ∧ j < i1 then some v else xs[j]?) → Q none (H ys)) : wm (mp_P fx) (d + 1) 133 [.ref a, .int (nI i0), .int (nI i1), .int v] (H xs) Q := by
  simp only [e133, q133_0, q133_1, q133_2, q133_3, q133_4, q133_7, q133_8i, q133_12, q133_13, q133_16, q133_17, q133_19, q133_20, q133_21i, q133_24, q133_27, e134, q134_0, q134_1, q134_2, q134_46, q134_47, q134_59, q134_60, q134_61, q134_73, isl_i, isl_r, isl_n, hlen, wx_some]
  rw [if_pos (by rw [nI_leI (by omega) (by omega)]; exact h01), if_pos (nI_pos' (by omega)), if_pos (by rw [nI_leI (by omega) (by omega)]; exact h1)]
  simp only [sl_n, e133, q133_0, q133_1, q133_2, q133_3, q133_4, q133_7, q133_8i, q133_12, q133_13, q133_16, q133_17, q133_19, q133_20, q133_21i, q133_24, q133_27, isl_i, isl_r, isl_n]
  have key : ∀ (k i : Nat) (ys : List Int32), i0 ≤ i → i + k = i1 → ys.length = xs.length → (∀ j, ys[j]? = if i0 ≤ j ∧ j < i then some v else xs[j]?) → ww (mp_P fx) (d + 1) 133 10 [some (.ref a), some (.int (nI i0)), some (.int (nI i1)), some (.int v), some (.int (nI i))] [] (H ys) Q := by
    intro k
    induction k with
    | zero =>
      intro i ys h0 hi hy ht
      rw [q133_10]
      simp only [e133, q133_0, q133_1, q133_2, q133_3, q133_4, q133_7, q133_8i, q133_12, q133_13, q133_16, q133_17, q133_19, q133_20, q133_21i, q133_24, q133_27]
      rw [if_pos (by rw [nI_leI (by omega) (by omega)]; omega)]
      rw [show i = i1 by omega] at ht
      exact hq ys hy ht
    | succ k ih =>
      intro i ys h0 hi hy ht
      rw [q133_10]
      simp only [e133, q133_0, q133_1, q133_2, q133_3, q133_4, q133_7, q133_8i, q133_12, q133_13, q133_16, q133_17, q133_19, q133_20, q133_21i, q133_24, q133_27, hset, aS_n (show i < ys.length by omega) (show ys.length < 2 ^ 31 by omega), wx_some, isl_i, isl_r, isl_n, nl_1, nI_add]
      rw [if_neg (by rw [nI_leI (by omega) (by omega)]; omega)]
      apply ih (i + 1) _ (by omega) (by omega) (by rw [List.length_set]; exact hy)
      intro j
      rw [List.getElem?_set]
      by_cases e : i = j
      · subst e; rw [if_pos rfl, if_pos (by omega), if_pos (by omega)]
      · rw [if_neg e, ht j]
        by_cases e2 : i0 ≤ j ∧ j < i
        · rw [if_pos e2, if_pos (by omega)]
        · rw [if_neg e2, if_neg (by omega)]
  exact key (i1 - i0) i0 xs (Nat.le_refl _) (by omega) rfl (fun j => by rw [if_neg (by omega)])
section TC
variable {fx : List Value → mm_H → Option (List Value × mm_H)} {z : Nat} {E M : Nat → mm_C} {sw c2 w2 : Bool} {T : px_T} {D : px_D} {S : px_S} {S1 : px_S} {K : px_K} {R : px_R} {C : px_C} {W : px_W} {U : px_U} {q : px_q} {q1 : px_q} {B0 : px_K} {B1 : px_K} {B2 : px_K} {B3 : px_K} {T_signs : List Int32} {T_length : Int32} {T_fault : Int32} {T_types : List Int32} {T_starts : List Int32} {T_values : List Int64} {T_tokens : Int32} {T_at : Int32} {T_behind : Int32} {S_hour : Int32} {S_open : Int32} {S_places : List Int32} {S1_hour : Int32} {S1_open : Int32} {S1_places : List Int32} {K_lines : List Int32} {K_lineCount : Int32} {K_wishes : List Int32} {K_wishCount : Int32} {K_sights : List Int32} {K_sightCount : Int32} {R_shown : List Int32} {R_length : Int32} {R_readers : Int32} {R_begins : List Int32} {R_lengths : List Int32} {R_sentences : Int32} {R_order : List Int32} {R_able : Int32} {R_standing : List Int32} {R_lovers : List Int32} {R_lowest : List Int32} {C_ways : List Int32} {C_rows : List Int32} {C_shallower : List Int32} {C_length : Int32} {C_goal : Int32} {W_row : List Int32} {W_walkers : Int32} {W_names : Int32} {W_wanted : List Int32} {W_shown : List Int32} {W_places : List Int32} {W_rest : List Int32} {W_spent : List Int32} {W_tried : List Int32} {U_undoRows : List Int64} {U_markScenes : List Int64} {U_marksLaid : List Int32} {U_undoCount : Int32} {U_undoEnd : Int32} {q_sortNames : List Int64} {q_sortCount : Int32} {q_colourNames : List Int64} {q_colourSorts : List Int32} {q_colourCount : Int32} {q_ruleMakes : List Int32} {q_ruleFirsts : List Int32} {q_ruleSeconds : List Int32} {q_ruleCount : Int32} {q_saysSort : Int32} {q_walkerNames : List Int64} {q_kinds : List Int32} {q_walkerColours : List Int32} {q_starts : List Int32} {q_stepRows : List Int32} {q_stepCounts : List Int32} {q_walkerCount : Int32} {q_gusts : List Int32} {q_gustCount : Int32} {q_parts : List Int32} {q_count : Int32} {q_stack : List Int32} {q_height : Int32} {q1_sortNames : List Int64} {q1_sortCount : Int32} {q1_colourNames : List Int64} {q1_colourSorts : List Int32} {q1_colourCount : Int32} {q1_ruleMakes : List Int32} {q1_ruleFirsts : List Int32} {q1_ruleSeconds : List Int32} {q1_ruleCount : Int32} {q1_saysSort : Int32} {q1_walkerNames : List Int64} {q1_kinds : List Int32} {q1_walkerColours : List Int32} {q1_starts : List Int32} {q1_stepRows : List Int32} {q1_stepCounts : List Int32} {q1_walkerCount : Int32} {q1_gusts : List Int32} {q1_gustCount : Int32} {q1_parts : List Int32} {q1_count : Int32} {q1_stack : List Int32} {q1_height : Int32} {B0_lines : List Int32} {B0_lineCount : Int32} {B0_wishes : List Int32} {B0_wishCount : Int32} {B0_sights : List Int32} {B0_sightCount : Int32} {B1_lines : List Int32} {B1_lineCount : Int32} {B1_wishes : List Int32} {B1_wishCount : Int32} {B1_sights : List Int32} {B1_sightCount : Int32} {B2_lines : List Int32} {B2_lineCount : Int32} {B2_wishes : List Int32} {B2_wishCount : Int32} {B2_sights : List Int32} {B2_sightCount : Int32} {B3_lines : List Int32} {B3_lineCount : Int32} {B3_wishes : List Int32} {B3_wishCount : Int32} {B3_sights : List Int32} {B3_sightCount : Int32}
variable {d : Nat} {Q : Option Value → mm_H → Prop} {s : SQ} {t : Nat → Nat}
def CHl (C : px_C) : Prop := (C.1).length = 294 ∧ (C.2.1).length = 294 ∧ (C.2.2.1).length = 294
theorem t_cell {h : mm_H} {i k : Nat} (hq : Q (some (.int (nI (cl_ i k 0)))) h) : wm (mp_P fx) d 131 [.int (nI i), .int (nI k)] h Q := by
  simp only [e131, q131_0, q131_1, q131_3, q131_4, q131_5, q131_6, q131_8, q131_9, nl_7, nl_6, pk_mul, nI_add]
  exact hq
theorem t_goal (hs : SQx q s) (hq : Q (some (.int (nI (k_sy s)))) (px_h z E M (px_l sw c2 w2 T D S S1 K R C W U q q1 B0 B1 B2 B3))) : wm (mp_P fx) d 132 [.ref (px_ta sw)] (px_h z E M (px_l sw c2 w2 T D S S1 K R C W U q q1 B0 B1 B2 B3)) Q := by
  have h := hs.2.2.2.1
  simp only [e132, q132_0, q132_1, q132_4, q132_5, q132_8, q132_9, q132_12, q132_13, q132_16, xc_q, xg_q_0, xg_q_1, xs_q_1, xg_q_2, xg_q_3, xg_q_4, xs_q_4, xg_q_5, xg_q_6, xg_q_7, xg_q_8, xs_q_8, xg_q_9, xs_q_9, xg_q_10, xg_q_11, xg_q_12, xg_q_13, xg_q_14, xg_q_15, xg_q_16, xs_q_16, xg_q_17, xg_q_18, xs_q_18, xg_q_19, xa_q_sortNames, xb_q_sortNames, xn_q_sortNames, xa_q_colourNames, xb_q_colourNames, xn_q_colourNames, xa_q_colourSorts, xb_q_colourSorts, xn_q_colourSorts, xa_q_ruleMakes, xb_q_ruleMakes, xn_q_ruleMakes, xa_q_ruleFirsts, xb_q_ruleFirsts, xn_q_ruleFirsts, xa_q_ruleSeconds, xb_q_ruleSeconds, xn_q_ruleSeconds, xa_q_walkerNames, xb_q_walkerNames, xn_q_walkerNames, xa_q_kinds, xb_q_kinds, xn_q_kinds, xa_q_walkerColours, xb_q_walkerColours, xn_q_walkerColours, xa_q_starts, xb_q_starts, xn_q_starts, xa_q_stepRows, xb_q_stepRows, xn_q_stepRows, xa_q_stepCounts, xb_q_stepCounts, xn_q_stepCounts, xa_q_gusts, xb_q_gusts, xn_q_gusts, xc_ql, xg_ql_0, xg_ql_1, xs_ql_1, xg_ql_2, xg_ql_3, xs_ql_3, xa_q_parts, xb_q_parts, xn_q_parts, xa_q_stack, xb_q_stack, xn_q_stack, wx_some, wx_ref]
  by_cases e : q.2.2.2.2.2.2.2.2.2.1 = -1
  · rw [if_pos e] at h; rw [if_neg (fun z => z e)]; rw [← h] at hq; exact hq
  · rw [if_neg e] at h; rw [if_pos e]; rw [← h] at hq; exact hq
/-- what one end adds, up to a rule -/
def wG (s : SQ) (t : Nat → Nat) (i k e y n : Nat) : Nat := sm (fun r => if k_rm s r = y then wy s t e i (k_rf s r) * wy s t (k - i - 1 - e) (i + e + 1) (k_rs s r) else 0) n
def wI (s : SQ) (t : Nat → Nat) (i k e r : Nat) (w0 ws : List Int32) : Prop := ws.length = 294 ∧ (∀ j, j < cl_ i k 0 ∨ cl_ i k 6 ≤ j → ws[j]? = w0[j]?) ∧ ∀ y, y < 6 → ws[cl_ i k y]? = some (nI (sm (fun e => wG s t i k e y (k_nR s)) e + wG s t i k e y r))
theorem t_addWays {i k : Nat} (hs : SQx q s) (ho : k_ok s) (hC : CHl C) (hik : i < k) (hk : k < 7) (hsm : ∀ i' k', i ≤ i' → i' ≤ k' → k' ≤ k → k' - i' < k - i → WT s t C.1 i' k') (hq : ∀ ws : List Int32, ws.length = 294 → WT s t ws i k → (∀ j, j < cl_ i k 0 ∨ cl_ i k 6 ≤ j → ws[j]? = (C.1)[j]?) → Q none (px_h z E M (px_l sw c2 w2 T D S S1 K R ((ws, C.2.1, C.2.2.1, C.2.2.2.1, C.2.2.2.2)) W U q q1 B0 B1 B2 B3))) :
    wm (mp_P fx) (d + 2) 135 [.ref 83, .ref (px_ta sw), .int (nI i), .int (nI k)] (px_h z E M (px_l sw c2 w2 T D S S1 K R C W U q q1 B0 B1 B2 B3)) Q := by
  have hR := ho.1.2.2.1
  have hrc := hs.2.1.2.2.1
  obtain ⟨-, -, -, hlm, hlf, hls, -⟩ := hs.1
  obtain ⟨-, hrm, hrf, hrs⟩ := hs.2.2.1
  have hS6 := ho.1.1
  have hwl := hC.1
  simp only [e135, q135_0, q135_1, q135_2, q135_5i, q135_7, q135_8, q135_11, q135_13, q135_15, q135_17, q135_18, q135_19, q135_22, q135_23i, q135_27, q135_28, q135_31, q135_32, q135_34, q135_37i, q135_39, q135_41, q135_42, q135_43, q135_44, q135_47i, q135_49, q135_50i, q135_54, q135_55, q135_58, q135_61, q135_62, q135_65, q135_67, q135_68, q135_71, q135_73, q135_74, q135_75, q135_76i, q135_78, q135_80, q135_83, q135_84, q135_87, q135_89, q135_90, q135_93, q135_95, q135_96, q135_97, q135_98, q135_99, q135_101, q135_102, q135_105, q135_107, q135_108, q135_111, q135_113, q135_114, q135_115, q135_116, q135_117, q135_118, q135_119i, q135_122, q135_125i, q135_128, q135_131, isl_i, isl_r, isl_n]
  apply t_cell
  simp only [sl_i, e135, q135_0, q135_1, q135_2, q135_5i, q135_7, q135_8, q135_11, q135_13, q135_15, q135_17, q135_18, q135_19, q135_22, q135_23i, q135_27, q135_28, q135_31, q135_32, q135_34, q135_37i, q135_39, q135_41, q135_42, q135_43, q135_44, q135_47i, q135_49, q135_50i, q135_54, q135_55, q135_58, q135_61, q135_62, q135_65, q135_67, q135_68, q135_71, q135_73, q135_74, q135_75, q135_76i, q135_78, q135_80, q135_83, q135_84, q135_87, q135_89, q135_90, q135_93, q135_95, q135_96, q135_97, q135_98, q135_99, q135_101, q135_102, q135_105, q135_107, q135_108, q135_111, q135_113, q135_114, q135_115, q135_116, q135_117, q135_118, q135_119i, q135_122, q135_125i, q135_128, q135_131, xc_C, xg_C_0, xg_C_1, xg_C_2, xg_C_3, xs_C_3, xg_C_4, xs_C_4, xa_C_ways, xb_C_ways, xn_C_ways, xa_C_rows, xb_C_rows, xn_C_rows, xa_C_shallower, xb_C_shallower, xn_C_shallower, xc_q, xg_q_0, xg_q_1, xs_q_1, xg_q_2, xg_q_3, xg_q_4, xs_q_4, xg_q_5, xg_q_6, xg_q_7, xg_q_8, xs_q_8, xg_q_9, xs_q_9, xg_q_10, xg_q_11, xg_q_12, xg_q_13, xg_q_14, xg_q_15, xg_q_16, xs_q_16, xg_q_17, xg_q_18, xs_q_18, xg_q_19, xa_q_sortNames, xb_q_sortNames, xn_q_sortNames, xa_q_colourNames, xb_q_colourNames, xn_q_colourNames, xa_q_colourSorts, xb_q_colourSorts, xn_q_colourSorts, xa_q_ruleMakes, xb_q_ruleMakes, xn_q_ruleMakes, xa_q_ruleFirsts, xb_q_ruleFirsts, xn_q_ruleFirsts, xa_q_ruleSeconds, xb_q_ruleSeconds, xn_q_ruleSeconds, xa_q_walkerNames, xb_q_walkerNames, xn_q_walkerNames, xa_q_kinds, xb_q_kinds, xn_q_kinds, xa_q_walkerColours, xb_q_walkerColours, xn_q_walkerColours, xa_q_starts, xb_q_starts, xn_q_starts, xa_q_stepRows, xb_q_stepRows, xn_q_stepRows, xa_q_stepCounts, xb_q_stepCounts, xn_q_stepCounts, xa_q_gusts, xb_q_gusts, xn_q_gusts, xc_ql, xg_ql_0, xg_ql_1, xs_ql_1, xg_ql_2, xg_ql_3, xs_ql_3, xa_q_parts, xb_q_parts, xn_q_parts, xa_q_stack, xb_q_stack, xn_q_stack, wx_some, wx_ref, isl_i, isl_r, isl_n, nl_6, nI_add]
  apply t_fillr (H := fun l => (px_h z E M (px_l sw c2 w2 T D S S1 K R ((l, C.2.1, C.2.2.1, C.2.2.2.1, C.2.2.2.2)) W U q q1 B0 B1 B2 B3))) (fun _ _ _ => xb_C_ways) (fun _ => xn_C_ways) (show cl_ i k 0 ≤ cl_ i k 0 + 6 by omega) (show cl_ i k 0 + 6 ≤ (C.1).length by unfold cl_; omega) (by omega)
  intro ws hws hwj
  simp only [sl_n, e135, q135_0, q135_1, q135_2, q135_5i, q135_7, q135_8, q135_11, q135_13, q135_15, q135_17, q135_18, q135_19, q135_22, q135_23i, q135_27, q135_28, q135_31, q135_32, q135_34, q135_37i, q135_39, q135_41, q135_42, q135_43, q135_44, q135_47i, q135_49, q135_50i, q135_54, q135_55, q135_58, q135_61, q135_62, q135_65, q135_67, q135_68, q135_71, q135_73, q135_74, q135_75, q135_76i, q135_78, q135_80, q135_83, q135_84, q135_87, q135_89, q135_90, q135_93, q135_95, q135_96, q135_97, q135_98, q135_99, q135_101, q135_102, q135_105, q135_107, q135_108, q135_111, q135_113, q135_114, q135_115, q135_116, q135_117, q135_118, q135_119i, q135_122, q135_125i, q135_128, q135_131, isl_i, isl_r, isl_n]
  have key : ∀ (m e : Nat) (ws : List Int32) (l6 l7 l8 l9 : Option Value), e + m = k - i → wI s t i k e 0 C.1 ws → ww (mp_P fx) (d + 2) 135 25 [some (.ref 83), some (.ref (px_ta sw)), some (.int (nI i)), some (.int (nI k)), some (.int (nI (cl_ i k 0))), some (.int (nI (i + e))), l6, l7, l8, l9] [] (px_h z E M (px_l sw c2 w2 T D S S1 K R ((ws, C.2.1, C.2.2.1, C.2.2.2.1, C.2.2.2.2)) W U q q1 B0 B1 B2 B3)) Q := by
    intro m
    induction m with
    | zero =>
      intro e ws l6 l7 l8 l9 he hI
      rw [q135_25]
      simp only [e135, q135_0, q135_1, q135_2, q135_5i, q135_7, q135_8, q135_11, q135_13, q135_15, q135_17, q135_18, q135_19, q135_22, q135_23i, q135_27, q135_28, q135_31, q135_32, q135_34, q135_37i, q135_39, q135_41, q135_42, q135_43, q135_44, q135_47i, q135_49, q135_50i, q135_54, q135_55, q135_58, q135_61, q135_62, q135_65, q135_67, q135_68, q135_71, q135_73, q135_74, q135_75, q135_76i, q135_78, q135_80, q135_83, q135_84, q135_87, q135_89, q135_90, q135_93, q135_95, q135_96, q135_97, q135_98, q135_99, q135_101, q135_102, q135_105, q135_107, q135_108, q135_111, q135_113, q135_114, q135_115, q135_116, q135_117, q135_118, q135_119i, q135_122, q135_125i, q135_128, q135_131]
      rw [if_pos (by rw [nI_leI (by omega) (by omega)]; omega)]
      refine hq ws hI.1 (fun y hy => ?_) hI.2.1
      rw [hI.2.2 y hy, show k - i = (k - i - 1) + 1 by omega, wy_s]
      have h0 : wG s t i k e y 0 = 0 := rfl
      rw [h0, show k - i - 1 + 1 = e by omega]; rfl
    | succ m ih =>
      intro e ws l6 l7 l8 l9 he hI
      rw [q135_25]
      simp only [e135, q135_0, q135_1, q135_2, q135_5i, q135_7, q135_8, q135_11, q135_13, q135_15, q135_17, q135_18, q135_19, q135_22, q135_23i, q135_27, q135_28, q135_31, q135_32, q135_34, q135_37i, q135_39, q135_41, q135_42, q135_43, q135_44, q135_47i, q135_49, q135_50i, q135_54, q135_55, q135_58, q135_61, q135_62, q135_65, q135_67, q135_68, q135_71, q135_73, q135_74, q135_75, q135_76i, q135_78, q135_80, q135_83, q135_84, q135_87, q135_89, q135_90, q135_93, q135_95, q135_96, q135_97, q135_98, q135_99, q135_101, q135_102, q135_105, q135_107, q135_108, q135_111, q135_113, q135_114, q135_115, q135_116, q135_117, q135_118, q135_119i, q135_122, q135_125i, q135_128, q135_131]
      rw [if_neg (by rw [nI_leI (by omega) (by omega)]; omega)]
      apply t_cell
      simp only [sl_i, e135, q135_0, q135_1, q135_2, q135_5i, q135_7, q135_8, q135_11, q135_13, q135_15, q135_17, q135_18, q135_19, q135_22, q135_23i, q135_27, q135_28, q135_31, q135_32, q135_34, q135_37i, q135_39, q135_41, q135_42, q135_43, q135_44, q135_47i, q135_49, q135_50i, q135_54, q135_55, q135_58, q135_61, q135_62, q135_65, q135_67, q135_68, q135_71, q135_73, q135_74, q135_75, q135_76i, q135_78, q135_80, q135_83, q135_84, q135_87, q135_89, q135_90, q135_93, q135_95, q135_96, q135_97, q135_98, q135_99, q135_101, q135_102, q135_105, q135_107, q135_108, q135_111, q135_113, q135_114, q135_115, q135_116, q135_117, q135_118, q135_119i, q135_122, q135_125i, q135_128, q135_131, isl_i, isl_r, isl_n, nl_1, nI_add]
      apply t_cell
      simp only [sl_i, e135, q135_0, q135_1, q135_2, q135_5i, q135_7, q135_8, q135_11, q135_13, q135_15, q135_17, q135_18, q135_19, q135_22, q135_23i, q135_27, q135_28, q135_31, q135_32, q135_34, q135_37i, q135_39, q135_41, q135_42, q135_43, q135_44, q135_47i, q135_49, q135_50i, q135_54, q135_55, q135_58, q135_61, q135_62, q135_65, q135_67, q135_68, q135_71, q135_73, q135_74, q135_75, q135_76i, q135_78, q135_80, q135_83, q135_84, q135_87, q135_89, q135_90, q135_93, q135_95, q135_96, q135_97, q135_98, q135_99, q135_101, q135_102, q135_105, q135_107, q135_108, q135_111, q135_113, q135_114, q135_115, q135_116, q135_117, q135_118, q135_119i, q135_122, q135_125i, q135_128, q135_131, isl_i, isl_r, isl_n]
      have key2 : ∀ (m r : Nat) (ws : List Int32) (l9 : Option Value), r + m = k_nR s → wI s t i k e r C.1 ws → ww (mp_P fx) (d + 2) 135 52 [some (.ref 83), some (.ref (px_ta sw)), some (.int (nI i)), some (.int (nI k)), some (.int (nI (cl_ i k 0))), some (.int (nI (i + e))), some (.int (nI (cl_ i (i + e) 0))), some (.int (nI (cl_ (i + e + 1) k 0))), some (.int (nI r)), l9] [] (px_h z E M (px_l sw c2 w2 T D S S1 K R ((ws, C.2.1, C.2.2.1, C.2.2.2.1, C.2.2.2.2)) W U q q1 B0 B1 B2 B3)) Q := by
        intro m
        induction m with
        | zero =>
          intro r ws l9 hr hI
          rw [q135_52]
          simp only [e135, q135_0, q135_1, q135_2, q135_5i, q135_7, q135_8, q135_11, q135_13, q135_15, q135_17, q135_18, q135_19, q135_22, q135_23i, q135_27, q135_28, q135_31, q135_32, q135_34, q135_37i, q135_39, q135_41, q135_42, q135_43, q135_44, q135_47i, q135_49, q135_50i, q135_54, q135_55, q135_58, q135_61, q135_62, q135_65, q135_67, q135_68, q135_71, q135_73, q135_74, q135_75, q135_76i, q135_78, q135_80, q135_83, q135_84, q135_87, q135_89, q135_90, q135_93, q135_95, q135_96, q135_97, q135_98, q135_99, q135_101, q135_102, q135_105, q135_107, q135_108, q135_111, q135_113, q135_114, q135_115, q135_116, q135_117, q135_118, q135_119i, q135_122, q135_125i, q135_128, q135_131, xc_C, xg_C_0, xg_C_1, xg_C_2, xg_C_3, xs_C_3, xg_C_4, xs_C_4, xa_C_ways, xb_C_ways, xn_C_ways, xa_C_rows, xb_C_rows, xn_C_rows, xa_C_shallower, xb_C_shallower, xn_C_shallower, xc_q, xg_q_0, xg_q_1, xs_q_1, xg_q_2, xg_q_3, xg_q_4, xs_q_4, xg_q_5, xg_q_6, xg_q_7, xg_q_8, xs_q_8, xg_q_9, xs_q_9, xg_q_10, xg_q_11, xg_q_12, xg_q_13, xg_q_14, xg_q_15, xg_q_16, xs_q_16, xg_q_17, xg_q_18, xs_q_18, xg_q_19, xa_q_sortNames, xb_q_sortNames, xn_q_sortNames, xa_q_colourNames, xb_q_colourNames, xn_q_colourNames, xa_q_colourSorts, xb_q_colourSorts, xn_q_colourSorts, xa_q_ruleMakes, xb_q_ruleMakes, xn_q_ruleMakes, xa_q_ruleFirsts, xb_q_ruleFirsts, xn_q_ruleFirsts, xa_q_ruleSeconds, xb_q_ruleSeconds, xn_q_ruleSeconds, xa_q_walkerNames, xb_q_walkerNames, xn_q_walkerNames, xa_q_kinds, xb_q_kinds, xn_q_kinds, xa_q_walkerColours, xb_q_walkerColours, xn_q_walkerColours, xa_q_starts, xb_q_starts, xn_q_starts, xa_q_stepRows, xb_q_stepRows, xn_q_stepRows, xa_q_stepCounts, xb_q_stepCounts, xn_q_stepCounts, xa_q_gusts, xb_q_gusts, xn_q_gusts, xc_ql, xg_ql_0, xg_ql_1, xs_ql_1, xg_ql_2, xg_ql_3, xs_ql_3, xa_q_parts, xb_q_parts, xn_q_parts, xa_q_stack, xb_q_stack, xn_q_stack, wx_some, wx_ref, hrc, isl_i, isl_r, isl_n, nl_1, nI_add]
          rw [if_pos (by rw [nI_leI (by omega) (by omega)]; omega)]
          refine ih (e + 1) ws _ _ _ _ (by omega) ⟨hI.1, hI.2.1, fun y hy => ?_⟩
          rw [hI.2.2 y hy, sm, show r = k_nR s by omega]; rfl
        | succ m ih2 =>
          intro r ws l9 hr hI
          obtain ⟨i1, i2, i3⟩ := hI
          have hrr := ho.2.2.1 r (by omega)
          have v1 : ws[cl_ i (i + e) 0 + k_rf s r]? = some (nI (wy s t e i (k_rf s r))) := by
            have := hsm i (i + e) (by omega) (by omega) (by omega) (by omega) (k_rf s r) (by omega)
            rw [show i + e - i = e by omega] at this
            rw [← this, i2 _ (Or.inl (by unfold cl_; omega))]; rfl
          have v2 : ws[cl_ (i + e + 1) k 0 + k_rs s r]? = some (nI (wy s t (k - i - 1 - e) (i + e + 1) (k_rs s r))) := by
            have := hsm (i + e + 1) k (by omega) (by omega) (by omega) (by omega) (k_rs s r) (by omega)
            rw [show k - (i + e + 1) = k - i - 1 - e by omega] at this
            rw [← this, i2 _ (Or.inr (by unfold cl_; omega))]; rfl
          have v3 := i3 (k_rm s r) (by omega)
          have b1 := wy_lt (t := t) ho (p := e) (i := i) (y := k_rf s r) (by omega)
          have hlen : ws.length < 2 ^ 31 := by omega
          have hcl : cl_ i k 0 + k_rm s r < ws.length := by unfold cl_; omega
          have hstep : ∀ v, (∀ y, y < 6 → (if k_rm s r = y then v else sm (fun e => wG s t i k e y (k_nR s)) e + wG s t i k e y r) = sm (fun e => wG s t i k e y (k_nR s)) e + wG s t i k e y (r + 1)) → wI s t i k e (r + 1) C.1 (ws.set (cl_ i k 0 + k_rm s r) (nI v)) := by
            intro v hv
            refine ⟨by rw [List.length_set]; exact i1, fun j hj => ?_, fun y hy => ?_⟩
            · rw [List.getElem?_set_ne (by intro z; rw [← z] at hj; unfold cl_ at hj; omega)]; exact i2 j hj
            · rw [List.getElem?_set, ← hv y hy]
              by_cases ey : k_rm s r = y
              · rw [if_pos (by rw [← ey]; rfl), if_pos hcl, if_pos ey]
              · rw [if_neg (by unfold cl_; omega), if_neg ey, i3 y hy]
          rw [q135_52]
          simp only [e135, q135_0, q135_1, q135_2, q135_5i, q135_7, q135_8, q135_11, q135_13, q135_15, q135_17, q135_18, q135_19, q135_22, q135_23i, q135_27, q135_28, q135_31, q135_32, q135_34, q135_37i, q135_39, q135_41, q135_42, q135_43, q135_44, q135_47i, q135_49, q135_50i, q135_54, q135_55, q135_58, q135_61, q135_62, q135_65, q135_67, q135_68, q135_71, q135_73, q135_74, q135_75, q135_76i, q135_78, q135_80, q135_83, q135_84, q135_87, q135_89, q135_90, q135_93, q135_95, q135_96, q135_97, q135_98, q135_99, q135_101, q135_102, q135_105, q135_107, q135_108, q135_111, q135_113, q135_114, q135_115, q135_116, q135_117, q135_118, q135_119i, q135_122, q135_125i, q135_128, q135_131, xc_C, xg_C_0, xg_C_1, xg_C_2, xg_C_3, xs_C_3, xg_C_4, xs_C_4, xa_C_ways, xb_C_ways, xn_C_ways, xa_C_rows, xb_C_rows, xn_C_rows, xa_C_shallower, xb_C_shallower, xn_C_shallower, xc_q, xg_q_0, xg_q_1, xs_q_1, xg_q_2, xg_q_3, xg_q_4, xs_q_4, xg_q_5, xg_q_6, xg_q_7, xg_q_8, xs_q_8, xg_q_9, xs_q_9, xg_q_10, xg_q_11, xg_q_12, xg_q_13, xg_q_14, xg_q_15, xg_q_16, xs_q_16, xg_q_17, xg_q_18, xs_q_18, xg_q_19, xa_q_sortNames, xb_q_sortNames, xn_q_sortNames, xa_q_colourNames, xb_q_colourNames, xn_q_colourNames, xa_q_colourSorts, xb_q_colourSorts, xn_q_colourSorts, xa_q_ruleMakes, xb_q_ruleMakes, xn_q_ruleMakes, xa_q_ruleFirsts, xb_q_ruleFirsts, xn_q_ruleFirsts, xa_q_ruleSeconds, xb_q_ruleSeconds, xn_q_ruleSeconds, xa_q_walkerNames, xb_q_walkerNames, xn_q_walkerNames, xa_q_kinds, xb_q_kinds, xn_q_kinds, xa_q_walkerColours, xb_q_walkerColours, xn_q_walkerColours, xa_q_starts, xb_q_starts, xn_q_starts, xa_q_stepRows, xb_q_stepRows, xn_q_stepRows, xa_q_stepCounts, xb_q_stepCounts, xn_q_stepCounts, xa_q_gusts, xb_q_gusts, xn_q_gusts, xc_ql, xg_ql_0, xg_ql_1, xs_ql_1, xg_ql_2, xg_ql_3, xs_ql_3, xa_q_parts, xb_q_parts, xn_q_parts, xa_q_stack, xb_q_stack, xn_q_stack, wx_some, wx_ref, hrc, isl_i, isl_r, isl_n, ag_G hrf (show (q.2.2.2.2.2.2.1).length < 2 ^ 31 by omega) (show r < k_nR s by omega), ag_G hrm (show (q.2.2.2.2.2.1).length < 2 ^ 31 by omega) (show r < k_nR s by omega), ag_G hrs (show (q.2.2.2.2.2.2.2.1).length < 2 ^ 31 by omega) (show r < k_nR s by omega), nI_add, aG_n v1 hlen, aG_n v2 hlen, aG_n (show ws[cl_ i k 0 + k_rm s r]? = _ from v3) hlen, aS_n hcl hlen, pk_mul, nl_1]
          rw [if_neg (by rw [nI_leI (by omega) (by omega)]; omega)]
          by_cases h0 : wy s t e i (k_rf s r) = 0
          · rw [if_pos (by rw [h0]; decide)]
            refine ih2 (r + 1) ws _ (by omega) ⟨i1, i2, fun y hy => ?_⟩
            rw [i3 y hy]
            show _ = some (nI (_ + (wG s t i k e y r + (if k_rm s r = y then wy s t e i (k_rf s r) * _ else 0))))
            rw [h0, Nat.zero_mul, ite_self]; rfl
          · rw [if_neg (nI_nle (by omega) b1)]
            apply ih2 (r + 1) _ _ (by omega)
            apply hstep
            intro y hy
            show _ = _ + (wG s t i k e y r + (if k_rm s r = y then wy s t e i (k_rf s r) * wy s t (k - i - 1 - e) (i + e + 1) (k_rs s r) else 0))
            by_cases ey : k_rm s r = y
            · rw [if_pos ey, if_pos ey, ← ey]; omega
            · rw [if_neg ey, if_neg ey]; rfl
      exact key2 (k_nR s) 0 ws _ (by omega) hI
  refine key (k - i) 0 ws _ _ _ _ (by omega) ⟨by omega, fun j hj => ?_, fun y hy => ?_⟩
  · rw [hwj j, if_neg (by unfold cl_ at hj ⊢; omega)]
  · rw [hwj _, if_pos (by unfold cl_; omega)]; rfl
end TC
