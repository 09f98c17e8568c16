/-! counts; sights of the model; marks -/
theorem nar_0 : vp_nar .boolean 0 = 0 := by decide
theorem nar_1 : vp_nar .boolean 1 = 1 := by decide
def sp_count (s : SQ) (c : SC) (b : BK) (us : List SC) (tl k : Nat) : Nat := [k_nS s, k_nC s, k_nR s, k_nW s, c.1, sp_gust s c.1, (snk (sp_now s c) (sp_now s c).length).1, (sp_now s c).length, c.2.1, b.1.1, b.2.1.1, b.2.2.1, us.length, tl].getD k 0
section TN
variable {fx : List Value → mm_H → Option (List Value × mm_H)} {z : Nat} {E M : Nat → mm_C} {sw c2 w2 : Bool} {T : px_T} {D : px_D} {S : px_S} {S1 : px_S} {K : px_K} {R : px_R} {C : px_C} {W : px_W} {U : px_U} {q : px_q} {q1 : px_q} {B0 : px_K} {B1 : px_K} {B2 : px_K} {B3 : px_K} {T_signs : List Int32} {T_length : Int32} {T_fault : Int32} {T_types : List Int32} {T_starts : List Int32} {T_values : List Int64} {T_tokens : Int32} {T_at : Int32} {T_behind : Int32} {S_hour : Int32} {S_open : Int32} {S_places : List Int32} {S1_hour : Int32} {S1_open : Int32} {S1_places : List Int32} {K_lines : List Int32} {K_lineCount : Int32} {K_wishes : List Int32} {K_wishCount : Int32} {K_sights : List Int32} {K_sightCount : Int32} {R_shown : List Int32} {R_length : Int32} {R_readers : Int32} {R_begins : List Int32} {R_lengths : List Int32} {R_sentences : Int32} {R_order : List Int32} {R_able : Int32} {R_standing : List Int32} {R_lovers : List Int32} {R_lowest : List Int32} {C_ways : List Int32} {C_rows : List Int32} {C_shallower : List Int32} {C_length : Int32} {C_goal : Int32} {W_row : List Int32} {W_walkers : Int32} {W_names : Int32} {W_wanted : List Int32} {W_shown : List Int32} {W_places : List Int32} {W_rest : List Int32} {W_spent : List Int32} {W_tried : List Int32} {U_undoRows : List Int64} {U_markScenes : List Int64} {U_marksLaid : List Int32} {U_undoCount : Int32} {U_undoEnd : Int32} {q_sortNames : List Int64} {q_sortCount : Int32} {q_colourNames : List Int64} {q_colourSorts : List Int32} {q_colourCount : Int32} {q_ruleMakes : List Int32} {q_ruleFirsts : List Int32} {q_ruleSeconds : List Int32} {q_ruleCount : Int32} {q_saysSort : Int32} {q_walkerNames : List Int64} {q_kinds : List Int32} {q_walkerColours : List Int32} {q_starts : List Int32} {q_stepRows : List Int32} {q_stepCounts : List Int32} {q_walkerCount : Int32} {q_gusts : List Int32} {q_gustCount : Int32} {q_parts : List Int32} {q_count : Int32} {q_stack : List Int32} {q_height : Int32} {q1_sortNames : List Int64} {q1_sortCount : Int32} {q1_colourNames : List Int64} {q1_colourSorts : List Int32} {q1_colourCount : Int32} {q1_ruleMakes : List Int32} {q1_ruleFirsts : List Int32} {q1_ruleSeconds : List Int32} {q1_ruleCount : Int32} {q1_saysSort : Int32} {q1_walkerNames : List Int64} {q1_kinds : List Int32} {q1_walkerColours : List Int32} {q1_starts : List Int32} {q1_stepRows : List Int32} {q1_stepCounts : List Int32} {q1_walkerCount : Int32} {q1_gusts : List Int32} {q1_gustCount : Int32} {q1_parts : List Int32} {q1_count : Int32} {q1_stack : List Int32} {q1_height : Int32} {B0_lines : List Int32} {B0_lineCount : Int32} {B0_wishes : List Int32} {B0_wishCount : Int32} {B0_sights : List Int32} {B0_sightCount : Int32} {B1_lines : List Int32} {B1_lineCount : Int32} {B1_wishes : List Int32} {B1_wishCount : Int32} {B1_sights : List Int32} {B1_sightCount : Int32} {B2_lines : List Int32} {B2_lineCount : Int32} {B2_wishes : List Int32} {B2_wishCount : Int32} {B2_sights : List Int32} {B2_sightCount : Int32} {B3_lines : List Int32} {B3_lineCount : Int32} {B3_wishes : List Int32} {B3_wishCount : Int32} {B3_sights : List Int32} {B3_sightCount : Int32}
variable {d : Nat} {Q : Option Value → mm_H → Prop} {s : SQ} {c : SC} {nm : NMs} {b : BK} {us : List SC} {tl : Nat}
theorem t_count {v : Int32} (hK : KX nm s q R C) (hc : c_ok s c) (hS : SCx s S c) (hB : BKx b K) (hU : UNx s us U) (hT : T.2.1 = nI tl) (hq : ∀ q' R', KX nm s q' R' C → Q (some (.int (match sx 14 v with
    | some k => nI (sp_count s c b us tl k)
    | none => -1))) (px_h z E M (px_l sw c2 w2 T D S S1 K (R') C W U (q') q1 B0 B1 B2 B3))) : wm (mp_P fx) (d + 5) 204 [.ref 59, .int v] (px_h z E M (px_l sw c2 w2 T D S S1 K R C W U q q1 B0 B1 B2 B3)) Q := by
  have ho := hK.2.2.1
  have hh := hc.1
  have hs := hK.1
  simp only [e204, q204_0, q204_1]
  rcases sx_c 14 v (by omega) with ⟨e2, hv⟩ | ⟨k, hk, rfl, e2⟩
  · have hqq := hq q R hK
    rw [e2] at hqq
    rw [tsw_lo (by
      rcases hv with hv | ⟨-, hv⟩
      · exact Or.inl (Int32.lt_iff_toInt_lt.mp hv)
      · have := Int32.le_iff_toInt_le.mp hv
        rw [nI_toInt (by omega)] at this
        exact Or.inr (by omega))]
    show ww (mp_P fx) (d + 5) 204 204 _ _ _ _
    simp only [q204_204, q204_205]
    exact hqq
  rw [e2] at hq
  simp only [] at hq
  have hk6 : k = 0 ∨ k = 1 ∨ k = 2 ∨ k = 3 ∨ k = 4 ∨ k = 5 ∨ k = 6 ∨ k = 7 ∨ k = 8 ∨ k = 9 ∨ k = 10 ∨ k = 11 ∨ k = 12 ∨ k = 13 := by omega
  rcases hk6 with h | h | h | h | h | h | h | h | h | h | h | h | h | h <;> subst h
  · show ww (mp_P fx) (d + 5) 204 72 _ _ _ _
    simp only [q204_72, q204_73, q204_76, q204_79, xc_x, xg_x_0, xg_x_1, xg_x_2, xg_x_3, xg_x_4, xg_x_5, xg_x_6, xg_x_7, xg_x_8, xg_x_9, xg_x_10, xg_x_11, xg_x_12, xg_x_13, xg_x_14, xs_x_14, xg_x_15, xs_x_15, xc_q, xg_q_0, xg_q_1, xs_q_1, xg_q_2, xg_q_3, xg_q_4, xs_q_4, xg_q_5, xg_q_6, xg_q_7, xg_q_8, xs_q_8, xg_q_9, xs_q_9, xg_q_10, xg_q_11, xg_q_12, xg_q_13, xg_q_14, xg_q_15, xg_q_16, xs_q_16, xg_q_17, xg_q_18, xs_q_18, xg_q_19, xa_q_sortNames, xb_q_sortNames, xn_q_sortNames, xa_q_colourNames, xb_q_colourNames, xn_q_colourNames, xa_q_colourSorts, xb_q_colourSorts, xn_q_colourSorts, xa_q_ruleMakes, xb_q_ruleMakes, xn_q_ruleMakes, xa_q_ruleFirsts, xb_q_ruleFirsts, xn_q_ruleFirsts, xa_q_ruleSeconds, xb_q_ruleSeconds, xn_q_ruleSeconds, xa_q_walkerNames, xb_q_walkerNames, xn_q_walkerNames, xa_q_kinds, xb_q_kinds, xn_q_kinds, xa_q_walkerColours, xb_q_walkerColours, xn_q_walkerColours, xa_q_starts, xb_q_starts, xn_q_starts, xa_q_stepRows, xb_q_stepRows, xn_q_stepRows, xa_q_stepCounts, xb_q_stepCounts, xn_q_stepCounts, xa_q_gusts, xb_q_gusts, xn_q_gusts, xc_ql, xg_ql_0, xg_ql_1, xs_ql_1, xg_ql_2, xg_ql_3, xs_ql_3, xa_q_parts, xb_q_parts, xn_q_parts, xa_q_stack, xb_q_stack, xn_q_stack, wx_some, wx_ref, hs.2.1.1]
    exact hq q R hK
  · show ww (mp_P fx) (d + 5) 204 80 _ _ _ _
    simp only [q204_80, q204_81, q204_84, q204_87, xc_x, xg_x_0, xg_x_1, xg_x_2, xg_x_3, xg_x_4, xg_x_5, xg_x_6, xg_x_7, xg_x_8, xg_x_9, xg_x_10, xg_x_11, xg_x_12, xg_x_13, xg_x_14, xs_x_14, xg_x_15, xs_x_15, xc_q, xg_q_0, xg_q_1, xs_q_1, xg_q_2, xg_q_3, xg_q_4, xs_q_4, xg_q_5, xg_q_6, xg_q_7, xg_q_8, xs_q_8, xg_q_9, xs_q_9, xg_q_10, xg_q_11, xg_q_12, xg_q_13, xg_q_14, xg_q_15, xg_q_16, xs_q_16, xg_q_17, xg_q_18, xs_q_18, xg_q_19, xa_q_sortNames, xb_q_sortNames, xn_q_sortNames, xa_q_colourNames, xb_q_colourNames, xn_q_colourNames, xa_q_colourSorts, xb_q_colourSorts, xn_q_colourSorts, xa_q_ruleMakes, xb_q_ruleMakes, xn_q_ruleMakes, xa_q_ruleFirsts, xb_q_ruleFirsts, xn_q_ruleFirsts, xa_q_ruleSeconds, xb_q_ruleSeconds, xn_q_ruleSeconds, xa_q_walkerNames, xb_q_walkerNames, xn_q_walkerNames, xa_q_kinds, xb_q_kinds, xn_q_kinds, xa_q_walkerColours, xb_q_walkerColours, xn_q_walkerColours, xa_q_starts, xb_q_starts, xn_q_starts, xa_q_stepRows, xb_q_stepRows, xn_q_stepRows, xa_q_stepCounts, xb_q_stepCounts, xn_q_stepCounts, xa_q_gusts, xb_q_gusts, xn_q_gusts, xc_ql, xg_ql_0, xg_ql_1, xs_ql_1, xg_ql_2, xg_ql_3, xs_ql_3, xa_q_parts, xb_q_parts, xn_q_parts, xa_q_stack, xb_q_stack, xn_q_stack, wx_some, wx_ref, hs.2.1.2.1]
    exact hq q R hK
  · show ww (mp_P fx) (d + 5) 204 88 _ _ _ _
    simp only [q204_88, q204_89, q204_92, q204_95, xc_x, xg_x_0, xg_x_1, xg_x_2, xg_x_3, xg_x_4, xg_x_5, xg_x_6, xg_x_7, xg_x_8, xg_x_9, xg_x_10, xg_x_11, xg_x_12, xg_x_13, xg_x_14, xs_x_14, xg_x_15, xs_x_15, xc_q, xg_q_0, xg_q_1, xs_q_1, xg_q_2, xg_q_3, xg_q_4, xs_q_4, xg_q_5, xg_q_6, xg_q_7, xg_q_8, xs_q_8, xg_q_9, xs_q_9, xg_q_10, xg_q_11, xg_q_12, xg_q_13, xg_q_14, xg_q_15, xg_q_16, xs_q_16, xg_q_17, xg_q_18, xs_q_18, xg_q_19, xa_q_sortNames, xb_q_sortNames, xn_q_sortNames, xa_q_colourNames, xb_q_colourNames, xn_q_colourNames, xa_q_colourSorts, xb_q_colourSorts, xn_q_colourSorts, xa_q_ruleMakes, xb_q_ruleMakes, xn_q_ruleMakes, xa_q_ruleFirsts, xb_q_ruleFirsts, xn_q_ruleFirsts, xa_q_ruleSeconds, xb_q_ruleSeconds, xn_q_ruleSeconds, xa_q_walkerNames, xb_q_walkerNames, xn_q_walkerNames, xa_q_kinds, xb_q_kinds, xn_q_kinds, xa_q_walkerColours, xb_q_walkerColours, xn_q_walkerColours, xa_q_starts, xb_q_starts, xn_q_starts, xa_q_stepRows, xb_q_stepRows, xn_q_stepRows, xa_q_stepCounts, xb_q_stepCounts, xn_q_stepCounts, xa_q_gusts, xb_q_gusts, xn_q_gusts, xc_ql, xg_ql_0, xg_ql_1, xs_ql_1, xg_ql_2, xg_ql_3, xs_ql_3, xa_q_parts, xb_q_parts, xn_q_parts, xa_q_stack, xb_q_stack, xn_q_stack, wx_some, wx_ref, hs.2.1.2.2.1]
    exact hq q R hK
  · show ww (mp_P fx) (d + 5) 204 96 _ _ _ _
    simp only [q204_96, q204_97, q204_100, q204_103, xc_x, xg_x_0, xg_x_1, xg_x_2, xg_x_3, xg_x_4, xg_x_5, xg_x_6, xg_x_7, xg_x_8, xg_x_9, xg_x_10, xg_x_11, xg_x_12, xg_x_13, xg_x_14, xs_x_14, xg_x_15, xs_x_15, xc_q, xg_q_0, xg_q_1, xs_q_1, xg_q_2, xg_q_3, xg_q_4, xs_q_4, xg_q_5, xg_q_6, xg_q_7, xg_q_8, xs_q_8, xg_q_9, xs_q_9, xg_q_10, xg_q_11, xg_q_12, xg_q_13, xg_q_14, xg_q_15, xg_q_16, xs_q_16, xg_q_17, xg_q_18, xs_q_18, xg_q_19, xa_q_sortNames, xb_q_sortNames, xn_q_sortNames, xa_q_colourNames, xb_q_colourNames, xn_q_colourNames, xa_q_colourSorts, xb_q_colourSorts, xn_q_colourSorts, xa_q_ruleMakes, xb_q_ruleMakes, xn_q_ruleMakes, xa_q_ruleFirsts, xb_q_ruleFirsts, xn_q_ruleFirsts, xa_q_ruleSeconds, xb_q_ruleSeconds, xn_q_ruleSeconds, xa_q_walkerNames, xb_q_walkerNames, xn_q_walkerNames, xa_q_kinds, xb_q_kinds, xn_q_kinds, xa_q_walkerColours, xb_q_walkerColours, xn_q_walkerColours, xa_q_starts, xb_q_starts, xn_q_starts, xa_q_stepRows, xb_q_stepRows, xn_q_stepRows, xa_q_stepCounts, xb_q_stepCounts, xn_q_stepCounts, xa_q_gusts, xb_q_gusts, xn_q_gusts, xc_ql, xg_ql_0, xg_ql_1, xs_ql_1, xg_ql_2, xg_ql_3, xs_ql_3, xa_q_parts, xb_q_parts, xn_q_parts, xa_q_stack, xb_q_stack, xn_q_stack, wx_some, wx_ref, hs.2.1.2.2.2.1]
    exact hq q R hK
  · show ww (mp_P fx) (d + 5) 204 104 _ _ _ _
    simp only [q204_104, q204_105, q204_108, q204_111, xc_x, xg_x_0, xg_x_1, xg_x_2, xg_x_3, xg_x_4, xg_x_5, xg_x_6, xg_x_7, xg_x_8, xg_x_9, xg_x_10, xg_x_11, xg_x_12, xg_x_13, xg_x_14, xs_x_14, xg_x_15, xs_x_15, xc_S, xg_S_0, xs_S_0, xg_S_1, xs_S_1, xg_S_2, xa_S_places, xb_S_places, xn_S_places, wx_some, wx_ref, hS.1]
    exact hq q R hK
  · show ww (mp_P fx) (d + 5) 204 112 _ _ _ _
    simp only [q204_112, q204_113, q204_116, q204_117, q204_120, q204_123, xc_x, xg_x_0, xg_x_1, xg_x_2, xg_x_3, xg_x_4, xg_x_5, xg_x_6, xg_x_7, xg_x_8, xg_x_9, xg_x_10, xg_x_11, xg_x_12, xg_x_13, xg_x_14, xs_x_14, xg_x_15, xs_x_15, xc_S, xg_S_0, xs_S_0, xg_S_1, xs_S_1, xg_S_2, xa_S_places, xb_S_places, xn_S_places, xc_q, xg_q_0, xg_q_1, xs_q_1, xg_q_2, xg_q_3, xg_q_4, xs_q_4, xg_q_5, xg_q_6, xg_q_7, xg_q_8, xs_q_8, xg_q_9, xs_q_9, xg_q_10, xg_q_11, xg_q_12, xg_q_13, xg_q_14, xg_q_15, xg_q_16, xs_q_16, xg_q_17, xg_q_18, xs_q_18, xg_q_19, xa_q_sortNames, xb_q_sortNames, xn_q_sortNames, xa_q_colourNames, xb_q_colourNames, xn_q_colourNames, xa_q_colourSorts, xb_q_colourSorts, xn_q_colourSorts, xa_q_ruleMakes, xb_q_ruleMakes, xn_q_ruleMakes, xa_q_ruleFirsts, xb_q_ruleFirsts, xn_q_ruleFirsts, xa_q_ruleSeconds, xb_q_ruleSeconds, xn_q_ruleSeconds, xa_q_walkerNames, xb_q_walkerNames, xn_q_walkerNames, xa_q_kinds, xb_q_kinds, xn_q_kinds, xa_q_walkerColours, xb_q_walkerColours, xn_q_walkerColours, xa_q_starts, xb_q_starts, xn_q_starts, xa_q_stepRows, xb_q_stepRows, xn_q_stepRows, xa_q_stepCounts, xb_q_stepCounts, xn_q_stepCounts, xa_q_gusts, xb_q_gusts, xn_q_gusts, xc_ql, xg_ql_0, xg_ql_1, xs_ql_1, xg_ql_2, xg_ql_3, xs_ql_3, xa_q_parts, xb_q_parts, xn_q_parts, xa_q_stack, xb_q_stack, xn_q_stack, wx_some, wx_ref, hS.1]
    apply t_gustOf hs ho (by omega)
    simp only [sl_i, q204_126]
    exact hq q R hK
  · show ww (mp_P fx) (d + 5) 204 127 _ _ _ _
    simp only [q204_127, q204_128, q204_129, q204_132, xc_x, xg_x_0, xg_x_1, xg_x_2, xg_x_3, xg_x_4, xg_x_5, xg_x_6, xg_x_7, xg_x_8, xg_x_9, xg_x_10, xg_x_11, xg_x_12, xg_x_13, xg_x_14, xs_x_14, xg_x_15, xs_x_15, wx_some, wx_ref]
    apply t_rdS hK hc hS
    intro q' R' hK' hR
    simp only [sl_n, q204_135, q204_136, q204_139, q204_142, xc_x, xg_x_0, xg_x_1, xg_x_2, xg_x_3, xg_x_4, xg_x_5, xg_x_6, xg_x_7, xg_x_8, xg_x_9, xg_x_10, xg_x_11, xg_x_12, xg_x_13, xg_x_14, xs_x_14, xg_x_15, xs_x_15, xc_R, xg_R_0, xg_R_1, xs_R_1, xg_R_2, xs_R_2, xg_R_3, xg_R_4, xg_R_5, xs_R_5, xg_R_6, xg_R_7, xs_R_7, xg_R_8, xg_R_9, xg_R_10, xa_R_shown, xb_R_shown, xn_R_shown, xa_R_begins, xb_R_begins, xn_R_begins, xa_R_lengths, xb_R_lengths, xn_R_lengths, xa_R_order, xb_R_order, xn_R_order, xa_R_standing, xb_R_standing, xn_R_standing, xa_R_lovers, xb_R_lovers, xn_R_lovers, xa_R_lowest, xb_R_lowest, xn_R_lowest, wx_some, wx_ref, hR.1.2.2.2.1]
    exact hq q' R' hK'
  · show ww (mp_P fx) (d + 5) 204 143 _ _ _ _
    simp only [q204_143, q204_144, q204_145, q204_148, xc_x, xg_x_0, xg_x_1, xg_x_2, xg_x_3, xg_x_4, xg_x_5, xg_x_6, xg_x_7, xg_x_8, xg_x_9, xg_x_10, xg_x_11, xg_x_12, xg_x_13, xg_x_14, xs_x_14, xg_x_15, xs_x_15, wx_some, wx_ref]
    apply t_rdS hK hc hS
    intro q' R' hK' hR
    simp only [sl_n, q204_151, q204_152, q204_155, q204_158, xc_x, xg_x_0, xg_x_1, xg_x_2, xg_x_3, xg_x_4, xg_x_5, xg_x_6, xg_x_7, xg_x_8, xg_x_9, xg_x_10, xg_x_11, xg_x_12, xg_x_13, xg_x_14, xs_x_14, xg_x_15, xs_x_15, xc_R, xg_R_0, xg_R_1, xs_R_1, xg_R_2, xs_R_2, xg_R_3, xg_R_4, xg_R_5, xs_R_5, xg_R_6, xg_R_7, xs_R_7, xg_R_8, xg_R_9, xg_R_10, xa_R_shown, xb_R_shown, xn_R_shown, xa_R_begins, xb_R_begins, xn_R_begins, xa_R_lengths, xb_R_lengths, xn_R_lengths, xa_R_order, xb_R_order, xn_R_order, xa_R_standing, xb_R_standing, xn_R_standing, xa_R_lovers, xb_R_lovers, xn_R_lovers, xa_R_lowest, xb_R_lowest, xn_R_lowest, wx_some, wx_ref, hR.1.2.1]
    exact hq q' R' hK'
  · show ww (mp_P fx) (d + 5) 204 159 _ _ _ _
    simp only [q204_159, q204_160, q204_163, q204_166, xc_x, xg_x_0, xg_x_1, xg_x_2, xg_x_3, xg_x_4, xg_x_5, xg_x_6, xg_x_7, xg_x_8, xg_x_9, xg_x_10, xg_x_11, xg_x_12, xg_x_13, xg_x_14, xs_x_14, xg_x_15, xs_x_15, xc_S, xg_S_0, xs_S_0, xg_S_1, xs_S_1, xg_S_2, xa_S_places, xb_S_places, xn_S_places, wx_some, wx_ref, hS.2.1]
    exact hq q R hK
  · show ww (mp_P fx) (d + 5) 204 167 _ _ _ _
    simp only [q204_167, q204_168, q204_171, q204_174, xc_x, xg_x_0, xg_x_1, xg_x_2, xg_x_3, xg_x_4, xg_x_5, xg_x_6, xg_x_7, xg_x_8, xg_x_9, xg_x_10, xg_x_11, xg_x_12, xg_x_13, xg_x_14, xs_x_14, xg_x_15, xs_x_15, xc_K, xg_K_0, xg_K_1, xs_K_1, xg_K_2, xg_K_3, xs_K_3, xg_K_4, xg_K_5, xs_K_5, xa_K_lines, xb_K_lines, xn_K_lines, xa_K_wishes, xb_K_wishes, xn_K_wishes, xa_K_sights, xb_K_sights, xn_K_sights, wx_some, wx_ref, hB.1.2.1]
    exact hq q R hK
  · show ww (mp_P fx) (d + 5) 204 175 _ _ _ _
    simp only [q204_175, q204_176, q204_179, q204_182, xc_x, xg_x_0, xg_x_1, xg_x_2, xg_x_3, xg_x_4, xg_x_5, xg_x_6, xg_x_7, xg_x_8, xg_x_9, xg_x_10, xg_x_11, xg_x_12, xg_x_13, xg_x_14, xs_x_14, xg_x_15, xs_x_15, xc_K, xg_K_0, xg_K_1, xs_K_1, xg_K_2, xg_K_3, xs_K_3, xg_K_4, xg_K_5, xs_K_5, xa_K_lines, xb_K_lines, xn_K_lines, xa_K_wishes, xb_K_wishes, xn_K_wishes, xa_K_sights, xb_K_sights, xn_K_sights, wx_some, wx_ref, hB.2.1.2.1]
    exact hq q R hK
  · show ww (mp_P fx) (d + 5) 204 183 _ _ _ _
    simp only [q204_183, q204_184, q204_187, q204_190, xc_x, xg_x_0, xg_x_1, xg_x_2, xg_x_3, xg_x_4, xg_x_5, xg_x_6, xg_x_7, xg_x_8, xg_x_9, xg_x_10, xg_x_11, xg_x_12, xg_x_13, xg_x_14, xs_x_14, xg_x_15, xs_x_15, xc_K, xg_K_0, xg_K_1, xs_K_1, xg_K_2, xg_K_3, xs_K_3, xg_K_4, xg_K_5, xs_K_5, xa_K_lines, xb_K_lines, xn_K_lines, xa_K_wishes, xb_K_wishes, xn_K_wishes, xa_K_sights, xb_K_sights, xn_K_sights, wx_some, wx_ref, hB.2.2.2.1]
    exact hq q R hK
  · show ww (mp_P fx) (d + 5) 204 191 _ _ _ _
    simp only [q204_191, q204_192, q204_195, xc_x, xg_x_0, xg_x_1, xg_x_2, xg_x_3, xg_x_4, xg_x_5, xg_x_6, xg_x_7, xg_x_8, xg_x_9, xg_x_10, xg_x_11, xg_x_12, xg_x_13, xg_x_14, xs_x_14, xg_x_15, xs_x_15, xa_U_undoRows, xb_U_undoRows, xn_U_undoRows, xa_U_markScenes, xb_U_markScenes, xn_U_markScenes, xa_U_marksLaid, xb_U_marksLaid, xn_U_marksLaid, wx_some, wx_ref, hU.2.2.2.1]
    exact hq q R hK
  · show ww (mp_P fx) (d + 5) 204 196 _ _ _ _
    simp only [q204_196, q204_197, q204_200, q204_203, xc_x, xg_x_0, xg_x_1, xg_x_2, xg_x_3, xg_x_4, xg_x_5, xg_x_6, xg_x_7, xg_x_8, xg_x_9, xg_x_10, xg_x_11, xg_x_12, xg_x_13, xg_x_14, xs_x_14, xg_x_15, xs_x_15, xc_T, xg_T_0, xg_T_1, xs_T_1, xg_T_2, xs_T_2, xg_T_3, xg_T_4, xg_T_5, xg_T_6, xs_T_6, xg_T_7, xs_T_7, xg_T_8, xs_T_8, xa_T_signs, xb_T_signs, xn_T_signs, xa_T_types, xb_T_types, xn_T_types, xa_T_starts, xb_T_starts, xn_T_starts, xa_T_values, xb_T_values, xn_T_values, wx_some, wx_ref, hT]
    exact hq q R hK
end TN
section MN
variable {fx : List Value → mm_H → Option (List Value × mm_H)} {z : Nat} {X Y : Nat → mm_C} {mV : pm_V} {mT : pm_T} {mQ : pm_Q} {mO : pm_O} {mE : pm_E} {mB : pm_B} {mS : pm_S} {mR : pm_R} {mW : pm_W} {m_thrown : Int32} {m_given : Int32} {m_fresh : Int64} {m_code : Int32} {m_taped : Int32} {m_tape : List Int32} {m_size : Int32} {m_place : Int32} {m_begin : Int32} {m_token : Int32} {m_word : Int64} {m_told : Int32} {m_wrong : Int32} {m_square : List Int32} {m_sortName : List Int64} {m_colourName : List Int64} {m_walkerName : List Int64} {m_sortOf : List Int32} {m_rules : List Int32} {m_kind : List Int32} {m_colour : List Int32} {m_atTold : List Int32} {m_goesMany : List Int32} {m_goes : List Int32} {m_gusts : List Int32} {m_lineFrom : List Int32} {m_lineTo : List Int32} {m_codes : List Int32} {m_opened : List Int32} {m_compared : List Int32} {m_kept : List Int32} {m_keptBy : List Int32} {m_ahead : List Int32} {m_against : List Int32} {m_sum : List Int32} {m_sumBy : List Int32} {m_term : List Int32} {m_termBy : List Int32} {m_byNot : List Int32} {m_valueOf : List Int32} {m_lines : List Int32} {m_lineWhat : List Int32} {m_lineA : List Int32} {m_lineB : List Int32} {m_wishes : List Int32} {m_wishOf : List Int32} {m_seens : List Int32} {m_seenAt : List Int32} {m_seenIn : List Int32} {m_seenThere : List Int32} {m_s : List Int32} {m_aside : List Int32} {m_before : List Int32} {m_marked : List Int32} {m_undone : List Int32} {m_isLaid : List Int32} {m_done : Int32} {m_gustNow : Int32} {m_shown : List Int32} {m_shownMany : Int32} {m_from7 : List Int32} {m_long7 : List Int32} {m_sentences : Int32} {m_text7 : List Int32} {m_textMany : Int32} {m_waysOf : List Int32} {m_rowOf : List Int32} {m_row : List Int32} {m_bestRow : List Int32} {m_leastSteps : Int32} {m_steps10 : List Int32} {m_placeIn : List Int32} {m_g : Int64}
variable {d : Nat} {Q : Option Value → mm_H → Prop} {s : SQ} {c : SC} {nm : NMs} {b : BK} {us : List SC} {tl : Nat}
theorem tm_count {v : Int32} (hK : KM nm s mQ) (hE : KE mE mR) (hc : c_ok s c) (hS : SCm s mS.1 c) (hg : mS.2.2.2.2.2.2.2 = -1) (hL : BLm mB) (hB : BKm b mB 0) (hU : UNm s us mS) (hT : mT.1 = nI tl) (hq : ∀ mE' mR', KE mE' mR' → Q (some (.int (match sx 14 v with
    | some k => nI (sp_count s c b us tl k)
    | none => -1))) (pm_h z X Y (pm_l ((0, mV.2.1, mV.2.2.1, mV.2.2.2)) mT mQ mO (mE') mB mS (mR') mW))) : wm (mp_P fx) (d + 5) 329 [.ref 149, .int v] (pm_h z X Y (pm_l mV mT mQ mO mE mB mS mR mW)) Q := by
  have ho := hK.2.2.1
  have hh := hc.1
  have hs := hK.1
  have hs9 := hS.1
  have hp0 := hS.2.1
  have hp1 := hS.2.2.1
  obtain ⟨l1, -, -, -, l5, -, l7, -⟩ := hL
  have hql := hs.1.1
  obtain ⟨n0, n1, n2, n3, -⟩ := hs.2.1
  simp only [e329, q329_0, q329_1, q329_2, q329_5, q329_6, q329_7, q329_9, mc_o, mg_thrown, mf_thrown, wx_some]
  apply tm_in
  · intro h0
    have hqq := hq mE mR hE
    rcases sx_c 14 v (by omega) with ⟨e2, -⟩ | ⟨n, hn, rfl, e2⟩
    · rw [e2] at hqq
      simp only [sl_i, q329_12, q329_15, q329_16]
      rw [if_neg (by decide)]
      exact hqq
    · rw [nl_0, show (13 : Int32) = nI 13 from rfl, nI_ltI (by omega) (by omega), nI_ltI (by omega) (by omega)] at h0
      omega
  intro h1 h2
  rcases sx_c 14 v (by omega) with ⟨e2, h3⟩ | ⟨k, hk, rfl, e2⟩
  · rcases h3 with h3 | ⟨h3, h4⟩
    · exact absurd h1 (Int32.not_le.mpr h3)
    · exact absurd h2 (Int32.not_le.mpr (Int32.lt_of_lt_of_le (by decide : (13 : Int32) < nI 14) h4))
  rw [e2] at hq
  simp only [] at hq
  simp only [sl_i, q329_12, q329_15, q329_16, q329_17, q329_18, q329_19]
  rw [if_pos (by decide)]
  by_cases k4 : k < 4
  · rw [if_neg (by rw [nl_4, nI_leI (by omega) (by omega)]; omega)]
    have hv : (mQ.1)[k]? = some (nI (sp_count s c b us tl k)) := by
      have hk6 : k = 0 ∨ k = 1 ∨ k = 2 ∨ k = 3 := by omega
      rcases hk6 with h | h | h | h <;> subst h
      · exact n0
      · exact n1
      · exact n2
      · exact n3
    simp only [q329_22, q329_23, q329_26, q329_27, q329_28, mc_o, mg_square, ma_square, mb_square, mn_square, wx_some, wx_ref, aG_n hv (show (mQ.1).length < 2 ^ 31 by omega)]
    exact hq mE mR hE
  rw [nl_4, if_pos (by rw [nI_leI (by omega) (by omega)]; omega)]
  simp only [q329_29, q329_30, q329_32]
  by_cases k6 : k < 6
  · rw [nl_6, if_neg (by rw [nI_leI (by omega) (by omega)]; omega)]
    have hk6 : k = 4 ∨ k = 5 := by omega
    rcases hk6 with h | h <;> subst h
    · simp only [q329_35, q329_36, q329_37, q329_40, q329_41, q329_44, q329_45, q329_46, q329_59, mc_o, mg_s, ma_s, mb_s, mn_s, wx_some, wx_ref, show aG (mS.1) 0 = some (nI c.1) from aG_n hp0 (by omega)]
      rw [if_neg (by decide)]
      exact hq mE mR hE
    · simp only [q329_35, q329_36, q329_37, q329_49, q329_50, q329_51, q329_54, q329_55, q329_56, mc_o, mg_s, ma_s, mb_s, mn_s, wx_some, wx_ref, show aG (mS.1) 0 = some (nI c.1) from aG_n hp0 (by omega)]
      rw [if_pos (by decide)]
      apply tm_gustOf hs ho hh
      simp only [sl_i, q329_59]
      exact hq mE mR hE
  rw [nl_6, if_pos (by rw [nI_leI (by omega) (by omega)]; omega)]
  simp only [q329_60, q329_61, mc_o]
  apply tm_rd hK hE hc hS hg
  intro mE' mR' hE' hR
  have hq := hq mE' mR' hE'
  have hk6 : k = 6 ∨ k = 7 ∨ k = 8 ∨ k = 9 ∨ k = 10 ∨ k = 11 ∨ k = 12 ∨ k = 13 := by omega
  rcases hk6 with h | h | h | h | h | h | h | h <;> subst h
  · simp only [sl_n, q329_64, q329_65, q329_67, q329_70, q329_71, q329_73, q329_76, q329_77, q329_80, q329_83, q329_84, q329_87, mc_o, mg_sentences, mf_sentences, wx_some, wx_ref, hR.2.2.2.1]
    rw [if_neg (by decide), if_neg (by decide)]
    exact hq
  · simp only [sl_n, q329_64, q329_65, q329_67, q329_70, q329_71, q329_73, q329_76, q329_77, q329_80, q329_83, q329_84, q329_87, mc_o, mg_shownMany, mf_shownMany, wx_some, wx_ref, hR.2.1]
    rw [if_neg (by decide), if_pos (by decide)]
    exact hq
  · simp only [sl_n, q329_64, q329_65, q329_67, q329_88, q329_89, q329_91, q329_94, q329_95, q329_97, q329_100, q329_101, q329_104, q329_105, q329_106, q329_109, q329_110, q329_112, q329_115, q329_116, q329_119, q329_120, q329_121, q329_124, q329_125, q329_128, q329_129, q329_130, mc_o, mg_s, ma_s, mb_s, mn_s, wx_some, wx_ref, show aG (mS.1) 1 = some (nI c.2.1) from aG_n hp1 (by omega)]
    rw [if_pos (by decide), if_neg (by decide), if_neg (by decide)]
    exact hq
  · simp only [sl_n, q329_64, q329_65, q329_67, q329_88, q329_89, q329_91, q329_94, q329_95, q329_97, q329_100, q329_101, q329_104, q329_105, q329_106, q329_109, q329_110, q329_112, q329_115, q329_116, q329_119, q329_120, q329_121, q329_124, q329_125, q329_128, q329_129, q329_130, mc_o, mg_lines, ma_lines, mb_lines, mn_lines, wx_some, wx_ref, show aG (mB.1) 0 = some (nI b.1.1) from aG_n hB.1.1 (by omega)]
    rw [if_pos (by decide), if_neg (by decide), if_pos (by decide), if_neg (by decide)]
    exact hq
  · simp only [sl_n, q329_64, q329_65, q329_67, q329_88, q329_89, q329_91, q329_94, q329_95, q329_97, q329_100, q329_101, q329_104, q329_105, q329_106, q329_109, q329_110, q329_112, q329_115, q329_116, q329_119, q329_120, q329_121, q329_124, q329_125, q329_128, q329_129, q329_130, mc_o, mg_wishes, ma_wishes, mb_wishes, mn_wishes, wx_some, wx_ref, show aG (mB.2.2.2.2.1) 0 = some (nI b.2.1.1) from aG_n hB.2.1.1 (by omega)]
    rw [if_pos (by decide), if_neg (by decide), if_pos (by decide), if_pos (by decide)]
    exact hq
  · simp only [sl_n, q329_64, q329_65, q329_67, q329_88, q329_89, q329_91, q329_131, q329_132, q329_134, q329_137, q329_138, q329_141, q329_142, q329_143, q329_146, q329_147, q329_149, q329_152, q329_153, q329_156, q329_159, q329_160, q329_163, mc_o, mg_seens, ma_seens, mb_seens, mn_seens, wx_some, wx_ref, show aG (mB.2.2.2.2.2.2.1) 0 = some (nI b.2.2.1) from aG_n hB.2.2.1 (by omega)]
    rw [if_pos (by decide), if_pos (by decide), if_neg (by decide)]
    exact hq
  · simp only [sl_n, q329_64, q329_65, q329_67, q329_88, q329_89, q329_91, q329_131, q329_132, q329_134, q329_137, q329_138, q329_141, q329_142, q329_143, q329_146, q329_147, q329_149, q329_152, q329_153, q329_156, q329_159, q329_160, q329_163, mc_o, mg_done, mf_done, wx_some, wx_ref, hU.2.2.1]
    rw [if_pos (by decide), if_pos (by decide), if_pos (by decide), if_neg (by decide)]
    exact hq
  · simp only [sl_n, q329_64, q329_65, q329_67, q329_88, q329_89, q329_91, q329_131, q329_132, q329_134, q329_137, q329_138, q329_141, q329_142, q329_143, q329_146, q329_147, q329_149, q329_152, q329_153, q329_156, q329_159, q329_160, q329_163, mc_o, mg_taped, mf_taped, wx_some, wx_ref, hT]
    rw [if_pos (by decide), if_pos (by decide), if_pos (by decide), if_pos (by decide)]
    exact hq
theorem tm_see {u v t : Int32} (ht : t = 0 ∨ t = 1) (hb : b_ok s b) (hL : BLm mB) (hB : BKm b mB 0) (hq0 : (sx 10 u = none ∨ sx 41 v = none ∨ b.2.2.1 = 8) → Q (some (.int 0)) (pm_h z X Y (pm_l ((0, mV.2.1, mV.2.2.1, mV.2.2.2)) mT mQ mO mE mB mS mR mW))) (hq1 : ∀ p n mB', sx 10 u = some p → sx 41 v = some n → b.2.2.1 < 8 → BLm mB' → BKm (b.1, b.2.1, b.2.2.1 + 1, fun i => if i = b.2.2.1 then (p, n, decide (t = 1)) else b.2.2.2 i) mB' 0 → (∀ b' r, 0 < r → BKm b' mB r → BKm b' mB' r) → Q (some (.int 1)) (pm_h z X Y (pm_l ((0, mV.2.1, mV.2.2.1, mV.2.2.2)) mT mQ mO mE (mB') mS mR mW))) : wm (mp_P fx) (d + 1) 316 [.ref 149, .int u, .int v, .int t] (pm_h z X Y (pm_l mV mT mQ mO mE mB mS mR mW)) Q := by
  obtain ⟨l1, l2, l3, l4, l5, l6, l7, l8, l9, l10⟩ := id hL
  obtain ⟨g1, g2, ⟨h2, h3⟩⟩ := id hB
  have hb8 := hb.2.2.1
  have hnar : vp_nar .boolean t = t := by
    rcases ht with h | h
    · rw [h]; exact nar_0
    · rw [h]; exact nar_1
  simp only [e316, b316_0, b316_1, bn_0 b316_0, bn_1 b316_1, q316_0, q316_1, q316_2, q316_5, q316_6, q316_7, q316_9, q316_12, q316_15, q316_16, q316_17, q316_19, q316_22, q316_25, q316_26, q316_29, q316_30, q316_31, q316_33, q316_36, q316_37, q316_38, q316_39, q316_42, q316_43, q316_46, q316_47, q316_48, q316_49, q316_50, q316_51, q316_54, q316_55, q316_58, q316_59, q316_60, q316_61, q316_62, q316_63, q316_66, q316_67, q316_70, q316_71, q316_72, q316_73, q316_74, q316_75, q316_78, q316_79, q316_80, q316_81, q316_82, q316_83, q316_84, q316_85, mc_o, mg_thrown, mf_thrown, wx_some]
  apply tm_in
  · intro h0
    simp only [sl_i, e316, b316_0, b316_1, bn_0 b316_0, bn_1 b316_1, q316_0, q316_1, q316_2, q316_5, q316_6, q316_7, q316_9, q316_12, q316_15, q316_16, q316_17, q316_19, q316_22, q316_25, q316_26, q316_29, q316_30, q316_31, q316_33, q316_36, q316_37, q316_38, q316_39, q316_42, q316_43, q316_46, q316_47, q316_48, q316_49, q316_50, q316_51, q316_54, q316_55, q316_58, q316_59, q316_60, q316_61, q316_62, q316_63, q316_66, q316_67, q316_70, q316_71, q316_72, q316_73, q316_74, q316_75, q316_78, q316_79, q316_80, q316_81, q316_82, q316_83, q316_84, q316_85]
    rw [if_pos (by decide)]
    rcases sx_c 10 u (by omega) with ⟨e2, -⟩ | ⟨n, hn, rfl, e2⟩
    · exact hq0 (Or.inl e2)
    · rw [nl_0, nl_9, nI_ltI (by omega) (by omega), nI_ltI (by omega) (by omega)] at h0
      omega
  intro h1 h1'
  rcases sx_c 10 u (by omega) with ⟨e2, h4⟩ | ⟨p, hp, rfl, e⟩
  · rcases h4 with h4 | ⟨h4, h5⟩
    · exact absurd h1 (Int32.not_le.mpr h4)
    · exact absurd h1' (Int32.not_le.mpr (Int32.lt_of_lt_of_le (by decide : (9 : Int32) < nI 10) h5))
  simp only [sl_i, b316_0, b316_1, bn_0 b316_0, bn_1 b316_1, q316_12, q316_15, q316_16, q316_17, q316_19]
  rw [if_neg (by decide)]
  apply tm_in
  · intro h0
    simp only [sl_i, b316_0, b316_1, bn_0 b316_0, bn_1 b316_1, q316_22, q316_25, q316_26, q316_29, q316_30, q316_31, q316_33, q316_36, q316_37]
    rw [if_pos (by decide)]
    rcases sx_c 41 v (by omega) with ⟨e2, -⟩ | ⟨n, hn, rfl, e2⟩
    · exact hq0 (Or.inr (Or.inl e2))
    · rw [nl_0, show (40 : Int32) = nI 40 from rfl, nI_ltI (by omega) (by omega), nI_ltI (by omega) (by omega)] at h0
      omega
  intro h5 h5'
  rcases sx_c 41 v (by omega) with ⟨e2, h4⟩ | ⟨n, hn, rfl, e2⟩
  · rcases h4 with h4 | ⟨h4, h6⟩
    · exact absurd h5 (Int32.not_le.mpr h4)
    · exact absurd h5' (Int32.not_le.mpr (Int32.lt_of_lt_of_le (by decide : (40 : Int32) < nI 41) h6))
  have hse : aG (mB.2.2.2.2.2.2.1) 0 = some (nI b.2.2.1) := aG_n h2 (by omega)
  simp only [sl_i, b316_0, b316_1, bn_0 b316_0, bn_1 b316_1, q316_22, q316_25, q316_26, q316_29, q316_30, q316_31, q316_33, q316_36, q316_37, q316_38, q316_39, q316_42, q316_43, q316_46, q316_47, q316_48, q316_49, q316_50, q316_51, q316_54, q316_55, q316_58, q316_59, q316_60, q316_61, q316_62, q316_63, q316_66, q316_67, q316_70, q316_71, q316_72, q316_73, q316_74, q316_75, q316_78, q316_79, q316_80, q316_81, q316_82, q316_83, q316_84, q316_85, mc_o, mg_seens, ma_seens, mb_seens, mn_seens, mg_seenAt, ma_seenAt, mb_seenAt, mn_seenAt, mg_seenIn, ma_seenIn, mb_seenIn, mn_seenIn, mg_seenThere, ma_seenThere, mb_seenThere, mn_seenThere, wx_some, wx_ref, hse]
  rw [if_neg (by decide)]
  by_cases e8 : b.2.2.1 = 8
  · rw [if_neg (by rw [e8]; decide)]
    exact hq0 (Or.inr (Or.inr e8))
  rw [nl_8, if_pos (by rw [nI_eq (by omega) (by omega)]; omega)]
  simp only [aS_n (show b.2.2.1 < (mB.2.2.2.2.2.2.2.1).length by omega) (show (mB.2.2.2.2.2.2.2.1).length < 2 ^ 31 by omega), aS_n (show b.2.2.1 < (mB.2.2.2.2.2.2.2.2.1).length by omega) (show (mB.2.2.2.2.2.2.2.2.1).length < 2 ^ 31 by omega), aS_n (show b.2.2.1 < (mB.2.2.2.2.2.2.2.2.2).length by omega) (show (mB.2.2.2.2.2.2.2.2.2).length < 2 ^ 31 by omega), hnar, wx_some, b316_0, b316_1, bn_0 b316_0, bn_1 b316_1, q316_38, q316_39, q316_42, q316_43, q316_46, q316_47, q316_48, q316_49, q316_50, q316_51, q316_54, q316_55, q316_58, q316_59, q316_60, q316_61, q316_62, q316_63, q316_66, q316_67, q316_70, q316_71, q316_72, q316_73, q316_74, q316_75, q316_78, q316_79, q316_80, q316_81, q316_82, q316_83, q316_84, q316_85, mc_o, mg_seens, ma_seens, mb_seens, mn_seens, mg_seenAt, ma_seenAt, mb_seenAt, mn_seenAt, mg_seenIn, ma_seenIn, mb_seenIn, mn_seenIn, mg_seenThere, ma_seenThere, mb_seenThere, mn_seenThere, wx_ref, hse, nl_1, nI_add, show ∀ x (f : List Int32 → mm_H), aS (mB.2.2.2.2.2.2.1) 0 x f = some (f ((mB.2.2.2.2.2.2.1).set 0 x)) from fun x f => aS_n (j := 0) (by omega) (by omega)]
  refine hq1 p n (mB.1, mB.2.1, mB.2.2.1, mB.2.2.2.1, mB.2.2.2.2.1, mB.2.2.2.2.2.1, (mB.2.2.2.2.2.2.1).set 0 (nI (b.2.2.1 + 1)), (mB.2.2.2.2.2.2.2.1).set b.2.2.1 (nI p), (mB.2.2.2.2.2.2.2.2.1).set b.2.2.1 (nI n), (mB.2.2.2.2.2.2.2.2.2).set b.2.2.1 t) e e2 (by omega) ⟨l1, l2, l3, l4, l5, l6, by show ((mB.2.2.2.2.2.2.1).set 0 _).length = 5; rw [List.length_set]; exact l7, by show ((mB.2.2.2.2.2.2.2.1).set _ _).length = 40; rw [List.length_set]; exact l8, by show ((mB.2.2.2.2.2.2.2.2.1).set _ _).length = 40; rw [List.length_set]; exact l9, by show ((mB.2.2.2.2.2.2.2.2.2).set _ _).length = 40; rw [List.length_set]; exact l10⟩ ⟨g1, g2, ?_, fun i hi => ?_⟩ (fun b' r hr hb' => ?_)
  · show ((mB.2.2.2.2.2.2.1).set 0 (nI (b.2.2.1 + 1)))[0]? = some (nI (b.2.2.1 + 1))
    rw [List.getElem?_set_self (by omega)]
  · have hi' : i < b.2.2.1 + 1 := hi
    show ((mB.2.2.2.2.2.2.2.1).set b.2.2.1 (nI p))[8 * 0 + i]? = some (nI (if i = b.2.2.1 then (p, n, decide (t = 1)) else b.2.2.2 i).1) ∧ ((mB.2.2.2.2.2.2.2.2.1).set b.2.2.1 (nI n))[8 * 0 + i]? = some (nI (if i = b.2.2.1 then (p, n, decide (t = 1)) else b.2.2.2 i).2.1) ∧ ((mB.2.2.2.2.2.2.2.2.2).set b.2.2.1 t)[8 * 0 + i]? = some (if (if i = b.2.2.1 then (p, n, decide (t = 1)) else b.2.2.2 i).2.2 = true then 1 else 0)
    rw [Nat.mul_zero, Nat.zero_add]
    by_cases ei : i = b.2.2.1
    · rw [if_pos ei, ei, List.getElem?_set_self (by omega), List.getElem?_set_self (by omega), List.getElem?_set_self (by omega)]
      refine ⟨rfl, rfl, ?_⟩
      rcases ht with h | h
      · subst h; rfl
      · subst h; rfl
    · rw [if_neg ei, List.getElem?_set_ne (fun z => ei z.symm), List.getElem?_set_ne (fun z => ei z.symm), List.getElem?_set_ne (fun z => ei z.symm)]
      have := h3 i (by omega)
      rw [Nat.mul_zero, Nat.zero_add] at this
      exact this
  · obtain ⟨q1, q2, q3, q4⟩ := hb'
    refine ⟨q1, q2, ?_, fun i hi => ?_⟩
    · show ((mB.2.2.2.2.2.2.1).set 0 _)[r]? = _
      rw [List.getElem?_set_ne (by omega)]; exact q3
    · have := q4 i hi
      show ((mB.2.2.2.2.2.2.2.1).set b.2.2.1 (nI p))[8 * r + i]? = _ ∧ ((mB.2.2.2.2.2.2.2.2.1).set b.2.2.1 (nI n))[8 * r + i]? = _ ∧ ((mB.2.2.2.2.2.2.2.2.2).set b.2.2.1 t)[8 * r + i]? = _
      rw [List.getElem?_set_ne (by omega), List.getElem?_set_ne (by omega), List.getElem?_set_ne (by omega)]
      exact this
end MN
