/-! the reading, of the class: look -/
section TR3
variable {fx : List Value → mm_H → Option (List Value × mm_H)} {z : Nat} {E M : Nat → mm_C} {sw c2 w2 : Bool} {T : px_T} {D : px_D} {S : px_S} {S1 : px_S} {K : px_K} {R : px_R} {C : px_C} {W : px_W} {U : px_U} {q : px_q} {q1 : px_q} {B0 : px_K} {B1 : px_K} {B2 : px_K} {B3 : px_K} {T_signs : List Int32} {T_length : Int32} {T_fault : Int32} {T_types : List Int32} {T_starts : List Int32} {T_values : List Int64} {T_tokens : Int32} {T_at : Int32} {T_behind : Int32} {S_hour : Int32} {S_open : Int32} {S_places : List Int32} {S1_hour : Int32} {S1_open : Int32} {S1_places : List Int32} {K_lines : List Int32} {K_lineCount : Int32} {K_wishes : List Int32} {K_wishCount : Int32} {K_sights : List Int32} {K_sightCount : Int32} {R_shown : List Int32} {R_length : Int32} {R_readers : Int32} {R_begins : List Int32} {R_lengths : List Int32} {R_sentences : Int32} {R_order : List Int32} {R_able : Int32} {R_standing : List Int32} {R_lovers : List Int32} {R_lowest : List Int32} {C_ways : List Int32} {C_rows : List Int32} {C_shallower : List Int32} {C_length : Int32} {C_goal : Int32} {W_row : List Int32} {W_walkers : Int32} {W_names : Int32} {W_wanted : List Int32} {W_shown : List Int32} {W_places : List Int32} {W_rest : List Int32} {W_spent : List Int32} {W_tried : List Int32} {U_undoRows : List Int64} {U_markScenes : List Int64} {U_marksLaid : List Int32} {U_undoCount : Int32} {U_undoEnd : Int32} {q_sortNames : List Int64} {q_sortCount : Int32} {q_colourNames : List Int64} {q_colourSorts : List Int32} {q_colourCount : Int32} {q_ruleMakes : List Int32} {q_ruleFirsts : List Int32} {q_ruleSeconds : List Int32} {q_ruleCount : Int32} {q_saysSort : Int32} {q_walkerNames : List Int64} {q_kinds : List Int32} {q_walkerColours : List Int32} {q_starts : List Int32} {q_stepRows : List Int32} {q_stepCounts : List Int32} {q_walkerCount : Int32} {q_gusts : List Int32} {q_gustCount : Int32} {q_parts : List Int32} {q_count : Int32} {q_stack : List Int32} {q_height : Int32} {q1_sortNames : List Int64} {q1_sortCount : Int32} {q1_colourNames : List Int64} {q1_colourSorts : List Int32} {q1_colourCount : Int32} {q1_ruleMakes : List Int32} {q1_ruleFirsts : List Int32} {q1_ruleSeconds : List Int32} {q1_ruleCount : Int32} {q1_saysSort : Int32} {q1_walkerNames : List Int64} {q1_kinds : List Int32} {q1_walkerColours : List Int32} {q1_starts : List Int32} {q1_stepRows : List Int32} {q1_stepCounts : List Int32} {q1_walkerCount : Int32} {q1_gusts : List Int32} {q1_gustCount : Int32} {q1_parts : List Int32} {q1_count : Int32} {q1_stack : List Int32} {q1_height : Int32} {B0_lines : List Int32} {B0_lineCount : Int32} {B0_wishes : List Int32} {B0_wishCount : Int32} {B0_sights : List Int32} {B0_sightCount : Int32} {B1_lines : List Int32} {B1_lineCount : Int32} {B1_wishes : List Int32} {B1_wishCount : Int32} {B1_sights : List Int32} {B1_sightCount : Int32} {B2_lines : List Int32} {B2_lineCount : Int32} {B2_wishes : List Int32} {B2_wishCount : Int32} {B2_sights : List Int32} {B2_sightCount : Int32} {B3_lines : List Int32} {B3_lineCount : Int32} {B3_wishes : List Int32} {B3_wishCount : Int32} {B3_sights : List Int32} {B3_sightCount : Int32}
variable {d : Nat} {Q : Option Value → mm_H → Prop} {s : SQ} {c : SC}
theorem SQx_sk {xs : List Int32} {g : Int32} (h : SQx q s) (hl : xs.length = 32) : SQx (q_sk q xs g) s := by
  obtain ⟨⟨h1, h2, h3, h4, h5, h6, h7, h8, h9, h10, h11, h12, h13, -, h15⟩, hr⟩ := h
  exact ⟨⟨h1, h2, h3, h4, h5, h6, h7, h8, h9, h10, h11, h12, h13, hl, h15⟩, hr⟩
theorem LWx_sk {xs : List Int32} {g : Int32} (h : LWx q s) : LWx (q_sk q xs g) s := h
theorem cn_pos {p : Nat → Bool} {n i : Nat} (hi : i < n) (hp : p i = true) : 0 < cn p n := by
  rcases Nat.eq_zero_or_pos (cn p n) with h | h
  · have := cn_0.mp h i hi; rw [hp] at this; cases this
  · exact h
/-- a reading looked at -/
def RDk (s : SQ) (c : SC) (R : px_R) : Prop := RDl R ∧ R.2.2.2.2.2.2.2.1 = nI (bmk (sp_able s c) (k_nW s)) ∧ ag R.2.2.2.2.2.2.1 (k_nW s) (fun i => (fm c.2.2 (k_nW s)).getD i 0)
theorem t_isAbleS {w : Nat} (hs : SQx q s) (hl : LWx q s) (ho : k_ok s) (hc : c_ok s c) (hS : SCx s S c) (hC : CPw s c 0 R) (hw : w < k_nW s) (hq : ∀ xs g, xs.length = 32 → Q (some (.int (if sp_able s c w = true then 1 else 0))) (px_h z E M (px_l sw c2 w2 T D S S1 K R C W U (q_sk q xs g) q1 B0 B1 B2 B3))) : wm (mp_P fx) (d + 2) 113 [.ref 75, .ref (px_ta sw), .ref 67, .int (nI w)] (px_h z E M (px_l sw c2 w2 T D S S1 K R C W U q q1 B0 B1 B2 B3)) Q := by
  have h7 := ho.1.2.2.2.1
  have hp := hc.2.2 w hw
  have hkl := hs.1.2.2.2.2.2.2.2.1
  have hkd := hs.2.2.2.2.1.1
  have hk4 := (ho.2.2.2.1 w hw).1
  have hSk := hs.1.2.2.2.2.2.2.2.2.2.2.2.2.2.1
  have hPk := hs.1.2.2.2.2.2.2.2.2.2.2.2.2.1
  obtain ⟨e1, e2, hrg, hpl⟩ := id hS
  obtain ⟨⟨r1, r2, r3, r4, r5, r6, r7⟩, hst, hlo⟩ := hC
  obtain ⟨x1, x2⟩ := hst (c.2.2 w) hp
  obtain ⟨m, -, m2, m3, m4, m5⟩ := hlo w (Nat.zero_le _) hw
  have g1 := ag_G hpl (show (S.2.2).length < 2 ^ 31 by have := hrg.1; omega) hw
  have g2 := ag_G hkd (show (q.2.2.2.2.2.2.2.2.2.2.2.1).length < 2 ^ 31 by omega) hw
  have c0 : cn (at_ c (c.2.2 w)) 0 = 0 := rfl
  have c0' : cn (lv_ s c (c.2.2 w)) 0 = 0 := rfl
  rw [c0, Nat.sub_zero] at x1
  rw [c0', Nat.sub_zero] at x2
  have hcp : 0 < cn (at_ c (c.2.2 w)) (k_nW s) := cn_pos hw (decide_eq_true rfl)
  have hcl := cn_le (p := at_ c (c.2.2 w)) (n := k_nW s)
  have hcl2 := cn_le (p := lv_ s c (c.2.2 w)) (n := k_nW s)
  have hfirst : (nI m = nI w) ↔ cn (at_ c (c.2.2 w)) w = 0 := by
    rw [nI_eq (by omega) (by omega), cn_0]
    constructor
    · intro h i hi; exact decide_eq_false (m4 i (Nat.zero_le _) (by omega))
    · intro h
      rcases Nat.lt_or_ge m w with h2 | h2
      · have := h m h2; unfold at_ at this; rw [decide_eq_true m3] at this; cases this
      · omega
  have hq0 : sp_able s c w = false → Q (some (.int 0)) (px_h z E M (px_l sw c2 w2 T D S S1 K R C W U q q1 B0 B1 B2 B3)) := fun h => by
    have := hq _ (q.2.2.2.2.2.2.2.2.2.2.2.2.2.2.2.2.2.2.2.2.2.2) hSk; rw [h, if_neg Bool.false_ne_true] at this; exact this
  simp only [e113, b113_0, b113_1, bn_0 b113_0, bn_1 b113_1, q113_0, q113_1, q113_4, q113_5, q113_6i, q113_8, q113_9, q113_10, q113_13, q113_16, q113_17, q113_20, q113_21, q113_22, q113_23, q113_26, q113_27, q113_30, q113_32, q113_33, q113_34, q113_37, q113_38, q113_39, q113_40, q113_43, q113_45, q113_46, q113_47, q113_50, q113_51, q113_54, q113_55i, q113_57, q113_58, q113_61, q113_63, q113_64, q113_67, q113_69, q113_70, q113_71, q113_72, q113_73, q113_76, q113_78, q113_81, q113_84, q113_85, q113_88, q113_89, xc_R, xg_R_0, xg_R_1, xs_R_1, xg_R_2, xs_R_2, xg_R_3, xg_R_4, xg_R_5, xs_R_5, xg_R_6, xg_R_7, xs_R_7, xg_R_8, xg_R_9, xg_R_10, xa_R_shown, xb_R_shown, xn_R_shown, xa_R_begins, xb_R_begins, xn_R_begins, xa_R_lengths, xb_R_lengths, xn_R_lengths, xa_R_order, xb_R_order, xn_R_order, xa_R_standing, xb_R_standing, xn_R_standing, xa_R_lovers, xb_R_lovers, xn_R_lovers, xa_R_lowest, xb_R_lowest, xn_R_lowest, xc_q, xg_q_0, xg_q_1, xs_q_1, xg_q_2, xg_q_3, xg_q_4, xs_q_4, xg_q_5, xg_q_6, xg_q_7, xg_q_8, xs_q_8, xg_q_9, xs_q_9, xg_q_10, xg_q_11, xg_q_12, xg_q_13, xg_q_14, xg_q_15, xg_q_16, xs_q_16, xg_q_17, xg_q_18, xs_q_18, xg_q_19, xa_q_sortNames, xb_q_sortNames, xn_q_sortNames, xa_q_colourNames, xb_q_colourNames, xn_q_colourNames, xa_q_colourSorts, xb_q_colourSorts, xn_q_colourSorts, xa_q_ruleMakes, xb_q_ruleMakes, xn_q_ruleMakes, xa_q_ruleFirsts, xb_q_ruleFirsts, xn_q_ruleFirsts, xa_q_ruleSeconds, xb_q_ruleSeconds, xn_q_ruleSeconds, xa_q_walkerNames, xb_q_walkerNames, xn_q_walkerNames, xa_q_kinds, xb_q_kinds, xn_q_kinds, xa_q_walkerColours, xb_q_walkerColours, xn_q_walkerColours, xa_q_starts, xb_q_starts, xn_q_starts, xa_q_stepRows, xb_q_stepRows, xn_q_stepRows, xa_q_stepCounts, xb_q_stepCounts, xn_q_stepCounts, xa_q_gusts, xb_q_gusts, xn_q_gusts, xc_ql, xg_ql_0, xg_ql_1, xs_ql_1, xg_ql_2, xg_ql_3, xs_ql_3, xa_q_parts, xb_q_parts, xn_q_parts, xa_q_stack, xb_q_stack, xn_q_stack, xc_S, xg_S_0, xs_S_0, xg_S_1, xs_S_1, xg_S_2, xa_S_places, xb_S_places, xn_S_places, wx_some, wx_ref, isl_i, isl_r, isl_n, g1]
  apply t_isOpenS ho hc hS hw
  simp only [sl_i, b113_0, b113_1, bn_0 b113_0, bn_1 b113_1, q113_13, q113_16, q113_17, q113_20, q113_21, q113_22, q113_23, q113_26, q113_27, q113_30, q113_32, q113_33, q113_34, q113_37, q113_38, xc_R, xg_R_0, xg_R_1, xs_R_1, xg_R_2, xs_R_2, xg_R_3, xg_R_4, xg_R_5, xs_R_5, xg_R_6, xg_R_7, xs_R_7, xg_R_8, xg_R_9, xg_R_10, xa_R_shown, xb_R_shown, xn_R_shown, xa_R_begins, xb_R_begins, xn_R_begins, xa_R_lengths, xb_R_lengths, xn_R_lengths, xa_R_order, xb_R_order, xn_R_order, xa_R_standing, xb_R_standing, xn_R_standing, xa_R_lovers, xb_R_lovers, xn_R_lovers, xa_R_lowest, xb_R_lowest, xn_R_lowest, xc_q, xg_q_0, xg_q_1, xs_q_1, xg_q_2, xg_q_3, xg_q_4, xs_q_4, xg_q_5, xg_q_6, xg_q_7, xg_q_8, xs_q_8, xg_q_9, xs_q_9, xg_q_10, xg_q_11, xg_q_12, xg_q_13, xg_q_14, xg_q_15, xg_q_16, xs_q_16, xg_q_17, xg_q_18, xs_q_18, xg_q_19, xa_q_sortNames, xb_q_sortNames, xn_q_sortNames, xa_q_colourNames, xb_q_colourNames, xn_q_colourNames, xa_q_colourSorts, xb_q_colourSorts, xn_q_colourSorts, xa_q_ruleMakes, xb_q_ruleMakes, xn_q_ruleMakes, xa_q_ruleFirsts, xb_q_ruleFirsts, xn_q_ruleFirsts, xa_q_ruleSeconds, xb_q_ruleSeconds, xn_q_ruleSeconds, xa_q_walkerNames, xb_q_walkerNames, xn_q_walkerNames, xa_q_kinds, xb_q_kinds, xn_q_kinds, xa_q_walkerColours, xb_q_walkerColours, xn_q_walkerColours, xa_q_starts, xb_q_starts, xn_q_starts, xa_q_stepRows, xb_q_stepRows, xn_q_stepRows, xa_q_stepCounts, xb_q_stepCounts, xn_q_stepCounts, xa_q_gusts, xb_q_gusts, xn_q_gusts, xc_ql, xg_ql_0, xg_ql_1, xs_ql_1, xg_ql_2, xg_ql_3, xs_ql_3, xa_q_parts, xb_q_parts, xn_q_parts, xa_q_stack, xb_q_stack, xn_q_stack, xc_S, xg_S_0, xs_S_0, xg_S_1, xs_S_1, xg_S_2, xa_S_places, xb_S_places, xn_S_places, wx_some, wx_ref, isl_i, isl_r, isl_n, g2, aG_n x2 (show (R.2.2.2.2.2.2.2.2.2.1).length < 2 ^ 31 by omega), nl_1]
  by_cases hop : c.2.1.testBit w = true
  · rw [if_pos hop, if_neg (by decide)]
    by_cases hlv : k_kd s w = 2 ∧ 1 < cn (lv_ s c (c.2.2 w)) (k_nW s)
    · rw [if_neg (by rw [hlv.1]; exact fun z => z rfl), if_neg (by rw [nI_leI (by omega) (by omega)]; omega)]
      apply hq0
      unfold sp_able
      rw [decide_eq_true hlv.1, decide_eq_true hlv.2, Bool.true_and, Bool.not_true, Bool.false_and, Bool.and_false]
    · have hres : sp_able s c w = !(decide (k_lw s (nI (c.2.2 w)) (nI (cn (at_ c (c.2.2 w)) (k_nW s) - 1)) (nI c.1) (nI (if cn (at_ c (c.2.2 w)) w = 0 then 1 else 0)) = 0)) := by
        unfold sp_able
        have : (decide (k_kd s w = 2) && decide (1 < cn (lv_ s c (c.2.2 w)) (k_nW s))) = false := by
          rw [← Bool.decide_and]; exact decide_eq_false hlv
        rw [hop, Bool.true_and, this, Bool.not_false, Bool.true_and]
      obtain ⟨n, hn1, hn2, hn3⟩ := id hl
      have fin : ∀ (f : Int32) (l5 : Option Value), f = nI (if cn (at_ c (c.2.2 w)) w = 0 then 1 else 0) → wm (mp_P fx) (d + 1) 114 [.ref (px_ta sw + 14), .int (nI (c.2.2 w)), .int (nI (cn (at_ c (c.2.2 w)) (k_nW s) - 1)), .int (nI c.1), .int f] (px_h z E M (px_l sw c2 w2 T D S S1 K R C W U q q1 B0 B1 B2 B3)) (fun r h' => ww (mp_P fx) (d + 2) 113 81 [some (.ref 75), some (.ref (px_ta sw)), some (.ref 67), some (.int (nI w)), some (.int (nI (c.2.2 w))), l5] (r.toList ++ []) h' Q) := by
        intro f l5 hf
        apply t_value (v := k_lw s (nI (c.2.2 w)) (nI (cn (at_ c (c.2.2 w)) (k_nW s) - 1)) (nI c.1) f) hn1 hPk hSk hn2 (hn3 _ _ _ _)
        intro xs g hxs
        have hqq := hq xs g hxs
        rw [hres, ← hf] at hqq
        simp only [sl_i, e113, b113_0, b113_1, bn_0 b113_0, bn_1 b113_1, q113_0, q113_1, q113_4, q113_5, q113_6i, q113_8, q113_9, q113_10, q113_13, q113_16, q113_17, q113_20, q113_21, q113_22, q113_23, q113_26, q113_27, q113_30, q113_32, q113_33, q113_34, q113_37, q113_38, q113_39, q113_40, q113_43, q113_45, q113_46, q113_47, q113_50, q113_51, q113_54, q113_55i, q113_57, q113_58, q113_61, q113_63, q113_64, q113_67, q113_69, q113_70, q113_71, q113_72, q113_73, q113_76, q113_78, q113_81, q113_84, q113_85, q113_88, q113_89]
        by_cases hv : k_lw s (nI (c.2.2 w)) (nI (cn (at_ c (c.2.2 w)) (k_nW s) - 1)) (nI c.1) f = 0
        · rw [if_pos hv]; rw [decide_eq_true hv, Bool.not_true, if_neg Bool.false_ne_true] at hqq; exact hqq
        · rw [if_neg hv]; rw [decide_eq_false hv, Bool.not_false, if_pos rfl] at hqq; exact hqq
      have fin2 : ww (mp_P fx) (d + 2) 113 39 [some (.ref 75), some (.ref (px_ta sw)), some (.ref 67), some (.int (nI w)), some (.int (nI (c.2.2 w))), none] [] (px_h z E M (px_l sw c2 w2 T D S S1 K R C W U q q1 B0 B1 B2 B3)) Q := by
        simp only [b113_0, b113_1, bn_0 b113_0, bn_1 b113_1, q113_39, q113_40, q113_43, q113_45, q113_46, q113_47, q113_50, q113_51, q113_54, q113_55i, q113_57, q113_58, q113_61, q113_63, q113_64, q113_67, q113_69, q113_70, q113_71, q113_72, q113_73, q113_76, q113_78, xc_R, xg_R_0, xg_R_1, xs_R_1, xg_R_2, xs_R_2, xg_R_3, xg_R_4, xg_R_5, xs_R_5, xg_R_6, xg_R_7, xs_R_7, xg_R_8, xg_R_9, xg_R_10, xa_R_shown, xb_R_shown, xn_R_shown, xa_R_begins, xb_R_begins, xn_R_begins, xa_R_lengths, xb_R_lengths, xn_R_lengths, xa_R_order, xb_R_order, xn_R_order, xa_R_standing, xb_R_standing, xn_R_standing, xa_R_lovers, xb_R_lovers, xn_R_lovers, xa_R_lowest, xb_R_lowest, xn_R_lowest, xc_q, xg_q_0, xg_q_1, xs_q_1, xg_q_2, xg_q_3, xg_q_4, xs_q_4, xg_q_5, xg_q_6, xg_q_7, xg_q_8, xs_q_8, xg_q_9, xs_q_9, xg_q_10, xg_q_11, xg_q_12, xg_q_13, xg_q_14, xg_q_15, xg_q_16, xs_q_16, xg_q_17, xg_q_18, xs_q_18, xg_q_19, xa_q_sortNames, xb_q_sortNames, xn_q_sortNames, xa_q_colourNames, xb_q_colourNames, xn_q_colourNames, xa_q_colourSorts, xb_q_colourSorts, xn_q_colourSorts, xa_q_ruleMakes, xb_q_ruleMakes, xn_q_ruleMakes, xa_q_ruleFirsts, xb_q_ruleFirsts, xn_q_ruleFirsts, xa_q_ruleSeconds, xb_q_ruleSeconds, xn_q_ruleSeconds, xa_q_walkerNames, xb_q_walkerNames, xn_q_walkerNames, xa_q_kinds, xb_q_kinds, xn_q_kinds, xa_q_walkerColours, xb_q_walkerColours, xn_q_walkerColours, xa_q_starts, xb_q_starts, xn_q_starts, xa_q_stepRows, xb_q_stepRows, xn_q_stepRows, xa_q_stepCounts, xb_q_stepCounts, xn_q_stepCounts, xa_q_gusts, xb_q_gusts, xn_q_gusts, xc_ql, xg_ql_0, xg_ql_1, xs_ql_1, xg_ql_2, xg_ql_3, xs_ql_3, xa_q_parts, xb_q_parts, xn_q_parts, xa_q_stack, xb_q_stack, xn_q_stack, xc_S, xg_S_0, xs_S_0, xg_S_1, xs_S_1, xg_S_2, xa_S_places, xb_S_places, xn_S_places, wx_some, wx_ref, isl_i, isl_r, isl_n, aG_n x1 (show (R.2.2.2.2.2.2.2.2.1).length < 2 ^ 31 by omega), aG_n m5 (show (R.2.2.2.2.2.2.2.2.2.2).length < 2 ^ 31 by omega), nl_1, nI_sub (show 1 ≤ cn (at_ c (c.2.2 w)) (k_nW s) by omega), e1]
        by_cases hf : cn (at_ c (c.2.2 w)) w = 0
        · rw [if_neg (fun z => z (hfirst.mpr hf))]
          exact fin _ _ (by rw [if_pos hf])
        · rw [if_pos (fun z => hf (hfirst.mp z))]
          exact fin _ _ (by rw [if_neg hf]; rfl)
      by_cases hk2 : k_kd s w = 2
      · rw [if_neg (by rw [hk2]; exact fun z => z rfl), if_pos (by rw [nI_leI (by omega) (by omega)]; omega)]
        exact fin2
      · rw [if_pos (by rw [nl_2, nI_eq (by omega) (by omega)]; exact hk2)]
        exact fin2
  · rw [if_neg hop, if_pos rfl]
    apply hq0
    unfold sp_able
    rw [Bool.eq_false_iff.mpr hop, Bool.false_and]
theorem t_isAbleS1 {w : Nat} (hs : SQx q s) (hl : LWx q s) (ho : k_ok s) (hc : c_ok s c) (hS : SCx s S1 c) (hC : CPw s c 0 R) (hw : w < k_nW s) (hq : ∀ xs g, xs.length = 32 → Q (some (.int (if sp_able s c w = true then 1 else 0))) (px_h z E M (px_l sw c2 w2 T D S S1 K R C W U (q_sk q xs g) q1 B0 B1 B2 B3))) : wm (mp_P fx) (d + 2) 113 [.ref 75, .ref (px_ta sw), .ref 69, .int (nI w)] (px_h z E M (px_l sw c2 w2 T D S S1 K R C W U q q1 B0 B1 B2 B3)) Q := by
  have h7 := ho.1.2.2.2.1
  have hp := hc.2.2 w hw
  have hkl := hs.1.2.2.2.2.2.2.2.1
  have hkd := hs.2.2.2.2.1.1
  have hk4 := (ho.2.2.2.1 w hw).1
  have hSk := hs.1.2.2.2.2.2.2.2.2.2.2.2.2.2.1
  have hPk := hs.1.2.2.2.2.2.2.2.2.2.2.2.2.1
  obtain ⟨e1, e2, hrg, hpl⟩ := id hS
  obtain ⟨⟨r1, r2, r3, r4, r5, r6, r7⟩, hst, hlo⟩ := hC
  obtain ⟨x1, x2⟩ := hst (c.2.2 w) hp
  obtain ⟨m, -, m2, m3, m4, m5⟩ := hlo w (Nat.zero_le _) hw
  have g1 := ag_G hpl (show (S1.2.2).length < 2 ^ 31 by have := hrg.1; omega) hw
  have g2 := ag_G hkd (show (q.2.2.2.2.2.2.2.2.2.2.2.1).length < 2 ^ 31 by omega) hw
  have c0 : cn (at_ c (c.2.2 w)) 0 = 0 := rfl
  have c0' : cn (lv_ s c (c.2.2 w)) 0 = 0 := rfl
  rw [c0, Nat.sub_zero] at x1
  rw [c0', Nat.sub_zero] at x2
  have hcp : 0 < cn (at_ c (c.2.2 w)) (k_nW s) := cn_pos hw (decide_eq_true rfl)
  have hcl := cn_le (p := at_ c (c.2.2 w)) (n := k_nW s)
  have hcl2 := cn_le (p := lv_ s c (c.2.2 w)) (n := k_nW s)
  have hfirst : (nI m = nI w) ↔ cn (at_ c (c.2.2 w)) w = 0 := by
    rw [nI_eq (by omega) (by omega), cn_0]
    constructor
    · intro h i hi; exact decide_eq_false (m4 i (Nat.zero_le _) (by omega))
    · intro h
      rcases Nat.lt_or_ge m w with h2 | h2
      · have := h m h2; unfold at_ at this; rw [decide_eq_true m3] at this; cases this
      · omega
  have hq0 : sp_able s c w = false → Q (some (.int 0)) (px_h z E M (px_l sw c2 w2 T D S S1 K R C W U q q1 B0 B1 B2 B3)) := fun h => by
    have := hq _ (q.2.2.2.2.2.2.2.2.2.2.2.2.2.2.2.2.2.2.2.2.2.2) hSk; rw [h, if_neg Bool.false_ne_true] at this; exact this
  simp only [e113, b113_0, b113_1, bn_0 b113_0, bn_1 b113_1, q113_0, q113_1, q113_4, q113_5, q113_6i, q113_8, q113_9, q113_10, q113_13, q113_16, q113_17, q113_20, q113_21, q113_22, q113_23, q113_26, q113_27, q113_30, q113_32, q113_33, q113_34, q113_37, q113_38, q113_39, q113_40, q113_43, q113_45, q113_46, q113_47, q113_50, q113_51, q113_54, q113_55i, q113_57, q113_58, q113_61, q113_63, q113_64, q113_67, q113_69, q113_70, q113_71, q113_72, q113_73, q113_76, q113_78, q113_81, q113_84, q113_85, q113_88, q113_89, xc_R, xg_R_0, xg_R_1, xs_R_1, xg_R_2, xs_R_2, xg_R_3, xg_R_4, xg_R_5, xs_R_5, xg_R_6, xg_R_7, xs_R_7, xg_R_8, xg_R_9, xg_R_10, xa_R_shown, xb_R_shown, xn_R_shown, xa_R_begins, xb_R_begins, xn_R_begins, xa_R_lengths, xb_R_lengths, xn_R_lengths, xa_R_order, xb_R_order, xn_R_order, xa_R_standing, xb_R_standing, xn_R_standing, xa_R_lovers, xb_R_lovers, xn_R_lovers, xa_R_lowest, xb_R_lowest, xn_R_lowest, xc_q, xg_q_0, xg_q_1, xs_q_1, xg_q_2, xg_q_3, xg_q_4, xs_q_4, xg_q_5, xg_q_6, xg_q_7, xg_q_8, xs_q_8, xg_q_9, xs_q_9, xg_q_10, xg_q_11, xg_q_12, xg_q_13, xg_q_14, xg_q_15, xg_q_16, xs_q_16, xg_q_17, xg_q_18, xs_q_18, xg_q_19, xa_q_sortNames, xb_q_sortNames, xn_q_sortNames, xa_q_colourNames, xb_q_colourNames, xn_q_colourNames, xa_q_colourSorts, xb_q_colourSorts, xn_q_colourSorts, xa_q_ruleMakes, xb_q_ruleMakes, xn_q_ruleMakes, xa_q_ruleFirsts, xb_q_ruleFirsts, xn_q_ruleFirsts, xa_q_ruleSeconds, xb_q_ruleSeconds, xn_q_ruleSeconds, xa_q_walkerNames, xb_q_walkerNames, xn_q_walkerNames, xa_q_kinds, xb_q_kinds, xn_q_kinds, xa_q_walkerColours, xb_q_walkerColours, xn_q_walkerColours, xa_q_starts, xb_q_starts, xn_q_starts, xa_q_stepRows, xb_q_stepRows, xn_q_stepRows, xa_q_stepCounts, xb_q_stepCounts, xn_q_stepCounts, xa_q_gusts, xb_q_gusts, xn_q_gusts, xc_ql, xg_ql_0, xg_ql_1, xs_ql_1, xg_ql_2, xg_ql_3, xs_ql_3, xa_q_parts, xb_q_parts, xn_q_parts, xa_q_stack, xb_q_stack, xn_q_stack, xc_S1, xg_S1_0, xs_S1_0, xg_S1_1, xs_S1_1, xg_S1_2, xa_S1_places, xb_S1_places, xn_S1_places, wx_some, wx_ref, isl_i, isl_r, isl_n, g1]
  apply t_isOpenS1 ho hc hS hw
  simp only [sl_i, b113_0, b113_1, bn_0 b113_0, bn_1 b113_1, q113_13, q113_16, q113_17, q113_20, q113_21, q113_22, q113_23, q113_26, q113_27, q113_30, q113_32, q113_33, q113_34, q113_37, q113_38, xc_R, xg_R_0, xg_R_1, xs_R_1, xg_R_2, xs_R_2, xg_R_3, xg_R_4, xg_R_5, xs_R_5, xg_R_6, xg_R_7, xs_R_7, xg_R_8, xg_R_9, xg_R_10, xa_R_shown, xb_R_shown, xn_R_shown, xa_R_begins, xb_R_begins, xn_R_begins, xa_R_lengths, xb_R_lengths, xn_R_lengths, xa_R_order, xb_R_order, xn_R_order, xa_R_standing, xb_R_standing, xn_R_standing, xa_R_lovers, xb_R_lovers, xn_R_lovers, xa_R_lowest, xb_R_lowest, xn_R_lowest, xc_q, xg_q_0, xg_q_1, xs_q_1, xg_q_2, xg_q_3, xg_q_4, xs_q_4, xg_q_5, xg_q_6, xg_q_7, xg_q_8, xs_q_8, xg_q_9, xs_q_9, xg_q_10, xg_q_11, xg_q_12, xg_q_13, xg_q_14, xg_q_15, xg_q_16, xs_q_16, xg_q_17, xg_q_18, xs_q_18, xg_q_19, xa_q_sortNames, xb_q_sortNames, xn_q_sortNames, xa_q_colourNames, xb_q_colourNames, xn_q_colourNames, xa_q_colourSorts, xb_q_colourSorts, xn_q_colourSorts, xa_q_ruleMakes, xb_q_ruleMakes, xn_q_ruleMakes, xa_q_ruleFirsts, xb_q_ruleFirsts, xn_q_ruleFirsts, xa_q_ruleSeconds, xb_q_ruleSeconds, xn_q_ruleSeconds, xa_q_walkerNames, xb_q_walkerNames, xn_q_walkerNames, xa_q_kinds, xb_q_kinds, xn_q_kinds, xa_q_walkerColours, xb_q_walkerColours, xn_q_walkerColours, xa_q_starts, xb_q_starts, xn_q_starts, xa_q_stepRows, xb_q_stepRows, xn_q_stepRows, xa_q_stepCounts, xb_q_stepCounts, xn_q_stepCounts, xa_q_gusts, xb_q_gusts, xn_q_gusts, xc_ql, xg_ql_0, xg_ql_1, xs_ql_1, xg_ql_2, xg_ql_3, xs_ql_3, xa_q_parts, xb_q_parts, xn_q_parts, xa_q_stack, xb_q_stack, xn_q_stack, xc_S1, xg_S1_0, xs_S1_0, xg_S1_1, xs_S1_1, xg_S1_2, xa_S1_places, xb_S1_places, xn_S1_places, wx_some, wx_ref, isl_i, isl_r, isl_n, g2, aG_n x2 (show (R.2.2.2.2.2.2.2.2.2.1).length < 2 ^ 31 by omega), nl_1]
  by_cases hop : c.2.1.testBit w = true
  · rw [if_pos hop, if_neg (by decide)]
    by_cases hlv : k_kd s w = 2 ∧ 1 < cn (lv_ s c (c.2.2 w)) (k_nW s)
    · rw [if_neg (by rw [hlv.1]; exact fun z => z rfl), if_neg (by rw [nI_leI (by omega) (by omega)]; omega)]
      apply hq0
      unfold sp_able
      rw [decide_eq_true hlv.1, decide_eq_true hlv.2, Bool.true_and, Bool.not_true, Bool.false_and, Bool.and_false]
    · have hres : sp_able s c w = !(decide (k_lw s (nI (c.2.2 w)) (nI (cn (at_ c (c.2.2 w)) (k_nW s) - 1)) (nI c.1) (nI (if cn (at_ c (c.2.2 w)) w = 0 then 1 else 0)) = 0)) := by
        unfold sp_able
        have : (decide (k_kd s w = 2) && decide (1 < cn (lv_ s c (c.2.2 w)) (k_nW s))) = false := by
          rw [← Bool.decide_and]; exact decide_eq_false hlv
        rw [hop, Bool.true_and, this, Bool.not_false, Bool.true_and]
      obtain ⟨n, hn1, hn2, hn3⟩ := id hl
      have fin : ∀ (f : Int32) (l5 : Option Value), f = nI (if cn (at_ c (c.2.2 w)) w = 0 then 1 else 0) → wm (mp_P fx) (d + 1) 114 [.ref (px_ta sw + 14), .int (nI (c.2.2 w)), .int (nI (cn (at_ c (c.2.2 w)) (k_nW s) - 1)), .int (nI c.1), .int f] (px_h z E M (px_l sw c2 w2 T D S S1 K R C W U q q1 B0 B1 B2 B3)) (fun r h' => ww (mp_P fx) (d + 2) 113 81 [some (.ref 75), some (.ref (px_ta sw)), some (.ref 69), some (.int (nI w)), some (.int (nI (c.2.2 w))), l5] (r.toList ++ []) h' Q) := by
        intro f l5 hf
        apply t_value (v := k_lw s (nI (c.2.2 w)) (nI (cn (at_ c (c.2.2 w)) (k_nW s) - 1)) (nI c.1) f) hn1 hPk hSk hn2 (hn3 _ _ _ _)
        intro xs g hxs
        have hqq := hq xs g hxs
        rw [hres, ← hf] at hqq
        simp only [sl_i, e113, b113_0, b113_1, bn_0 b113_0, bn_1 b113_1, q113_0, q113_1, q113_4, q113_5, q113_6i, q113_8, q113_9, q113_10, q113_13, q113_16, q113_17, q113_20, q113_21, q113_22, q113_23, q113_26, q113_27, q113_30, q113_32, q113_33, q113_34, q113_37, q113_38, q113_39, q113_40, q113_43, q113_45, q113_46, q113_47, q113_50, q113_51, q113_54, q113_55i, q113_57, q113_58, q113_61, q113_63, q113_64, q113_67, q113_69, q113_70, q113_71, q113_72, q113_73, q113_76, q113_78, q113_81, q113_84, q113_85, q113_88, q113_89]
        by_cases hv : k_lw s (nI (c.2.2 w)) (nI (cn (at_ c (c.2.2 w)) (k_nW s) - 1)) (nI c.1) f = 0
        · rw [if_pos hv]; rw [decide_eq_true hv, Bool.not_true, if_neg Bool.false_ne_true] at hqq; exact hqq
        · rw [if_neg hv]; rw [decide_eq_false hv, Bool.not_false, if_pos rfl] at hqq; exact hqq
      have fin2 : ww (mp_P fx) (d + 2) 113 39 [some (.ref 75), some (.ref (px_ta sw)), some (.ref 69), some (.int (nI w)), some (.int (nI (c.2.2 w))), none] [] (px_h z E M (px_l sw c2 w2 T D S S1 K R C W U q q1 B0 B1 B2 B3)) Q := by
        simp only [b113_0, b113_1, bn_0 b113_0, bn_1 b113_1, q113_39, q113_40, q113_43, q113_45, q113_46, q113_47, q113_50, q113_51, q113_54, q113_55i, q113_57, q113_58, q113_61, q113_63, q113_64, q113_67, q113_69, q113_70, q113_71, q113_72, q113_73, q113_76, q113_78, xc_R, xg_R_0, xg_R_1, xs_R_1, xg_R_2, xs_R_2, xg_R_3, xg_R_4, xg_R_5, xs_R_5, xg_R_6, xg_R_7, xs_R_7, xg_R_8, xg_R_9, xg_R_10, xa_R_shown, xb_R_shown, xn_R_shown, xa_R_begins, xb_R_begins, xn_R_begins, xa_R_lengths, xb_R_lengths, xn_R_lengths, xa_R_order, xb_R_order, xn_R_order, xa_R_standing, xb_R_standing, xn_R_standing, xa_R_lovers, xb_R_lovers, xn_R_lovers, xa_R_lowest, xb_R_lowest, xn_R_lowest, xc_q, xg_q_0, xg_q_1, xs_q_1, xg_q_2, xg_q_3, xg_q_4, xs_q_4, xg_q_5, xg_q_6, xg_q_7, xg_q_8, xs_q_8, xg_q_9, xs_q_9, xg_q_10, xg_q_11, xg_q_12, xg_q_13, xg_q_14, xg_q_15, xg_q_16, xs_q_16, xg_q_17, xg_q_18, xs_q_18, xg_q_19, xa_q_sortNames, xb_q_sortNames, xn_q_sortNames, xa_q_colourNames, xb_q_colourNames, xn_q_colourNames, xa_q_colourSorts, xb_q_colourSorts, xn_q_colourSorts, xa_q_ruleMakes, xb_q_ruleMakes, xn_q_ruleMakes, xa_q_ruleFirsts, xb_q_ruleFirsts, xn_q_ruleFirsts, xa_q_ruleSeconds, xb_q_ruleSeconds, xn_q_ruleSeconds, xa_q_walkerNames, xb_q_walkerNames, xn_q_walkerNames, xa_q_kinds, xb_q_kinds, xn_q_kinds, xa_q_walkerColours, xb_q_walkerColours, xn_q_walkerColours, xa_q_starts, xb_q_starts, xn_q_starts, xa_q_stepRows, xb_q_stepRows, xn_q_stepRows, xa_q_stepCounts, xb_q_stepCounts, xn_q_stepCounts, xa_q_gusts, xb_q_gusts, xn_q_gusts, xc_ql, xg_ql_0, xg_ql_1, xs_ql_1, xg_ql_2, xg_ql_3, xs_ql_3, xa_q_parts, xb_q_parts, xn_q_parts, xa_q_stack, xb_q_stack, xn_q_stack, xc_S1, xg_S1_0, xs_S1_0, xg_S1_1, xs_S1_1, xg_S1_2, xa_S1_places, xb_S1_places, xn_S1_places, wx_some, wx_ref, isl_i, isl_r, isl_n, aG_n x1 (show (R.2.2.2.2.2.2.2.2.1).length < 2 ^ 31 by omega), aG_n m5 (show (R.2.2.2.2.2.2.2.2.2.2).length < 2 ^ 31 by omega), nl_1, nI_sub (show 1 ≤ cn (at_ c (c.2.2 w)) (k_nW s) by omega), e1]
        by_cases hf : cn (at_ c (c.2.2 w)) w = 0
        · rw [if_neg (fun z => z (hfirst.mpr hf))]
          exact fin _ _ (by rw [if_pos hf])
        · rw [if_pos (fun z => hf (hfirst.mp z))]
          exact fin _ _ (by rw [if_neg hf]; rfl)
      by_cases hk2 : k_kd s w = 2
      · rw [if_neg (by rw [hk2]; exact fun z => z rfl), if_pos (by rw [nI_leI (by omega) (by omega)]; omega)]
        exact fin2
      · rw [if_pos (by rw [nl_2, nI_eq (by omega) (by omega)]; exact hk2)]
        exact fin2
  · rw [if_neg hop, if_pos rfl]
    apply hq0
    unfold sp_able
    rw [Bool.eq_false_iff.mpr hop, Bool.false_and]
end TR3
