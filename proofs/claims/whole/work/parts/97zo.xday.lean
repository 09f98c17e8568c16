/-! a line of a day, of the class -/
theorem kdD_lt {tp : List Nat} {i kd : Nat} (h : kdD tp i = some kd) : kd < 4 ∧ TY tp i = 1 := by
  unfold kdD at h
  by_cases e1 : wdB tp i 11 = true
  · rw [if_pos e1] at h; cases h; exact ⟨by omega, (wdB_t.mp e1).1⟩
  rw [if_neg e1] at h
  by_cases e2 : wdB tp i 12 = true
  · rw [if_pos e2] at h; cases h; exact ⟨by omega, (wdB_t.mp e2).1⟩
  rw [if_neg e2] at h
  by_cases e3 : wdB tp i 13 = true
  · rw [if_pos e3] at h; cases h; exact ⟨by omega, (wdB_t.mp e3).1⟩
  rw [if_neg e3] at h
  by_cases e4 : wdB tp i 14 = true
  · rw [if_pos e4] at h; cases h; exact ⟨by omega, (wdB_t.mp e4).1⟩
  rw [if_neg e4] at h; cases h
theorem ln_v {a b c : Nat} : io (some a) + 4 * nI b + 32 * nI c = nI (b_ln (a, b, c)) := by
  show nI a + nI 4 * nI b + nI 32 * nI c = _
  rw [pk_mul, pk_mul, nI_add, nI_add]; rfl
def LNo (s : SQ) (l : Nat × Nat × Nat) : Prop := l.1 < 4 ∧ l.2.1 < 8 ∧ l.2.2 < 3 ∧ (¬ l.1 = 0 → l.2.1 < k_nW s) ∧ (l.1 = 1 → 0 < l.2.2)
section XZO
variable {fx : List Value → mm_H → Option (List Value × mm_H)} {z : Nat} {E M : Nat → mm_C} {sw c2 w2 : Bool} {T : px_T} {D : px_D} {S : px_S} {S1 : px_S} {K : px_K} {R : px_R} {C : px_C} {W : px_W} {U : px_U} {q : px_q} {q1 : px_q} {B0 : px_K} {B1 : px_K} {B2 : px_K} {B3 : px_K} {T_signs : List Int32} {T_length : Int32} {T_fault : Int32} {T_types : List Int32} {T_starts : List Int32} {T_values : List Int64} {T_tokens : Int32} {T_at : Int32} {T_behind : Int32} {S_hour : Int32} {S_open : Int32} {S_places : List Int32} {S1_hour : Int32} {S1_open : Int32} {S1_places : List Int32} {K_lines : List Int32} {K_lineCount : Int32} {K_wishes : List Int32} {K_wishCount : Int32} {K_sights : List Int32} {K_sightCount : Int32} {R_shown : List Int32} {R_length : Int32} {R_readers : Int32} {R_begins : List Int32} {R_lengths : List Int32} {R_sentences : Int32} {R_order : List Int32} {R_able : Int32} {R_standing : List Int32} {R_lovers : List Int32} {R_lowest : List Int32} {C_ways : List Int32} {C_rows : List Int32} {C_shallower : List Int32} {C_length : Int32} {C_goal : Int32} {W_row : List Int32} {W_walkers : Int32} {W_names : Int32} {W_wanted : List Int32} {W_shown : List Int32} {W_places : List Int32} {W_rest : List Int32} {W_spent : List Int32} {W_tried : List Int32} {U_undoRows : List Int64} {U_markScenes : List Int64} {U_marksLaid : List Int32} {U_undoCount : Int32} {U_undoEnd : Int32} {q_sortNames : List Int64} {q_sortCount : Int32} {q_colourNames : List Int64} {q_colourSorts : List Int32} {q_colourCount : Int32} {q_ruleMakes : List Int32} {q_ruleFirsts : List Int32} {q_ruleSeconds : List Int32} {q_ruleCount : Int32} {q_saysSort : Int32} {q_walkerNames : List Int64} {q_kinds : List Int32} {q_walkerColours : List Int32} {q_starts : List Int32} {q_stepRows : List Int32} {q_stepCounts : List Int32} {q_walkerCount : Int32} {q_gusts : List Int32} {q_gustCount : Int32} {q_parts : List Int32} {q_count : Int32} {q_stack : List Int32} {q_height : Int32} {q1_sortNames : List Int64} {q1_sortCount : Int32} {q1_colourNames : List Int64} {q1_colourSorts : List Int32} {q1_colourCount : Int32} {q1_ruleMakes : List Int32} {q1_ruleFirsts : List Int32} {q1_ruleSeconds : List Int32} {q1_ruleCount : Int32} {q1_saysSort : Int32} {q1_walkerNames : List Int64} {q1_kinds : List Int32} {q1_walkerColours : List Int32} {q1_starts : List Int32} {q1_stepRows : List Int32} {q1_stepCounts : List Int32} {q1_walkerCount : Int32} {q1_gusts : List Int32} {q1_gustCount : Int32} {q1_parts : List Int32} {q1_count : Int32} {q1_stack : List Int32} {q1_height : Int32} {B0_lines : List Int32} {B0_lineCount : Int32} {B0_wishes : List Int32} {B0_wishCount : Int32} {B0_sights : List Int32} {B0_sightCount : Int32} {B1_lines : List Int32} {B1_lineCount : Int32} {B1_wishes : List Int32} {B1_wishCount : Int32} {B1_sights : List Int32} {B1_sightCount : Int32} {B2_lines : List Int32} {B2_lineCount : Int32} {B2_wishes : List Int32} {B2_wishCount : Int32} {B2_sights : List Int32} {B2_sightCount : Int32} {B3_lines : List Int32} {B3_lineCount : Int32} {B3_wishes : List Int32} {B3_wishCount : Int32} {B3_sights : List Int32} {B3_sightCount : Int32}
variable {d : Nat} {Q : Option Value → mm_H → Prop} {tp : List Nat} {n k c : Nat} {nm : NMs} {s : SQ} {b : BK}
theorem t_takeLine (hE : ELt E) (h : TKx tp n k T) (hf : T.2.2.1 = 0) (hs : SQx q s) (ho : k_ok s) (hN : NMx nm s q) (hw : nmok nm s) (hc : ¬ c = 40) (hq1 : ∀ j ln T', dl tp nm s k c = (0, j, ln) → LNo s ln → TKx tp n j T' → T'.2.2.1 = 0 → Q (some (.int (nI (b_ln ln)))) (px_h z E M (px_l sw c2 w2 (T') D S S1 K R C W U q q1 B0 B1 B2 B3))) (hq0 : ∀ f v T', (dl tp nm s k c).1 = f → ¬ f = 0 → f < 2 ^ 20 → (∃ j, TKx tp n j T') → T'.2.2.1 = nI f → Q (some (.int v)) (px_h z E M (px_l sw c2 w2 (T') D S S1 K R C W U q q1 B0 B1 B2 B3))) : wm (mp_P fx) (d + 5) 96 [.ref 60, .ref (px_ta sw)] (px_h z E M (px_l sw c2 w2 T D S S1 K R C W U q q1 B0 B1 B2 B3)) Q := by
  have h7 := ho.1.2.2.2.1
  have ht : tp_ok tp := h.2.2.2.2.2
  have fin : ∀ (T' : px_T) (u v w l : Int32), Q (some (.int (u + 4 * v + 32 * w))) (px_h z E M (px_l sw c2 w2 (T') D S S1 K R C W U q q1 B0 B1 B2 B3)) → ww (mp_P fx) (d + 5) 96 85 [some (.ref 60), some (.ref (px_ta sw)), some (.int u), some (.int v), some (.int w), some (.int l)] [] (px_h z E M (px_l sw c2 w2 (T') D S S1 K R C W U q q1 B0 B1 B2 B3)) Q := by
    intro T' u v w l hh
    simp only [q96_85, q96_86, q96_87, q96_89, q96_92, e99, q99_0, q99_1, q99_2, q99_3, q99_4, q99_5, q99_7, q99_8, q99_9, q99_10, sl_i]
    exact hh
  simp only [e96, q96_0]
  simp only [q96_1]
  apply t_kindAtB hE h
  cases ek : kdD tp k with
  | none =>
    have hdl : dl tp nm s k c = (flt tp 1 k, k, (0, 0, 0)) := by unfold dl; rw [ek]
    simp only [sl_i, q96_4r, q96_5, q96_6i, q96_7, q96_8i, q96_10, q96_11, q96_12, isl_i, isl_r, isl_n]
    rw [if_neg (fun z => z rfl)]
    simp only [q96_15, q96_16, q96_17, xc_T, xg_T_0, xg_T_1, xs_T_1, xg_T_2, xs_T_2, xg_T_3, xg_T_4, xg_T_5, xg_T_6, xs_T_6, xg_T_7, xs_T_7, xg_T_8, xs_T_8, xa_T_signs, xb_T_signs, xn_T_signs, xa_T_types, xb_T_types, xn_T_types, xa_T_starts, xb_T_starts, xn_T_starts, xa_T_values, xb_T_values, xn_T_values]
    apply t_refuse (kd := 1) h
    intro T' h2 h3
    simp only [sl_i, q96_20, q96_27i, q96_29, q96_31, isl_i, isl_r, isl_n]
    rw [if_pos (by decide)]
    exact fin T' _ _ _ _ (hq0 _ _ T' (by rw [hdl]) (flt_ne (by omega)) (flt_sm ht (by omega)) ⟨k, h2⟩ h3)
  | some kd =>
    obtain ⟨hkd, hty⟩ := kdD_lt ek
    have hdl : dl tp nm s k c = dl0 tp nm s k kd := by unfold dl; rw [ek]; exact if_neg hc
    rw [hdl] at hq1 hq0
    unfold dl0 at hq1 hq0
    simp only [sl_i, q96_4r, q96_5, q96_6i, q96_7, q96_8i, q96_10, q96_11, q96_12, isl_i, isl_r, isl_n]
    rw [if_pos (io_some_ne (by omega))]
    simp only [q96_23, q96_24, xc_T, xg_T_0, xg_T_1, xs_T_1, xg_T_2, xs_T_2, xg_T_3, xg_T_4, xg_T_5, xg_T_6, xs_T_6, xg_T_7, xs_T_7, xg_T_8, xs_T_8, xa_T_signs, xb_T_signs, xn_T_signs, xa_T_types, xb_T_types, xn_T_types, xa_T_starts, xb_T_starts, xn_T_starts, xa_T_values, xb_T_values, xn_T_values]
    apply t_pass h (by rw [hty]; decide)
    intro hT2
    have hf2 : (T.1, T.2.1, T.2.2.1, T.2.2.2.1, T.2.2.2.2.1, T.2.2.2.2.2.1, nI n, nI (k + 1), T.2.2.2.2.2.2.2.2).2.2.1 = 0 := hf
    revert hT2 hf2
    generalize ((T.1, T.2.1, T.2.2.1, T.2.2.2.1, T.2.2.2.2.1, T.2.2.2.2.2.1, nI n, nI (k + 1), T.2.2.2.2.2.2.2.2) : px_T) = T2
    intro hT2 hf2
    simp only [sl_i, q96_27i, q96_29, q96_31, isl_i, isl_r, isl_n]
    rw [if_neg (by decide)]
    simp only [q96_34, q96_35]
    by_cases e0 : kd = 0
    · subst e0
      rw [if_pos rfl] at hq1
      rw [if_pos (show io (some 0) = 0 from rfl)]
      exact fin T2 _ _ _ _ (hq1 (k + 1) (0, 0, 0) T2 rfl ⟨by decide, by decide, by decide, fun e => absurd rfl e, fun e => (by cases e)⟩ hT2 hf2)
    rw [if_neg e0] at hq1 hq0
    rw [if_neg (show ¬ io (some kd) = 0 from fun z => e0 ((nI_eq (by omega) (by omega)).mp (show nI kd = nI 0 from z)))]
    simp only [q96_38, q96_39, q96_40]
    apply t_checkWalker hT2 hs ho hN hw
    · intro y v y2 y3
      have hv := fnd_lt y2
      rw [if_pos (by rw [y3])] at hq1 hq0
      rw [y3] at hq1 hq0
      simp only [sl_i, q96_43, q96_46, q96_47, q96_48, xc_T, xg_T_0, xg_T_1, xs_T_1, xg_T_2, xs_T_2, xg_T_3, xg_T_4, xg_T_5, xg_T_6, xs_T_6, xg_T_7, xs_T_7, xg_T_8, xs_T_8, xa_T_signs, xb_T_signs, xn_T_signs, xa_T_types, xb_T_types, xn_T_types, xa_T_starts, xb_T_starts, xn_T_starts, xa_T_values, xb_T_values, xn_T_values]
      rw [if_neg (by decide)]
      apply t_word hT2 y.1
      simp only [sl_i, q96_51, xc_q, xg_q_0, xg_q_1, xs_q_1, xg_q_2, xg_q_3, xg_q_4, xs_q_4, xg_q_5, xg_q_6, xg_q_7, xg_q_8, xs_q_8, xg_q_9, xs_q_9, xg_q_10, xg_q_11, xg_q_12, xg_q_13, xg_q_14, xg_q_15, xg_q_16, xs_q_16, xg_q_17, xg_q_18, xs_q_18, xg_q_19, xa_q_sortNames, xb_q_sortNames, xn_q_sortNames, xa_q_colourNames, xb_q_colourNames, xn_q_colourNames, xa_q_colourSorts, xb_q_colourSorts, xn_q_colourSorts, xa_q_ruleMakes, xb_q_ruleMakes, xn_q_ruleMakes, xa_q_ruleFirsts, xb_q_ruleFirsts, xn_q_ruleFirsts, xa_q_ruleSeconds, xb_q_ruleSeconds, xn_q_ruleSeconds, xa_q_walkerNames, xb_q_walkerNames, xn_q_walkerNames, xa_q_kinds, xb_q_kinds, xn_q_kinds, xa_q_walkerColours, xb_q_walkerColours, xn_q_walkerColours, xa_q_starts, xb_q_starts, xn_q_starts, xa_q_stepRows, xb_q_stepRows, xn_q_stepRows, xa_q_stepCounts, xb_q_stepCounts, xn_q_stepCounts, xa_q_gusts, xb_q_gusts, xn_q_gusts, xc_ql, xg_ql_0, xg_ql_1, xs_ql_1, xg_ql_2, xg_ql_3, xs_ql_3, xa_q_parts, xb_q_parts, xn_q_parts, xa_q_stack, xb_q_stack, xn_q_stack]
      apply t_walkerNamedq hs ho hN hw (isNm_wf y)
      rw [y2]
      simp only [sl_i, q96_54i, q96_55, q96_56, xc_T, xg_T_0, xg_T_1, xs_T_1, xg_T_2, xs_T_2, xg_T_3, xg_T_4, xg_T_5, xg_T_6, xs_T_6, xg_T_7, xs_T_7, xg_T_8, xs_T_8, xa_T_signs, xb_T_signs, xn_T_signs, xa_T_types, xb_T_types, xn_T_types, xa_T_starts, xb_T_starts, xn_T_starts, xa_T_values, xb_T_values, xn_T_values, isl_i, isl_r, isl_n]
      apply t_pass hT2 (by rw [y.1]; decide)
      intro hT3
      have hf3 : (T2.1, T2.2.1, T2.2.2.1, T2.2.2.2.1, T2.2.2.2.2.1, T2.2.2.2.2.2.1, nI n, nI (k + 1 + 1), T2.2.2.2.2.2.2.2.2).2.2.1 = 0 := hf2
      revert hT3 hf3
      generalize ((T2.1, T2.2.1, T2.2.2.1, T2.2.2.2.1, T2.2.2.2.2.1, T2.2.2.2.2.2.1, nI n, nI (k + 1 + 1), T2.2.2.2.2.2.2.2.2) : px_T) = T3
      intro hT3 hf3
      simp only [sl_i, q96_59, q96_60, q96_61, q96_62]
      by_cases e1 : kd = 1
      · subst e1
        rw [if_pos rfl] at hq1 hq0
        rw [if_neg (fun z => z rfl)]
        simp only [q96_65, q96_66, q96_67, q96_68, xc_T, xg_T_0, xg_T_1, xs_T_1, xg_T_2, xs_T_2, xg_T_3, xg_T_4, xg_T_5, xg_T_6, xs_T_6, xg_T_7, xs_T_7, xg_T_8, xs_T_8, xa_T_signs, xb_T_signs, xn_T_signs, xa_T_types, xb_T_types, xn_T_types, xa_T_starts, xb_T_starts, xn_T_starts, xa_T_values, xb_T_values, xn_T_values]
        apply t_checkNumber (a := 1) (b := 2) (by omega) (by omega) hT3
        · intro z1 z2
          rw [if_pos z1, if_pos z2] at hq1
          simp only [sl_i, q96_71, q96_74, q96_75, xc_T, xg_T_0, xg_T_1, xs_T_1, xg_T_2, xs_T_2, xg_T_3, xg_T_4, xg_T_5, xg_T_6, xs_T_6, xg_T_7, xs_T_7, xg_T_8, xs_T_8, xa_T_signs, xb_T_signs, xn_T_signs, xa_T_types, xb_T_types, xn_T_types, xa_T_starts, xb_T_starts, xn_T_starts, xa_T_values, xb_T_values, xn_T_values]
          rw [if_neg (by decide)]
          apply t_number hT3 z1
          simp only [sl_i, q96_78i, q96_80, q96_81, xc_T, xg_T_0, xg_T_1, xs_T_1, xg_T_2, xs_T_2, xg_T_3, xg_T_4, xg_T_5, xg_T_6, xs_T_6, xg_T_7, xs_T_7, xg_T_8, xs_T_8, xa_T_signs, xb_T_signs, xn_T_signs, xa_T_types, xb_T_types, xn_T_types, xa_T_starts, xb_T_starts, xn_T_starts, xa_T_values, xb_T_values, xn_T_values, isl_i, isl_r, isl_n]
          apply t_pass hT3 (by rw [z1]; decide)
          intro hT4
          have hf4 : (T3.1, T3.2.1, T3.2.2.1, T3.2.2.2.1, T3.2.2.2.2.1, T3.2.2.2.2.2.1, nI n, nI (k + 1 + 1 + 1), T3.2.2.2.2.2.2.2.2).2.2.1 = 0 := hf3
          revert hT4 hf4
          generalize ((T3.1, T3.2.1, T3.2.2.1, T3.2.2.2.1, T3.2.2.2.2.1, T3.2.2.2.2.2.1, nI n, nI (k + 1 + 1 + 1), T3.2.2.2.2.2.2.2.2) : px_T) = T4
          intro hT4 hf4
          simp only [sl_i, q96_84]
          refine fin T4 _ _ _ _ ?_
          have := hq1 (k + 3) (1, v, VL tp (k + 2)) T4 rfl ⟨by show 1 < 4; omega, by show v < 8; omega, by have := z2.2; show VL tp (k + 1 + 1) < 3; omega, fun _ => hv, fun _ => z2.1⟩ hT4 hf4
          rw [← ln_v] at this
          exact this
        · intro z1 z2 T' c1 c2'
          rw [if_pos z1, if_neg z2] at hq0
          simp only [sl_i, q96_71]
          rw [if_pos (by decide)]
          exact fin T' _ _ _ _ (hq0 _ _ T' rfl (flt_ne (by omega)) (flt_sm ht (by omega)) ⟨_, c1⟩ c2')
        · intro z1 T' c1 c2'
          rw [if_neg z1] at hq0
          simp only [sl_i, q96_71]
          rw [if_pos (by decide)]
          exact fin T' _ _ _ _ (hq0 _ _ T' rfl (flt_ne (by omega)) (flt_sm ht (by omega)) ⟨_, c1⟩ c2')
      · rw [if_neg e1] at hq1
        rw [if_pos (show ¬ io (some kd) = 1 from fun z => e1 ((nI_eq (by omega) (by omega)).mp (show nI kd = nI 1 from z)))]
        refine fin T3 _ _ _ _ ?_
        have := hq1 (k + 2) (kd, v, 0) T3 rfl ⟨hkd, by show v < 8; omega, by show 0 < 3; omega, fun _ => hv, fun e => absurd e e1⟩ hT3 hf3
        rw [← ln_v] at this
        exact this
    · intro T' f c1 c2' c3 c4
      rw [if_neg (by rw [c1]; exact c2')] at hq0
      simp only [sl_i, q96_43]
      rw [if_pos (by decide)]
      exact fin T' _ _ _ _ (hq0 f _ T' c1 c2' (by rw [← c1]; exact c_named_sm ht) ⟨_, c3⟩ c4)
theorem t_setLines {c : Int32} (hD : D.length = 40) (hK : (K.1).length = 40) (hq : Q none (px_h z E M (px_l sw c2 w2 T D S S1 ((D, c, K.2.2.1, K.2.2.2.1, K.2.2.2.2.1, K.2.2.2.2.2)) R C W U q q1 B0 B1 B2 B3))) : wm (mp_P fx) d 100 [.ref 71, .ref 66, .int c] (px_h z E M (px_l sw c2 w2 T D S S1 K R C W U q q1 B0 B1 B2 B3)) Q := by
  have c1 : mm_cpy (px_h z E M (px_l sw c2 w2 T D S S1 K R C W U q q1 B0 B1 B2 B3)) 66 0 72 0 40 = some (px_h z E M (px_l sw c2 w2 T D S S1 ((D.take 40, K.2.1, K.2.2.1, K.2.2.2.1, K.2.2.2.2.1, K.2.2.2.2.2)) R C W U q q1 B0 B1 B2 B3)) := cpy_x (n := 40) pk_D_draft pk_K_lines hK (by omega) (by omega) (px_set (i := 13) (by decide) px_ll)
  rw [List.take_of_length_le (by omega)] at c1
  simp only [e100, q100_0, q100_1, q100_2, q100_3, q100_6, q100_7, q100_9, q100_12, q100_13, q100_14, q100_17, xc_K, xg_K_0, xg_K_1, xs_K_1, xg_K_2, xg_K_3, xs_K_3, xg_K_4, xg_K_5, xs_K_5, xa_K_lines, xb_K_lines, xn_K_lines, xa_K_wishes, xb_K_wishes, xn_K_wishes, xa_K_sights, xb_K_sights, xn_K_sights, wx_some, wx_ref, c1]
  exact hq
end XZO
