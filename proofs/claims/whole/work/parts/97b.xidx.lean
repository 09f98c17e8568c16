/-! tokens, of the class: the row of tokens -/
def sgl : List Nat := [40, 41, 60, 61, 43, 45, 42, 59]
theorem sgl_b : mp_byt.getD 22 [] = sgl.map nI := by decide
theorem sgl_t : ∀ v, v < 127 → (lx_sg v = true ↔ ∃ j, j < 8 ∧ sgl.getD j 0 = v) := by decide
theorem sgl_lt : ∀ j, j < 8 → sgl.getD j 0 < 127 := by decide
section XC
variable {fx : List Value → mm_H → Option (List Value × mm_H)} {z : Nat} {E M : Nat → mm_C} {sw c2 w2 : Bool} {T : px_T} {D : px_D} {S : px_S} {S1 : px_S} {K : px_K} {R : px_R} {C : px_C} {W : px_W} {U : px_U} {q : px_q} {q1 : px_q} {B0 : px_K} {B1 : px_K} {B2 : px_K} {B3 : px_K} {T_signs : List Int32} {T_length : Int32} {T_fault : Int32} {T_types : List Int32} {T_starts : List Int32} {T_values : List Int64} {T_tokens : Int32} {T_at : Int32} {T_behind : Int32} {S_hour : Int32} {S_open : Int32} {S_places : List Int32} {S1_hour : Int32} {S1_open : Int32} {S1_places : List Int32} {K_lines : List Int32} {K_lineCount : Int32} {K_wishes : List Int32} {K_wishCount : Int32} {K_sights : List Int32} {K_sightCount : Int32} {R_shown : List Int32} {R_length : Int32} {R_readers : Int32} {R_begins : List Int32} {R_lengths : List Int32} {R_sentences : Int32} {R_order : List Int32} {R_able : Int32} {R_standing : List Int32} {R_lovers : List Int32} {R_lowest : List Int32} {C_ways : List Int32} {C_rows : List Int32} {C_shallower : List Int32} {C_length : Int32} {C_goal : Int32} {W_row : List Int32} {W_walkers : Int32} {W_names : Int32} {W_wanted : List Int32} {W_shown : List Int32} {W_places : List Int32} {W_rest : List Int32} {W_spent : List Int32} {W_tried : List Int32} {U_undoRows : List Int64} {U_markScenes : List Int64} {U_marksLaid : List Int32} {U_undoCount : Int32} {U_undoEnd : Int32} {q_sortNames : List Int64} {q_sortCount : Int32} {q_colourNames : List Int64} {q_colourSorts : List Int32} {q_colourCount : Int32} {q_ruleMakes : List Int32} {q_ruleFirsts : List Int32} {q_ruleSeconds : List Int32} {q_ruleCount : Int32} {q_saysSort : Int32} {q_walkerNames : List Int64} {q_kinds : List Int32} {q_walkerColours : List Int32} {q_starts : List Int32} {q_stepRows : List Int32} {q_stepCounts : List Int32} {q_walkerCount : Int32} {q_gusts : List Int32} {q_gustCount : Int32} {q_parts : List Int32} {q_count : Int32} {q_stack : List Int32} {q_height : Int32} {q1_sortNames : List Int64} {q1_sortCount : Int32} {q1_colourNames : List Int64} {q1_colourSorts : List Int32} {q1_colourCount : Int32} {q1_ruleMakes : List Int32} {q1_ruleFirsts : List Int32} {q1_ruleSeconds : List Int32} {q1_ruleCount : Int32} {q1_saysSort : Int32} {q1_walkerNames : List Int64} {q1_kinds : List Int32} {q1_walkerColours : List Int32} {q1_starts : List Int32} {q1_stepRows : List Int32} {q1_stepCounts : List Int32} {q1_walkerCount : Int32} {q1_gusts : List Int32} {q1_gustCount : Int32} {q1_parts : List Int32} {q1_count : Int32} {q1_stack : List Int32} {q1_height : Int32} {B0_lines : List Int32} {B0_lineCount : Int32} {B0_wishes : List Int32} {B0_wishCount : Int32} {B0_sights : List Int32} {B0_sightCount : Int32} {B1_lines : List Int32} {B1_lineCount : Int32} {B1_wishes : List Int32} {B1_wishCount : Int32} {B1_sights : List Int32} {B1_sightCount : Int32} {B2_lines : List Int32} {B2_lineCount : Int32} {B2_wishes : List Int32} {B2_wishCount : Int32} {B2_sights : List Int32} {B2_sightCount : Int32} {B3_lines : List Int32} {B3_lineCount : Int32} {B3_wishes : List Int32} {B3_wishCount : Int32} {B3_sights : List Int32} {B3_sightCount : Int32}
variable {d : Nat} {Q : Option Value → mm_H → Prop} {tp : List Nat}
/-- where a sign stands in the row of signs -/
theorem t_indexOf {v : Nat} (hE : ELt E) (hv : v < 127) (hq1 : ∀ j : Nat, j < 8 → lx_sg v = true → Q (some (.int (nI j))) (px_h z E M (px_l sw c2 w2 T D S S1 K R C W U q q1 B0 B1 B2 B3))) (hq0 : lx_sg v = false → Q (some (.int (-1))) (px_h z E M (px_l sw c2 w2 T D S S1 K R C W U q q1 B0 B1 B2 B3))) : wm (mp_P fx) (d + 4) 35 [.ref 45, .int (nI v)] (px_h z E M (px_l sw c2 w2 T D S S1 K R C W U q q1 B0 B1 B2 B3)) Q := by
  have ho : ((px_h z E M (px_l sw c2 w2 T D S S1 K R C W U q q1 B0 B1 B2 B3))).2.2 45 = mm_O 900 [.ref 46, .int 0] := lit_o (n := 22) hE (by omega)
  have hb : ((px_h z E M (px_l sw c2 w2 T D S S1 K R C W U q q1 B0 B1 B2 B3))).2.2 46 = mm_I 8 (sgl.map nI) := by rw [← sgl_b]; exact lit_b (n := 22) hE (by omega)
  have h1 := aF_g (i := 0) ho (by decide) rfl
  have h2 := aF_g (i := 1) ho (by decide) rfl
  have h3 := aN_I hb
  have h4 := aF_c ho
  have h5 := fun i => lit_8 (i := i) hb
  have h8 : (sgl.map nI).length = 8 := by decide
  have hi2b : ∀ v, v < 127 → (nI v).toInt8.toInt32 = nI v := by decide
  have key : ∀ (m j : Nat), j + m = 8 → (∀ j', j' < j → ¬ sgl.getD j' 0 = v) → ∀ Q' : Option Value → mm_H → Prop, (∀ j : Nat, j < 8 → lx_sg v = true → Q' (some (.int (nI j))) (px_h z E M (px_l sw c2 w2 T D S S1 K R C W U q q1 B0 B1 B2 B3))) → (lx_sg v = false → Q' (some (.int (-1))) (px_h z E M (px_l sw c2 w2 T D S S1 K R C W U q q1 B0 B1 B2 B3))) → ww (mp_P fx) (d + 1) 39 7 [some (.ref 46), some (.int (nI v)), some (.int (nI 0)), some (.int (nI 8)), some (.int (nI v)), some (.int (nI j))] [] (px_h z E M (px_l sw c2 w2 T D S S1 K R C W U q q1 B0 B1 B2 B3)) Q' := by
    intro m
    induction m with
    | zero =>
      intro j hj hno Q' q1' q0'
      have hj2 : j = 8 := by omega
      subst hj2
      rw [q39_7]
      simp only [q39_9, q39_10, q39_31, q39_32]
      rw [if_pos (by decide)]
      refine q0' (Bool.eq_false_iff.mpr (fun z => ?_))
      obtain ⟨j', a1, a2⟩ := (sgl_t v hv).mp z
      exact hno j' a1 a2
    | succ m ih =>
      intro j hj hno Q' q1' q0'
      have hg : aG (sgl.map nI) (nI j) = some (nI (sgl.getD j 0)) := aG_n (by rw [List.getElem?_map, List.getD, List.getElem?_eq_getElem (show j < sgl.length from (show j < 8 by omega))]; rfl) (by omega)
      have hsl := sgl_lt j (by omega)
      rw [q39_7]
      simp only [q39_9, q39_10, q39_13, q39_14, q39_16, q39_17, q39_19, q39_22, q39_24, q39_25i, q39_28, isl_i, isl_r, isl_n, h5, hg, wx_some, nI_1]
      rw [if_neg (by rw [nI_leI (by omega) (by omega)]; omega)]
      by_cases e : sgl.getD j 0 = v
      · rw [if_neg (by rw [e]; exact fun z => z rfl)]
        exact q1' j (by omega) ((sgl_t v hv).mpr ⟨j, by omega, e⟩)
      · rw [if_pos (by rw [nI_eq (by omega) (by omega)]; exact e)]
        exact ih (j + 1) (by omega) (fun j' hj' => by
          by_cases ej : j' = j
          · subst ej; exact e
          · exact hno j' (by omega)) Q' q1' q0'
  simp only [e35, q35_0, q35_1, q35_2, q35_3, h4]
  simp only [e36, q36_0, q36_1, e26, b26_0, b26_1, bn_0 b26_0, bn_1 b26_1, q26_0, q26_3, q26_6, q26_7, q26_10, q26_13, q26_14, q26_17, q26_18, h1, h2, h4, wx_some, wx_ref, sl_i]
  rw [if_neg (by decide), if_neg (by decide)]
  simp only [q36_4, q36_7, q36_8, q36_11, q36_12, q36_13, h1, wx_some, wx_ref]
  rw [if_neg (by decide)]
  simp only [q36_14, h4]
  apply t_slen (n := 22) hE (by omega)
  rw [sgl_b, h8]
  simp only [sl_i, q36_17]
  simp only [e37, q37_0, q37_1, e38, b38_0, b38_1, bn_0 b38_0, bn_1 b38_1, q38_0, q38_1, q38_4, q38_5, q38_8, q38_11, q38_12, q38_15, q38_16]
  rw [if_neg (by rw [nl_0, nI_ltI (by omega) (by omega)]; omega), if_neg (by rw [show (255 : Int32) = nI 255 from rfl, nI_ltI (by omega) (by omega)]; omega)]
  simp only [sl_i, q37_4, q37_7, q37_8, q37_9, q37_10, q37_11, q37_14i, q37_15, q37_16, q37_17, q37_18, q37_21i, q37_22, q37_23, q37_24, q37_27, q37_28, q37_29, q37_30, q37_31, q37_32, h3, wx_some, wx_ref, isl_i, isl_r, isl_n, h8]
  rw [if_pos (by decide)]
  rw [show (if (0 : Int32) < 0 then (0 : Int32) else 0) = nI 0 from by decide, show (if nI 8 < nI 8 then nI 8 else nI 8) = nI 8 from by decide, if_pos (by decide)]
  simp only [q37_33, e39, q39_0, q39_1, q39_2i, q39_4, q39_5i, isl_i, isl_r, isl_n, hi2b v hv]
  refine key 8 0 (by omega) (fun j h => by omega) _ (fun j hj hl => ?_) (fun hl => ?_)
  · simp only [sl_i, q37_36, q36_20, q36_23, q36_24, q36_27, q36_28, q36_29, q36_30, q36_33, q36_36, q35_6]
    exact hq1 j hj hl
  · simp only [sl_i, q37_36, q36_20, q36_23, q36_24, q36_27, q36_28, q36_29, q36_30, q36_33, q36_36, q35_6]
    exact hq0 hl
theorem t_addToken {i : Nat} (hE : ELt E) (ht : tp_ok tp) (hi : i < 1001) (hb : tk tp i < tp.length) (hT : TB tp i i (tk tp i) T) (hq : ∀ T', TB tp i (i + 1) (lx_e tp (tk tp i)) T' → Q none (px_h z E M (px_l sw c2 w2 (T') D S S1 K R C W U q q1 B0 B1 B2 B3))) : wm (mp_P fx) (d + 5) 18 [.ref 60] (px_h z E M (px_l sw c2 w2 T D S S1 K R C W U q q1 B0 B1 B2 B3)) Q := by
  have h1000 := ht.1
  obtain ⟨hTl, hs, hln, htk, hbe, hTc, hf⟩ := id hT
  obtain ⟨l1, l2, l3, l4⟩ := id hTl
  have g := ho_at hs hb
  have gl := tp_lt ht (tk tp i)
  have hss : ((T.2.2.2.2.1).set i (nI (tk tp i)))[i]? = some (nI (tk tp i)) := List.getElem?_set_self (by omega)
  have hT1 : TB tp i i (tk tp i) (T.1, T.2.1, T.2.2.1, T.2.2.2.1, (T.2.2.2.2.1).set i (nI (tk tp i)), T.2.2.2.2.2.1, nI i, T.2.2.2.2.2.2.2.1, nI (tk tp i)) := ⟨⟨l1, l2, by show (List.set _ _ _).length = 1001; rw [List.length_set]; exact l3, l4⟩, hs, hln, rfl, rfl, fun j hj => by
    obtain ⟨a1, a2, a3⟩ := hTc j hj
    exact ⟨a1, (List.getElem?_set_ne (by omega)).trans a2, a3⟩, hf⟩
  simp only [e18, q18_0, q18_1, q18_4, q18_5, q18_8, q18_9r, q18_10, q18_11, q18_14, q18_15, q18_18, q18_19, q18_22, q18_23, xc_T, xg_T_0, xg_T_1, xs_T_1, xg_T_2, xs_T_2, xg_T_3, xg_T_4, xg_T_5, xg_T_6, xs_T_6, xg_T_7, xs_T_7, xg_T_8, xs_T_8, xa_T_signs, xb_T_signs, xn_T_signs, xa_T_types, xb_T_types, xn_T_types, xa_T_starts, xb_T_starts, xn_T_starts, xa_T_values, xb_T_values, xn_T_values, wx_some, wx_ref, isl_i, isl_r, isl_n, hbe, htk, g, aS_n (show i < (T.2.2.2.2.1).length by omega) (show (T.2.2.2.2.1).length < 2 ^ 31 by omega)]
  simp only [q18_24]
  apply t_isLetter gl
  · intro hlet
    simp only [sl_i, q18_27, q18_30]
    rw [if_neg (by decide)]
    simp only [q18_31, xc_T, xg_T_0, xg_T_1, xs_T_1, xg_T_2, xs_T_2, xg_T_3, xg_T_4, xg_T_5, xg_T_6, xs_T_6, xg_T_7, xs_T_7, xg_T_8, xs_T_8, xa_T_signs, xb_T_signs, xn_T_signs, xa_T_types, xb_T_types, xn_T_types, xa_T_starts, xb_T_starts, xn_T_starts, xa_T_values, xb_T_values, xn_T_values]
    apply t_addWord hE ht hi hb (lt_t.mpr hlet) hT1 hss
    intro T' hT'
    simp only [sl_n, q18_34, q18_95]
    exact hq T' hT'
  intro hlet
  have hl1 : lx_lt tp (tk tp i) = false := Bool.eq_false_iff.mpr (fun z => hlet (lt_t.mp z))
  simp only [sl_i, q18_27, q18_37]
  rw [if_pos (by decide)]
  simp only [q18_38]
  apply t_isFigure gl
  · intro hdig
    simp only [sl_i, q18_41, q18_44]
    rw [if_neg (by decide)]
    simp only [q18_45, xc_T, xg_T_0, xg_T_1, xs_T_1, xg_T_2, xs_T_2, xg_T_3, xg_T_4, xg_T_5, xg_T_6, xs_T_6, xg_T_7, xs_T_7, xg_T_8, xs_T_8, xa_T_signs, xb_T_signs, xn_T_signs, xa_T_types, xb_T_types, xn_T_types, xa_T_starts, xb_T_starts, xn_T_starts, xa_T_values, xb_T_values, xn_T_values]
    apply t_addNumber ht hi hb hl1 (dg_t.mpr hdig) hT1 hss
    intro T' hT'
    simp only [sl_n, q18_48, q18_95]
    exact hq T' hT'
  intro hdig
  have hd1 : lx_dg tp (tk tp i) = false := Bool.eq_false_iff.mpr (fun z => hdig (dg_t.mp z))
  have hee : lx_e tp (tk tp i) = tk tp i + 1 := by unfold lx_e; rw [if_neg (by omega), if_neg (by rw [hl1]; exact Bool.false_ne_true), if_neg (by rw [hd1]; exact Bool.false_ne_true)]
  have hty : TY tp i = if lx_sg (tp.getD (tk tp i) 0) = true then 3 else 4 := by
    unfold TY lx_t
    rw [if_neg (by omega), if_neg (by rw [hl1]; exact Bool.false_ne_true), if_neg (by rw [hd1]; exact Bool.false_ne_true)]
  rw [hee] at hq
  simp only [sl_i, q18_41, q18_51, q18_52, q18_53, q18_56, q18_57, q18_58, q18_61, q18_62, q18_65, q18_66, q18_69, q18_71, xc_T, xg_T_0, xg_T_1, xs_T_1, xg_T_2, xs_T_2, xg_T_3, xg_T_4, xg_T_5, xg_T_6, xs_T_6, xg_T_7, xs_T_7, xg_T_8, xs_T_8, xa_T_signs, xb_T_signs, xn_T_signs, xa_T_types, xb_T_types, xn_T_types, xa_T_starts, xb_T_starts, xn_T_starts, xa_T_values, xb_T_values, xn_T_values, wx_some, wx_ref, isl_i, isl_r, isl_n, nI_1]
  rw [if_pos (by decide)]
  have hend : ∀ v : Nat, v = tyx tp i → ww (mp_P fx) (d + 5) 18 83 [some (.ref 60), some (.int (nI (tp.getD (tk tp i) 0)))] [.int (nI v), .int (nI i), .ref 62] (px_h z E M (px_l sw c2 w2 ((T.1, T.2.1, T.2.2.1, T.2.2.2.1, (T.2.2.2.2.1).set i (nI (tk tp i)), T.2.2.2.2.2.1, nI i, T.2.2.2.2.2.2.2.1, nI (tk tp i + 1))) D S S1 K R C W U q q1 B0 B1 B2 B3)) Q := by
    intro v hv
    simp only [q18_83, q18_84, q18_85, q18_88, q18_89, q18_92, q18_93, q18_94, q18_95, xc_T, xg_T_0, xg_T_1, xs_T_1, xg_T_2, xs_T_2, xg_T_3, xg_T_4, xg_T_5, xg_T_6, xs_T_6, xg_T_7, xs_T_7, xg_T_8, xs_T_8, xa_T_signs, xb_T_signs, xn_T_signs, xa_T_types, xb_T_types, xn_T_types, xa_T_starts, xb_T_starts, xn_T_starts, xa_T_values, xb_T_values, xn_T_values, wx_some, wx_ref, aS_n (show i < (T.2.2.2.1).length by omega) (show (T.2.2.2.1).length < 2 ^ 31 by omega), aS_n (show i < (T.2.2.2.2.2.1).length by omega) (show (T.2.2.2.2.2.1).length < 2 ^ 31 by omega), nI_l (show tp.getD (tk tp i) 0 < 2 ^ 31 by omega)]
    refine hq (T.1, T.2.1, T.2.2.1, (T.2.2.2.1).set i (nI v), (T.2.2.2.2.1).set i (nI (tk tp i)), (T.2.2.2.2.2.1).set i (lN (tp.getD (tk tp i) 0)), nI i, T.2.2.2.2.2.2.2.1, nI (tk tp i + 1)) ⟨⟨l1, by show (List.set _ _ _).length = 1001; rw [List.length_set]; exact l2, by show (List.set _ _ _).length = 1001; rw [List.length_set]; exact l3, by show (List.set _ _ _).length = 1001; rw [List.length_set]; exact l4⟩, hs, hln, rfl, rfl, TKc_more hTc (fun j hj => ⟨List.getElem?_set_ne (by omega), List.getElem?_set_ne (by omega), List.getElem?_set_ne (by omega)⟩) (by rw [hv]; exact List.getElem?_set_self (by omega)) hss ⟨fun z => ?_, fun z => ?_, fun z => List.getElem?_set_self (by omega)⟩, hf⟩
    · rw [hty] at z; split at z <;> omega
    · rw [hty] at z; split at z <;> omega
  have hcl : mm_cls (px_h z E M (px_l sw c2 w2 ((T.1, T.2.1, T.2.2.1, T.2.2.2.1, (T.2.2.2.2.1).set i (nI (tk tp i)), T.2.2.2.2.2.1, nI i, T.2.2.2.2.2.2.2.1, nI (tk tp i + 1))) D S S1 K R C W U q q1 B0 B1 B2 B3)) 45 = 900 := aF_c (lit_o (n := 22) hE (by omega))
  simp only [q18_72, hcl]
  apply t_indexOf hE gl
  · intro j hj hsg
    rw [if_pos hsg] at hty
    simp only [sl_i, q18_75, q18_78, q18_79, q18_82]
    rw [if_neg (by rw [nl_0, nI_ltI (by omega) (by omega)]; omega)]
    exact hend 5 (by unfold tyx; rw [hty]; rfl)
  · intro hsg
    rw [if_neg (by rw [hsg]; exact Bool.false_ne_true)] at hty
    simp only [sl_i, q18_75, q18_78, q18_79, q18_82]
    rw [if_pos (by decide)]
    exact hend 1 (by unfold tyx; rw [hty]; rfl)
def TKx (tp : List Nat) (n k : Nat) (T : px_T) : Prop := (TPl T ∧ ho_ T.1 tp ∧ TKc tp (n + 1) T) ∧ (T.2.2.2.2.2.2.1 = nI n ∧ T.2.2.2.2.2.2.2.1 = nI k ∧ T.2.1 = 0) ∧ (NT tp n ∧ n ≤ 1000 ∧ k ≤ n ∧ tp_ok tp)
theorem t_begin (hE : ELt E) (ht : tp_ok tp) (hT : TPx tp T) (hq : ∀ T' n, TKx tp n 0 T' → T'.2.2.1 = 0 → Q none (px_h z E M (px_l sw c2 w2 (T') D S S1 K R C W U q q1 B0 B1 B2 B3))) : wm (mp_P fx) (d + 6) 16 [.ref 60] (px_h z E M (px_l sw c2 w2 T D S S1 K R C W U q q1 B0 B1 B2 B3)) Q := by
  have h1000 := ht.1
  obtain ⟨hTl, hs, hln⟩ := id hT
  have fin : ∀ (i p : Nat) (T' : px_T) (l1 : Int32), i ≤ 1000 → TB tp i i p T' → NT tp i → ww (mp_P fx) (d + 6) 16 51 [some (.ref 60), some (.int l1)] [] (px_h z E M (px_l sw c2 w2 (T') D S S1 K R C W U q q1 B0 B1 B2 B3)) Q := by
    intro i p T' l1 hi hT' hN
    obtain ⟨hTl, hs, hln, htk, hbe, hTc, hf⟩ := id hT'
    obtain ⟨l1, l2, l3, l4⟩ := id hTl
    have htl : tk tp i = tp.length := Nat.le_antisymm (tk_le h1000 i) hN.2
    simp only [q16_51, q16_52, q16_55, q16_56, q16_59, q16_60, q16_61, q16_62, q16_65, q16_66, q16_69, q16_70, q16_73, q16_74, q16_75, q16_76, q16_79, q16_80, q16_81, q16_84, xc_T, xg_T_0, xg_T_1, xs_T_1, xg_T_2, xs_T_2, xg_T_3, xg_T_4, xg_T_5, xg_T_6, xs_T_6, xg_T_7, xs_T_7, xg_T_8, xs_T_8, xa_T_signs, xb_T_signs, xn_T_signs, xa_T_types, xb_T_types, xn_T_types, xa_T_starts, xb_T_starts, xn_T_starts, xa_T_values, xb_T_values, xn_T_values, wx_some, wx_ref, isl_i, isl_r, isl_n, htk, hln, aS_n (show i < (T'.2.2.2.1).length by omega) (show (T'.2.2.2.1).length < 2 ^ 31 by omega), aS_n (show i < (T'.2.2.2.2.1).length by omega) (show (T'.2.2.2.2.1).length < 2 ^ 31 by omega)]
    refine hq (T'.1, 0, T'.2.2.1, (T'.2.2.2.1).set i 0, (T'.2.2.2.2.1).set i (nI tp.length), T'.2.2.2.2.2.1, nI i, 0, T'.2.2.2.2.2.2.2.2) i ⟨⟨⟨l1, by show (List.set _ _ _).length = 1001; rw [List.length_set]; exact l2, by show (List.set _ _ _).length = 1001; rw [List.length_set]; exact l3, l4⟩, hs, TKc_more hTc (fun j hj => ⟨List.getElem?_set_ne (by omega), List.getElem?_set_ne (by omega), rfl⟩) ?_ ?_ ?_⟩, ⟨rfl, rfl, rfl⟩, hN, hi, Nat.zero_le _, ht⟩ hf
    · show ((T'.2.2.2.1).set i 0)[i]? = _
      rw [List.getElem?_set_self (by omega)]
      unfold tyx
      rw [if_pos ((TY_0 hN (Nat.le_refl _)).mpr rfl)]; rfl
    · show ((T'.2.2.2.2.1).set i (nI tp.length))[i]? = _
      rw [List.getElem?_set_self (by omega), htl]
    · have h0 := (TY_0 hN (Nat.le_refl _)).mpr rfl
      exact ⟨fun z => by omega, fun z => by omega, fun z => by omega⟩
  have key : ∀ (m i p : Nat) (T' : px_T), i + m = 1000 → TB tp i i p T' → (∀ j, j < i → tk tp j < tp.length) → p ≤ tp.length → lx_b tp p = tk tp i → ww (mp_P fx) (d + 6) 16 17 [some (.ref 60), some (.int (nI i))] [] (px_h z E M (px_l sw c2 w2 (T') D S S1 K R C W U q q1 B0 B1 B2 B3)) Q := by
    intro m
    induction m with
    | zero =>
      intro i p T' hi hT' hbef hp hpb
      have := tk_ge h1000 i hbef
      rw [q16_17]
      simp only [q16_18, q16_21]
      rw [if_pos (by rw [show (1000 : Int32) = nI 1000 from rfl, nI_leI (by omega) (by omega)]; omega)]
      exact fin i p T' _ (by omega) hT' ⟨hbef, by omega⟩
    | succ m ih =>
      intro i p T' hi hT' hbef hp hpb
      obtain ⟨hTl, hs, hln, htk, hbe, hTc, hf⟩ := id hT'
      rw [q16_17]
      simp only [q16_18, q16_21, q16_24]
      rw [if_neg (by rw [show (1000 : Int32) = nI 1000 from rfl, nI_leI (by omega) (by omega)]; omega)]
      simp only [q16_25, xc_T, xg_T_0, xg_T_1, xs_T_1, xg_T_2, xs_T_2, xg_T_3, xg_T_4, xg_T_5, xg_T_6, xs_T_6, xg_T_7, xs_T_7, xg_T_8, xs_T_8, xa_T_signs, xb_T_signs, xn_T_signs, xa_T_types, xb_T_types, xn_T_types, xa_T_starts, xb_T_starts, xn_T_starts, xa_T_values, xb_T_values, xn_T_values]
      apply t_skip ht hs hln hbe hp
      · intro hlt
        rw [hpb] at hlt ⊢
        have hT2 : TB tp i i (tk tp i) (T'.1, T'.2.1, T'.2.2.1, T'.2.2.2.1, T'.2.2.2.2.1, T'.2.2.2.2.2.1, T'.2.2.2.2.2.2.1, T'.2.2.2.2.2.2.2.1, nI (tk tp i)) := ⟨hTl, hs, hln, htk, rfl, hTc, hf⟩
        simp only [sl_i, q16_28, q16_31]
        rw [if_neg (by decide)]
        simp only [q16_32, xc_T, xg_T_0, xg_T_1, xs_T_1, xg_T_2, xs_T_2, xg_T_3, xg_T_4, xg_T_5, xg_T_6, xs_T_6, xg_T_7, xs_T_7, xg_T_8, xs_T_8, xa_T_signs, xb_T_signs, xn_T_signs, xa_T_types, xb_T_types, xn_T_types, xa_T_starts, xb_T_starts, xn_T_starts, xa_T_values, xb_T_values, xn_T_values]
        apply t_addToken hE ht (by omega) hlt hT2
        intro T3 hT3
        obtain ⟨hTl3, hs3, hln3, htk3, hbe3, hTc3, hf3⟩ := id hT3
        have he := lx_e_gt hlt h1000
        simp only [sl_n, q16_35, q16_36, q16_37, q16_40, q16_41, q16_42, q16_45r, q16_48, xc_T, xg_T_0, xg_T_1, xs_T_1, xg_T_2, xs_T_2, xg_T_3, xg_T_4, xg_T_5, xg_T_6, xs_T_6, xg_T_7, xs_T_7, xg_T_8, xs_T_8, xa_T_signs, xb_T_signs, xn_T_signs, xa_T_types, xb_T_types, xn_T_types, xa_T_starts, xb_T_starts, xn_T_starts, xa_T_values, xb_T_values, xn_T_values, wx_some, wx_ref, isl_i, isl_r, isl_n, htk3, nI_1]
        exact ih (i + 1) (lx_e tp (tk tp i)) (T3.1, T3.2.1, T3.2.2.1, T3.2.2.2.1, T3.2.2.2.2.1, T3.2.2.2.2.2.1, nI (i + 1), T3.2.2.2.2.2.2.2.1, T3.2.2.2.2.2.2.2.2) (by omega) ⟨hTl3, hs3, hln3, rfl, hbe3, hTc3, hf3⟩ (fun j hj => by
          by_cases ej : j = i
          · subst ej; exact hlt
          · exact hbef j (by omega)) he.2 rfl
      · intro hge
        rw [hpb] at hge ⊢
        simp only [sl_i, q16_28]
        rw [if_pos (by decide)]
        exact fin i (tk tp i) (T'.1, T'.2.1, T'.2.2.1, T'.2.2.2.1, T'.2.2.2.2.1, T'.2.2.2.2.2.1, T'.2.2.2.2.2.2.1, T'.2.2.2.2.2.2.2.1, nI (tk tp i)) _ (by omega) ⟨hTl, hs, hln, htk, rfl, hTc, hf⟩ ⟨hbef, hge⟩
  simp only [e16, q16_0, q16_1, q16_2, q16_5, q16_6, q16_7, q16_10, q16_11, q16_12, q16_15, q16_16r, xc_T, xg_T_0, xg_T_1, xs_T_1, xg_T_2, xs_T_2, xg_T_3, xg_T_4, xg_T_5, xg_T_6, xs_T_6, xg_T_7, xs_T_7, xg_T_8, xs_T_8, xa_T_signs, xb_T_signs, xn_T_signs, xa_T_types, xb_T_types, xn_T_types, xa_T_starts, xb_T_starts, xn_T_starts, xa_T_values, xb_T_values, xn_T_values, wx_some, wx_ref, isl_i, isl_r, isl_n]
  exact key 1000 0 0 (T.1, T.2.1, 0, T.2.2.2.1, T.2.2.2.2.1, T.2.2.2.2.2.1, 0, T.2.2.2.2.2.2.2.1, 0) (by omega) ⟨hTl, hs, hln, rfl, rfl, fun j hj => by omega, rfl⟩ (fun j hj => by omega) (Nat.zero_le _) rfl
end XC
