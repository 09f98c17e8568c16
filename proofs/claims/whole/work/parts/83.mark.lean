/-! marks, of the class -/
section TK
variable {fx : List Value → mm_H → Option (List Value × mm_H)} {z : Nat} {E M : Nat → mm_C} {sw c2 w2 : Bool} {T : px_T} {D : px_D} {S : px_S} {S1 : px_S} {K : px_K} {R : px_R} {C : px_C} {W : px_W} {U : px_U} {q : px_q} {q1 : px_q} {B0 : px_K} {B1 : px_K} {B2 : px_K} {B3 : px_K} {T_signs : List Int32} {T_length : Int32} {T_fault : Int32} {T_types : List Int32} {T_starts : List Int32} {T_values : List Int64} {T_tokens : Int32} {T_at : Int32} {T_behind : Int32} {S_hour : Int32} {S_open : Int32} {S_places : List Int32} {S1_hour : Int32} {S1_open : Int32} {S1_places : List Int32} {K_lines : List Int32} {K_lineCount : Int32} {K_wishes : List Int32} {K_wishCount : Int32} {K_sights : List Int32} {K_sightCount : Int32} {R_shown : List Int32} {R_length : Int32} {R_readers : Int32} {R_begins : List Int32} {R_lengths : List Int32} {R_sentences : Int32} {R_order : List Int32} {R_able : Int32} {R_standing : List Int32} {R_lovers : List Int32} {R_lowest : List Int32} {C_ways : List Int32} {C_rows : List Int32} {C_shallower : List Int32} {C_length : Int32} {C_goal : Int32} {W_row : List Int32} {W_walkers : Int32} {W_names : Int32} {W_wanted : List Int32} {W_shown : List Int32} {W_places : List Int32} {W_rest : List Int32} {W_spent : List Int32} {W_tried : List Int32} {U_undoRows : List Int64} {U_markScenes : List Int64} {U_marksLaid : List Int32} {U_undoCount : Int32} {U_undoEnd : Int32} {q_sortNames : List Int64} {q_sortCount : Int32} {q_colourNames : List Int64} {q_colourSorts : List Int32} {q_colourCount : Int32} {q_ruleMakes : List Int32} {q_ruleFirsts : List Int32} {q_ruleSeconds : List Int32} {q_ruleCount : Int32} {q_saysSort : Int32} {q_walkerNames : List Int64} {q_kinds : List Int32} {q_walkerColours : List Int32} {q_starts : List Int32} {q_stepRows : List Int32} {q_stepCounts : List Int32} {q_walkerCount : Int32} {q_gusts : List Int32} {q_gustCount : Int32} {q_parts : List Int32} {q_count : Int32} {q_stack : List Int32} {q_height : Int32} {q1_sortNames : List Int64} {q1_sortCount : Int32} {q1_colourNames : List Int64} {q1_colourSorts : List Int32} {q1_colourCount : Int32} {q1_ruleMakes : List Int32} {q1_ruleFirsts : List Int32} {q1_ruleSeconds : List Int32} {q1_ruleCount : Int32} {q1_saysSort : Int32} {q1_walkerNames : List Int64} {q1_kinds : List Int32} {q1_walkerColours : List Int32} {q1_starts : List Int32} {q1_stepRows : List Int32} {q1_stepCounts : List Int32} {q1_walkerCount : Int32} {q1_gusts : List Int32} {q1_gustCount : Int32} {q1_parts : List Int32} {q1_count : Int32} {q1_stack : List Int32} {q1_height : Int32} {B0_lines : List Int32} {B0_lineCount : Int32} {B0_wishes : List Int32} {B0_wishCount : Int32} {B0_sights : List Int32} {B0_sightCount : Int32} {B1_lines : List Int32} {B1_lineCount : Int32} {B1_wishes : List Int32} {B1_wishCount : Int32} {B1_sights : List Int32} {B1_sightCount : Int32} {B2_lines : List Int32} {B2_lineCount : Int32} {B2_wishes : List Int32} {B2_wishCount : Int32} {B2_sights : List Int32} {B2_sightCount : Int32} {B3_lines : List Int32} {B3_lineCount : Int32} {B3_wishes : List Int32} {B3_wishCount : Int32} {B3_sights : List Int32} {B3_sightCount : Int32}
variable {d : Nat} {Q : Option Value → mm_H → Prop} {s : SQ} {c : SC} {nm : NMs} {b : BK} {us : List SC} {mk : Nat → Option (SC × BK)}
def BKl (K : px_K) : Prop := (K.1).length = 40 ∧ (K.2.2.1).length = 7 ∧ (K.2.2.2.2.1).length = 8
theorem BKx_l (h : BKx b K) : BKl K := ⟨h.1.1, h.2.1.1, h.2.2.1⟩
def MK1 (s : SQ) (o : Option (SC × BK)) (k : Nat) (U : px_U) (K : px_K) : Prop := BKl K ∧ (U.2.2.1)[k]? = some (if o.isSome = true then 1 else 0) ∧ ∀ c b, o = some (c, b) → c_ok s c ∧ b_ok s b ∧ BKx b K ∧ ∃ r, (U.2.1)[k]? = some r ∧ RWx s r c
def MKx (s : SQ) (mk : Nat → Option (SC × BK)) (U : px_U) (B0 B1 B2 B3 : px_K) : Prop := (U.2.1).length = 4 ∧ (U.2.2.1).length = 4 ∧ MK1 s (mk 0) 0 U B0 ∧ MK1 s (mk 1) 1 U B1 ∧ MK1 s (mk 2) 2 U B2 ∧ MK1 s (mk 3) 3 U B3
/-- other marks stay -/
theorem MK1_ne {o : Option (SC × BK)} {j k : Nat} {U' : px_U} {r : Int64} {x : Int32} (h : MK1 s o j U K) (hj : ¬ k = j) (e1 : U'.2.1 = (U.2.1).set k r) (e2 : U'.2.2.1 = (U.2.2.1).set k x) : MK1 s o j U' K := by
  obtain ⟨h1, h2, h3⟩ := h
  refine ⟨h1, by rw [e2, List.getElem?_set_ne hj]; exact h2, fun c b ho => ?_⟩
  obtain ⟨a1, a2, a3, r', a4, a5⟩ := h3 c b ho
  exact ⟨a1, a2, a3, r', by rw [e1, List.getElem?_set_ne hj]; exact a4, a5⟩
theorem MK1_eq {k : Nat} {U' : px_U} {r : Int64} (hc : c_ok s c) (hb : b_ok s b) (hB : BKx b K) (hr : RWx s r c) (h1 : k < (U.2.1).length) (h2 : k < (U.2.2.1).length) (e1 : U'.2.1 = (U.2.1).set k r) (e2 : U'.2.2.1 = (U.2.2.1).set k 1) : MK1 s (some (c, b)) k U' K :=
  ⟨BKx_l hB, by rw [e2, List.getElem?_set_self h2]; rfl, fun c' b' h => by cases h; exact ⟨hc, hb, hB, r, by rw [e1, List.getElem?_set_self h1], hr⟩⟩
/-- only the undo part changed -/
theorem MK1_u {o : Option (SC × BK)} {j : Nat} {U' : px_U} (h : MK1 s o j U K) (e1 : U'.2.1 = U.2.1) (e2 : U'.2.2.1 = U.2.2.1) : MK1 s o j U' K := by
  unfold MK1; rw [e1, e2]; exact h
theorem MKx_u {U' : px_U} (h : MKx s mk U B0 B1 B2 B3) (e1 : U'.2.1 = U.2.1) (e2 : U'.2.2.1 = U.2.2.1) : MKx s mk U' B0 B1 B2 B3 := by
  obtain ⟨h1, h2, h3, h4, h5, h6⟩ := h
  exact ⟨by rw [e1]; exact h1, by rw [e2]; exact h2, MK1_u h3 e1 e2, MK1_u h4 e1 e2, MK1_u h5 e1 e2, MK1_u h6 e1 e2⟩
theorem xA_97 : ((px_h z E M (px_l sw c2 w2 T D S S1 K R C W U q q1 B0 B1 B2 B3))).2.2 97 = mm_O 1003 [.ref 133, .ref 137, .ref 141, .ref 145] := px_at (i := 38) (by decide) rfl
theorem xA_0 : mm_gA mp_ra (px_h z E M (px_l sw c2 w2 T D S S1 K R C W U q q1 B0 B1 B2 B3)) 97 (nI 0) = some (.ref 133) := by unfold mm_gA; rw [xA_97]; rfl
theorem xA_1 : mm_gA mp_ra (px_h z E M (px_l sw c2 w2 T D S S1 K R C W U q q1 B0 B1 B2 B3)) 97 (nI 1) = some (.ref 137) := by unfold mm_gA; rw [xA_97]; rfl
theorem xA_2 : mm_gA mp_ra (px_h z E M (px_l sw c2 w2 T D S S1 K R C W U q q1 B0 B1 B2 B3)) 97 (nI 2) = some (.ref 141) := by unfold mm_gA; rw [xA_97]; rfl
theorem xA_3 : mm_gA mp_ra (px_h z E M (px_l sw c2 w2 T D S S1 K R C W U q q1 B0 B1 B2 B3)) 97 (nI 3) = some (.ref 145) := by unfold mm_gA; rw [xA_97]; rfl
theorem t_bcopyK_B0 (h1 : (K.1).length = 40) (h2 : (K.2.2.1).length = 7) (h3 : (K.2.2.2.2.1).length = 8) (g1 : (B0.1).length = 40) (g2 : (B0.2.2.1).length = 7) (g3 : (B0.2.2.2.2.1).length = 8) (hq : Q none (px_h z E M (px_l sw c2 w2 T D S S1 (B0) R C W U q q1 B0 B1 B2 B3))) : wm (mp_P fx) (d + 1) 203 [.ref 71, .ref 133] (px_h z E M (px_l sw c2 w2 T D S S1 K R C W U q q1 B0 B1 B2 B3)) Q := by
  have c1 : mm_cpy (px_h z E M (px_l sw c2 w2 T D S S1 K R C W U q q1 B0 B1 B2 B3)) 134 0 72 0 40 = some (px_h z E M (px_l sw c2 w2 T D S S1 (((B0.1).take 40, K.2.1, K.2.2.1, K.2.2.2.1, K.2.2.2.2.1, K.2.2.2.2.2)) R C W U q q1 B0 B1 B2 B3)) := cpy_x (n := 40) pk_B0_lines pk_K_lines h1 (by omega) (by omega) (px_set (i := 13) (by decide) px_ll)
  have c2' : mm_cpy (px_h z E M (px_l sw c2 w2 T D S S1 ((B0.1, B0.2.1, K.2.2.1, K.2.2.2.1, K.2.2.2.2.1, K.2.2.2.2.2)) R C W U q q1 B0 B1 B2 B3)) 135 0 73 0 7 = some (px_h z E M (px_l sw c2 w2 T D S S1 ((B0.1, B0.2.1, (B0.2.2.1).take 7, K.2.2.2.1, K.2.2.2.2.1, K.2.2.2.2.2)) R C W U q q1 B0 B1 B2 B3)) := cpy_x (n := 7) pk_B0_wishes pk_K_wishes h2 (by omega) (by omega) (px_set (i := 14) (by decide) px_ll)
  have c3 : mm_cpy (px_h z E M (px_l sw c2 w2 T D S S1 ((B0.1, B0.2.1, B0.2.2.1, B0.2.2.2.1, K.2.2.2.2.1, K.2.2.2.2.2)) R C W U q q1 B0 B1 B2 B3)) 136 0 74 0 8 = some (px_h z E M (px_l sw c2 w2 T D S S1 ((B0.1, B0.2.1, B0.2.2.1, B0.2.2.2.1, (B0.2.2.2.2.1).take 8, K.2.2.2.2.2)) R C W U q q1 B0 B1 B2 B3)) := cpy_x (n := 8) pk_B0_sights pk_K_sights h3 (by omega) (by omega) (px_set (i := 15) (by decide) px_ll)
  rw [List.take_of_length_le (by omega)] at c1 c2' c3
  simp only [e203, q203_0, q203_1, q203_2, q203_5, q203_6, q203_9, q203_12, q203_13, q203_14, q203_17, q203_18, q203_21, q203_24, q203_25, q203_28, q203_29, q203_30, q203_33, q203_34, q203_36, q203_39, q203_40, q203_41, q203_44, q203_47, e100, q100_0, q100_1, q100_2, q100_3, q100_6, q100_7, q100_9, q100_12, q100_13, q100_14, q100_17, e103, q103_0, q103_1, q103_2, q103_3, q103_6, q103_7, q103_9, q103_12, q103_13, q103_14, q103_17, xc_K, xg_K_0, xg_K_1, xs_K_1, xg_K_2, xg_K_3, xs_K_3, xg_K_4, xg_K_5, xs_K_5, xa_K_lines, xb_K_lines, xn_K_lines, xa_K_wishes, xb_K_wishes, xn_K_wishes, xa_K_sights, xb_K_sights, xn_K_sights, xc_B0, xg_B0_0, xg_B0_1, xs_B0_1, xg_B0_2, xg_B0_3, xs_B0_3, xg_B0_4, xg_B0_5, xs_B0_5, xa_B0_lines, xb_B0_lines, xn_B0_lines, xa_B0_wishes, xb_B0_wishes, xn_B0_wishes, xa_B0_sights, xb_B0_sights, xn_B0_sights, wx_some, wx_ref, c1, c2', c3, sl_n]
  exact hq
theorem t_bcopyB0_K (h1 : (B0.1).length = 40) (h2 : (B0.2.2.1).length = 7) (h3 : (B0.2.2.2.2.1).length = 8) (g1 : (K.1).length = 40) (g2 : (K.2.2.1).length = 7) (g3 : (K.2.2.2.2.1).length = 8) (hq : Q none (px_h z E M (px_l sw c2 w2 T D S S1 K R C W U q q1 (K) B1 B2 B3))) : wm (mp_P fx) (d + 1) 203 [.ref 133, .ref 71] (px_h z E M (px_l sw c2 w2 T D S S1 K R C W U q q1 B0 B1 B2 B3)) Q := by
  have c1 : mm_cpy (px_h z E M (px_l sw c2 w2 T D S S1 K R C W U q q1 B0 B1 B2 B3)) 72 0 134 0 40 = some (px_h z E M (px_l sw c2 w2 T D S S1 K R C W U q q1 (((K.1).take 40, B0.2.1, B0.2.2.1, B0.2.2.2.1, B0.2.2.2.2.1, B0.2.2.2.2.2)) B1 B2 B3)) := cpy_x (n := 40) pk_K_lines pk_B0_lines h1 (by omega) (by omega) (px_set (i := 75) (by decide) px_ll)
  have c2' : mm_cpy (px_h z E M (px_l sw c2 w2 T D S S1 K R C W U q q1 ((K.1, K.2.1, B0.2.2.1, B0.2.2.2.1, B0.2.2.2.2.1, B0.2.2.2.2.2)) B1 B2 B3)) 73 0 135 0 7 = some (px_h z E M (px_l sw c2 w2 T D S S1 K R C W U q q1 ((K.1, K.2.1, (K.2.2.1).take 7, B0.2.2.2.1, B0.2.2.2.2.1, B0.2.2.2.2.2)) B1 B2 B3)) := cpy_x (n := 7) pk_K_wishes pk_B0_wishes h2 (by omega) (by omega) (px_set (i := 76) (by decide) px_ll)
  have c3 : mm_cpy (px_h z E M (px_l sw c2 w2 T D S S1 K R C W U q q1 ((K.1, K.2.1, K.2.2.1, K.2.2.2.1, B0.2.2.2.2.1, B0.2.2.2.2.2)) B1 B2 B3)) 74 0 136 0 8 = some (px_h z E M (px_l sw c2 w2 T D S S1 K R C W U q q1 ((K.1, K.2.1, K.2.2.1, K.2.2.2.1, (K.2.2.2.2.1).take 8, B0.2.2.2.2.2)) B1 B2 B3)) := cpy_x (n := 8) pk_K_sights pk_B0_sights h3 (by omega) (by omega) (px_set (i := 77) (by decide) px_ll)
  rw [List.take_of_length_le (by omega)] at c1 c2' c3
  simp only [e203, q203_0, q203_1, q203_2, q203_5, q203_6, q203_9, q203_12, q203_13, q203_14, q203_17, q203_18, q203_21, q203_24, q203_25, q203_28, q203_29, q203_30, q203_33, q203_34, q203_36, q203_39, q203_40, q203_41, q203_44, q203_47, e100, q100_0, q100_1, q100_2, q100_3, q100_6, q100_7, q100_9, q100_12, q100_13, q100_14, q100_17, e103, q103_0, q103_1, q103_2, q103_3, q103_6, q103_7, q103_9, q103_12, q103_13, q103_14, q103_17, xc_B0, xg_B0_0, xg_B0_1, xs_B0_1, xg_B0_2, xg_B0_3, xs_B0_3, xg_B0_4, xg_B0_5, xs_B0_5, xa_B0_lines, xb_B0_lines, xn_B0_lines, xa_B0_wishes, xb_B0_wishes, xn_B0_wishes, xa_B0_sights, xb_B0_sights, xn_B0_sights, xc_K, xg_K_0, xg_K_1, xs_K_1, xg_K_2, xg_K_3, xs_K_3, xg_K_4, xg_K_5, xs_K_5, xa_K_lines, xb_K_lines, xn_K_lines, xa_K_wishes, xb_K_wishes, xn_K_wishes, xa_K_sights, xb_K_sights, xn_K_sights, wx_some, wx_ref, c1, c2', c3, sl_n]
  exact hq
theorem t_bcopyK_B1 (h1 : (K.1).length = 40) (h2 : (K.2.2.1).length = 7) (h3 : (K.2.2.2.2.1).length = 8) (g1 : (B1.1).length = 40) (g2 : (B1.2.2.1).length = 7) (g3 : (B1.2.2.2.2.1).length = 8) (hq : Q none (px_h z E M (px_l sw c2 w2 T D S S1 (B1) R C W U q q1 B0 B1 B2 B3))) : wm (mp_P fx) (d + 1) 203 [.ref 71, .ref 137] (px_h z E M (px_l sw c2 w2 T D S S1 K R C W U q q1 B0 B1 B2 B3)) Q := by
  have c1 : mm_cpy (px_h z E M (px_l sw c2 w2 T D S S1 K R C W U q q1 B0 B1 B2 B3)) 138 0 72 0 40 = some (px_h z E M (px_l sw c2 w2 T D S S1 (((B1.1).take 40, K.2.1, K.2.2.1, K.2.2.2.1, K.2.2.2.2.1, K.2.2.2.2.2)) R C W U q q1 B0 B1 B2 B3)) := cpy_x (n := 40) pk_B1_lines pk_K_lines h1 (by omega) (by omega) (px_set (i := 13) (by decide) px_ll)
  have c2' : mm_cpy (px_h z E M (px_l sw c2 w2 T D S S1 ((B1.1, B1.2.1, K.2.2.1, K.2.2.2.1, K.2.2.2.2.1, K.2.2.2.2.2)) R C W U q q1 B0 B1 B2 B3)) 139 0 73 0 7 = some (px_h z E M (px_l sw c2 w2 T D S S1 ((B1.1, B1.2.1, (B1.2.2.1).take 7, K.2.2.2.1, K.2.2.2.2.1, K.2.2.2.2.2)) R C W U q q1 B0 B1 B2 B3)) := cpy_x (n := 7) pk_B1_wishes pk_K_wishes h2 (by omega) (by omega) (px_set (i := 14) (by decide) px_ll)
  have c3 : mm_cpy (px_h z E M (px_l sw c2 w2 T D S S1 ((B1.1, B1.2.1, B1.2.2.1, B1.2.2.2.1, K.2.2.2.2.1, K.2.2.2.2.2)) R C W U q q1 B0 B1 B2 B3)) 140 0 74 0 8 = some (px_h z E M (px_l sw c2 w2 T D S S1 ((B1.1, B1.2.1, B1.2.2.1, B1.2.2.2.1, (B1.2.2.2.2.1).take 8, K.2.2.2.2.2)) R C W U q q1 B0 B1 B2 B3)) := cpy_x (n := 8) pk_B1_sights pk_K_sights h3 (by omega) (by omega) (px_set (i := 15) (by decide) px_ll)
  rw [List.take_of_length_le (by omega)] at c1 c2' c3
  simp only [e203, q203_0, q203_1, q203_2, q203_5, q203_6, q203_9, q203_12, q203_13, q203_14, q203_17, q203_18, q203_21, q203_24, q203_25, q203_28, q203_29, q203_30, q203_33, q203_34, q203_36, q203_39, q203_40, q203_41, q203_44, q203_47, e100, q100_0, q100_1, q100_2, q100_3, q100_6, q100_7, q100_9, q100_12, q100_13, q100_14, q100_17, e103, q103_0, q103_1, q103_2, q103_3, q103_6, q103_7, q103_9, q103_12, q103_13, q103_14, q103_17, xc_K, xg_K_0, xg_K_1, xs_K_1, xg_K_2, xg_K_3, xs_K_3, xg_K_4, xg_K_5, xs_K_5, xa_K_lines, xb_K_lines, xn_K_lines, xa_K_wishes, xb_K_wishes, xn_K_wishes, xa_K_sights, xb_K_sights, xn_K_sights, xc_B1, xg_B1_0, xg_B1_1, xs_B1_1, xg_B1_2, xg_B1_3, xs_B1_3, xg_B1_4, xg_B1_5, xs_B1_5, xa_B1_lines, xb_B1_lines, xn_B1_lines, xa_B1_wishes, xb_B1_wishes, xn_B1_wishes, xa_B1_sights, xb_B1_sights, xn_B1_sights, wx_some, wx_ref, c1, c2', c3, sl_n]
  exact hq
theorem t_bcopyB1_K (h1 : (B1.1).length = 40) (h2 : (B1.2.2.1).length = 7) (h3 : (B1.2.2.2.2.1).length = 8) (g1 : (K.1).length = 40) (g2 : (K.2.2.1).length = 7) (g3 : (K.2.2.2.2.1).length = 8) (hq : Q none (px_h z E M (px_l sw c2 w2 T D S S1 K R C W U q q1 B0 (K) B2 B3))) : wm (mp_P fx) (d + 1) 203 [.ref 137, .ref 71] (px_h z E M (px_l sw c2 w2 T D S S1 K R C W U q q1 B0 B1 B2 B3)) Q := by
  have c1 : mm_cpy (px_h z E M (px_l sw c2 w2 T D S S1 K R C W U q q1 B0 B1 B2 B3)) 72 0 138 0 40 = some (px_h z E M (px_l sw c2 w2 T D S S1 K R C W U q q1 B0 (((K.1).take 40, B1.2.1, B1.2.2.1, B1.2.2.2.1, B1.2.2.2.2.1, B1.2.2.2.2.2)) B2 B3)) := cpy_x (n := 40) pk_K_lines pk_B1_lines h1 (by omega) (by omega) (px_set (i := 79) (by decide) px_ll)
  have c2' : mm_cpy (px_h z E M (px_l sw c2 w2 T D S S1 K R C W U q q1 B0 ((K.1, K.2.1, B1.2.2.1, B1.2.2.2.1, B1.2.2.2.2.1, B1.2.2.2.2.2)) B2 B3)) 73 0 139 0 7 = some (px_h z E M (px_l sw c2 w2 T D S S1 K R C W U q q1 B0 ((K.1, K.2.1, (K.2.2.1).take 7, B1.2.2.2.1, B1.2.2.2.2.1, B1.2.2.2.2.2)) B2 B3)) := cpy_x (n := 7) pk_K_wishes pk_B1_wishes h2 (by omega) (by omega) (px_set (i := 80) (by decide) px_ll)
  have c3 : mm_cpy (px_h z E M (px_l sw c2 w2 T D S S1 K R C W U q q1 B0 ((K.1, K.2.1, K.2.2.1, K.2.2.2.1, B1.2.2.2.2.1, B1.2.2.2.2.2)) B2 B3)) 74 0 140 0 8 = some (px_h z E M (px_l sw c2 w2 T D S S1 K R C W U q q1 B0 ((K.1, K.2.1, K.2.2.1, K.2.2.2.1, (K.2.2.2.2.1).take 8, B1.2.2.2.2.2)) B2 B3)) := cpy_x (n := 8) pk_K_sights pk_B1_sights h3 (by omega) (by omega) (px_set (i := 81) (by decide) px_ll)
  rw [List.take_of_length_le (by omega)] at c1 c2' c3
  simp only [e203, q203_0, q203_1, q203_2, q203_5, q203_6, q203_9, q203_12, q203_13, q203_14, q203_17, q203_18, q203_21, q203_24, q203_25, q203_28, q203_29, q203_30, q203_33, q203_34, q203_36, q203_39, q203_40, q203_41, q203_44, q203_47, e100, q100_0, q100_1, q100_2, q100_3, q100_6, q100_7, q100_9, q100_12, q100_13, q100_14, q100_17, e103, q103_0, q103_1, q103_2, q103_3, q103_6, q103_7, q103_9, q103_12, q103_13, q103_14, q103_17, xc_B1, xg_B1_0, xg_B1_1, xs_B1_1, xg_B1_2, xg_B1_3, xs_B1_3, xg_B1_4, xg_B1_5, xs_B1_5, xa_B1_lines, xb_B1_lines, xn_B1_lines, xa_B1_wishes, xb_B1_wishes, xn_B1_wishes, xa_B1_sights, xb_B1_sights, xn_B1_sights, xc_K, xg_K_0, xg_K_1, xs_K_1, xg_K_2, xg_K_3, xs_K_3, xg_K_4, xg_K_5, xs_K_5, xa_K_lines, xb_K_lines, xn_K_lines, xa_K_wishes, xb_K_wishes, xn_K_wishes, xa_K_sights, xb_K_sights, xn_K_sights, wx_some, wx_ref, c1, c2', c3, sl_n]
  exact hq
theorem t_bcopyK_B2 (h1 : (K.1).length = 40) (h2 : (K.2.2.1).length = 7) (h3 : (K.2.2.2.2.1).length = 8) (g1 : (B2.1).length = 40) (g2 : (B2.2.2.1).length = 7) (g3 : (B2.2.2.2.2.1).length = 8) (hq : Q none (px_h z E M (px_l sw c2 w2 T D S S1 (B2) R C W U q q1 B0 B1 B2 B3))) : wm (mp_P fx) (d + 1) 203 [.ref 71, .ref 141] (px_h z E M (px_l sw c2 w2 T D S S1 K R C W U q q1 B0 B1 B2 B3)) Q := by
  have c1 : mm_cpy (px_h z E M (px_l sw c2 w2 T D S S1 K R C W U q q1 B0 B1 B2 B3)) 142 0 72 0 40 = some (px_h z E M (px_l sw c2 w2 T D S S1 (((B2.1).take 40, K.2.1, K.2.2.1, K.2.2.2.1, K.2.2.2.2.1, K.2.2.2.2.2)) R C W U q q1 B0 B1 B2 B3)) := cpy_x (n := 40) pk_B2_lines pk_K_lines h1 (by omega) (by omega) (px_set (i := 13) (by decide) px_ll)
  have c2' : mm_cpy (px_h z E M (px_l sw c2 w2 T D S S1 ((B2.1, B2.2.1, K.2.2.1, K.2.2.2.1, K.2.2.2.2.1, K.2.2.2.2.2)) R C W U q q1 B0 B1 B2 B3)) 143 0 73 0 7 = some (px_h z E M (px_l sw c2 w2 T D S S1 ((B2.1, B2.2.1, (B2.2.2.1).take 7, K.2.2.2.1, K.2.2.2.2.1, K.2.2.2.2.2)) R C W U q q1 B0 B1 B2 B3)) := cpy_x (n := 7) pk_B2_wishes pk_K_wishes h2 (by omega) (by omega) (px_set (i := 14) (by decide) px_ll)
  have c3 : mm_cpy (px_h z E M (px_l sw c2 w2 T D S S1 ((B2.1, B2.2.1, B2.2.2.1, B2.2.2.2.1, K.2.2.2.2.1, K.2.2.2.2.2)) R C W U q q1 B0 B1 B2 B3)) 144 0 74 0 8 = some (px_h z E M (px_l sw c2 w2 T D S S1 ((B2.1, B2.2.1, B2.2.2.1, B2.2.2.2.1, (B2.2.2.2.2.1).take 8, K.2.2.2.2.2)) R C W U q q1 B0 B1 B2 B3)) := cpy_x (n := 8) pk_B2_sights pk_K_sights h3 (by omega) (by omega) (px_set (i := 15) (by decide) px_ll)
  rw [List.take_of_length_le (by omega)] at c1 c2' c3
  simp only [e203, q203_0, q203_1, q203_2, q203_5, q203_6, q203_9, q203_12, q203_13, q203_14, q203_17, q203_18, q203_21, q203_24, q203_25, q203_28, q203_29, q203_30, q203_33, q203_34, q203_36, q203_39, q203_40, q203_41, q203_44, q203_47, e100, q100_0, q100_1, q100_2, q100_3, q100_6, q100_7, q100_9, q100_12, q100_13, q100_14, q100_17, e103, q103_0, q103_1, q103_2, q103_3, q103_6, q103_7, q103_9, q103_12, q103_13, q103_14, q103_17, xc_K, xg_K_0, xg_K_1, xs_K_1, xg_K_2, xg_K_3, xs_K_3, xg_K_4, xg_K_5, xs_K_5, xa_K_lines, xb_K_lines, xn_K_lines, xa_K_wishes, xb_K_wishes, xn_K_wishes, xa_K_sights, xb_K_sights, xn_K_sights, xc_B2, xg_B2_0, xg_B2_1, xs_B2_1, xg_B2_2, xg_B2_3, xs_B2_3, xg_B2_4, xg_B2_5, xs_B2_5, xa_B2_lines, xb_B2_lines, xn_B2_lines, xa_B2_wishes, xb_B2_wishes, xn_B2_wishes, xa_B2_sights, xb_B2_sights, xn_B2_sights, wx_some, wx_ref, c1, c2', c3, sl_n]
  exact hq
theorem t_bcopyB2_K (h1 : (B2.1).length = 40) (h2 : (B2.2.2.1).length = 7) (h3 : (B2.2.2.2.2.1).length = 8) (g1 : (K.1).length = 40) (g2 : (K.2.2.1).length = 7) (g3 : (K.2.2.2.2.1).length = 8) (hq : Q none (px_h z E M (px_l sw c2 w2 T D S S1 K R C W U q q1 B0 B1 (K) B3))) : wm (mp_P fx) (d + 1) 203 [.ref 141, .ref 71] (px_h z E M (px_l sw c2 w2 T D S S1 K R C W U q q1 B0 B1 B2 B3)) Q := by
  have c1 : mm_cpy (px_h z E M (px_l sw c2 w2 T D S S1 K R C W U q q1 B0 B1 B2 B3)) 72 0 142 0 40 = some (px_h z E M (px_l sw c2 w2 T D S S1 K R C W U q q1 B0 B1 (((K.1).take 40, B2.2.1, B2.2.2.1, B2.2.2.2.1, B2.2.2.2.2.1, B2.2.2.2.2.2)) B3)) := cpy_x (n := 40) pk_K_lines pk_B2_lines h1 (by omega) (by omega) (px_set (i := 83) (by decide) px_ll)
  have c2' : mm_cpy (px_h z E M (px_l sw c2 w2 T D S S1 K R C W U q q1 B0 B1 ((K.1, K.2.1, B2.2.2.1, B2.2.2.2.1, B2.2.2.2.2.1, B2.2.2.2.2.2)) B3)) 73 0 143 0 7 = some (px_h z E M (px_l sw c2 w2 T D S S1 K R C W U q q1 B0 B1 ((K.1, K.2.1, (K.2.2.1).take 7, B2.2.2.2.1, B2.2.2.2.2.1, B2.2.2.2.2.2)) B3)) := cpy_x (n := 7) pk_K_wishes pk_B2_wishes h2 (by omega) (by omega) (px_set (i := 84) (by decide) px_ll)
  have c3 : mm_cpy (px_h z E M (px_l sw c2 w2 T D S S1 K R C W U q q1 B0 B1 ((K.1, K.2.1, K.2.2.1, K.2.2.2.1, B2.2.2.2.2.1, B2.2.2.2.2.2)) B3)) 74 0 144 0 8 = some (px_h z E M (px_l sw c2 w2 T D S S1 K R C W U q q1 B0 B1 ((K.1, K.2.1, K.2.2.1, K.2.2.2.1, (K.2.2.2.2.1).take 8, B2.2.2.2.2.2)) B3)) := cpy_x (n := 8) pk_K_sights pk_B2_sights h3 (by omega) (by omega) (px_set (i := 85) (by decide) px_ll)
  rw [List.take_of_length_le (by omega)] at c1 c2' c3
  simp only [e203, q203_0, q203_1, q203_2, q203_5, q203_6, q203_9, q203_12, q203_13, q203_14, q203_17, q203_18, q203_21, q203_24, q203_25, q203_28, q203_29, q203_30, q203_33, q203_34, q203_36, q203_39, q203_40, q203_41, q203_44, q203_47, e100, q100_0, q100_1, q100_2, q100_3, q100_6, q100_7, q100_9, q100_12, q100_13, q100_14, q100_17, e103, q103_0, q103_1, q103_2, q103_3, q103_6, q103_7, q103_9, q103_12, q103_13, q103_14, q103_17, xc_B2, xg_B2_0, xg_B2_1, xs_B2_1, xg_B2_2, xg_B2_3, xs_B2_3, xg_B2_4, xg_B2_5, xs_B2_5, xa_B2_lines, xb_B2_lines, xn_B2_lines, xa_B2_wishes, xb_B2_wishes, xn_B2_wishes, xa_B2_sights, xb_B2_sights, xn_B2_sights, xc_K, xg_K_0, xg_K_1, xs_K_1, xg_K_2, xg_K_3, xs_K_3, xg_K_4, xg_K_5, xs_K_5, xa_K_lines, xb_K_lines, xn_K_lines, xa_K_wishes, xb_K_wishes, xn_K_wishes, xa_K_sights, xb_K_sights, xn_K_sights, wx_some, wx_ref, c1, c2', c3, sl_n]
  exact hq
theorem t_bcopyK_B3 (h1 : (K.1).length = 40) (h2 : (K.2.2.1).length = 7) (h3 : (K.2.2.2.2.1).length = 8) (g1 : (B3.1).length = 40) (g2 : (B3.2.2.1).length = 7) (g3 : (B3.2.2.2.2.1).length = 8) (hq : Q none (px_h z E M (px_l sw c2 w2 T D S S1 (B3) R C W U q q1 B0 B1 B2 B3))) : wm (mp_P fx) (d + 1) 203 [.ref 71, .ref 145] (px_h z E M (px_l sw c2 w2 T D S S1 K R C W U q q1 B0 B1 B2 B3)) Q := by
  have c1 : mm_cpy (px_h z E M (px_l sw c2 w2 T D S S1 K R C W U q q1 B0 B1 B2 B3)) 146 0 72 0 40 = some (px_h z E M (px_l sw c2 w2 T D S S1 (((B3.1).take 40, K.2.1, K.2.2.1, K.2.2.2.1, K.2.2.2.2.1, K.2.2.2.2.2)) R C W U q q1 B0 B1 B2 B3)) := cpy_x (n := 40) pk_B3_lines pk_K_lines h1 (by omega) (by omega) (px_set (i := 13) (by decide) px_ll)
  have c2' : mm_cpy (px_h z E M (px_l sw c2 w2 T D S S1 ((B3.1, B3.2.1, K.2.2.1, K.2.2.2.1, K.2.2.2.2.1, K.2.2.2.2.2)) R C W U q q1 B0 B1 B2 B3)) 147 0 73 0 7 = some (px_h z E M (px_l sw c2 w2 T D S S1 ((B3.1, B3.2.1, (B3.2.2.1).take 7, K.2.2.2.1, K.2.2.2.2.1, K.2.2.2.2.2)) R C W U q q1 B0 B1 B2 B3)) := cpy_x (n := 7) pk_B3_wishes pk_K_wishes h2 (by omega) (by omega) (px_set (i := 14) (by decide) px_ll)
  have c3 : mm_cpy (px_h z E M (px_l sw c2 w2 T D S S1 ((B3.1, B3.2.1, B3.2.2.1, B3.2.2.2.1, K.2.2.2.2.1, K.2.2.2.2.2)) R C W U q q1 B0 B1 B2 B3)) 148 0 74 0 8 = some (px_h z E M (px_l sw c2 w2 T D S S1 ((B3.1, B3.2.1, B3.2.2.1, B3.2.2.2.1, (B3.2.2.2.2.1).take 8, K.2.2.2.2.2)) R C W U q q1 B0 B1 B2 B3)) := cpy_x (n := 8) pk_B3_sights pk_K_sights h3 (by omega) (by omega) (px_set (i := 15) (by decide) px_ll)
  rw [List.take_of_length_le (by omega)] at c1 c2' c3
  simp only [e203, q203_0, q203_1, q203_2, q203_5, q203_6, q203_9, q203_12, q203_13, q203_14, q203_17, q203_18, q203_21, q203_24, q203_25, q203_28, q203_29, q203_30, q203_33, q203_34, q203_36, q203_39, q203_40, q203_41, q203_44, q203_47, e100, q100_0, q100_1, q100_2, q100_3, q100_6, q100_7, q100_9, q100_12, q100_13, q100_14, q100_17, e103, q103_0, q103_1, q103_2, q103_3, q103_6, q103_7, q103_9, q103_12, q103_13, q103_14, q103_17, xc_K, xg_K_0, xg_K_1, xs_K_1, xg_K_2, xg_K_3, xs_K_3, xg_K_4, xg_K_5, xs_K_5, xa_K_lines, xb_K_lines, xn_K_lines, xa_K_wishes, xb_K_wishes, xn_K_wishes, xa_K_sights, xb_K_sights, xn_K_sights, xc_B3, xg_B3_0, xg_B3_1, xs_B3_1, xg_B3_2, xg_B3_3, xs_B3_3, xg_B3_4, xg_B3_5, xs_B3_5, xa_B3_lines, xb_B3_lines, xn_B3_lines, xa_B3_wishes, xb_B3_wishes, xn_B3_wishes, xa_B3_sights, xb_B3_sights, xn_B3_sights, wx_some, wx_ref, c1, c2', c3, sl_n]
  exact hq
theorem t_bcopyB3_K (h1 : (B3.1).length = 40) (h2 : (B3.2.2.1).length = 7) (h3 : (B3.2.2.2.2.1).length = 8) (g1 : (K.1).length = 40) (g2 : (K.2.2.1).length = 7) (g3 : (K.2.2.2.2.1).length = 8) (hq : Q none (px_h z E M (px_l sw c2 w2 T D S S1 K R C W U q q1 B0 B1 B2 (K)))) : wm (mp_P fx) (d + 1) 203 [.ref 145, .ref 71] (px_h z E M (px_l sw c2 w2 T D S S1 K R C W U q q1 B0 B1 B2 B3)) Q := by
  have c1 : mm_cpy (px_h z E M (px_l sw c2 w2 T D S S1 K R C W U q q1 B0 B1 B2 B3)) 72 0 146 0 40 = some (px_h z E M (px_l sw c2 w2 T D S S1 K R C W U q q1 B0 B1 B2 (((K.1).take 40, B3.2.1, B3.2.2.1, B3.2.2.2.1, B3.2.2.2.2.1, B3.2.2.2.2.2)))) := cpy_x (n := 40) pk_K_lines pk_B3_lines h1 (by omega) (by omega) (px_set (i := 87) (by decide) px_ll)
  have c2' : mm_cpy (px_h z E M (px_l sw c2 w2 T D S S1 K R C W U q q1 B0 B1 B2 ((K.1, K.2.1, B3.2.2.1, B3.2.2.2.1, B3.2.2.2.2.1, B3.2.2.2.2.2)))) 73 0 147 0 7 = some (px_h z E M (px_l sw c2 w2 T D S S1 K R C W U q q1 B0 B1 B2 ((K.1, K.2.1, (K.2.2.1).take 7, B3.2.2.2.1, B3.2.2.2.2.1, B3.2.2.2.2.2)))) := cpy_x (n := 7) pk_K_wishes pk_B3_wishes h2 (by omega) (by omega) (px_set (i := 88) (by decide) px_ll)
  have c3 : mm_cpy (px_h z E M (px_l sw c2 w2 T D S S1 K R C W U q q1 B0 B1 B2 ((K.1, K.2.1, K.2.2.1, K.2.2.2.1, B3.2.2.2.2.1, B3.2.2.2.2.2)))) 74 0 148 0 8 = some (px_h z E M (px_l sw c2 w2 T D S S1 K R C W U q q1 B0 B1 B2 ((K.1, K.2.1, K.2.2.1, K.2.2.2.1, (K.2.2.2.2.1).take 8, B3.2.2.2.2.2)))) := cpy_x (n := 8) pk_K_sights pk_B3_sights h3 (by omega) (by omega) (px_set (i := 89) (by decide) px_ll)
  rw [List.take_of_length_le (by omega)] at c1 c2' c3
  simp only [e203, q203_0, q203_1, q203_2, q203_5, q203_6, q203_9, q203_12, q203_13, q203_14, q203_17, q203_18, q203_21, q203_24, q203_25, q203_28, q203_29, q203_30, q203_33, q203_34, q203_36, q203_39, q203_40, q203_41, q203_44, q203_47, e100, q100_0, q100_1, q100_2, q100_3, q100_6, q100_7, q100_9, q100_12, q100_13, q100_14, q100_17, e103, q103_0, q103_1, q103_2, q103_3, q103_6, q103_7, q103_9, q103_12, q103_13, q103_14, q103_17, xc_B3, xg_B3_0, xg_B3_1, xs_B3_1, xg_B3_2, xg_B3_3, xs_B3_3, xg_B3_4, xg_B3_5, xs_B3_5, xa_B3_lines, xb_B3_lines, xn_B3_lines, xa_B3_wishes, xb_B3_wishes, xn_B3_wishes, xa_B3_sights, xb_B3_sights, xn_B3_sights, xc_K, xg_K_0, xg_K_1, xs_K_1, xg_K_2, xg_K_3, xs_K_3, xg_K_4, xg_K_5, xs_K_5, xa_K_lines, xb_K_lines, xn_K_lines, xa_K_wishes, xb_K_wishes, xn_K_wishes, xa_K_sights, xb_K_sights, xn_K_sights, wx_some, wx_ref, c1, c2', c3, sl_n]
  exact hq
theorem t_mark {v t : Int32} (ht : t = 0 ∨ t = 1) (ho : k_ok s) (hc : c_ok s c) (hS : SCx s S c) (hb : b_ok s b) (hB : BKx b K) (hU : UNx s us U) (hM : MKx s mk U B0 B1 B2 B3) (hq0 : (sx 4 v = none ∨ (t = 1 ∧ ∃ k, sx 4 v = some k ∧ mk k = none)) → Q (some (.int 0)) (px_h z E M (px_l sw c2 w2 T D S S1 K R C W U q q1 B0 B1 B2 B3)))
    (hq1 : ∀ k c1 b1 S' K' U', sx 4 v = some k → t = 1 → mk k = some (c1, b1) → SCx s S' c1 → BKx b1 K' → c_ok s c1 → b_ok s b1 → UNx s [] U' → MKx s mk U' B0 B1 B2 B3 → Q (some (.int 1)) (px_h z E M (px_l sw c2 w2 T D (S') S1 (K') R C W (U') q q1 B0 B1 B2 B3)))
    (hq2 : ∀ k U' B0' B1' B2' B3', sx 4 v = some k → t = 0 → UNx s us U' → MKx s (fun i => if i = k then some (c, b) else mk i) U' B0' B1' B2' B3' → Q (some (.int 1)) (px_h z E M (px_l sw c2 w2 T D S S1 K R C W (U') q q1 (B0') (B1') (B2') (B3')))) : wm (mp_P fx) (d + 2) 202 [.ref 59, .int v, .int t] (px_h z E M (px_l sw c2 w2 T D S S1 K R C W U q q1 B0 B1 B2 B3)) Q := by
  obtain ⟨h1, h2, h3, h4, h5, h6⟩ := id hM
  rcases sx_c 4 v (by omega) with ⟨e, hv⟩ | ⟨k, hk, rfl, e⟩
  · simp only [e202, b202_0, b202_1, bn_0 b202_0, bn_1 b202_1, q202_0, q202_1, q202_4, q202_5, q202_6, q202_9, q202_10, q202_13, q202_14, q202_17, q202_18, q202_19, q202_22, q202_23]
    rcases hv with hv | ⟨hv, hv2⟩
    · rw [if_pos hv]; exact hq0 (Or.inl e)
    · rw [if_neg hv, if_pos (show (4 : Int32) ≤ v from hv2)]; exact hq0 (Or.inl e)
  have hk4 : k = 0 ∨ k = 1 ∨ k = 2 ∨ k = 3 := by omega
  rcases hk4 with h | h | h | h
  · subst h
    obtain ⟨m1, m2, m3⟩ := id h3
    have hml : aG (U.2.2.1) (nI 0) = some (if (mk 0).isSome = true then 1 else 0) := aG_n m2 (by omega)
    have hlay : ww (mp_P fx) (d + 2) 202 61 [some (.ref 59), some (.int (nI 0)), some (.int 0)] [] (px_h z E M (px_l sw c2 w2 T D S S1 K R C W U q q1 B0 B1 B2 B3)) Q ∨ t = 1 := by
      rcases ht with ht | ht
      · refine Or.inl ?_
        simp only [b202_0, b202_1, bn_0 b202_0, bn_1 b202_1, q202_61, q202_62, q202_65, q202_66, q202_67, q202_70, xc_x, xg_x_0, xg_x_1, xg_x_2, xg_x_3, xg_x_4, xg_x_5, xg_x_6, xg_x_7, xg_x_8, xg_x_9, xg_x_10, xg_x_11, xg_x_12, xg_x_13, xg_x_14, xs_x_14, xg_x_15, xs_x_15, xa_U_undoRows, xb_U_undoRows, xn_U_undoRows, xa_U_markScenes, xb_U_markScenes, xn_U_markScenes, xa_U_marksLaid, xb_U_marksLaid, xn_U_marksLaid, xc_S, xg_S_0, xs_S_0, xg_S_1, xs_S_1, xg_S_2, xa_S_places, xb_S_places, xn_S_places, wx_some, wx_ref]
        apply t_packed ho hc hS
        intro r hr
        simp only [sl_i, b202_0, b202_1, bn_0 b202_0, bn_1 b202_1, q202_73, q202_74, q202_75, q202_78, q202_79, q202_80, q202_81, xc_x, xg_x_0, xg_x_1, xg_x_2, xg_x_3, xg_x_4, xg_x_5, xg_x_6, xg_x_7, xg_x_8, xg_x_9, xg_x_10, xg_x_11, xg_x_12, xg_x_13, xg_x_14, xs_x_14, xg_x_15, xs_x_15, xa_U_undoRows, xb_U_undoRows, xn_U_undoRows, xa_U_markScenes, xb_U_markScenes, xn_U_markScenes, xa_U_marksLaid, xb_U_marksLaid, xn_U_marksLaid, wx_some, wx_ref, xA_0, aS_n (show 0 < (U.2.1).length by omega) (show (U.2.1).length < 2 ^ 31 by omega)]
        simp only [b202_0, b202_1, bn_0 b202_0, bn_1 b202_1, q202_84, xc_B0, xg_B0_0, xg_B0_1, xs_B0_1, xg_B0_2, xg_B0_3, xs_B0_3, xg_B0_4, xg_B0_5, xs_B0_5, xa_B0_lines, xb_B0_lines, xn_B0_lines, xa_B0_wishes, xb_B0_wishes, xn_B0_wishes, xa_B0_sights, xb_B0_sights, xn_B0_sights]
        apply t_bcopyB0_K m1.1 m1.2.1 m1.2.2 hB.1.1 hB.2.1.1 hB.2.2.1
        simp only [sl_n, b202_0, b202_1, bn_0 b202_0, bn_1 b202_1, q202_87, q202_88, q202_91, q202_92, q202_93, q202_94, q202_95, xc_x, xg_x_0, xg_x_1, xg_x_2, xg_x_3, xg_x_4, xg_x_5, xg_x_6, xg_x_7, xg_x_8, xg_x_9, xg_x_10, xg_x_11, xg_x_12, xg_x_13, xg_x_14, xs_x_14, xg_x_15, xs_x_15, xa_U_undoRows, xb_U_undoRows, xn_U_undoRows, xa_U_markScenes, xb_U_markScenes, xn_U_markScenes, xa_U_marksLaid, xb_U_marksLaid, xn_U_marksLaid, wx_some, wx_ref, nar_1, aS_n (show 0 < (U.2.2.1).length by omega) (show (U.2.2.1).length < 2 ^ 31 by omega)]
        refine hq2 0 _ K B1 B2 B3 e ht hU ⟨?_, ?_, MK1_eq hc hb hB hr (by omega) (by omega) rfl rfl, MK1_ne h4 (by omega) rfl rfl, MK1_ne h5 (by omega) rfl rfl, MK1_ne h6 (by omega) rfl rfl⟩
        · show ((U.2.1).set 0 r).length = 4; rw [List.length_set]; exact h1
        · show ((U.2.2.1).set 0 1).length = 4; rw [List.length_set]; exact h2
      · exact Or.inr ht
    rcases ht with ht | ht
    · subst ht
      simp only [e202, b202_0, b202_1, bn_0 b202_0, bn_1 b202_1, q202_0, q202_1, q202_4, q202_5, q202_6, q202_9, q202_10, q202_13, q202_14, q202_17, q202_18, q202_19, q202_22, q202_23, q202_24, q202_25, q202_28, q202_29, q202_32, q202_33, q202_36, q202_37, q202_38, q202_41, q202_42, q202_45, q202_46, q202_49, q202_50, q202_51, q202_54, q202_55, q202_58, xc_x, xg_x_0, xg_x_1, xg_x_2, xg_x_3, xg_x_4, xg_x_5, xg_x_6, xg_x_7, xg_x_8, xg_x_9, xg_x_10, xg_x_11, xg_x_12, xg_x_13, xg_x_14, xs_x_14, xg_x_15, xs_x_15, xa_U_undoRows, xb_U_undoRows, xn_U_undoRows, xa_U_markScenes, xb_U_markScenes, xn_U_markScenes, xa_U_marksLaid, xb_U_marksLaid, xn_U_marksLaid, wx_some, wx_ref]
      rw [if_neg (by decide), if_neg (by decide), if_pos (by decide)]
      rw [if_pos (by decide)]
      rcases hlay with h | h
      · exact h
      · exact absurd h (by decide)
    · subst ht
      simp only [e202, b202_0, b202_1, bn_0 b202_0, bn_1 b202_1, q202_0, q202_1, q202_4, q202_5, q202_6, q202_9, q202_10, q202_13, q202_14, q202_17, q202_18, q202_19, q202_22, q202_23, q202_24, q202_25, q202_28, q202_29, q202_32, q202_33, q202_36, q202_37, xc_x, xg_x_0, xg_x_1, xg_x_2, xg_x_3, xg_x_4, xg_x_5, xg_x_6, xg_x_7, xg_x_8, xg_x_9, xg_x_10, xg_x_11, xg_x_12, xg_x_13, xg_x_14, xs_x_14, xg_x_15, xs_x_15, xa_U_undoRows, xb_U_undoRows, xn_U_undoRows, xa_U_markScenes, xb_U_markScenes, xn_U_markScenes, xa_U_marksLaid, xb_U_marksLaid, xn_U_marksLaid, xc_S, xg_S_0, xs_S_0, xg_S_1, xs_S_1, xg_S_2, xa_S_places, xb_S_places, xn_S_places, wx_some, wx_ref, hml]
      rw [if_neg (by decide), if_neg (by decide), if_neg (by decide)]
      cases em : mk 0 with
      | none =>
        rw [if_neg (by decide)]
        exact hq0 (Or.inr ⟨rfl, 0, e, em⟩)
      | some cb =>
        obtain ⟨c1, b1⟩ := cb
        obtain ⟨a1, a2, a3, r, a4, a5⟩ := m3 c1 b1 em
        rw [if_pos (by simp), if_neg (by decide), aG_n a4 (by omega), wx_some]
        simp only [b202_0, b202_1, bn_0 b202_0, bn_1 b202_1, q202_38, xc_S, xg_S_0, xs_S_0, xg_S_1, xs_S_1, xg_S_2, xa_S_places, xb_S_places, xn_S_places]
        apply t_unpack ho a1 a5 hS.2.2.1.1
        intro S' hS'
        simp only [sl_n, b202_0, b202_1, bn_0 b202_0, bn_1 b202_1, q202_41, q202_42, q202_45, q202_46, q202_49, q202_50, xc_x, xg_x_0, xg_x_1, xg_x_2, xg_x_3, xg_x_4, xg_x_5, xg_x_6, xg_x_7, xg_x_8, xg_x_9, xg_x_10, xg_x_11, xg_x_12, xg_x_13, xg_x_14, xs_x_14, xg_x_15, xs_x_15, xc_K, xg_K_0, xg_K_1, xs_K_1, xg_K_2, xg_K_3, xs_K_3, xg_K_4, xg_K_5, xs_K_5, xa_K_lines, xb_K_lines, xn_K_lines, xa_K_wishes, xb_K_wishes, xn_K_wishes, xa_K_sights, xb_K_sights, xn_K_sights, wx_some, wx_ref, xA_0]
        simp only [b202_0, b202_1, bn_0 b202_0, bn_1 b202_1, q202_51, xc_K, xg_K_0, xg_K_1, xs_K_1, xg_K_2, xg_K_3, xs_K_3, xg_K_4, xg_K_5, xs_K_5, xa_K_lines, xb_K_lines, xn_K_lines, xa_K_wishes, xb_K_wishes, xn_K_wishes, xa_K_sights, xb_K_sights, xn_K_sights]
        apply t_bcopyK_B0 hB.1.1 hB.2.1.1 hB.2.2.1 m1.1 m1.2.1 m1.2.2
        simp only [sl_n, b202_0, b202_1, bn_0 b202_0, bn_1 b202_1, q202_54, q202_55, q202_58, b202_0, b202_1, bn_0 b202_0, bn_1 b202_1, q202_94, q202_95, e93, q93_0, q93_1, q93_2, q93_5, q93_6, q93_7, q93_10, xc_x, xg_x_0, xg_x_1, xg_x_2, xg_x_3, xg_x_4, xg_x_5, xg_x_6, xg_x_7, xg_x_8, xg_x_9, xg_x_10, xg_x_11, xg_x_12, xg_x_13, xg_x_14, xs_x_14, xg_x_15, xs_x_15, xa_U_undoRows, xb_U_undoRows, xn_U_undoRows, xa_U_markScenes, xb_U_markScenes, xn_U_markScenes, xa_U_marksLaid, xb_U_marksLaid, xn_U_marksLaid, wx_some, wx_ref, sl_n]
        exact hq1 0 c1 b1 S' B0 _ e rfl em hS' a3 a1 a2 ⟨Nat.zero_le _, fun c' h' => absurd h' (List.not_mem_nil), hU.2.2.1, rfl, 0, by omega, rfl, fun i c' h' => by cases h'⟩ (MKx_u hM rfl rfl)
  · subst h
    obtain ⟨m1, m2, m3⟩ := id h4
    have hml : aG (U.2.2.1) (nI 1) = some (if (mk 1).isSome = true then 1 else 0) := aG_n m2 (by omega)
    have hlay : ww (mp_P fx) (d + 2) 202 61 [some (.ref 59), some (.int (nI 1)), some (.int 0)] [] (px_h z E M (px_l sw c2 w2 T D S S1 K R C W U q q1 B0 B1 B2 B3)) Q ∨ t = 1 := by
      rcases ht with ht | ht
      · refine Or.inl ?_
        simp only [b202_0, b202_1, bn_0 b202_0, bn_1 b202_1, q202_61, q202_62, q202_65, q202_66, q202_67, q202_70, xc_x, xg_x_0, xg_x_1, xg_x_2, xg_x_3, xg_x_4, xg_x_5, xg_x_6, xg_x_7, xg_x_8, xg_x_9, xg_x_10, xg_x_11, xg_x_12, xg_x_13, xg_x_14, xs_x_14, xg_x_15, xs_x_15, xa_U_undoRows, xb_U_undoRows, xn_U_undoRows, xa_U_markScenes, xb_U_markScenes, xn_U_markScenes, xa_U_marksLaid, xb_U_marksLaid, xn_U_marksLaid, xc_S, xg_S_0, xs_S_0, xg_S_1, xs_S_1, xg_S_2, xa_S_places, xb_S_places, xn_S_places, wx_some, wx_ref]
        apply t_packed ho hc hS
        intro r hr
        simp only [sl_i, b202_0, b202_1, bn_0 b202_0, bn_1 b202_1, q202_73, q202_74, q202_75, q202_78, q202_79, q202_80, q202_81, xc_x, xg_x_0, xg_x_1, xg_x_2, xg_x_3, xg_x_4, xg_x_5, xg_x_6, xg_x_7, xg_x_8, xg_x_9, xg_x_10, xg_x_11, xg_x_12, xg_x_13, xg_x_14, xs_x_14, xg_x_15, xs_x_15, xa_U_undoRows, xb_U_undoRows, xn_U_undoRows, xa_U_markScenes, xb_U_markScenes, xn_U_markScenes, xa_U_marksLaid, xb_U_marksLaid, xn_U_marksLaid, wx_some, wx_ref, xA_1, aS_n (show 1 < (U.2.1).length by omega) (show (U.2.1).length < 2 ^ 31 by omega)]
        simp only [b202_0, b202_1, bn_0 b202_0, bn_1 b202_1, q202_84, xc_B1, xg_B1_0, xg_B1_1, xs_B1_1, xg_B1_2, xg_B1_3, xs_B1_3, xg_B1_4, xg_B1_5, xs_B1_5, xa_B1_lines, xb_B1_lines, xn_B1_lines, xa_B1_wishes, xb_B1_wishes, xn_B1_wishes, xa_B1_sights, xb_B1_sights, xn_B1_sights]
        apply t_bcopyB1_K m1.1 m1.2.1 m1.2.2 hB.1.1 hB.2.1.1 hB.2.2.1
        simp only [sl_n, b202_0, b202_1, bn_0 b202_0, bn_1 b202_1, q202_87, q202_88, q202_91, q202_92, q202_93, q202_94, q202_95, xc_x, xg_x_0, xg_x_1, xg_x_2, xg_x_3, xg_x_4, xg_x_5, xg_x_6, xg_x_7, xg_x_8, xg_x_9, xg_x_10, xg_x_11, xg_x_12, xg_x_13, xg_x_14, xs_x_14, xg_x_15, xs_x_15, xa_U_undoRows, xb_U_undoRows, xn_U_undoRows, xa_U_markScenes, xb_U_markScenes, xn_U_markScenes, xa_U_marksLaid, xb_U_marksLaid, xn_U_marksLaid, wx_some, wx_ref, nar_1, aS_n (show 1 < (U.2.2.1).length by omega) (show (U.2.2.1).length < 2 ^ 31 by omega)]
        refine hq2 1 _ B0 K B2 B3 e ht hU ⟨?_, ?_, MK1_ne h3 (by omega) rfl rfl, MK1_eq hc hb hB hr (by omega) (by omega) rfl rfl, MK1_ne h5 (by omega) rfl rfl, MK1_ne h6 (by omega) rfl rfl⟩
        · show ((U.2.1).set 1 r).length = 4; rw [List.length_set]; exact h1
        · show ((U.2.2.1).set 1 1).length = 4; rw [List.length_set]; exact h2
      · exact Or.inr ht
    rcases ht with ht | ht
    · subst ht
      simp only [e202, b202_0, b202_1, bn_0 b202_0, bn_1 b202_1, q202_0, q202_1, q202_4, q202_5, q202_6, q202_9, q202_10, q202_13, q202_14, q202_17, q202_18, q202_19, q202_22, q202_23, q202_24, q202_25, q202_28, q202_29, q202_32, q202_33, q202_36, q202_37, q202_38, q202_41, q202_42, q202_45, q202_46, q202_49, q202_50, q202_51, q202_54, q202_55, q202_58, xc_x, xg_x_0, xg_x_1, xg_x_2, xg_x_3, xg_x_4, xg_x_5, xg_x_6, xg_x_7, xg_x_8, xg_x_9, xg_x_10, xg_x_11, xg_x_12, xg_x_13, xg_x_14, xs_x_14, xg_x_15, xs_x_15, xa_U_undoRows, xb_U_undoRows, xn_U_undoRows, xa_U_markScenes, xb_U_markScenes, xn_U_markScenes, xa_U_marksLaid, xb_U_marksLaid, xn_U_marksLaid, wx_some, wx_ref]
      rw [if_neg (by decide), if_neg (by decide), if_pos (by decide)]
      rw [if_pos (by decide)]
      rcases hlay with h | h
      · exact h
      · exact absurd h (by decide)
    · subst ht
      simp only [e202, b202_0, b202_1, bn_0 b202_0, bn_1 b202_1, q202_0, q202_1, q202_4, q202_5, q202_6, q202_9, q202_10, q202_13, q202_14, q202_17, q202_18, q202_19, q202_22, q202_23, q202_24, q202_25, q202_28, q202_29, q202_32, q202_33, q202_36, q202_37, xc_x, xg_x_0, xg_x_1, xg_x_2, xg_x_3, xg_x_4, xg_x_5, xg_x_6, xg_x_7, xg_x_8, xg_x_9, xg_x_10, xg_x_11, xg_x_12, xg_x_13, xg_x_14, xs_x_14, xg_x_15, xs_x_15, xa_U_undoRows, xb_U_undoRows, xn_U_undoRows, xa_U_markScenes, xb_U_markScenes, xn_U_markScenes, xa_U_marksLaid, xb_U_marksLaid, xn_U_marksLaid, xc_S, xg_S_0, xs_S_0, xg_S_1, xs_S_1, xg_S_2, xa_S_places, xb_S_places, xn_S_places, wx_some, wx_ref, hml]
      rw [if_neg (by decide), if_neg (by decide), if_neg (by decide)]
      cases em : mk 1 with
      | none =>
        rw [if_neg (by decide)]
        exact hq0 (Or.inr ⟨rfl, 1, e, em⟩)
      | some cb =>
        obtain ⟨c1, b1⟩ := cb
        obtain ⟨a1, a2, a3, r, a4, a5⟩ := m3 c1 b1 em
        rw [if_pos (by simp), if_neg (by decide), aG_n a4 (by omega), wx_some]
        simp only [b202_0, b202_1, bn_0 b202_0, bn_1 b202_1, q202_38, xc_S, xg_S_0, xs_S_0, xg_S_1, xs_S_1, xg_S_2, xa_S_places, xb_S_places, xn_S_places]
        apply t_unpack ho a1 a5 hS.2.2.1.1
        intro S' hS'
        simp only [sl_n, b202_0, b202_1, bn_0 b202_0, bn_1 b202_1, q202_41, q202_42, q202_45, q202_46, q202_49, q202_50, xc_x, xg_x_0, xg_x_1, xg_x_2, xg_x_3, xg_x_4, xg_x_5, xg_x_6, xg_x_7, xg_x_8, xg_x_9, xg_x_10, xg_x_11, xg_x_12, xg_x_13, xg_x_14, xs_x_14, xg_x_15, xs_x_15, xc_K, xg_K_0, xg_K_1, xs_K_1, xg_K_2, xg_K_3, xs_K_3, xg_K_4, xg_K_5, xs_K_5, xa_K_lines, xb_K_lines, xn_K_lines, xa_K_wishes, xb_K_wishes, xn_K_wishes, xa_K_sights, xb_K_sights, xn_K_sights, wx_some, wx_ref, xA_1]
        simp only [b202_0, b202_1, bn_0 b202_0, bn_1 b202_1, q202_51, xc_K, xg_K_0, xg_K_1, xs_K_1, xg_K_2, xg_K_3, xs_K_3, xg_K_4, xg_K_5, xs_K_5, xa_K_lines, xb_K_lines, xn_K_lines, xa_K_wishes, xb_K_wishes, xn_K_wishes, xa_K_sights, xb_K_sights, xn_K_sights]
        apply t_bcopyK_B1 hB.1.1 hB.2.1.1 hB.2.2.1 m1.1 m1.2.1 m1.2.2
        simp only [sl_n, b202_0, b202_1, bn_0 b202_0, bn_1 b202_1, q202_54, q202_55, q202_58, b202_0, b202_1, bn_0 b202_0, bn_1 b202_1, q202_94, q202_95, e93, q93_0, q93_1, q93_2, q93_5, q93_6, q93_7, q93_10, xc_x, xg_x_0, xg_x_1, xg_x_2, xg_x_3, xg_x_4, xg_x_5, xg_x_6, xg_x_7, xg_x_8, xg_x_9, xg_x_10, xg_x_11, xg_x_12, xg_x_13, xg_x_14, xs_x_14, xg_x_15, xs_x_15, xa_U_undoRows, xb_U_undoRows, xn_U_undoRows, xa_U_markScenes, xb_U_markScenes, xn_U_markScenes, xa_U_marksLaid, xb_U_marksLaid, xn_U_marksLaid, wx_some, wx_ref, sl_n]
        exact hq1 1 c1 b1 S' B1 _ e rfl em hS' a3 a1 a2 ⟨Nat.zero_le _, fun c' h' => absurd h' (List.not_mem_nil), hU.2.2.1, rfl, 0, by omega, rfl, fun i c' h' => by cases h'⟩ (MKx_u hM rfl rfl)
  · subst h
    obtain ⟨m1, m2, m3⟩ := id h5
    have hml : aG (U.2.2.1) (nI 2) = some (if (mk 2).isSome = true then 1 else 0) := aG_n m2 (by omega)
    have hlay : ww (mp_P fx) (d + 2) 202 61 [some (.ref 59), some (.int (nI 2)), some (.int 0)] [] (px_h z E M (px_l sw c2 w2 T D S S1 K R C W U q q1 B0 B1 B2 B3)) Q ∨ t = 1 := by
      rcases ht with ht | ht
      · refine Or.inl ?_
        simp only [b202_0, b202_1, bn_0 b202_0, bn_1 b202_1, q202_61, q202_62, q202_65, q202_66, q202_67, q202_70, xc_x, xg_x_0, xg_x_1, xg_x_2, xg_x_3, xg_x_4, xg_x_5, xg_x_6, xg_x_7, xg_x_8, xg_x_9, xg_x_10, xg_x_11, xg_x_12, xg_x_13, xg_x_14, xs_x_14, xg_x_15, xs_x_15, xa_U_undoRows, xb_U_undoRows, xn_U_undoRows, xa_U_markScenes, xb_U_markScenes, xn_U_markScenes, xa_U_marksLaid, xb_U_marksLaid, xn_U_marksLaid, xc_S, xg_S_0, xs_S_0, xg_S_1, xs_S_1, xg_S_2, xa_S_places, xb_S_places, xn_S_places, wx_some, wx_ref]
        apply t_packed ho hc hS
        intro r hr
        simp only [sl_i, b202_0, b202_1, bn_0 b202_0, bn_1 b202_1, q202_73, q202_74, q202_75, q202_78, q202_79, q202_80, q202_81, xc_x, xg_x_0, xg_x_1, xg_x_2, xg_x_3, xg_x_4, xg_x_5, xg_x_6, xg_x_7, xg_x_8, xg_x_9, xg_x_10, xg_x_11, xg_x_12, xg_x_13, xg_x_14, xs_x_14, xg_x_15, xs_x_15, xa_U_undoRows, xb_U_undoRows, xn_U_undoRows, xa_U_markScenes, xb_U_markScenes, xn_U_markScenes, xa_U_marksLaid, xb_U_marksLaid, xn_U_marksLaid, wx_some, wx_ref, xA_2, aS_n (show 2 < (U.2.1).length by omega) (show (U.2.1).length < 2 ^ 31 by omega)]
        simp only [b202_0, b202_1, bn_0 b202_0, bn_1 b202_1, q202_84, xc_B2, xg_B2_0, xg_B2_1, xs_B2_1, xg_B2_2, xg_B2_3, xs_B2_3, xg_B2_4, xg_B2_5, xs_B2_5, xa_B2_lines, xb_B2_lines, xn_B2_lines, xa_B2_wishes, xb_B2_wishes, xn_B2_wishes, xa_B2_sights, xb_B2_sights, xn_B2_sights]
        apply t_bcopyB2_K m1.1 m1.2.1 m1.2.2 hB.1.1 hB.2.1.1 hB.2.2.1
        simp only [sl_n, b202_0, b202_1, bn_0 b202_0, bn_1 b202_1, q202_87, q202_88, q202_91, q202_92, q202_93, q202_94, q202_95, xc_x, xg_x_0, xg_x_1, xg_x_2, xg_x_3, xg_x_4, xg_x_5, xg_x_6, xg_x_7, xg_x_8, xg_x_9, xg_x_10, xg_x_11, xg_x_12, xg_x_13, xg_x_14, xs_x_14, xg_x_15, xs_x_15, xa_U_undoRows, xb_U_undoRows, xn_U_undoRows, xa_U_markScenes, xb_U_markScenes, xn_U_markScenes, xa_U_marksLaid, xb_U_marksLaid, xn_U_marksLaid, wx_some, wx_ref, nar_1, aS_n (show 2 < (U.2.2.1).length by omega) (show (U.2.2.1).length < 2 ^ 31 by omega)]
        refine hq2 2 _ B0 B1 K B3 e ht hU ⟨?_, ?_, MK1_ne h3 (by omega) rfl rfl, MK1_ne h4 (by omega) rfl rfl, MK1_eq hc hb hB hr (by omega) (by omega) rfl rfl, MK1_ne h6 (by omega) rfl rfl⟩
        · show ((U.2.1).set 2 r).length = 4; rw [List.length_set]; exact h1
        · show ((U.2.2.1).set 2 1).length = 4; rw [List.length_set]; exact h2
      · exact Or.inr ht
    rcases ht with ht | ht
    · subst ht
      simp only [e202, b202_0, b202_1, bn_0 b202_0, bn_1 b202_1, q202_0, q202_1, q202_4, q202_5, q202_6, q202_9, q202_10, q202_13, q202_14, q202_17, q202_18, q202_19, q202_22, q202_23, q202_24, q202_25, q202_28, q202_29, q202_32, q202_33, q202_36, q202_37, q202_38, q202_41, q202_42, q202_45, q202_46, q202_49, q202_50, q202_51, q202_54, q202_55, q202_58, xc_x, xg_x_0, xg_x_1, xg_x_2, xg_x_3, xg_x_4, xg_x_5, xg_x_6, xg_x_7, xg_x_8, xg_x_9, xg_x_10, xg_x_11, xg_x_12, xg_x_13, xg_x_14, xs_x_14, xg_x_15, xs_x_15, xa_U_undoRows, xb_U_undoRows, xn_U_undoRows, xa_U_markScenes, xb_U_markScenes, xn_U_markScenes, xa_U_marksLaid, xb_U_marksLaid, xn_U_marksLaid, wx_some, wx_ref]
      rw [if_neg (by decide), if_neg (by decide), if_pos (by decide)]
      rw [if_pos (by decide)]
      rcases hlay with h | h
      · exact h
      · exact absurd h (by decide)
    · subst ht
      simp only [e202, b202_0, b202_1, bn_0 b202_0, bn_1 b202_1, q202_0, q202_1, q202_4, q202_5, q202_6, q202_9, q202_10, q202_13, q202_14, q202_17, q202_18, q202_19, q202_22, q202_23, q202_24, q202_25, q202_28, q202_29, q202_32, q202_33, q202_36, q202_37, xc_x, xg_x_0, xg_x_1, xg_x_2, xg_x_3, xg_x_4, xg_x_5, xg_x_6, xg_x_7, xg_x_8, xg_x_9, xg_x_10, xg_x_11, xg_x_12, xg_x_13, xg_x_14, xs_x_14, xg_x_15, xs_x_15, xa_U_undoRows, xb_U_undoRows, xn_U_undoRows, xa_U_markScenes, xb_U_markScenes, xn_U_markScenes, xa_U_marksLaid, xb_U_marksLaid, xn_U_marksLaid, xc_S, xg_S_0, xs_S_0, xg_S_1, xs_S_1, xg_S_2, xa_S_places, xb_S_places, xn_S_places, wx_some, wx_ref, hml]
      rw [if_neg (by decide), if_neg (by decide), if_neg (by decide)]
      cases em : mk 2 with
      | none =>
        rw [if_neg (by decide)]
        exact hq0 (Or.inr ⟨rfl, 2, e, em⟩)
      | some cb =>
        obtain ⟨c1, b1⟩ := cb
        obtain ⟨a1, a2, a3, r, a4, a5⟩ := m3 c1 b1 em
        rw [if_pos (by simp), if_neg (by decide), aG_n a4 (by omega), wx_some]
        simp only [b202_0, b202_1, bn_0 b202_0, bn_1 b202_1, q202_38, xc_S, xg_S_0, xs_S_0, xg_S_1, xs_S_1, xg_S_2, xa_S_places, xb_S_places, xn_S_places]
        apply t_unpack ho a1 a5 hS.2.2.1.1
        intro S' hS'
        simp only [sl_n, b202_0, b202_1, bn_0 b202_0, bn_1 b202_1, q202_41, q202_42, q202_45, q202_46, q202_49, q202_50, xc_x, xg_x_0, xg_x_1, xg_x_2, xg_x_3, xg_x_4, xg_x_5, xg_x_6, xg_x_7, xg_x_8, xg_x_9, xg_x_10, xg_x_11, xg_x_12, xg_x_13, xg_x_14, xs_x_14, xg_x_15, xs_x_15, xc_K, xg_K_0, xg_K_1, xs_K_1, xg_K_2, xg_K_3, xs_K_3, xg_K_4, xg_K_5, xs_K_5, xa_K_lines, xb_K_lines, xn_K_lines, xa_K_wishes, xb_K_wishes, xn_K_wishes, xa_K_sights, xb_K_sights, xn_K_sights, wx_some, wx_ref, xA_2]
        simp only [b202_0, b202_1, bn_0 b202_0, bn_1 b202_1, q202_51, xc_K, xg_K_0, xg_K_1, xs_K_1, xg_K_2, xg_K_3, xs_K_3, xg_K_4, xg_K_5, xs_K_5, xa_K_lines, xb_K_lines, xn_K_lines, xa_K_wishes, xb_K_wishes, xn_K_wishes, xa_K_sights, xb_K_sights, xn_K_sights]
        apply t_bcopyK_B2 hB.1.1 hB.2.1.1 hB.2.2.1 m1.1 m1.2.1 m1.2.2
        simp only [sl_n, b202_0, b202_1, bn_0 b202_0, bn_1 b202_1, q202_54, q202_55, q202_58, b202_0, b202_1, bn_0 b202_0, bn_1 b202_1, q202_94, q202_95, e93, q93_0, q93_1, q93_2, q93_5, q93_6, q93_7, q93_10, xc_x, xg_x_0, xg_x_1, xg_x_2, xg_x_3, xg_x_4, xg_x_5, xg_x_6, xg_x_7, xg_x_8, xg_x_9, xg_x_10, xg_x_11, xg_x_12, xg_x_13, xg_x_14, xs_x_14, xg_x_15, xs_x_15, xa_U_undoRows, xb_U_undoRows, xn_U_undoRows, xa_U_markScenes, xb_U_markScenes, xn_U_markScenes, xa_U_marksLaid, xb_U_marksLaid, xn_U_marksLaid, wx_some, wx_ref, sl_n]
        exact hq1 2 c1 b1 S' B2 _ e rfl em hS' a3 a1 a2 ⟨Nat.zero_le _, fun c' h' => absurd h' (List.not_mem_nil), hU.2.2.1, rfl, 0, by omega, rfl, fun i c' h' => by cases h'⟩ (MKx_u hM rfl rfl)
  · subst h
    obtain ⟨m1, m2, m3⟩ := id h6
    have hml : aG (U.2.2.1) (nI 3) = some (if (mk 3).isSome = true then 1 else 0) := aG_n m2 (by omega)
    have hlay : ww (mp_P fx) (d + 2) 202 61 [some (.ref 59), some (.int (nI 3)), some (.int 0)] [] (px_h z E M (px_l sw c2 w2 T D S S1 K R C W U q q1 B0 B1 B2 B3)) Q ∨ t = 1 := by
      rcases ht with ht | ht
      · refine Or.inl ?_
        simp only [b202_0, b202_1, bn_0 b202_0, bn_1 b202_1, q202_61, q202_62, q202_65, q202_66, q202_67, q202_70, xc_x, xg_x_0, xg_x_1, xg_x_2, xg_x_3, xg_x_4, xg_x_5, xg_x_6, xg_x_7, xg_x_8, xg_x_9, xg_x_10, xg_x_11, xg_x_12, xg_x_13, xg_x_14, xs_x_14, xg_x_15, xs_x_15, xa_U_undoRows, xb_U_undoRows, xn_U_undoRows, xa_U_markScenes, xb_U_markScenes, xn_U_markScenes, xa_U_marksLaid, xb_U_marksLaid, xn_U_marksLaid, xc_S, xg_S_0, xs_S_0, xg_S_1, xs_S_1, xg_S_2, xa_S_places, xb_S_places, xn_S_places, wx_some, wx_ref]
        apply t_packed ho hc hS
        intro r hr
        simp only [sl_i, b202_0, b202_1, bn_0 b202_0, bn_1 b202_1, q202_73, q202_74, q202_75, q202_78, q202_79, q202_80, q202_81, xc_x, xg_x_0, xg_x_1, xg_x_2, xg_x_3, xg_x_4, xg_x_5, xg_x_6, xg_x_7, xg_x_8, xg_x_9, xg_x_10, xg_x_11, xg_x_12, xg_x_13, xg_x_14, xs_x_14, xg_x_15, xs_x_15, xa_U_undoRows, xb_U_undoRows, xn_U_undoRows, xa_U_markScenes, xb_U_markScenes, xn_U_markScenes, xa_U_marksLaid, xb_U_marksLaid, xn_U_marksLaid, wx_some, wx_ref, xA_3, aS_n (show 3 < (U.2.1).length by omega) (show (U.2.1).length < 2 ^ 31 by omega)]
        simp only [b202_0, b202_1, bn_0 b202_0, bn_1 b202_1, q202_84, xc_B3, xg_B3_0, xg_B3_1, xs_B3_1, xg_B3_2, xg_B3_3, xs_B3_3, xg_B3_4, xg_B3_5, xs_B3_5, xa_B3_lines, xb_B3_lines, xn_B3_lines, xa_B3_wishes, xb_B3_wishes, xn_B3_wishes, xa_B3_sights, xb_B3_sights, xn_B3_sights]
        apply t_bcopyB3_K m1.1 m1.2.1 m1.2.2 hB.1.1 hB.2.1.1 hB.2.2.1
        simp only [sl_n, b202_0, b202_1, bn_0 b202_0, bn_1 b202_1, q202_87, q202_88, q202_91, q202_92, q202_93, q202_94, q202_95, xc_x, xg_x_0, xg_x_1, xg_x_2, xg_x_3, xg_x_4, xg_x_5, xg_x_6, xg_x_7, xg_x_8, xg_x_9, xg_x_10, xg_x_11, xg_x_12, xg_x_13, xg_x_14, xs_x_14, xg_x_15, xs_x_15, xa_U_undoRows, xb_U_undoRows, xn_U_undoRows, xa_U_markScenes, xb_U_markScenes, xn_U_markScenes, xa_U_marksLaid, xb_U_marksLaid, xn_U_marksLaid, wx_some, wx_ref, nar_1, aS_n (show 3 < (U.2.2.1).length by omega) (show (U.2.2.1).length < 2 ^ 31 by omega)]
        refine hq2 3 _ B0 B1 B2 K e ht hU ⟨?_, ?_, MK1_ne h3 (by omega) rfl rfl, MK1_ne h4 (by omega) rfl rfl, MK1_ne h5 (by omega) rfl rfl, MK1_eq hc hb hB hr (by omega) (by omega) rfl rfl⟩
        · show ((U.2.1).set 3 r).length = 4; rw [List.length_set]; exact h1
        · show ((U.2.2.1).set 3 1).length = 4; rw [List.length_set]; exact h2
      · exact Or.inr ht
    rcases ht with ht | ht
    · subst ht
      simp only [e202, b202_0, b202_1, bn_0 b202_0, bn_1 b202_1, q202_0, q202_1, q202_4, q202_5, q202_6, q202_9, q202_10, q202_13, q202_14, q202_17, q202_18, q202_19, q202_22, q202_23, q202_24, q202_25, q202_28, q202_29, q202_32, q202_33, q202_36, q202_37, q202_38, q202_41, q202_42, q202_45, q202_46, q202_49, q202_50, q202_51, q202_54, q202_55, q202_58, xc_x, xg_x_0, xg_x_1, xg_x_2, xg_x_3, xg_x_4, xg_x_5, xg_x_6, xg_x_7, xg_x_8, xg_x_9, xg_x_10, xg_x_11, xg_x_12, xg_x_13, xg_x_14, xs_x_14, xg_x_15, xs_x_15, xa_U_undoRows, xb_U_undoRows, xn_U_undoRows, xa_U_markScenes, xb_U_markScenes, xn_U_markScenes, xa_U_marksLaid, xb_U_marksLaid, xn_U_marksLaid, wx_some, wx_ref]
      rw [if_neg (by decide), if_neg (by decide), if_pos (by decide)]
      rw [if_pos (by decide)]
      rcases hlay with h | h
      · exact h
      · exact absurd h (by decide)
    · subst ht
      simp only [e202, b202_0, b202_1, bn_0 b202_0, bn_1 b202_1, q202_0, q202_1, q202_4, q202_5, q202_6, q202_9, q202_10, q202_13, q202_14, q202_17, q202_18, q202_19, q202_22, q202_23, q202_24, q202_25, q202_28, q202_29, q202_32, q202_33, q202_36, q202_37, xc_x, xg_x_0, xg_x_1, xg_x_2, xg_x_3, xg_x_4, xg_x_5, xg_x_6, xg_x_7, xg_x_8, xg_x_9, xg_x_10, xg_x_11, xg_x_12, xg_x_13, xg_x_14, xs_x_14, xg_x_15, xs_x_15, xa_U_undoRows, xb_U_undoRows, xn_U_undoRows, xa_U_markScenes, xb_U_markScenes, xn_U_markScenes, xa_U_marksLaid, xb_U_marksLaid, xn_U_marksLaid, xc_S, xg_S_0, xs_S_0, xg_S_1, xs_S_1, xg_S_2, xa_S_places, xb_S_places, xn_S_places, wx_some, wx_ref, hml]
      rw [if_neg (by decide), if_neg (by decide), if_neg (by decide)]
      cases em : mk 3 with
      | none =>
        rw [if_neg (by decide)]
        exact hq0 (Or.inr ⟨rfl, 3, e, em⟩)
      | some cb =>
        obtain ⟨c1, b1⟩ := cb
        obtain ⟨a1, a2, a3, r, a4, a5⟩ := m3 c1 b1 em
        rw [if_pos (by simp), if_neg (by decide), aG_n a4 (by omega), wx_some]
        simp only [b202_0, b202_1, bn_0 b202_0, bn_1 b202_1, q202_38, xc_S, xg_S_0, xs_S_0, xg_S_1, xs_S_1, xg_S_2, xa_S_places, xb_S_places, xn_S_places]
        apply t_unpack ho a1 a5 hS.2.2.1.1
        intro S' hS'
        simp only [sl_n, b202_0, b202_1, bn_0 b202_0, bn_1 b202_1, q202_41, q202_42, q202_45, q202_46, q202_49, q202_50, xc_x, xg_x_0, xg_x_1, xg_x_2, xg_x_3, xg_x_4, xg_x_5, xg_x_6, xg_x_7, xg_x_8, xg_x_9, xg_x_10, xg_x_11, xg_x_12, xg_x_13, xg_x_14, xs_x_14, xg_x_15, xs_x_15, xc_K, xg_K_0, xg_K_1, xs_K_1, xg_K_2, xg_K_3, xs_K_3, xg_K_4, xg_K_5, xs_K_5, xa_K_lines, xb_K_lines, xn_K_lines, xa_K_wishes, xb_K_wishes, xn_K_wishes, xa_K_sights, xb_K_sights, xn_K_sights, wx_some, wx_ref, xA_3]
        simp only [b202_0, b202_1, bn_0 b202_0, bn_1 b202_1, q202_51, xc_K, xg_K_0, xg_K_1, xs_K_1, xg_K_2, xg_K_3, xs_K_3, xg_K_4, xg_K_5, xs_K_5, xa_K_lines, xb_K_lines, xn_K_lines, xa_K_wishes, xb_K_wishes, xn_K_wishes, xa_K_sights, xb_K_sights, xn_K_sights]
        apply t_bcopyK_B3 hB.1.1 hB.2.1.1 hB.2.2.1 m1.1 m1.2.1 m1.2.2
        simp only [sl_n, b202_0, b202_1, bn_0 b202_0, bn_1 b202_1, q202_54, q202_55, q202_58, b202_0, b202_1, bn_0 b202_0, bn_1 b202_1, q202_94, q202_95, e93, q93_0, q93_1, q93_2, q93_5, q93_6, q93_7, q93_10, xc_x, xg_x_0, xg_x_1, xg_x_2, xg_x_3, xg_x_4, xg_x_5, xg_x_6, xg_x_7, xg_x_8, xg_x_9, xg_x_10, xg_x_11, xg_x_12, xg_x_13, xg_x_14, xs_x_14, xg_x_15, xs_x_15, xa_U_undoRows, xb_U_undoRows, xn_U_undoRows, xa_U_markScenes, xb_U_markScenes, xn_U_markScenes, xa_U_marksLaid, xb_U_marksLaid, xn_U_marksLaid, wx_some, wx_ref, sl_n]
        exact hq1 3 c1 b1 S' B3 _ e rfl em hS' a3 a1 a2 ⟨Nat.zero_le _, fun c' h' => absurd h' (List.not_mem_nil), hU.2.2.1, rfl, 0, by omega, rfl, fun i c' h' => by cases h'⟩ (MKx_u hM rfl rfl)
end TK
