/-! printed by wip/whole/gen98c.py: the calls of the law -/
def LI (t z : Nat) (Y : Nat → mm_C) (tp : List Nat) (nm : NMs) (s : SQ) (c : SC) (us : List SC) (b : BK) (mk : Nat → Option (SC × BK)) (T : px_T) (D : px_D) (S : px_S) (S1 : px_S) (K : px_K) (R : px_R) (C : px_C) (W : px_W) (U : px_U) (q : px_q) (q1 : px_q) (B0 : px_K) (B1 : px_K) (B2 : px_K) (B3 : px_K) (_mV : pm_V) (mT : pm_T) (mQ : pm_Q) (mO : pm_O) (mE : pm_E) (mB : pm_B) (mS : pm_S) (mR : pm_R) (mW : pm_W) : Prop := IX tp nm s c us b mk T D S S1 K R C W U q q1 B0 B1 B2 B3 ∧ IM tp nm s c us b mk mT mQ mO mE mB mS mR mW ∧ IS t tp nm s c us b mk ∧ z ≤ 16463 + 6 * t ∧ ∃ v, Y 204 = mm_L [v]
def GO (fx : List Value → mm_H → Option (List Value × mm_H)) (d i t : Nat) (E : Nat → mm_C) (Q : Option Value → mm_H → Prop) : Prop := ∀ {z : Nat} {Y : Nat → mm_C} {sw c2 w2 : Bool} {T : px_T} {D : px_D} {S : px_S} {S1 : px_S} {K : px_K} {R : px_R} {C : px_C} {W : px_W} {U : px_U} {q : px_q} {q1 : px_q} {B0 : px_K} {B1 : px_K} {B2 : px_K} {B3 : px_K} {mV : pm_V} {mT : pm_T} {mQ : pm_Q} {mO : pm_O} {mE : pm_E} {mB : pm_B} {mS : pm_S} {mR : pm_R} {mW : pm_W} {l5 l6 : Option Value} (tp : List Nat) (nm : NMs) (s : SQ) (c : SC) (us : List SC) (b : BK) (mk : Nat → Option (SC × BK)), LI (t + 1) z Y tp nm s c us b mk T D S S1 K R C W U q q1 B0 B1 B2 B3 mV mT mQ mO mE mB mS mR mW → ww (mp_P fx) (d + 50) 5000 1331 [some (.ref 0), some (.ref 59), some (.ref 149), some (.ref 204), some (.int (nI i)), l5, l6] [] (px_h z E (pm_f E Y (pm_l mV mT mQ mO mE mB mS mR mW)) (px_l sw c2 w2 T D S S1 K R C W U q q1 B0 B1 B2 B3)) Q
section LC
variable {fx : List Value → mm_H → Option (List Value × mm_H)} {z : Nat} {E M : Nat → mm_C} {sw c2 w2 : Bool} {T : px_T} {D : px_D} {S : px_S} {S1 : px_S} {K : px_K} {R : px_R} {C : px_C} {W : px_W} {U : px_U} {q : px_q} {q1 : px_q} {B0 : px_K} {B1 : px_K} {B2 : px_K} {B3 : px_K} {T_signs : List Int32} {T_length : Int32} {T_fault : Int32} {T_types : List Int32} {T_starts : List Int32} {T_values : List Int64} {T_tokens : Int32} {T_at : Int32} {T_behind : Int32} {S_hour : Int32} {S_open : Int32} {S_places : List Int32} {S1_hour : Int32} {S1_open : Int32} {S1_places : List Int32} {K_lines : List Int32} {K_lineCount : Int32} {K_wishes : List Int32} {K_wishCount : Int32} {K_sights : List Int32} {K_sightCount : Int32} {R_shown : List Int32} {R_length : Int32} {R_readers : Int32} {R_begins : List Int32} {R_lengths : List Int32} {R_sentences : Int32} {R_order : List Int32} {R_able : Int32} {R_standing : List Int32} {R_lovers : List Int32} {R_lowest : List Int32} {C_ways : List Int32} {C_rows : List Int32} {C_shallower : List Int32} {C_length : Int32} {C_goal : Int32} {W_row : List Int32} {W_walkers : Int32} {W_names : Int32} {W_wanted : List Int32} {W_shown : List Int32} {W_places : List Int32} {W_rest : List Int32} {W_spent : List Int32} {W_tried : List Int32} {U_undoRows : List Int64} {U_markScenes : List Int64} {U_marksLaid : List Int32} {U_undoCount : Int32} {U_undoEnd : Int32} {q_sortNames : List Int64} {q_sortCount : Int32} {q_colourNames : List Int64} {q_colourSorts : List Int32} {q_colourCount : Int32} {q_ruleMakes : List Int32} {q_ruleFirsts : List Int32} {q_ruleSeconds : List Int32} {q_ruleCount : Int32} {q_saysSort : Int32} {q_walkerNames : List Int64} {q_kinds : List Int32} {q_walkerColours : List Int32} {q_starts : List Int32} {q_stepRows : List Int32} {q_stepCounts : List Int32} {q_walkerCount : Int32} {q_gusts : List Int32} {q_gustCount : Int32} {q_parts : List Int32} {q_count : Int32} {q_stack : List Int32} {q_height : Int32} {q1_sortNames : List Int64} {q1_sortCount : Int32} {q1_colourNames : List Int64} {q1_colourSorts : List Int32} {q1_colourCount : Int32} {q1_ruleMakes : List Int32} {q1_ruleFirsts : List Int32} {q1_ruleSeconds : List Int32} {q1_ruleCount : Int32} {q1_saysSort : Int32} {q1_walkerNames : List Int64} {q1_kinds : List Int32} {q1_walkerColours : List Int32} {q1_starts : List Int32} {q1_stepRows : List Int32} {q1_stepCounts : List Int32} {q1_walkerCount : Int32} {q1_gusts : List Int32} {q1_gustCount : Int32} {q1_parts : List Int32} {q1_count : Int32} {q1_stack : List Int32} {q1_height : Int32} {B0_lines : List Int32} {B0_lineCount : Int32} {B0_wishes : List Int32} {B0_wishCount : Int32} {B0_sights : List Int32} {B0_sightCount : Int32} {B1_lines : List Int32} {B1_lineCount : Int32} {B1_wishes : List Int32} {B1_wishCount : Int32} {B1_sights : List Int32} {B1_sightCount : Int32} {B2_lines : List Int32} {B2_lineCount : Int32} {B2_wishes : List Int32} {B2_wishCount : Int32} {B2_sights : List Int32} {B2_sightCount : Int32} {B3_lines : List Int32} {B3_lineCount : Int32} {B3_wishes : List Int32} {B3_wishCount : Int32} {B3_sights : List Int32} {B3_sightCount : Int32}
variable {fx : List Value → mm_H → Option (List Value × mm_H)} {z : Nat} {X Y : Nat → mm_C} {mV : pm_V} {mT : pm_T} {mQ : pm_Q} {mO : pm_O} {mE : pm_E} {mB : pm_B} {mS : pm_S} {mR : pm_R} {mW : pm_W} {m_thrown : Int32} {m_given : Int32} {m_fresh : Int64} {m_code : Int32} {m_taped : Int32} {m_tape : List Int32} {m_size : Int32} {m_place : Int32} {m_begin : Int32} {m_token : Int32} {m_word : Int64} {m_told : Int32} {m_wrong : Int32} {m_square : List Int32} {m_sortName : List Int64} {m_colourName : List Int64} {m_walkerName : List Int64} {m_sortOf : List Int32} {m_rules : List Int32} {m_kind : List Int32} {m_colour : List Int32} {m_atTold : List Int32} {m_goesMany : List Int32} {m_goes : List Int32} {m_gusts : List Int32} {m_lineFrom : List Int32} {m_lineTo : List Int32} {m_codes : List Int32} {m_opened : List Int32} {m_compared : List Int32} {m_kept : List Int32} {m_keptBy : List Int32} {m_ahead : List Int32} {m_against : List Int32} {m_sum : List Int32} {m_sumBy : List Int32} {m_term : List Int32} {m_termBy : List Int32} {m_byNot : List Int32} {m_valueOf : List Int32} {m_lines : List Int32} {m_lineWhat : List Int32} {m_lineA : List Int32} {m_lineB : List Int32} {m_wishes : List Int32} {m_wishOf : List Int32} {m_seens : List Int32} {m_seenAt : List Int32} {m_seenIn : List Int32} {m_seenThere : List Int32} {m_s : List Int32} {m_aside : List Int32} {m_before : List Int32} {m_marked : List Int32} {m_undone : List Int32} {m_isLaid : List Int32} {m_done : Int32} {m_gustNow : Int32} {m_shown : List Int32} {m_shownMany : Int32} {m_from7 : List Int32} {m_long7 : List Int32} {m_sentences : Int32} {m_text7 : List Int32} {m_textMany : Int32} {m_waysOf : List Int32} {m_rowOf : List Int32} {m_row : List Int32} {m_bestRow : List Int32} {m_leastSteps : Int32} {m_steps10 : List Int32} {m_placeIn : List Int32} {m_g : Int64}
variable {d i t : Nat} {xs : List Int32} {l5 l6 : Option Value} {Q : Option Value → mm_H → Prop} {tp : List Nat} {nm : NMs} {s : SQ} {c : SC} {us : List SC} {b : BK} {mk : Nat → Option (SC × BK)}
theorem lw_said (he : ELt E) (h0 : E 0 = mm_I 9 xs) (hl : xs.length ≤ 448) (hi : i + 7 ≤ xs.length) (ht : t < 64) (iA : LI t z Y tp nm s c us b mk T D S S1 K R C W U q q1 B0 B1 B2 B3 mV mT mQ mO mE mB mS mR mW) (go : GO fx d i t E Q) : ww (mp_P fx) (d + 50) 5000 594 [some (.ref 0), some (.ref 59), some (.ref 149), some (.ref 204), some (.int (nI i)), l5, l6] [] (px_h z E (pm_f E Y (pm_l mV mT mQ mO mE mB mS mR mW)) (px_l sw c2 w2 T D S S1 K R C W U q q1 B0 B1 B2 B3)) Q := by
  obtain ⟨⟨iT, iD, iK, iSc, i7, iB, iU, iMk, iW, iQ⟩, ⟨jT, jK, jE, jS, jg, jO, jL, jB, jU, jM, jW, j9, ja⟩, iS, iz, iY⟩ := id iA
  obtain ⟨sT, sN, sC, sB, sH⟩ := id iS
  have sH1 := sH.1
  have sho := iK.2.2.1
  simp only [q5000_594, wx_some, wx_ref]
  simp only [q5000_595, xc_x]
  apply t_said iK sC iSc
  intro q' R' C' k1
  simp only [sl_i, q5000_598, wx_some, wx_ref]
  rw [pw_xm]
  simp only [q5000_599, mc_o]
  apply tm_saidC jK jE sC jS jg
  intro mE' mR' k2
  simp only [sl_i, q5000_602]
  refine if_t (by first | rfl | trivial) ?_
  rw [← pw_xm]
  exact go tp nm s c us b mk ⟨⟨iT, iD, k1, iSc, i7, iB, iU, iMk, iW, iQ⟩, ⟨jT, jK, k2, jS, jg, jO, jL, jB, jU, jM, jW, j9, ja⟩, IS_up iS, by omega, iY⟩
theorem lw_walker (he : ELt E) (h0 : E 0 = mm_I 9 xs) (hl : xs.length ≤ 448) (hi : i + 7 ≤ xs.length) (ht : t < 64) (iA : LI t z Y tp nm s c us b mk T D S S1 K R C W U q q1 B0 B1 B2 B3 mV mT mQ mO mE mB mS mR mW) (go : GO fx d i t E Q) : ww (mp_P fx) (d + 50) 5000 394 [some (.ref 0), some (.ref 59), some (.ref 149), some (.ref 204), some (.int (nI i)), l5, l6] [] (px_h z E (pm_f E Y (pm_l mV mT mQ mO mE mB mS mR mW)) (px_l sw c2 w2 T D S S1 K R C W U q q1 B0 B1 B2 B3)) Q := by
  obtain ⟨⟨iT, iD, iK, iSc, i7, iB, iU, iMk, iW, iQ⟩, ⟨jT, jK, jE, jS, jg, jO, jL, jB, jU, jM, jW, j9, ja⟩, iS, iz, iY⟩ := id iA
  obtain ⟨sT, sN, sC, sB, sH⟩ := id iS
  have sH1 := sH.1
  have sho := iK.2.2.1
  have g1 : ∀ L, mm_gI (px_h z E (pm_f E Y (pm_l mV mT mQ mO mE mB mS mR mW)) L) 0 0 9 (nI (i + 1)) = some (xs.getD (i + 1) 0) := fun L => gS h0 (by omega) hl
  have g2 : ∀ L, mm_gI (px_h z E (pm_f E Y (pm_l mV mT mQ mO mE mB mS mR mW)) L) 0 0 9 (nI (i + 2)) = some (xs.getD (i + 2) 0) := fun L => gS h0 (by omega) hl
  simp only [q5000_394, q5000_395, q5000_396, q5000_398, q5000_399, q5000_400, q5000_401, q5000_402, q5000_404, q5000_405, q5000_406, g1, g2, nI_1, nI_p2, wx_some, wx_ref]
  simp only [q5000_407, xc_x]
  apply t_walker iK sC iSc
  intro q' R' k1
  simp only [sl_i, q5000_410, q5000_411, q5000_412, q5000_414, q5000_415, q5000_416, q5000_417, q5000_418, q5000_420, q5000_421, q5000_422, g1, g2, nI_1, nI_p2, wx_some, wx_ref]
  rw [pw_xm]
  simp only [q5000_423, mc_o]
  apply tm_walker jK jE sC jS jg
  intro mE' k2
  simp only [sl_i, q5000_426]
  refine if_t (by first | rfl | trivial) ?_
  rw [← pw_xm]
  exact go tp nm s c us b mk ⟨⟨iT, iD, k1, iSc, i7, iB, iU, iMk, iW, iQ⟩, ⟨jT, jK, k2, jS, jg, jO, jL, jB, jU, jM, jW, j9, ja⟩, IS_up iS, by omega, iY⟩
theorem lw_read (he : ELt E) (h0 : E 0 = mm_I 9 xs) (hl : xs.length ≤ 448) (hi : i + 7 ≤ xs.length) (ht : t < 64) (iA : LI t z Y tp nm s c us b mk T D S S1 K R C W U q q1 B0 B1 B2 B3 mV mT mQ mO mE mB mS mR mW) (go : GO fx d i t E Q) : ww (mp_P fx) (d + 50) 5000 431 [some (.ref 0), some (.ref 59), some (.ref 149), some (.ref 204), some (.int (nI i)), l5, l6] [] (px_h z E (pm_f E Y (pm_l mV mT mQ mO mE mB mS mR mW)) (px_l sw c2 w2 T D S S1 K R C W U q q1 B0 B1 B2 B3)) Q := by
  obtain ⟨⟨iT, iD, iK, iSc, i7, iB, iU, iMk, iW, iQ⟩, ⟨jT, jK, jE, jS, jg, jO, jL, jB, jU, jM, jW, j9, ja⟩, iS, iz, iY⟩ := id iA
  obtain ⟨sT, sN, sC, sB, sH⟩ := id iS
  have sH1 := sH.1
  have sho := iK.2.2.1
  have g1 : ∀ L, mm_gI (px_h z E (pm_f E Y (pm_l mV mT mQ mO mE mB mS mR mW)) L) 0 0 9 (nI (i + 1)) = some (xs.getD (i + 1) 0) := fun L => gS h0 (by omega) hl
  simp only [q5000_431, q5000_432, q5000_433, q5000_435, q5000_436, q5000_437, g1, nI_1, wx_some, wx_ref]
  simp only [q5000_438, xc_x]
  apply t_read iK sC iSc
  intro q' R' C' k1
  simp only [sl_i, q5000_441, q5000_442, q5000_443, q5000_445, q5000_446, q5000_447, g1, nI_1, wx_some, wx_ref]
  rw [pw_xm]
  simp only [q5000_448, mc_o]
  apply tm_read jK jE sC jS jg
  intro mE' mR' k2
  simp only [sl_i, q5000_451]
  refine if_t (by first | rfl | trivial) ?_
  rw [← pw_xm]
  exact go tp nm s c us b mk ⟨⟨iT, iD, k1, iSc, i7, iB, iU, iMk, iW, iQ⟩, ⟨jT, jK, k2, jS, jg, jO, jL, jB, jU, jM, jW, j9, ja⟩, IS_up iS, by omega, iY⟩
theorem lw_ways (he : ELt E) (h0 : E 0 = mm_I 9 xs) (hl : xs.length ≤ 448) (hi : i + 7 ≤ xs.length) (ht : t < 64) (iA : LI t z Y tp nm s c us b mk T D S S1 K R C W U q q1 B0 B1 B2 B3 mV mT mQ mO mE mB mS mR mW) (go : GO fx d i t E Q) : ww (mp_P fx) (d + 50) 5000 607 [some (.ref 0), some (.ref 59), some (.ref 149), some (.ref 204), some (.int (nI i)), l5, l6] [] (px_h z E (pm_f E Y (pm_l mV mT mQ mO mE mB mS mR mW)) (px_l sw c2 w2 T D S S1 K R C W U q q1 B0 B1 B2 B3)) Q := by
  obtain ⟨⟨iT, iD, iK, iSc, i7, iB, iU, iMk, iW, iQ⟩, ⟨jT, jK, jE, jS, jg, jO, jL, jB, jU, jM, jW, j9, ja⟩, iS, iz, iY⟩ := id iA
  obtain ⟨sT, sN, sC, sB, sH⟩ := id iS
  have sH1 := sH.1
  have sho := iK.2.2.1
  have g1 : ∀ L, mm_gI (px_h z E (pm_f E Y (pm_l mV mT mQ mO mE mB mS mR mW)) L) 0 0 9 (nI (i + 1)) = some (xs.getD (i + 1) 0) := fun L => gS h0 (by omega) hl
  simp only [q5000_607, q5000_608, q5000_609, q5000_611, q5000_612, q5000_613, g1, nI_1, wx_some, wx_ref]
  simp only [q5000_614, xc_x]
  apply t_ways iK sC iSc
  intro q' R' C' k1
  simp only [sl_i, q5000_617, q5000_618, q5000_619, q5000_621, q5000_622, q5000_623, g1, nI_1, wx_some, wx_ref]
  rw [pw_xm]
  simp only [q5000_624, mc_o]
  apply tm_ways jK jE sC jS jg
  intro mE' mR' k2
  simp only [sl_i, q5000_627]
  refine if_t (by first | rfl | trivial) ?_
  rw [← pw_xm]
  exact go tp nm s c us b mk ⟨⟨iT, iD, k1, iSc, i7, iB, iU, iMk, iW, iQ⟩, ⟨jT, jK, k2, jS, jg, jO, jL, jB, jU, jM, jW, j9, ja⟩, IS_up iS, by omega, iY⟩
theorem lw_sorts (he : ELt E) (h0 : E 0 = mm_I 9 xs) (hl : xs.length ≤ 448) (hi : i + 7 ≤ xs.length) (ht : t < 64) (iA : LI t z Y tp nm s c us b mk T D S S1 K R C W U q q1 B0 B1 B2 B3 mV mT mQ mO mE mB mS mR mW) (go : GO fx d i t E Q) : ww (mp_P fx) (d + 50) 5000 632 [some (.ref 0), some (.ref 59), some (.ref 149), some (.ref 204), some (.int (nI i)), l5, l6] [] (px_h z E (pm_f E Y (pm_l mV mT mQ mO mE mB mS mR mW)) (px_l sw c2 w2 T D S S1 K R C W U q q1 B0 B1 B2 B3)) Q := by
  obtain ⟨⟨iT, iD, iK, iSc, i7, iB, iU, iMk, iW, iQ⟩, ⟨jT, jK, jE, jS, jg, jO, jL, jB, jU, jM, jW, j9, ja⟩, iS, iz, iY⟩ := id iA
  obtain ⟨sT, sN, sC, sB, sH⟩ := id iS
  have sH1 := sH.1
  have sho := iK.2.2.1
  have g1 : ∀ L, mm_gI (px_h z E (pm_f E Y (pm_l mV mT mQ mO mE mB mS mR mW)) L) 0 0 9 (nI (i + 1)) = some (xs.getD (i + 1) 0) := fun L => gS h0 (by omega) hl
  have g2 : ∀ L, mm_gI (px_h z E (pm_f E Y (pm_l mV mT mQ mO mE mB mS mR mW)) L) 0 0 9 (nI (i + 2)) = some (xs.getD (i + 2) 0) := fun L => gS h0 (by omega) hl
  have g3 : ∀ L, mm_gI (px_h z E (pm_f E Y (pm_l mV mT mQ mO mE mB mS mR mW)) L) 0 0 9 (nI (i + 3)) = some (xs.getD (i + 3) 0) := fun L => gS h0 (by omega) hl
  simp only [q5000_632, q5000_633, q5000_634, q5000_636, q5000_637, q5000_638, q5000_639, q5000_640, q5000_642, q5000_643, q5000_644, q5000_645, q5000_646, q5000_648, q5000_649, q5000_650, g1, g2, g3, nI_1, nI_p2, nI_p3, wx_some, wx_ref]
  simp only [q5000_651, xc_x]
  apply t_sorts iK sC iSc
  intro q' R' C' k1
  simp only [sl_i, q5000_654, q5000_655, q5000_656, q5000_658, q5000_659, q5000_660, q5000_661, q5000_662, q5000_664, q5000_665, q5000_666, q5000_667, q5000_668, q5000_670, q5000_671, q5000_672, g1, g2, g3, nI_1, nI_p2, nI_p3, wx_some, wx_ref]
  rw [pw_xm]
  simp only [q5000_673, mc_o]
  apply tm_sorts jK jE sC jS jg
  intro mE' mR' k2
  simp only [sl_i, q5000_676]
  refine if_t (by first | rfl | trivial) ?_
  rw [← pw_xm]
  exact go tp nm s c us b mk ⟨⟨iT, iD, k1, iSc, i7, iB, iU, iMk, iW, iQ⟩, ⟨jT, jK, k2, jS, jg, jO, jL, jB, jU, jM, jW, j9, ja⟩, IS_up iS, by omega, iY⟩
theorem lw_depth (he : ELt E) (h0 : E 0 = mm_I 9 xs) (hl : xs.length ≤ 448) (hi : i + 7 ≤ xs.length) (ht : t < 64) (iA : LI t z Y tp nm s c us b mk T D S S1 K R C W U q q1 B0 B1 B2 B3 mV mT mQ mO mE mB mS mR mW) (go : GO fx d i t E Q) : ww (mp_P fx) (d + 50) 5000 681 [some (.ref 0), some (.ref 59), some (.ref 149), some (.ref 204), some (.int (nI i)), l5, l6] [] (px_h z E (pm_f E Y (pm_l mV mT mQ mO mE mB mS mR mW)) (px_l sw c2 w2 T D S S1 K R C W U q q1 B0 B1 B2 B3)) Q := by
  obtain ⟨⟨iT, iD, iK, iSc, i7, iB, iU, iMk, iW, iQ⟩, ⟨jT, jK, jE, jS, jg, jO, jL, jB, jU, jM, jW, j9, ja⟩, iS, iz, iY⟩ := id iA
  obtain ⟨sT, sN, sC, sB, sH⟩ := id iS
  have sH1 := sH.1
  have sho := iK.2.2.1
  have g1 : ∀ L, mm_gI (px_h z E (pm_f E Y (pm_l mV mT mQ mO mE mB mS mR mW)) L) 0 0 9 (nI (i + 1)) = some (xs.getD (i + 1) 0) := fun L => gS h0 (by omega) hl
  simp only [q5000_681, q5000_682, q5000_683, q5000_685, q5000_686, q5000_687, g1, nI_1, wx_some, wx_ref]
  simp only [q5000_688, xc_x]
  apply t_depth iK sC iSc
  intro q' R' C' c2' k1
  simp only [sl_i, q5000_691, q5000_692, q5000_693, q5000_695, q5000_696, q5000_697, g1, nI_1, wx_some, wx_ref]
  rw [pw_xm]
  simp only [q5000_698, mc_o]
  apply tm_depth jK jE sC jS jg
  intro mE' mR' k2
  simp only [sl_i, q5000_701]
  refine if_t (by first | rfl | trivial) ?_
  rw [← pw_xm]
  exact go tp nm s c us b mk ⟨⟨iT, iD, k1, iSc, i7, iB, iU, iMk, iW, iQ⟩, ⟨jT, jK, k2, jS, jg, jO, jL, jB, jU, jM, jW, j9, ja⟩, IS_up iS, by omega, iY⟩
theorem lw_tree (he : ELt E) (h0 : E 0 = mm_I 9 xs) (hl : xs.length ≤ 448) (hi : i + 7 ≤ xs.length) (ht : t < 64) (iA : LI t z Y tp nm s c us b mk T D S S1 K R C W U q q1 B0 B1 B2 B3 mV mT mQ mO mE mB mS mR mW) (go : GO fx d i t E Q) : ww (mp_P fx) (d + 50) 5000 706 [some (.ref 0), some (.ref 59), some (.ref 149), some (.ref 204), some (.int (nI i)), l5, l6] [] (px_h z E (pm_f E Y (pm_l mV mT mQ mO mE mB mS mR mW)) (px_l sw c2 w2 T D S S1 K R C W U q q1 B0 B1 B2 B3)) Q := by
  obtain ⟨⟨iT, iD, iK, iSc, i7, iB, iU, iMk, iW, iQ⟩, ⟨jT, jK, jE, jS, jg, jO, jL, jB, jU, jM, jW, j9, ja⟩, iS, iz, iY⟩ := id iA
  obtain ⟨sT, sN, sC, sB, sH⟩ := id iS
  have sH1 := sH.1
  have sho := iK.2.2.1
  have g1 : ∀ L, mm_gI (px_h z E (pm_f E Y (pm_l mV mT mQ mO mE mB mS mR mW)) L) 0 0 9 (nI (i + 1)) = some (xs.getD (i + 1) 0) := fun L => gS h0 (by omega) hl
  have g2 : ∀ L, mm_gI (px_h z E (pm_f E Y (pm_l mV mT mQ mO mE mB mS mR mW)) L) 0 0 9 (nI (i + 2)) = some (xs.getD (i + 2) 0) := fun L => gS h0 (by omega) hl
  simp only [q5000_706, q5000_707, q5000_708, q5000_710, q5000_711, q5000_712, q5000_713, q5000_714, q5000_716, q5000_717, q5000_718, g1, g2, nI_1, nI_p2, wx_some, wx_ref]
  simp only [q5000_719, xc_x]
  apply t_tree iK sC iSc
  intro q' R' C' c2' k1
  simp only [sl_i, q5000_722, q5000_723, q5000_724, q5000_726, q5000_727, q5000_728, q5000_729, q5000_730, q5000_732, q5000_733, q5000_734, g1, g2, nI_1, nI_p2, wx_some, wx_ref]
  rw [pw_xm]
  simp only [q5000_735, mc_o]
  apply tm_tree jK jE sC jS jg
  intro mE' mR' k2
  simp only [sl_i, q5000_738]
  refine if_t (by first | rfl | trivial) ?_
  rw [← pw_xm]
  exact go tp nm s c us b mk ⟨⟨iT, iD, k1, iSc, i7, iB, iU, iMk, iW, iQ⟩, ⟨jT, jK, k2, jS, jg, jO, jL, jB, jU, jM, jW, j9, ja⟩, IS_up iS, by omega, iY⟩
theorem lw_keys (he : ELt E) (h0 : E 0 = mm_I 9 xs) (hl : xs.length ≤ 448) (hi : i + 7 ≤ xs.length) (ht : t < 64) (iA : LI t z Y tp nm s c us b mk T D S S1 K R C W U q q1 B0 B1 B2 B3 mV mT mQ mO mE mB mS mR mW) (go : GO fx d i t E Q) : ww (mp_P fx) (d + 50) 5000 743 [some (.ref 0), some (.ref 59), some (.ref 149), some (.ref 204), some (.int (nI i)), l5, l6] [] (px_h z E (pm_f E Y (pm_l mV mT mQ mO mE mB mS mR mW)) (px_l sw c2 w2 T D S S1 K R C W U q q1 B0 B1 B2 B3)) Q := by
  obtain ⟨⟨iT, iD, iK, iSc, i7, iB, iU, iMk, iW, iQ⟩, ⟨jT, jK, jE, jS, jg, jO, jL, jB, jU, jM, jW, j9, ja⟩, iS, iz, iY⟩ := id iA
  obtain ⟨sT, sN, sC, sB, sH⟩ := id iS
  have sH1 := sH.1
  have sho := iK.2.2.1
  simp only [q5000_743, wx_some, wx_ref]
  simp only [q5000_744, xc_x]
  apply t_keys iK sC iSc
  intro q' R' C' k1
  simp only [sl_i, q5000_747, wx_some, wx_ref]
  rw [pw_xm]
  simp only [q5000_748, mc_o]
  apply tm_keys jK jE sC jS jg
  intro mE' mR' k2
  simp only [sl_i, q5000_751]
  refine if_t (by first | rfl | trivial) ?_
  rw [← pw_xm]
  exact go tp nm s c us b mk ⟨⟨iT, iD, k1, iSc, i7, iB, iU, iMk, iW, iQ⟩, ⟨jT, jK, k2, jS, jg, jO, jL, jB, jU, jM, jW, j9, ja⟩, IS_up iS, by omega, iY⟩
theorem lw_least (he : ELt E) (h0 : E 0 = mm_I 9 xs) (hl : xs.length ≤ 448) (hi : i + 7 ≤ xs.length) (ht : t < 64) (iA : LI t z Y tp nm s c us b mk T D S S1 K R C W U q q1 B0 B1 B2 B3 mV mT mQ mO mE mB mS mR mW) (go : GO fx d i t E Q) : ww (mp_P fx) (d + 50) 5000 756 [some (.ref 0), some (.ref 59), some (.ref 149), some (.ref 204), some (.int (nI i)), l5, l6] [] (px_h z E (pm_f E Y (pm_l mV mT mQ mO mE mB mS mR mW)) (px_l sw c2 w2 T D S S1 K R C W U q q1 B0 B1 B2 B3)) Q := by
  obtain ⟨⟨iT, iD, iK, iSc, i7, iB, iU, iMk, iW, iQ⟩, ⟨jT, jK, jE, jS, jg, jO, jL, jB, jU, jM, jW, j9, ja⟩, iS, iz, iY⟩ := id iA
  obtain ⟨sT, sN, sC, sB, sH⟩ := id iS
  have sH1 := sH.1
  have sho := iK.2.2.1
  simp only [q5000_756, wx_some, wx_ref]
  simp only [q5000_757, xc_x]
  apply t_least iK sC iSc
  intro q' R' C' k1
  simp only [sl_i, q5000_760, wx_some, wx_ref]
  rw [pw_xm]
  simp only [q5000_761, mc_o]
  apply tm_least jK jE sC jS jg
  intro mE' mR' k2
  simp only [sl_i, q5000_764]
  refine if_t (by first | rfl | trivial) ?_
  rw [← pw_xm]
  exact go tp nm s c us b mk ⟨⟨iT, iD, k1, iSc, i7, iB, iU, iMk, iW, iQ⟩, ⟨jT, jK, k2, jS, jg, jO, jL, jB, jU, jM, jW, j9, ja⟩, IS_up iS, by omega, iY⟩
theorem lw_later (he : ELt E) (h0 : E 0 = mm_I 9 xs) (hl : xs.length ≤ 448) (hi : i + 7 ≤ xs.length) (ht : t < 64) (iA : LI t z Y tp nm s c us b mk T D S S1 K R C W U q q1 B0 B1 B2 B3 mV mT mQ mO mE mB mS mR mW) (go : GO fx d i t E Q) : ww (mp_P fx) (d + 50) 5000 769 [some (.ref 0), some (.ref 59), some (.ref 149), some (.ref 204), some (.int (nI i)), l5, l6] [] (px_h z E (pm_f E Y (pm_l mV mT mQ mO mE mB mS mR mW)) (px_l sw c2 w2 T D S S1 K R C W U q q1 B0 B1 B2 B3)) Q := by
  obtain ⟨⟨iT, iD, iK, iSc, i7, iB, iU, iMk, iW, iQ⟩, ⟨jT, jK, jE, jS, jg, jO, jL, jB, jU, jM, jW, j9, ja⟩, iS, iz, iY⟩ := id iA
  obtain ⟨sT, sN, sC, sB, sH⟩ := id iS
  have sH1 := sH.1
  have sho := iK.2.2.1
  have g1 : ∀ L, mm_gI (px_h z E (pm_f E Y (pm_l mV mT mQ mO mE mB mS mR mW)) L) 0 0 9 (nI (i + 1)) = some (xs.getD (i + 1) 0) := fun L => gS h0 (by omega) hl
  have g2 : ∀ L, mm_gI (px_h z E (pm_f E Y (pm_l mV mT mQ mO mE mB mS mR mW)) L) 0 0 9 (nI (i + 2)) = some (xs.getD (i + 2) 0) := fun L => gS h0 (by omega) hl
  simp only [q5000_769, q5000_770, q5000_771, q5000_773, q5000_774, q5000_775, q5000_776, q5000_777, q5000_779, q5000_780, q5000_781, g1, g2, nI_1, nI_p2, wx_some, wx_ref]
  simp only [q5000_782, xc_x]
  apply t_later iK sC (by omega) iSc
  simp only [sl_i, q5000_785, q5000_786, q5000_787, q5000_789, q5000_790, q5000_791, q5000_792, q5000_793, q5000_795, q5000_796, q5000_797, g1, g2, nI_1, nI_p2, wx_some, wx_ref]
  rw [pw_xm]
  simp only [q5000_798, mc_o]
  apply tm_later jK sC (by omega) jS j9
  intro b' k2
  simp only [sl_i, q5000_801]
  refine if_t (by first | rfl | trivial) ?_
  rw [← pw_xm]
  exact go tp nm s c us b mk ⟨⟨iT, iD, iK, iSc, i7, iB, iU, iMk, iW, iQ⟩, ⟨jT, jK, jE, jS, jg, jO, jL, jB, jU, jM, jW, k2, ja⟩, IS_up iS, by omega, iY⟩
theorem lw_when (he : ELt E) (h0 : E 0 = mm_I 9 xs) (hl : xs.length ≤ 448) (hi : i + 7 ≤ xs.length) (ht : t < 64) (iA : LI t z Y tp nm s c us b mk T D S S1 K R C W U q q1 B0 B1 B2 B3 mV mT mQ mO mE mB mS mR mW) (go : GO fx d i t E Q) : ww (mp_P fx) (d + 50) 5000 806 [some (.ref 0), some (.ref 59), some (.ref 149), some (.ref 204), some (.int (nI i)), l5, l6] [] (px_h z E (pm_f E Y (pm_l mV mT mQ mO mE mB mS mR mW)) (px_l sw c2 w2 T D S S1 K R C W U q q1 B0 B1 B2 B3)) Q := by
  obtain ⟨⟨iT, iD, iK, iSc, i7, iB, iU, iMk, iW, iQ⟩, ⟨jT, jK, jE, jS, jg, jO, jL, jB, jU, jM, jW, j9, ja⟩, iS, iz, iY⟩ := id iA
  obtain ⟨sT, sN, sC, sB, sH⟩ := id iS
  have sH1 := sH.1
  have sho := iK.2.2.1
  simp only [q5000_806, wx_some, wx_ref]
  simp only [q5000_807, xc_x]
  apply t_when iK sC (by omega) iSc i7
  intro q' R' C' S1' k1 k3
  simp only [sl_i, q5000_810, wx_some, wx_ref]
  rw [pw_xm]
  simp only [q5000_811, mc_o]
  apply tm_when jK jE sC (by omega) jS jg j9
  intro mE' mR' k2
  simp only [sl_i, q5000_814]
  refine if_t (by first | rfl | trivial) ?_
  rw [← pw_xm]
  exact go tp nm s c us b mk ⟨⟨iT, iD, k1, iSc, k3, iB, iU, iMk, iW, iQ⟩, ⟨jT, jK, k2, jS, jg, jO, jL, jB, jU, jM, jW, jS.1, ja⟩, IS_up iS, by omega, iY⟩
theorem lw_most (he : ELt E) (h0 : E 0 = mm_I 9 xs) (hl : xs.length ≤ 448) (hi : i + 7 ≤ xs.length) (ht : t < 64) (iA : LI t z Y tp nm s c us b mk T D S S1 K R C W U q q1 B0 B1 B2 B3 mV mT mQ mO mE mB mS mR mW) (go : GO fx d i t E Q) : ww (mp_P fx) (d + 50) 5000 819 [some (.ref 0), some (.ref 59), some (.ref 149), some (.ref 204), some (.int (nI i)), l5, l6] [] (px_h z E (pm_f E Y (pm_l mV mT mQ mO mE mB mS mR mW)) (px_l sw c2 w2 T D S S1 K R C W U q q1 B0 B1 B2 B3)) Q := by
  obtain ⟨⟨iT, iD, iK, iSc, i7, iB, iU, iMk, iW, iQ⟩, ⟨jT, jK, jE, jS, jg, jO, jL, jB, jU, jM, jW, j9, ja⟩, iS, iz, iY⟩ := id iA
  obtain ⟨sT, sN, sC, sB, sH⟩ := id iS
  have sH1 := sH.1
  have sho := iK.2.2.1
  simp only [q5000_819, wx_some, wx_ref]
  simp only [q5000_820, xc_x]
  apply t_most iK sC (by omega) iSc i7
  intro q' R' C' S1' k1 k3
  simp only [sl_i, q5000_823, wx_some, wx_ref]
  rw [pw_xm]
  simp only [q5000_824, mc_o]
  apply tm_most jK jE sC (by omega) jS jg j9
  intro mE' mR' k2
  simp only [sl_i, q5000_827]
  refine if_t (by first | rfl | trivial) ?_
  rw [← pw_xm]
  exact go tp nm s c us b mk ⟨⟨iT, iD, k1, iSc, k3, iB, iU, iMk, iW, iQ⟩, ⟨jT, jK, k2, jS, jg, jO, jL, jB, jU, jM, jW, jS.1, ja⟩, IS_up iS, by omega, iY⟩
theorem lw_talk (he : ELt E) (h0 : E 0 = mm_I 9 xs) (hl : xs.length ≤ 448) (hi : i + 7 ≤ xs.length) (ht : t < 64) (iA : LI t z Y tp nm s c us b mk T D S S1 K R C W U q q1 B0 B1 B2 B3 mV mT mQ mO mE mB mS mR mW) (go : GO fx d i t E Q) : ww (mp_P fx) (d + 50) 5000 832 [some (.ref 0), some (.ref 59), some (.ref 149), some (.ref 204), some (.int (nI i)), l5, l6] [] (px_h z E (pm_f E Y (pm_l mV mT mQ mO mE mB mS mR mW)) (px_l sw c2 w2 T D S S1 K R C W U q q1 B0 B1 B2 B3)) Q := by
  obtain ⟨⟨iT, iD, iK, iSc, i7, iB, iU, iMk, iW, iQ⟩, ⟨jT, jK, jE, jS, jg, jO, jL, jB, jU, jM, jW, j9, ja⟩, iS, iz, iY⟩ := id iA
  obtain ⟨sT, sN, sC, sB, sH⟩ := id iS
  have sH1 := sH.1
  have sho := iK.2.2.1
  have g1 : ∀ L, mm_gI (px_h z E (pm_f E Y (pm_l mV mT mQ mO mE mB mS mR mW)) L) 0 0 9 (nI (i + 1)) = some (xs.getD (i + 1) 0) := fun L => gS h0 (by omega) hl
  simp only [q5000_832, q5000_833, q5000_834, q5000_836, q5000_837, q5000_838, g1, nI_1, wx_some, wx_ref]
  simp only [q5000_839, xc_x]
  apply t_talk iK sC (by omega) iSc i7
  intro q' R' C' S1' k1 k3
  simp only [sl_i, q5000_842, q5000_843, q5000_844, q5000_846, q5000_847, q5000_848, g1, nI_1, wx_some, wx_ref]
  rw [pw_xm]
  simp only [q5000_849, mc_o]
  apply tm_talk jK jE sC (by omega) jS jg j9
  intro mE' mR' b' k2 k4
  simp only [sl_i, q5000_852]
  refine if_t (by first | rfl | trivial) ?_
  rw [← pw_xm]
  exact go tp nm s c us b mk ⟨⟨iT, iD, k1, iSc, k3, iB, iU, iMk, iW, iQ⟩, ⟨jT, jK, k2, jS, jg, jO, jL, jB, jU, jM, jW, k4, ja⟩, IS_up iS, by omega, iY⟩
theorem lw_wished (he : ELt E) (h0 : E 0 = mm_I 9 xs) (hl : xs.length ≤ 448) (hi : i + 7 ≤ xs.length) (ht : t < 64) (iA : LI t z Y tp nm s c us b mk T D S S1 K R C W U q q1 B0 B1 B2 B3 mV mT mQ mO mE mB mS mR mW) (go : GO fx d i t E Q) : ww (mp_P fx) (d + 50) 5000 857 [some (.ref 0), some (.ref 59), some (.ref 149), some (.ref 204), some (.int (nI i)), l5, l6] [] (px_h z E (pm_f E Y (pm_l mV mT mQ mO mE mB mS mR mW)) (px_l sw c2 w2 T D S S1 K R C W U q q1 B0 B1 B2 B3)) Q := by
  obtain ⟨⟨iT, iD, iK, iSc, i7, iB, iU, iMk, iW, iQ⟩, ⟨jT, jK, jE, jS, jg, jO, jL, jB, jU, jM, jW, j9, ja⟩, iS, iz, iY⟩ := id iA
  obtain ⟨sT, sN, sC, sB, sH⟩ := id iS
  have sH1 := sH.1
  have sho := iK.2.2.1
  simp only [q5000_857, wx_some, wx_ref]
  simp only [q5000_858, xc_x]
  apply t_wished iK sB iB
  intro C' k1
  simp only [sl_i, q5000_861, wx_some, wx_ref]
  rw [pw_xm]
  simp only [q5000_862, mc_o]
  apply tm_wished jK jE sB jL jB
  intro mR' k2
  simp only [sl_i, q5000_865]
  refine if_t (by first | rfl | trivial) ?_
  rw [← pw_xm]
  exact go tp nm s c us b mk ⟨⟨iT, iD, k1, iSc, i7, iB, iU, iMk, iW, iQ⟩, ⟨jT, jK, k2, jS, jg, jO, jL, jB, jU, jM, jW, j9, ja⟩, IS_up iS, by omega, iY⟩
theorem lw_colours (he : ELt E) (h0 : E 0 = mm_I 9 xs) (hl : xs.length ≤ 448) (hi : i + 7 ≤ xs.length) (ht : t < 64) (iA : LI t z Y tp nm s c us b mk T D S S1 K R C W U q q1 B0 B1 B2 B3 mV mT mQ mO mE mB mS mR mW) (go : GO fx d i t E Q) : ww (mp_P fx) (d + 50) 5000 895 [some (.ref 0), some (.ref 59), some (.ref 149), some (.ref 204), some (.int (nI i)), l5, l6] [] (px_h z E (pm_f E Y (pm_l mV mT mQ mO mE mB mS mR mW)) (px_l sw c2 w2 T D S S1 K R C W U q q1 B0 B1 B2 B3)) Q := by
  obtain ⟨⟨iT, iD, iK, iSc, i7, iB, iU, iMk, iW, iQ⟩, ⟨jT, jK, jE, jS, jg, jO, jL, jB, jU, jM, jW, j9, ja⟩, iS, iz, iY⟩ := id iA
  obtain ⟨sT, sN, sC, sB, sH⟩ := id iS
  have sH1 := sH.1
  have sho := iK.2.2.1
  simp only [q5000_895, wx_some, wx_ref]
  simp only [q5000_896, xc_x]
  apply t_colours iK sC iSc
  intro q' R' C' k1
  simp only [sl_i, q5000_899, wx_some, wx_ref]
  rw [pw_xm]
  simp only [q5000_900, mc_o]
  apply tm_colours jK jE sC jS jg
  intro mE' mR' k2
  simp only [sl_i, q5000_903]
  refine if_t (by first | rfl | trivial) ?_
  rw [← pw_xm]
  exact go tp nm s c us b mk ⟨⟨iT, iD, k1, iSc, i7, iB, iU, iMk, iW, iQ⟩, ⟨jT, jK, k2, jS, jg, jO, jL, jB, jU, jM, jW, j9, ja⟩, IS_up iS, by omega, iY⟩
theorem lw_code (he : ELt E) (h0 : E 0 = mm_I 9 xs) (hl : xs.length ≤ 448) (hi : i + 7 ≤ xs.length) (ht : t < 64) (iA : LI t z Y tp nm s c us b mk T D S S1 K R C W U q q1 B0 B1 B2 B3 mV mT mQ mO mE mB mS mR mW) (go : GO fx d i t E Q) : ww (mp_P fx) (d + 50) 5000 908 [some (.ref 0), some (.ref 59), some (.ref 149), some (.ref 204), some (.int (nI i)), l5, l6] [] (px_h z E (pm_f E Y (pm_l mV mT mQ mO mE mB mS mR mW)) (px_l sw c2 w2 T D S S1 K R C W U q q1 B0 B1 B2 B3)) Q := by
  obtain ⟨⟨iT, iD, iK, iSc, i7, iB, iU, iMk, iW, iQ⟩, ⟨jT, jK, jE, jS, jg, jO, jL, jB, jU, jM, jW, j9, ja⟩, iS, iz, iY⟩ := id iA
  obtain ⟨sT, sN, sC, sB, sH⟩ := id iS
  have sH1 := sH.1
  have sho := iK.2.2.1
  have g1 : ∀ L, mm_gI (px_h z E (pm_f E Y (pm_l mV mT mQ mO mE mB mS mR mW)) L) 0 0 9 (nI (i + 1)) = some (xs.getD (i + 1) 0) := fun L => gS h0 (by omega) hl
  simp only [q5000_908, q5000_909, q5000_910, q5000_912, q5000_913, q5000_914, g1, nI_1, wx_some, wx_ref]
  simp only [q5000_915, xc_x]
  apply t_code
  simp only [sl_i, q5000_918, q5000_919, q5000_920, q5000_922, q5000_923, q5000_924, g1, nI_1, wx_some, wx_ref]
  rw [pw_xm]
  simp only [q5000_925, mc_o]
  apply tm_code
  simp only [sl_i, q5000_928]
  refine if_t (by first | rfl | trivial) ?_
  rw [← pw_xm]
  exact go tp nm s c us b mk ⟨⟨iT, iD, iK, iSc, i7, iB, iU, iMk, iW, iQ⟩, ⟨jT, jK, jE, jS, jg, jO, jL, jB, jU, jM, jW, j9, ja⟩, IS_up iS, by omega, iY⟩
theorem lw_amiss (he : ELt E) (h0 : E 0 = mm_I 9 xs) (hl : xs.length ≤ 448) (hi : i + 7 ≤ xs.length) (ht : t < 64) (iA : LI t z Y tp nm s c us b mk T D S S1 K R C W U q q1 B0 B1 B2 B3 mV mT mQ mO mE mB mS mR mW) (go : GO fx d i t E Q) : ww (mp_P fx) (d + 50) 5000 933 [some (.ref 0), some (.ref 59), some (.ref 149), some (.ref 204), some (.int (nI i)), l5, l6] [] (px_h z E (pm_f E Y (pm_l mV mT mQ mO mE mB mS mR mW)) (px_l sw c2 w2 T D S S1 K R C W U q q1 B0 B1 B2 B3)) Q := by
  obtain ⟨⟨iT, iD, iK, iSc, i7, iB, iU, iMk, iW, iQ⟩, ⟨jT, jK, jE, jS, jg, jO, jL, jB, jU, jM, jW, j9, ja⟩, iS, iz, iY⟩ := id iA
  obtain ⟨sT, sN, sC, sB, sH⟩ := id iS
  have sH1 := sH.1
  have sho := iK.2.2.1
  have g1 : ∀ L, mm_gI (px_h z E (pm_f E Y (pm_l mV mT mQ mO mE mB mS mR mW)) L) 0 0 9 (nI (i + 1)) = some (xs.getD (i + 1) 0) := fun L => gS h0 (by omega) hl
  simp only [q5000_933, q5000_934, q5000_935, q5000_937, q5000_938, q5000_939, g1, nI_1, wx_some, wx_ref]
  simp only [q5000_940, xc_x]
  apply t_amiss
  simp only [sl_i, q5000_943, q5000_944, q5000_945, q5000_947, q5000_948, q5000_949, g1, nI_1, wx_some, wx_ref]
  rw [pw_xm]
  simp only [q5000_950, mc_o]
  apply tm_amiss
  simp only [sl_i, q5000_953]
  refine if_t (by first | rfl | trivial) ?_
  rw [← pw_xm]
  exact go tp nm s c us b mk ⟨⟨iT, iD, iK, iSc, i7, iB, iU, iMk, iW, iQ⟩, ⟨jT, jK, jE, jS, jg, jO, jL, jB, jU, jM, jW, j9, ja⟩, IS_up iS, by omega, iY⟩
theorem lw_blind (he : ELt E) (h0 : E 0 = mm_I 9 xs) (hl : xs.length ≤ 448) (hi : i + 7 ≤ xs.length) (ht : t < 64) (iA : LI t z Y tp nm s c us b mk T D S S1 K R C W U q q1 B0 B1 B2 B3 mV mT mQ mO mE mB mS mR mW) (go : GO fx d i t E Q) : ww (mp_P fx) (d + 50) 5000 958 [some (.ref 0), some (.ref 59), some (.ref 149), some (.ref 204), some (.int (nI i)), l5, l6] [] (px_h z E (pm_f E Y (pm_l mV mT mQ mO mE mB mS mR mW)) (px_l sw c2 w2 T D S S1 K R C W U q q1 B0 B1 B2 B3)) Q := by
  obtain ⟨⟨iT, iD, iK, iSc, i7, iB, iU, iMk, iW, iQ⟩, ⟨jT, jK, jE, jS, jg, jO, jL, jB, jU, jM, jW, j9, ja⟩, iS, iz, iY⟩ := id iA
  obtain ⟨sT, sN, sC, sB, sH⟩ := id iS
  have sH1 := sH.1
  have sho := iK.2.2.1
  have g1 : ∀ L, mm_gI (px_h z E (pm_f E Y (pm_l mV mT mQ mO mE mB mS mR mW)) L) 0 0 9 (nI (i + 1)) = some (xs.getD (i + 1) 0) := fun L => gS h0 (by omega) hl
  simp only [q5000_958, q5000_959, q5000_960, q5000_962, q5000_963, q5000_964, g1, nI_1, wx_some, wx_ref]
  simp only [q5000_965, xc_x]
  apply t_blind
  simp only [sl_i, q5000_968, q5000_969, q5000_970, q5000_972, q5000_973, q5000_974, g1, nI_1, wx_some, wx_ref]
  rw [pw_xm]
  simp only [q5000_975, mc_o]
  apply tm_blind
  simp only [sl_i, q5000_978]
  refine if_t (by first | rfl | trivial) ?_
  rw [← pw_xm]
  exact go tp nm s c us b mk ⟨⟨iT, iD, iK, iSc, i7, iB, iU, iMk, iW, iQ⟩, ⟨jT, jK, jE, jS, jg, jO, jL, jB, jU, jM, jW, j9, ja⟩, IS_up iS, by omega, iY⟩
theorem lw_answer (he : ELt E) (h0 : E 0 = mm_I 9 xs) (hl : xs.length ≤ 448) (hi : i + 7 ≤ xs.length) (ht : t < 64) (iA : LI t z Y tp nm s c us b mk T D S S1 K R C W U q q1 B0 B1 B2 B3 mV mT mQ mO mE mB mS mR mW) (go : GO fx d i t E Q) : ww (mp_P fx) (d + 50) 5000 983 [some (.ref 0), some (.ref 59), some (.ref 149), some (.ref 204), some (.int (nI i)), l5, l6] [] (px_h z E (pm_f E Y (pm_l mV mT mQ mO mE mB mS mR mW)) (px_l sw c2 w2 T D S S1 K R C W U q q1 B0 B1 B2 B3)) Q := by
  obtain ⟨⟨iT, iD, iK, iSc, i7, iB, iU, iMk, iW, iQ⟩, ⟨jT, jK, jE, jS, jg, jO, jL, jB, jU, jM, jW, j9, ja⟩, iS, iz, iY⟩ := id iA
  obtain ⟨sT, sN, sC, sB, sH⟩ := id iS
  have sH1 := sH.1
  have sho := iK.2.2.1
  simp only [q5000_983, wx_some, wx_ref]
  simp only [q5000_984, xc_x]
  apply t_answer iK sC iSc
  intro q' R' C' k1
  simp only [sl_i, q5000_987, wx_some, wx_ref]
  rw [pw_xm]
  simp only [q5000_988, mc_o]
  apply tm_answer jK jE sC jS jg
  intro mE' mR' k2
  simp only [sl_i, q5000_991]
  refine if_t (by first | rfl | trivial) ?_
  rw [← pw_xm]
  exact go tp nm s c us b mk ⟨⟨iT, iD, k1, iSc, i7, iB, iU, iMk, iW, iQ⟩, ⟨jT, jK, k2, jS, jg, jO, jL, jB, jU, jM, jW, j9, ja⟩, IS_up iS, by omega, iY⟩
theorem lw_who (he : ELt E) (h0 : E 0 = mm_I 9 xs) (hl : xs.length ≤ 448) (hi : i + 7 ≤ xs.length) (ht : t < 64) (iA : LI t z Y tp nm s c us b mk T D S S1 K R C W U q q1 B0 B1 B2 B3 mV mT mQ mO mE mB mS mR mW) (go : GO fx d i t E Q) : ww (mp_P fx) (d + 50) 5000 1061 [some (.ref 0), some (.ref 59), some (.ref 149), some (.ref 204), some (.int (nI i)), l5, l6] [] (px_h z E (pm_f E Y (pm_l mV mT mQ mO mE mB mS mR mW)) (px_l sw c2 w2 T D S S1 K R C W U q q1 B0 B1 B2 B3)) Q := by
  obtain ⟨⟨iT, iD, iK, iSc, i7, iB, iU, iMk, iW, iQ⟩, ⟨jT, jK, jE, jS, jg, jO, jL, jB, jU, jM, jW, j9, ja⟩, iS, iz, iY⟩ := id iA
  obtain ⟨sT, sN, sC, sB, sH⟩ := id iS
  have sH1 := sH.1
  have sho := iK.2.2.1
  simp only [q5000_1061, wx_some, wx_ref]
  simp only [q5000_1062, xc_x]
  apply t_who iK sC (by omega) iSc sB iB
  simp only [sl_i, q5000_1065, wx_some, wx_ref]
  rw [pw_xm]
  simp only [q5000_1066, mc_o]
  apply tm_who jK sC (by omega) jS j9 jW.2.2.2 sB jL jB
  intro pl k2
  simp only [sl_i, q5000_1069]
  refine if_t (by first | rfl | trivial) ?_
  rw [← pw_xm]
  exact go tp nm s c us b mk ⟨⟨iT, iD, iK, iSc, i7, iB, iU, iMk, iW, iQ⟩, ⟨jT, jK, jE, jS, jg, jO, jL, jB, jU, jM, ⟨jW.1, jW.2.1, jW.2.2.1, k2.1⟩, jS.1, ja⟩, IS_up iS, by omega, iY⟩
theorem lw_ask (he : ELt E) (h0 : E 0 = mm_I 9 xs) (hl : xs.length ≤ 448) (hi : i + 7 ≤ xs.length) (ht : t < 64) (iA : LI t z Y tp nm s c us b mk T D S S1 K R C W U q q1 B0 B1 B2 B3 mV mT mQ mO mE mB mS mR mW) (go : GO fx d i t E Q) : ww (mp_P fx) (d + 50) 5000 1074 [some (.ref 0), some (.ref 59), some (.ref 149), some (.ref 204), some (.int (nI i)), l5, l6] [] (px_h z E (pm_f E Y (pm_l mV mT mQ mO mE mB mS mR mW)) (px_l sw c2 w2 T D S S1 K R C W U q q1 B0 B1 B2 B3)) Q := by
  obtain ⟨⟨iT, iD, iK, iSc, i7, iB, iU, iMk, iW, iQ⟩, ⟨jT, jK, jE, jS, jg, jO, jL, jB, jU, jM, jW, j9, ja⟩, iS, iz, iY⟩ := id iA
  obtain ⟨sT, sN, sC, sB, sH⟩ := id iS
  have sH1 := sH.1
  have sho := iK.2.2.1
  simp only [q5000_1074, wx_some, wx_ref]
  simp only [q5000_1075, xc_x]
  apply t_ask iK sC (by omega) iSc sB iB i7
  intro S1' k1
  simp only [sl_i, q5000_1078, wx_some, wx_ref]
  rw [pw_xm]
  simp only [q5000_1079, mc_o]
  apply tm_ask jK sC (by omega) jS j9 jW.2.2.2 sB jL jB
  intro pl k2
  simp only [sl_i, q5000_1082]
  refine if_t (by first | rfl | trivial) ?_
  rw [← pw_xm]
  exact go tp nm s c us b mk ⟨⟨iT, iD, iK, iSc, k1, iB, iU, iMk, iW, iQ⟩, ⟨jT, jK, jE, jS, jg, jO, jL, jB, jU, jM, ⟨jW.1, jW.2.1, jW.2.2.1, k2⟩, jS.1, ja⟩, IS_up iS, by omega, iY⟩
theorem lw_chance (he : ELt E) (h0 : E 0 = mm_I 9 xs) (hl : xs.length ≤ 448) (hi : i + 7 ≤ xs.length) (ht : t < 64) (iA : LI t z Y tp nm s c us b mk T D S S1 K R C W U q q1 B0 B1 B2 B3 mV mT mQ mO mE mB mS mR mW) (go : GO fx d i t E Q) : ww (mp_P fx) (d + 50) 5000 1087 [some (.ref 0), some (.ref 59), some (.ref 149), some (.ref 204), some (.int (nI i)), l5, l6] [] (px_h z E (pm_f E Y (pm_l mV mT mQ mO mE mB mS mR mW)) (px_l sw c2 w2 T D S S1 K R C W U q q1 B0 B1 B2 B3)) Q := by
  obtain ⟨⟨iT, iD, iK, iSc, i7, iB, iU, iMk, iW, iQ⟩, ⟨jT, jK, jE, jS, jg, jO, jL, jB, jU, jM, jW, j9, ja⟩, iS, iz, iY⟩ := id iA
  obtain ⟨sT, sN, sC, sB, sH⟩ := id iS
  have sH1 := sH.1
  have sho := iK.2.2.1
  have g1 : ∀ L, mm_gI (px_h z E (pm_f E Y (pm_l mV mT mQ mO mE mB mS mR mW)) L) 0 0 9 (nI (i + 1)) = some (xs.getD (i + 1) 0) := fun L => gS h0 (by omega) hl
  simp only [q5000_1087, q5000_1088, q5000_1089, q5000_1091, q5000_1092, q5000_1093, g1, nI_1, wx_some, wx_ref]
  simp only [q5000_1094, xc_x]
  apply t_chance iK sC iSc
  intro q' R' C' k1
  simp only [sl_i, q5000_1097, q5000_1098, q5000_1099, q5000_1101, q5000_1102, q5000_1103, g1, nI_1, wx_some, wx_ref]
  rw [pw_xm]
  simp only [q5000_1104, mc_o]
  apply tm_chance jK jE sC jS jg
  intro mE' mR' k2
  simp only [sl_i, q5000_1107]
  refine if_t (by first | rfl | trivial) ?_
  rw [← pw_xm]
  exact go tp nm s c us b mk ⟨⟨iT, iD, k1, iSc, i7, iB, iU, iMk, iW, iQ⟩, ⟨jT, jK, k2, jS, jg, jO, jL, jB, jU, jM, jW, j9, ja⟩, IS_up iS, by omega, iY⟩
theorem lw_days (he : ELt E) (h0 : E 0 = mm_I 9 xs) (hl : xs.length ≤ 448) (hi : i + 7 ≤ xs.length) (ht : t < 64) (iA : LI t z Y tp nm s c us b mk T D S S1 K R C W U q q1 B0 B1 B2 B3 mV mT mQ mO mE mB mS mR mW) (go : GO fx d i t E Q) : ww (mp_P fx) (d + 50) 5000 1204 [some (.ref 0), some (.ref 59), some (.ref 149), some (.ref 204), some (.int (nI i)), l5, l6] [] (px_h z E (pm_f E Y (pm_l mV mT mQ mO mE mB mS mR mW)) (px_l sw c2 w2 T D S S1 K R C W U q q1 B0 B1 B2 B3)) Q := by
  obtain ⟨⟨iT, iD, iK, iSc, i7, iB, iU, iMk, iW, iQ⟩, ⟨jT, jK, jE, jS, jg, jO, jL, jB, jU, jM, jW, j9, ja⟩, iS, iz, iY⟩ := id iA
  obtain ⟨sT, sN, sC, sB, sH⟩ := id iS
  have sH1 := sH.1
  have sho := iK.2.2.1
  have g1 : ∀ L, mm_gI (px_h z E (pm_f E Y (pm_l mV mT mQ mO mE mB mS mR mW)) L) 0 0 9 (nI (i + 1)) = some (xs.getD (i + 1) 0) := fun L => gS h0 (by omega) hl
  have g2 : ∀ L, mm_gI (px_h z E (pm_f E Y (pm_l mV mT mQ mO mE mB mS mR mW)) L) 0 0 9 (nI (i + 2)) = some (xs.getD (i + 2) 0) := fun L => gS h0 (by omega) hl
  have g3 : ∀ L, mm_gI (px_h z E (pm_f E Y (pm_l mV mT mQ mO mE mB mS mR mW)) L) 0 0 9 (nI (i + 3)) = some (xs.getD (i + 3) 0) := fun L => gS h0 (by omega) hl
  simp only [q5000_1204, q5000_1205, q5000_1206, q5000_1208, q5000_1209, q5000_1210, q5000_1211, q5000_1212, q5000_1214, q5000_1215, q5000_1216, q5000_1217, q5000_1218, q5000_1220, q5000_1221, q5000_1222, g1, g2, g3, nI_1, nI_p2, nI_p3, wx_some, wx_ref]
  simp only [q5000_1223, xc_x]
  apply t_days iK sC (by omega) iSc i7
  intro q' R' C' S1' k1 k3
  simp only [sl_i, q5000_1226, q5000_1227, q5000_1228, q5000_1230, q5000_1231, q5000_1232, q5000_1233, q5000_1234, q5000_1236, q5000_1237, q5000_1238, q5000_1239, q5000_1240, q5000_1242, q5000_1243, q5000_1244, g1, g2, g3, nI_1, nI_p2, nI_p3, wx_some, wx_ref]
  rw [pw_xm]
  simp only [q5000_1245, mc_o]
  apply tm_days jK jE sC (by omega) jS jg ja
  intro mE' mR' a' g' k2 k4
  simp only [sl_i, q5000_1248]
  refine if_t (by first | rfl | trivial) ?_
  rw [← pw_xm]
  exact go tp nm s c us b mk ⟨⟨iT, iD, k1, iSc, k3, iB, iU, iMk, iW, iQ⟩, ⟨jT, jK, k2, jS, jg, jO, jL, jB, jU, jM, jW, j9, k4⟩, IS_up iS, by omega, iY⟩
theorem lw_judged (he : ELt E) (h0 : E 0 = mm_I 9 xs) (hl : xs.length ≤ 448) (hi : i + 7 ≤ xs.length) (ht : t < 64) (iA : LI t z Y tp nm s c us b mk T D S S1 K R C W U q q1 B0 B1 B2 B3 mV mT mQ mO mE mB mS mR mW) (go : GO fx d i t E Q) : ww (mp_P fx) (d + 50) 5000 569 [some (.ref 0), some (.ref 59), some (.ref 149), some (.ref 204), some (.int (nI i)), l5, l6] [] (px_h z E (pm_f E Y (pm_l mV mT mQ mO mE mB mS mR mW)) (px_l sw c2 w2 T D S S1 K R C W U q q1 B0 B1 B2 B3)) Q := by
  obtain ⟨⟨iT, iD, iK, iSc, i7, iB, iU, iMk, iW, iQ⟩, ⟨jT, jK, jE, jS, jg, jO, jL, jB, jU, jM, jW, j9, ja⟩, iS, iz, iY⟩ := id iA
  obtain ⟨sT, sN, sC, sB, sH⟩ := id iS
  have sH1 := sH.1
  have sho := iK.2.2.1
  have g1 : ∀ L, mm_gI (px_h z E (pm_f E Y (pm_l mV mT mQ mO mE mB mS mR mW)) L) 0 0 9 (nI (i + 1)) = some (xs.getD (i + 1) 0) := fun L => gS h0 (by omega) hl
  simp only [q5000_569, q5000_570, q5000_571, q5000_573, q5000_574, q5000_575, g1, nI_1, wx_some, wx_ref]
  simp only [q5000_576, xc_x]
  apply t_judged iK sB iB i7
  intro q' R' C' S1' k1 k3
  simp only [sl_i, q5000_579, q5000_580, q5000_581, q5000_583, q5000_584, q5000_585, g1, nI_1, wx_some, wx_ref]
  rw [pw_xm]
  simp only [q5000_586, mc_o]
  apply tm_judged jK jE jS jg sB jL jB ja
  intro mE' mR' a' k2 k4
  simp only [sl_i, q5000_589]
  refine if_t (by first | rfl | trivial) ?_
  rw [← pw_xm]
  exact go tp nm s c us b mk ⟨⟨iT, iD, k1, iSc, k3, iB, iU, iMk, iW, iQ⟩, ⟨jT, jK, k2, jS, jg, jO, jL, jB, jU, jM, jW, j9, k4⟩, IS_up iS, by omega, iY⟩
theorem lw_count (he : ELt E) (h0 : E 0 = mm_I 9 xs) (hl : xs.length ≤ 448) (hi : i + 7 ≤ xs.length) (ht : t < 64) (iA : LI t z Y tp nm s c us b mk T D S S1 K R C W U q q1 B0 B1 B2 B3 mV mT mQ mO mE mB mS mR mW) (go : GO fx d i t E Q) : ww (mp_P fx) (d + 50) 5000 1306 [some (.ref 0), some (.ref 59), some (.ref 149), some (.ref 204), some (.int (nI i)), l5, l6] [] (px_h z E (pm_f E Y (pm_l mV mT mQ mO mE mB mS mR mW)) (px_l sw c2 w2 T D S S1 K R C W U q q1 B0 B1 B2 B3)) Q := by
  obtain ⟨⟨iT, iD, iK, iSc, i7, iB, iU, iMk, iW, iQ⟩, ⟨jT, jK, jE, jS, jg, jO, jL, jB, jU, jM, jW, j9, ja⟩, iS, iz, iY⟩ := id iA
  obtain ⟨sT, sN, sC, sB, sH⟩ := id iS
  have sH1 := sH.1
  have sho := iK.2.2.1
  have g1 : ∀ L, mm_gI (px_h z E (pm_f E Y (pm_l mV mT mQ mO mE mB mS mR mW)) L) 0 0 9 (nI (i + 1)) = some (xs.getD (i + 1) 0) := fun L => gS h0 (by omega) hl
  simp only [q5000_1306, q5000_1307, q5000_1308, q5000_1310, q5000_1311, q5000_1312, g1, nI_1, wx_some, wx_ref]
  simp only [q5000_1313, xc_x]
  apply t_count iK sC iSc iB iU iT.2.2
  intro q' R' k1
  simp only [sl_i, q5000_1316, q5000_1317, q5000_1318, q5000_1320, q5000_1321, q5000_1322, g1, nI_1, wx_some, wx_ref]
  rw [pw_xm]
  simp only [q5000_1323, mc_o]
  apply tm_count jK jE sC jS jg jL jB jU jT.2
  intro mE' mR' k2
  simp only [sl_i, q5000_1326]
  refine if_t (by first | rfl | trivial) ?_
  rw [← pw_xm]
  exact go tp nm s c us b mk ⟨⟨iT, iD, k1, iSc, i7, iB, iU, iMk, iW, iQ⟩, ⟨jT, jK, k2, jS, jg, jO, jL, jB, jU, jM, jW, j9, ja⟩, IS_up iS, by omega, iY⟩
theorem lw_steps (he : ELt E) (h0 : E 0 = mm_I 9 xs) (hl : xs.length ≤ 448) (hi : i + 7 ≤ xs.length) (ht : t < 64) (iA : LI t z Y tp nm s c us b mk T D S S1 K R C W U q q1 B0 B1 B2 B3 mV mT mQ mO mE mB mS mR mW) (go : GO fx d i t E Q) : ww (mp_P fx) (d + 50) 5000 870 [some (.ref 0), some (.ref 59), some (.ref 149), some (.ref 204), some (.int (nI i)), l5, l6] [] (px_h z E (pm_f E Y (pm_l mV mT mQ mO mE mB mS mR mW)) (px_l sw c2 w2 T D S S1 K R C W U q q1 B0 B1 B2 B3)) Q := by
  obtain ⟨⟨iT, iD, iK, iSc, i7, iB, iU, iMk, iW, iQ⟩, ⟨jT, jK, jE, jS, jg, jO, jL, jB, jU, jM, jW, j9, ja⟩, iS, iz, iY⟩ := id iA
  obtain ⟨sT, sN, sC, sB, sH⟩ := id iS
  have sH1 := sH.1
  have sho := iK.2.2.1
  have g1 : ∀ L, mm_gI (px_h z E (pm_f E Y (pm_l mV mT mQ mO mE mB mS mR mW)) L) 0 0 9 (nI (i + 1)) = some (xs.getD (i + 1) 0) := fun L => gS h0 (by omega) hl
  simp only [q5000_870, q5000_871, q5000_872, q5000_874, q5000_875, q5000_876, g1, nI_1, wx_some, wx_ref]
  simp only [q5000_877, xc_x]
  apply t_steps iK sC iSc sB iB iW
  intro u w2' W' k1 k3
  simp only [sl_i, q5000_880, q5000_881, q5000_882, q5000_884, q5000_885, q5000_886, g1, nI_1, wx_some, wx_ref]
  rw [pw_xm]
  simp only [q5000_887, mc_o]
  apply tm_steps jK sC jS sB jL jB jW
  intro u2 mW' k2 k4
  have k5 := SPst_uni sB.2.1.1 k3 k4
  subst k5
  simp only [sl_i, q5000_890]
  refine if_t (by first | rfl | trivial) ?_
  rw [← pw_xm]
  exact go tp nm s c us b mk ⟨⟨iT, iD, iK, iSc, i7, iB, iU, iMk, k1, iQ⟩, ⟨jT, jK, jE, jS, jg, jO, jL, jB, jU, jM, k2, j9, ja⟩, IS_up iS, by omega, iY⟩
theorem lw_feed (he : ELt E) (h0 : E 0 = mm_I 9 xs) (hl : xs.length ≤ 448) (hi : i + 7 ≤ xs.length) (ht : t < 64) (iA : LI t z Y tp nm s c us b mk T D S S1 K R C W U q q1 B0 B1 B2 B3 mV mT mQ mO mE mB mS mR mW) (go : GO fx d i t E Q) : ww (mp_P fx) (d + 50) 5000 208 [some (.ref 0), some (.ref 59), some (.ref 149), some (.ref 204), some (.int (nI i)), l5, l6] [] (px_h z E (pm_f E Y (pm_l mV mT mQ mO mE mB mS mR mW)) (px_l sw c2 w2 T D S S1 K R C W U q q1 B0 B1 B2 B3)) Q := by
  obtain ⟨⟨iT, iD, iK, iSc, i7, iB, iU, iMk, iW, iQ⟩, ⟨jT, jK, jE, jS, jg, jO, jL, jB, jU, jM, jW, j9, ja⟩, iS, iz, iY⟩ := id iA
  obtain ⟨sT, sN, sC, sB, sH⟩ := id iS
  have sH1 := sH.1
  have sho := iK.2.2.1
  have g1 : ∀ L, mm_gI (px_h z E (pm_f E Y (pm_l mV mT mQ mO mE mB mS mR mW)) L) 0 0 9 (nI (i + 1)) = some (xs.getD (i + 1) 0) := fun L => gS h0 (by omega) hl
  have g2 : ∀ L, mm_gI (px_h z E (pm_f E Y (pm_l mV mT mQ mO mE mB mS mR mW)) L) 0 0 9 (nI (i + 2)) = some (xs.getD (i + 2) 0) := fun L => gS h0 (by omega) hl
  have g3 : ∀ L, mm_gI (px_h z E (pm_f E Y (pm_l mV mT mQ mO mE mB mS mR mW)) L) 0 0 9 (nI (i + 3)) = some (xs.getD (i + 3) 0) := fun L => gS h0 (by omega) hl
  have g4 : ∀ L, mm_gI (px_h z E (pm_f E Y (pm_l mV mT mQ mO mE mB mS mR mW)) L) 0 0 9 (nI (i + 4)) = some (xs.getD (i + 4) 0) := fun L => gS h0 (by omega) hl
  have g5 : ∀ L, mm_gI (px_h z E (pm_f E Y (pm_l mV mT mQ mO mE mB mS mR mW)) L) 0 0 9 (nI (i + 5)) = some (xs.getD (i + 5) 0) := fun L => gS h0 (by omega) hl
  have g6 : ∀ L, mm_gI (px_h z E (pm_f E Y (pm_l mV mT mQ mO mE mB mS mR mW)) L) 0 0 9 (nI (i + 6)) = some (xs.getD (i + 6) 0) := fun L => gS h0 (by omega) hl
  simp only [q5000_208, q5000_209, q5000_210, q5000_212, q5000_213, q5000_214, q5000_215, q5000_216, q5000_218, q5000_219, q5000_220, q5000_222, q5000_223, q5000_224, q5000_225, q5000_226, q5000_229, q5000_230, q5000_231, q5000_232, q5000_234, q5000_235, q5000_236, q5000_237, q5000_238, q5000_240, q5000_241, q5000_242, q5000_244, q5000_245, q5000_246, q5000_247, q5000_248, q5000_251, q5000_252, q5000_253, q5000_254, q5000_256, q5000_257, q5000_258, q5000_259, q5000_260, q5000_262, q5000_263, q5000_264, q5000_266, q5000_268, q5000_269, q5000_270, q5000_271, q5000_274, q5000_275, g1, g2, g3, g4, g5, g6, nI_1, nI_p2, nI_p3, nI_p4, nI_p5, nI_p6, wx_some, wx_ref]
  simp only [q5000_276, xc_x]
  apply t_feed sT iT
  intro T' k1
  simp only [sl_i, q5000_279, q5000_280, q5000_281, q5000_283, q5000_284, q5000_285, q5000_286, q5000_287, q5000_289, q5000_290, q5000_291, q5000_293, q5000_294, q5000_295, q5000_296, q5000_297, q5000_300, q5000_301, q5000_302, q5000_303, q5000_305, q5000_306, q5000_307, q5000_308, q5000_309, q5000_311, q5000_312, q5000_313, q5000_315, q5000_316, q5000_317, q5000_318, q5000_319, q5000_322, q5000_323, q5000_324, q5000_325, q5000_327, q5000_328, q5000_329, q5000_330, q5000_331, q5000_333, q5000_334, q5000_335, q5000_337, q5000_339, q5000_340, q5000_341, q5000_342, q5000_345, q5000_346, g1, g2, g3, g4, g5, g6, nI_1, nI_p2, nI_p3, nI_p4, nI_p5, nI_p6, wx_some, wx_ref]
  rw [pw_xm]
  simp only [q5000_347, mc_o]
  apply tm_feed sT jT
  intro mT' k2
  simp only [sl_i, q5000_350]
  refine if_t (by first | rfl | trivial) ?_
  rw [← pw_xm]
  exact go (sp_feed tp _ _ _) nm s c us b mk ⟨⟨k1, iD, iK, iSc, i7, iB, iU, iMk, iW, iQ⟩, ⟨k2, jK, jE, jS, jg, jO, jL, jB, jU, jM, jW, j9, ja⟩, ⟨feed_ok sT, sN, sC, sB, hb_up sH⟩, by omega, iY⟩
theorem lw_tick (he : ELt E) (h0 : E 0 = mm_I 9 xs) (hl : xs.length ≤ 448) (hi : i + 7 ≤ xs.length) (ht : t < 64) (iA : LI t z Y tp nm s c us b mk T D S S1 K R C W U q q1 B0 B1 B2 B3 mV mT mQ mO mE mB mS mR mW) (go : GO fx d i t E Q) : ww (mp_P fx) (d + 50) 5000 456 [some (.ref 0), some (.ref 59), some (.ref 149), some (.ref 204), some (.int (nI i)), l5, l6] [] (px_h z E (pm_f E Y (pm_l mV mT mQ mO mE mB mS mR mW)) (px_l sw c2 w2 T D S S1 K R C W U q q1 B0 B1 B2 B3)) Q := by
  obtain ⟨⟨iT, iD, iK, iSc, i7, iB, iU, iMk, iW, iQ⟩, ⟨jT, jK, jE, jS, jg, jO, jL, jB, jU, jM, jW, j9, ja⟩, iS, iz, iY⟩ := id iA
  obtain ⟨sT, sN, sC, sB, sH⟩ := id iS
  have sH1 := sH.1
  have sho := iK.2.2.1
  simp only [q5000_456, wx_some, wx_ref]
  simp only [q5000_457, xc_x]
  apply t_tick iK sC (by omega) iSc iU
  intro q' R' C' S' U' k1 k3 k4 k5 k6
  simp only [sl_i, q5000_460, wx_some, wx_ref]
  rw [pw_xm]
  simp only [q5000_461, mc_o]
  apply tm_tick jK jE sC (by omega) jS jg jU
  intro mE' mR' r u' dn' k2 k7 k8
  simp only [sl_i, q5000_464]
  refine if_t (by first | rfl | trivial) ?_
  rw [← pw_xm]
  exact go tp nm s (sp_on s c) (sp_keep c us) b mk ⟨⟨iT, iD, k1, k3, i7, iB, k4, (MKx_u iMk k5 k6), iW, iQ⟩, ⟨jT, jK, k2, k7, jg, jO, jL, jB, k8, jM, jW, j9, ja⟩, IS_keep iS (c_on sC (by omega)) (by show c.1 + 1 ≤ t + 1; omega), by omega, iY⟩
end LC
