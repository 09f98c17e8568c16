/-! printed by wip/whole/gen98c.py: calls that change what is told -/
section LD
variable {fx : List Value → mm_H → Option (List Value × mm_H)} {z : Nat} {E M : Nat → mm_C} {sw c2 w2 : Bool} {T : px_T} {D : px_D} {S : px_S} {S1 : px_S} {K : px_K} {R : px_R} {C : px_C} {W : px_W} {U : px_U} {q : px_q} {q1 : px_q} {B0 : px_K} {B1 : px_K} {B2 : px_K} {B3 : px_K} {T_signs : List Int32} {T_length : Int32} {T_fault : Int32} {T_types : List Int32} {T_starts : List Int32} {T_values : List Int64} {T_tokens : Int32} {T_at : Int32} {T_behind : Int32} {S_hour : Int32} {S_open : Int32} {S_places : List Int32} {S1_hour : Int32} {S1_open : Int32} {S1_places : List Int32} {K_lines : List Int32} {K_lineCount : Int32} {K_wishes : List Int32} {K_wishCount : Int32} {K_sights : List Int32} {K_sightCount : Int32} {R_shown : List Int32} {R_length : Int32} {R_readers : Int32} {R_begins : List Int32} {R_lengths : List Int32} {R_sentences : Int32} {R_order : List Int32} {R_able : Int32} {R_standing : List Int32} {R_lovers : List Int32} {R_lowest : List Int32} {C_ways : List Int32} {C_rows : List Int32} {C_shallower : List Int32} {C_length : Int32} {C_goal : Int32} {W_row : List Int32} {W_walkers : Int32} {W_names : Int32} {W_wanted : List Int32} {W_shown : List Int32} {W_places : List Int32} {W_rest : List Int32} {W_spent : List Int32} {W_tried : List Int32} {U_undoRows : List Int64} {U_markScenes : List Int64} {U_marksLaid : List Int32} {U_undoCount : Int32} {U_undoEnd : Int32} {q_sortNames : List Int64} {q_sortCount : Int32} {q_colourNames : List Int64} {q_colourSorts : List Int32} {q_colourCount : Int32} {q_ruleMakes : List Int32} {q_ruleFirsts : List Int32} {q_ruleSeconds : List Int32} {q_ruleCount : Int32} {q_saysSort : Int32} {q_walkerNames : List Int64} {q_kinds : List Int32} {q_walkerColours : List Int32} {q_starts : List Int32} {q_stepRows : List Int32} {q_stepCounts : List Int32} {q_walkerCount : Int32} {q_gusts : List Int32} {q_gustCount : Int32} {q_parts : List Int32} {q_count : Int32} {q_stack : List Int32} {q_height : Int32} {q1_sortNames : List Int64} {q1_sortCount : Int32} {q1_colourNames : List Int64} {q1_colourSorts : List Int32} {q1_colourCount : Int32} {q1_ruleMakes : List Int32} {q1_ruleFirsts : List Int32} {q1_ruleSeconds : List Int32} {q1_ruleCount : Int32} {q1_saysSort : Int32} {q1_walkerNames : List Int64} {q1_kinds : List Int32} {q1_walkerColours : List Int32} {q1_starts : List Int32} {q1_stepRows : List Int32} {q1_stepCounts : List Int32} {q1_walkerCount : Int32} {q1_gusts : List Int32} {q1_gustCount : Int32} {q1_parts : List Int32} {q1_count : Int32} {q1_stack : List Int32} {q1_height : Int32} {B0_lines : List Int32} {B0_lineCount : Int32} {B0_wishes : List Int32} {B0_wishCount : Int32} {B0_sights : List Int32} {B0_sightCount : Int32} {B1_lines : List Int32} {B1_lineCount : Int32} {B1_wishes : List Int32} {B1_wishCount : Int32} {B1_sights : List Int32} {B1_sightCount : Int32} {B2_lines : List Int32} {B2_lineCount : Int32} {B2_wishes : List Int32} {B2_wishCount : Int32} {B2_sights : List Int32} {B2_sightCount : Int32} {B3_lines : List Int32} {B3_lineCount : Int32} {B3_wishes : List Int32} {B3_wishCount : Int32} {B3_sights : List Int32} {B3_sightCount : Int32}
variable {fx : List Value → mm_H → Option (List Value × mm_H)} {z : Nat} {X Y : Nat → mm_C} {mV : pm_V} {mT : pm_T} {mQ : pm_Q} {mO : pm_O} {mE : pm_E} {mB : pm_B} {mS : pm_S} {mR : pm_R} {mW : pm_W} {m_thrown : Int32} {m_given : Int32} {m_fresh : Int64} {m_code : Int32} {m_taped : Int32} {m_tape : List Int32} {m_size : Int32} {m_place : Int32} {m_begin : Int32} {m_token : Int32} {m_word : Int64} {m_told : Int32} {m_wrong : Int32} {m_square : List Int32} {m_sortName : List Int64} {m_colourName : List Int64} {m_walkerName : List Int64} {m_sortOf : List Int32} {m_rules : List Int32} {m_kind : List Int32} {m_colour : List Int32} {m_atTold : List Int32} {m_goesMany : List Int32} {m_goes : List Int32} {m_gusts : List Int32} {m_lineFrom : List Int32} {m_lineTo : List Int32} {m_codes : List Int32} {m_opened : List Int32} {m_compared : List Int32} {m_kept : List Int32} {m_keptBy : List Int32} {m_ahead : List Int32} {m_against : List Int32} {m_sum : List Int32} {m_sumBy : List Int32} {m_term : List Int32} {m_termBy : List Int32} {m_byNot : List Int32} {m_valueOf : List Int32} {m_lines : List Int32} {m_lineWhat : List Int32} {m_lineA : List Int32} {m_lineB : List Int32} {m_wishes : List Int32} {m_wishOf : List Int32} {m_seens : List Int32} {m_seenAt : List Int32} {m_seenIn : List Int32} {m_seenThere : List Int32} {m_s : List Int32} {m_aside : List Int32} {m_before : List Int32} {m_marked : List Int32} {m_undone : List Int32} {m_isLaid : List Int32} {m_done : Int32} {m_gustNow : Int32} {m_shown : List Int32} {m_shownMany : Int32} {m_from7 : List Int32} {m_long7 : List Int32} {m_sentences : Int32} {m_text7 : List Int32} {m_textMany : Int32} {m_waysOf : List Int32} {m_rowOf : List Int32} {m_row : List Int32} {m_bestRow : List Int32} {m_leastSteps : Int32} {m_steps10 : List Int32} {m_placeIn : List Int32} {m_g : Int64}
variable {d i t : Nat} {xs : List Int32} {l5 l6 : Option Value} {Q : Option Value → mm_H → Prop} {tp : List Nat} {nm : NMs} {s : SQ} {c : SC} {us : List SC} {b : BK} {mk : Nat → Option (SC × BK)}
theorem lw_move (he : ELt E) (h0 : E 0 = mm_I 9 xs) (hl : xs.length ≤ 448) (hi : i + 7 ≤ xs.length) (ht : t < 64) (iA : LI t z Y tp nm s c us b mk T D S S1 K R C W U q q1 B0 B1 B2 B3 mV mT mQ mO mE mB mS mR mW) (go : GO fx d i t E Q) : ww (mp_P fx) (d + 50) 5000 469 [some (.ref 0), some (.ref 59), some (.ref 149), some (.ref 204), some (.int (nI i)), l5, l6] [] (px_h z E (pm_f E Y (pm_l mV mT mQ mO mE mB mS mR mW)) (px_l sw c2 w2 T D S S1 K R C W U q q1 B0 B1 B2 B3)) Q := by
  obtain ⟨⟨iT, iD, iK, iSc, i7, iB, iU, iMk, iW, iQ⟩, ⟨jT, jK, jE, jS, jg, jO, jL, jB, jU, jM, jW, j9, ja⟩, iS, iz, iY⟩ := id iA
  obtain ⟨sT, sN, sC, sB, sH⟩ := id iS
  have sH1 := sH.1
  have sho := iK.2.2.1
  have g1 : ∀ L, mm_gI (px_h z E (pm_f E Y (pm_l mV mT mQ mO mE mB mS mR mW)) L) 0 0 9 (nI (i + 1)) = some (xs.getD (i + 1) 0) := fun L => gS h0 (by omega) hl
  have g2 : ∀ L, mm_gI (px_h z E (pm_f E Y (pm_l mV mT mQ mO mE mB mS mR mW)) L) 0 0 9 (nI (i + 2)) = some (xs.getD (i + 2) 0) := fun L => gS h0 (by omega) hl
  simp only [q5000_469, q5000_470, q5000_471, q5000_473, q5000_474, q5000_475, q5000_476, q5000_477, q5000_479, q5000_480, q5000_481, g1, g2, nI_1, nI_p2, wx_some, wx_ref]
  simp only [q5000_482, xc_x]
  apply t_move iK sC iSc iU
  · intro x1
    simp only [sl_i, q5000_485, q5000_486, q5000_487, q5000_489, q5000_490, q5000_491, q5000_492, q5000_493, q5000_495, q5000_496, q5000_497, g1, g2, nI_1, nI_p2, wx_some, wx_ref]
    rw [pw_xm]
    simp only [q5000_498, mc_o]
    apply tm_move jK sC jS jU
    · intro y1
      simp only [sl_i, q5000_501]
      refine if_t (by first | rfl | trivial) ?_
      rw [← pw_xm]
      exact go tp nm s c us b mk ⟨⟨iT, iD, iK, iSc, i7, iB, iU, iMk, iW, iQ⟩, ⟨jT, jK, jE, jS, jg, jO, jL, jB, jU, jM, jW, j9, ja⟩, IS_up iS, by omega, iY⟩
    · intro w' r u' dn' y1 y2 y3 y4 y5
      exact absurd (x1 w' y2) y3
  · intro w S' U' x1 x2 x3 x4 x5 x6 x7
    simp only [sl_i, q5000_485, q5000_486, q5000_487, q5000_489, q5000_490, q5000_491, q5000_492, q5000_493, q5000_495, q5000_496, q5000_497, g1, g2, nI_1, nI_p2, wx_some, wx_ref]
    rw [pw_xm]
    simp only [q5000_498, mc_o]
    apply tm_move jK sC jS jU
    · intro y1
      exact absurd (y1 w x2) x3
    · intro w' r u' dn' y1 y2 y3 y4 y5
      rw [x2] at y2
      cases y2
      simp only [sl_i, q5000_501]
      refine if_t (by first | rfl | trivial) ?_
      rw [← pw_xm]
      exact go tp nm s (sp_put c w _) (sp_keep c us) b mk ⟨⟨iT, iD, iK, x4, i7, iB, x5, (MKx_u iMk x6 x7), iW, iQ⟩, ⟨jT, jK, jE, y4, jg, jO, jL, jB, y5, jM, jW, j9, ja⟩, IS_keep iS (c_put sC (sp_beh_lt (sC.2.2 w x1))) (by show c.1 ≤ t + 1; omega), by omega, iY⟩
theorem lw_shut (he : ELt E) (h0 : E 0 = mm_I 9 xs) (hl : xs.length ≤ 448) (hi : i + 7 ≤ xs.length) (ht : t < 64) (iA : LI t z Y tp nm s c us b mk T D S S1 K R C W U q q1 B0 B1 B2 B3 mV mT mQ mO mE mB mS mR mW) (go : GO fx d i t E Q) : ww (mp_P fx) (d + 50) 5000 506 [some (.ref 0), some (.ref 59), some (.ref 149), some (.ref 204), some (.int (nI i)), l5, l6] [] (px_h z E (pm_f E Y (pm_l mV mT mQ mO mE mB mS mR mW)) (px_l sw c2 w2 T D S S1 K R C W U q q1 B0 B1 B2 B3)) Q := by
  obtain ⟨⟨iT, iD, iK, iSc, i7, iB, iU, iMk, iW, iQ⟩, ⟨jT, jK, jE, jS, jg, jO, jL, jB, jU, jM, jW, j9, ja⟩, iS, iz, iY⟩ := id iA
  obtain ⟨sT, sN, sC, sB, sH⟩ := id iS
  have sH1 := sH.1
  have sho := iK.2.2.1
  have g1 : ∀ L, mm_gI (px_h z E (pm_f E Y (pm_l mV mT mQ mO mE mB mS mR mW)) L) 0 0 9 (nI (i + 1)) = some (xs.getD (i + 1) 0) := fun L => gS h0 (by omega) hl
  simp only [q5000_506, q5000_507, q5000_508, q5000_510, q5000_511, q5000_512, g1, nI_1, wx_some, wx_ref]
  simp only [q5000_513, xc_x]
  apply t_shut iK sC iSc iU
  · intro x1
    simp only [sl_i, q5000_516, q5000_517, q5000_518, q5000_520, q5000_521, q5000_522, g1, nI_1, wx_some, wx_ref]
    rw [pw_xm]
    simp only [q5000_523, mc_o]
    apply tm_shut jK sC jS jU
    · intro y1
      simp only [sl_i, q5000_526]
      refine if_t (by first | rfl | trivial) ?_
      rw [← pw_xm]
      exact go tp nm s c us b mk ⟨⟨iT, iD, iK, iSc, i7, iB, iU, iMk, iW, iQ⟩, ⟨jT, jK, jE, jS, jg, jO, jL, jB, jU, jM, jW, j9, ja⟩, IS_up iS, by omega, iY⟩
    · intro w' r u' dn' y1 y2 y3 y4 y5
      have z1 := x1 w' y2
      rw [y3] at z1
      cases z1
  · intro w S' U' x1 x2 x3 x4 x5 x6 x7
    simp only [sl_i, q5000_516, q5000_517, q5000_518, q5000_520, q5000_521, q5000_522, g1, nI_1, wx_some, wx_ref]
    rw [pw_xm]
    simp only [q5000_523, mc_o]
    apply tm_shut jK sC jS jU
    · intro y1
      have z1 := y1 w x2
      rw [x3] at z1
      cases z1
    · intro w' r u' dn' y1 y2 y3 y4 y5
      rw [x2] at y2
      cases y2
      simp only [sl_i, q5000_526]
      refine if_t (by first | rfl | trivial) ?_
      rw [← pw_xm]
      exact go tp nm s (c.1, c.2.1 &&& (127 ^^^ 2 ^ w), c.2.2) (sp_keep c us) b mk ⟨⟨iT, iD, iK, x4, i7, iB, x5, (MKx_u iMk x6 x7), iW, iQ⟩, ⟨jT, jK, jE, y4, jg, jO, jL, jB, y5, jM, jW, j9, ja⟩, IS_keep iS (c_shut sC) (by show c.1 ≤ t + 1; omega), by omega, iY⟩
theorem lw_open (he : ELt E) (h0 : E 0 = mm_I 9 xs) (hl : xs.length ≤ 448) (hi : i + 7 ≤ xs.length) (ht : t < 64) (iA : LI t z Y tp nm s c us b mk T D S S1 K R C W U q q1 B0 B1 B2 B3 mV mT mQ mO mE mB mS mR mW) (go : GO fx d i t E Q) : ww (mp_P fx) (d + 50) 5000 531 [some (.ref 0), some (.ref 59), some (.ref 149), some (.ref 204), some (.int (nI i)), l5, l6] [] (px_h z E (pm_f E Y (pm_l mV mT mQ mO mE mB mS mR mW)) (px_l sw c2 w2 T D S S1 K R C W U q q1 B0 B1 B2 B3)) Q := by
  obtain ⟨⟨iT, iD, iK, iSc, i7, iB, iU, iMk, iW, iQ⟩, ⟨jT, jK, jE, jS, jg, jO, jL, jB, jU, jM, jW, j9, ja⟩, iS, iz, iY⟩ := id iA
  obtain ⟨sT, sN, sC, sB, sH⟩ := id iS
  have sH1 := sH.1
  have sho := iK.2.2.1
  have g1 : ∀ L, mm_gI (px_h z E (pm_f E Y (pm_l mV mT mQ mO mE mB mS mR mW)) L) 0 0 9 (nI (i + 1)) = some (xs.getD (i + 1) 0) := fun L => gS h0 (by omega) hl
  simp only [q5000_531, q5000_532, q5000_533, q5000_535, q5000_536, q5000_537, g1, nI_1, wx_some, wx_ref]
  simp only [q5000_538, xc_x]
  apply t_open iK sC iSc iU
  · intro x1
    simp only [sl_i, q5000_541, q5000_542, q5000_543, q5000_545, q5000_546, q5000_547, g1, nI_1, wx_some, wx_ref]
    rw [pw_xm]
    simp only [q5000_548, mc_o]
    apply tm_open jK sC jS jU
    · intro y1
      simp only [sl_i, q5000_551]
      refine if_t (by first | rfl | trivial) ?_
      rw [← pw_xm]
      exact go tp nm s c us b mk ⟨⟨iT, iD, iK, iSc, i7, iB, iU, iMk, iW, iQ⟩, ⟨jT, jK, jE, jS, jg, jO, jL, jB, jU, jM, jW, j9, ja⟩, IS_up iS, by omega, iY⟩
    · intro w' r u' dn' y1 y2 y3 y4 y5
      have z1 := x1 w' y2
      rw [y3] at z1
      cases z1
  · intro w S' U' x1 x2 x3 x4 x5 x6 x7
    simp only [sl_i, q5000_541, q5000_542, q5000_543, q5000_545, q5000_546, q5000_547, g1, nI_1, wx_some, wx_ref]
    rw [pw_xm]
    simp only [q5000_548, mc_o]
    apply tm_open jK sC jS jU
    · intro y1
      have z1 := y1 w x2
      rw [x3] at z1
      cases z1
    · intro w' r u' dn' y1 y2 y3 y4 y5
      rw [x2] at y2
      cases y2
      simp only [sl_i, q5000_551]
      refine if_t (by first | rfl | trivial) ?_
      rw [← pw_xm]
      exact go tp nm s (c.1, c.2.1 ||| 2 ^ w, c.2.2) (sp_keep c us) b mk ⟨⟨iT, iD, iK, x4, i7, iB, x5, (MKx_u iMk x6 x7), iW, iQ⟩, ⟨jT, jK, jE, y4, jg, jO, jL, jB, y5, jM, jW, j9, ja⟩, IS_keep iS (c_or sC x1) (by show c.1 ≤ t + 1; omega), by omega, iY⟩
theorem lw_undo (he : ELt E) (h0 : E 0 = mm_I 9 xs) (hl : xs.length ≤ 448) (hi : i + 7 ≤ xs.length) (ht : t < 64) (iA : LI t z Y tp nm s c us b mk T D S S1 K R C W U q q1 B0 B1 B2 B3 mV mT mQ mO mE mB mS mR mW) (go : GO fx d i t E Q) : ww (mp_P fx) (d + 50) 5000 556 [some (.ref 0), some (.ref 59), some (.ref 149), some (.ref 204), some (.int (nI i)), l5, l6] [] (px_h z E (pm_f E Y (pm_l mV mT mQ mO mE mB mS mR mW)) (px_l sw c2 w2 T D S S1 K R C W U q q1 B0 B1 B2 B3)) Q := by
  obtain ⟨⟨iT, iD, iK, iSc, i7, iB, iU, iMk, iW, iQ⟩, ⟨jT, jK, jE, jS, jg, jO, jL, jB, jU, jM, jW, j9, ja⟩, iS, iz, iY⟩ := id iA
  obtain ⟨sT, sN, sC, sB, sH⟩ := id iS
  have sH1 := sH.1
  have sho := iK.2.2.1
  simp only [q5000_556, wx_some, wx_ref]
  simp only [q5000_557, xc_x]
  apply t_undo sho iU iSc.2.2.1.1
  · intro x1
    simp only [sl_i, q5000_560, wx_some, wx_ref]
    rw [pw_xm]
    simp only [q5000_561, mc_o]
    apply tm_undo jS.1 jU
    · intro y1
      simp only [sl_i, q5000_564]
      refine if_t (by first | rfl | trivial) ?_
      rw [← pw_xm]
      exact go tp nm s c us b mk ⟨⟨iT, iD, iK, iSc, i7, iB, iU, iMk, iW, iQ⟩, ⟨jT, jK, jE, jS, jg, jO, jL, jB, jU, jM, jW, j9, ja⟩, IS_up iS, by omega, iY⟩
    · intro a2 u2 r dn' y1 y2 y3
      rw [x1] at y1
      cases y1
  · intro a1 u1 S' U' x1 x2 x3 x4 x5
    simp only [sl_i, q5000_560, wx_some, wx_ref]
    rw [pw_xm]
    simp only [q5000_561, mc_o]
    apply tm_undo jS.1 jU
    · intro y1
      rw [x1] at y1
      cases y1
    · intro a2 u2 r dn' y1 y2 y3
      rw [x1] at y1
      cases y1
      simp only [sl_i, q5000_564]
      refine if_t (by first | rfl | trivial) ?_
      rw [← pw_xm]
      exact go tp nm s a1 u1 b mk ⟨⟨iT, iD, iK, x2, i7, iB, x3, (MKx_u iMk x4 x5), iW, iQ⟩, ⟨jT, jK, jE, y2, jg, jO, jL, jB, y3, jM, jW, j9, ja⟩, ⟨sT, sN, iU.2.1 a1 (by rw [x1]; exact List.mem_cons_self), sB, (hb_up sH).2.1 a1 (by rw [x1]; exact List.mem_cons_self), fun x hx => (hb_up sH).2.1 x (by rw [x1]; exact List.mem_cons_of_mem _ hx), (hb_up sH).2.2⟩, by omega, iY⟩
theorem lw_square (he : ELt E) (h0 : E 0 = mm_I 9 xs) (hl : xs.length ≤ 448) (hi : i + 7 ≤ xs.length) (ht : t < 64) (iA : LI t z Y tp nm s c us b mk T D S S1 K R C W U q q1 B0 B1 B2 B3 mV mT mQ mO mE mB mS mR mW) (go : GO fx d i t E Q) : ww (mp_P fx) (d + 50) 5000 355 [some (.ref 0), some (.ref 59), some (.ref 149), some (.ref 204), some (.int (nI i)), l5, l6] [] (px_h z E (pm_f E Y (pm_l mV mT mQ mO mE mB mS mR mW)) (px_l sw c2 w2 T D S S1 K R C W U q q1 B0 B1 B2 B3)) Q := by
  obtain ⟨⟨iT, iD, iK, iSc, i7, iB, iU, iMk, iW, iQ⟩, ⟨jT, jK, jE, jS, jg, jO, jL, jB, jU, jM, jW, j9, ja⟩, iS, iz, iY⟩ := id iA
  obtain ⟨sT, sN, sC, sB, sH⟩ := id iS
  have sH1 := sH.1
  have sho := iK.2.2.1
  obtain ⟨op, cm, jO⟩ := jO
  simp only [q5000_355, wx_some, wx_ref]
  simp only [q5000_356, xc_x]
  apply t_square (hflt := sp_sq_lt sT 1000 0 ps0) he sT iT iQ iK.1.1 iSc.2.2.1.1 (BKl_x iB) (USl_x iU iMk) iMk.2.2.1.1 iMk.2.2.2.1.1 iMk.2.2.2.2.1.1 iMk.2.2.2.2.2.1
  · intro o' T' q' S' K' U' x1 x2 x3 x4 x5 x6 x7 x8
    simp only [sl_i, q5000_359, wx_some, wx_ref]
    rw [pw_xm]
    simp only [q5000_360, mc_o]
    apply tm_square sT jT jK.1.1 jO jS.1 jM.1 jU.2.1 jM.2.1 jL
    · intro o2 mV' mT' mQ' mO' op' cm' r ld mB' y1 y2 y3 y4 y5 y6 y7 y8 y9 ya
      rw [x1] at y1
      cases y1
      simp only [sl_i, q5000_363]
      refine if_t (by first | rfl | trivial) ?_
      rw [← pw_xm]
      exact go [] o'.2.1 o'.1 (sp_fresh o'.1) [] bk0 (fun _ => none) ⟨⟨x2, iD, (KX_dr x3 x4 iK.2.2.2.2.1 iK.2.2.2.2.2), x5, i7, x6, x7, x8, iW, iK.1.1⟩, ⟨y2, y3, jE, y6, jg, ⟨_, _, y5⟩, y7, y8, y9, ya, jW, j9, ja⟩, ⟨tp_ok_nil, x4.2.1, c_fresh x4.1, bk0_ok, Nat.zero_le _, fun x hx => (by cases hx), fun k x y e => (by cases e)⟩, by omega, iY⟩
    · intro f2 mV' mT' mQ' mO' op' cm' y1 y2 y3 y4 y5 y6
      rw [x1] at y1
      exact absurd y1.symm y2
  · intro f T' q' x1 x2 x3 x4
    simp only [sl_i, q5000_359, wx_some, wx_ref]
    rw [pw_xm]
    simp only [q5000_360, mc_o]
    apply tm_square sT jT jK.1.1 jO jS.1 jM.1 jU.2.1 jM.2.1 jL
    · intro o2 mV' mT' mQ' mO' op' cm' r ld mB' y1 y2 y3 y4 y5 y6 y7 y8 y9 ya
      rw [y1] at x1
      exact absurd x1.symm x2
    · intro f2 mV' mT' mQ' mO' op' cm' y1 y2 y3 y4 y5 y6
      rw [x1] at y1
      subst y1
      simp only [sl_i, q5000_363]
      refine if_t (by first | rfl | trivial) ?_
      rw [← pw_xm]
      exact go [] nm s c us b mk ⟨⟨x3, iD, iK, iSc, i7, iB, iU, iMk, iW, x4⟩, ⟨y3, (KM_R0 jK y5 y4), jE, jS, jg, ⟨_, _, y6⟩, jL, jB, jU, jM, jW, j9, ja⟩, ⟨tp_ok_nil, sN, sC, sB, hb_up sH⟩, by omega, iY⟩
theorem lw_day (he : ELt E) (h0 : E 0 = mm_I 9 xs) (hl : xs.length ≤ 448) (hi : i + 7 ≤ xs.length) (ht : t < 64) (iA : LI t z Y tp nm s c us b mk T D S S1 K R C W U q q1 B0 B1 B2 B3 mV mT mQ mO mE mB mS mR mW) (go : GO fx d i t E Q) : ww (mp_P fx) (d + 50) 5000 368 [some (.ref 0), some (.ref 59), some (.ref 149), some (.ref 204), some (.int (nI i)), l5, l6] [] (px_h z E (pm_f E Y (pm_l mV mT mQ mO mE mB mS mR mW)) (px_l sw c2 w2 T D S S1 K R C W U q q1 B0 B1 B2 B3)) Q := by
  obtain ⟨⟨iT, iD, iK, iSc, i7, iB, iU, iMk, iW, iQ⟩, ⟨jT, jK, jE, jS, jg, jO, jL, jB, jU, jM, jW, j9, ja⟩, iS, iz, iY⟩ := id iA
  obtain ⟨sT, sN, sC, sB, sH⟩ := id iS
  have sH1 := sH.1
  have sho := iK.2.2.1
  simp only [q5000_368, wx_some, wx_ref]
  simp only [q5000_369, xc_x]
  apply t_day he sT iT iK.1 sho iK.2.2.2.1 sN iD iB sB
  · intro n fl T' D' K' x1 x2 x3 x4 x5
    simp only [sl_i, q5000_372, wx_some, wx_ref]
    rw [pw_xm]
    simp only [q5000_373, mc_o]
    apply tm_day sT jT jK sN jL
    · intro n2 fl2 mV' mT' mB' y1 y2 y3 y4 y5 y6 y7 y8
      rw [x1] at y1
      cases y1
      simp only [sl_i, q5000_376]
      refine if_t (by first | rfl | trivial) ?_
      rw [← pw_xm]
      exact go [] nm s c us ((n, fl), b.2) mk ⟨⟨x2, x3, iK, iSc, i7, x5, iU, iMk, iW, iQ⟩, ⟨y3, jK, jE, jS, jg, jO, y4, ⟨y5, y7 _ _ jB.2.1, y8 _ _ jB.2.2⟩, jU, (MKm_b jM (fun b r h1 h5 hb h => ⟨y6 _ _ h1 h5 hb.1.1 h.1, y7 _ _ h.2.1, y8 _ _ h.2.2⟩)), jW, j9, ja⟩, ⟨tp_ok_nil, sN, sC, x4, hb_up sH⟩, by omega, iY⟩
    · intro f2 mV' mT' mB' y1 y2 y3 y4
      rw [x1] at y1
      exact absurd y1.symm y2
  · intro f T' D' x1 x2 x3 x4
    simp only [sl_i, q5000_372, wx_some, wx_ref]
    rw [pw_xm]
    simp only [q5000_373, mc_o]
    apply tm_day sT jT jK sN jL
    · intro n2 fl2 mV' mT' mB' y1 y2 y3 y4 y5 y6 y7 y8
      rw [y1] at x1
      exact absurd x1.symm x2
    · intro f2 mV' mT' mB' y1 y2 y3 y4
      rw [x1] at y1
      subst y1
      simp only [sl_i, q5000_376]
      refine if_t (by first | rfl | trivial) ?_
      rw [← pw_xm]
      exact go [] nm s c us b mk ⟨⟨x3, x4, iK, iSc, i7, iB, iU, iMk, iW, iQ⟩, ⟨y3, jK, jE, jS, jg, jO, y4.1, ⟨y4.2.1 _ _ (by omega) sB.1.1 jB.1, y4.2.2.1 _ _ jB.2.1, y4.2.2.2 _ _ jB.2.2⟩, jU, (MKm_b jM (fun b r h1 h5 hb h => ⟨y4.2.1 _ _ h5 hb.1.1 h.1, y4.2.2.1 _ _ h.2.1, y4.2.2.2 _ _ h.2.2⟩)), jW, j9, ja⟩, ⟨tp_ok_nil, sN, sC, sB, hb_up sH⟩, by omega, iY⟩
theorem lw_wish (he : ELt E) (h0 : E 0 = mm_I 9 xs) (hl : xs.length ≤ 448) (hi : i + 7 ≤ xs.length) (ht : t < 64) (iA : LI t z Y tp nm s c us b mk T D S S1 K R C W U q q1 B0 B1 B2 B3 mV mT mQ mO mE mB mS mR mW) (go : GO fx d i t E Q) : ww (mp_P fx) (d + 50) 5000 381 [some (.ref 0), some (.ref 59), some (.ref 149), some (.ref 204), some (.int (nI i)), l5, l6] [] (px_h z E (pm_f E Y (pm_l mV mT mQ mO mE mB mS mR mW)) (px_l sw c2 w2 T D S S1 K R C W U q q1 B0 B1 B2 B3)) Q := by
  obtain ⟨⟨iT, iD, iK, iSc, i7, iB, iU, iMk, iW, iQ⟩, ⟨jT, jK, jE, jS, jg, jO, jL, jB, jU, jM, jW, j9, ja⟩, iS, iz, iY⟩ := id iA
  obtain ⟨sT, sN, sC, sB, sH⟩ := id iS
  have sH1 := sH.1
  have sho := iK.2.2.1
  simp only [q5000_381, wx_some, wx_ref]
  simp only [q5000_382, xc_x]
  apply t_wish he sT iT iK.1 sho iK.2.2.2.1 sN iD iB sB
  · intro n T' D' K' x1 x2 x3 x4 x5
    simp only [sl_i, q5000_385, wx_some, wx_ref]
    rw [pw_xm]
    simp only [q5000_386, mc_o]
    apply tm_wish sT jT jK sN jL
    · intro n2 mT' mB' y1 y2 y3 y4 y5 y6 y7 y8 y9
      rw [x1] at y1
      cases y1
      simp only [sl_i, q5000_389]
      refine if_t (by first | rfl | trivial) ?_
      rw [← pw_xm]
      exact go [] nm s c us (b.1, (n, fun i => (c_named tp nm 1 (k_nC s) i).2), b.2.2) mk ⟨⟨x2, x3, iK, iSc, i7, x5, iU, iMk, iW, iQ⟩, ⟨y3, jK, jE, jS, jg, jO, y4, ⟨y5 _ _ jB.1, y8, y6 _ _ jB.2.2⟩, jU, (MKm_b jM (fun b r h1 h5 hb h => ⟨y5 _ _ h.1, y9 _ _ h1 h5 hb.2.1.1 h.2.1, y6 _ _ h.2.2⟩)), jW, j9, ja⟩, ⟨tp_ok_nil, sN, sC, x4, hb_up sH⟩, by omega, iY⟩
    · intro f2 mT' mB' y1 y2 y3 y4 y5 y6 y7
      rw [x1] at y1
      exact absurd y1.symm y2
  · intro f T' D' x1 x2 x3 x4
    simp only [sl_i, q5000_385, wx_some, wx_ref]
    rw [pw_xm]
    simp only [q5000_386, mc_o]
    apply tm_wish sT jT jK sN jL
    · intro n2 mT' mB' y1 y2 y3 y4 y5 y6 y7 y8 y9
      rw [y1] at x1
      exact absurd x1.symm x2
    · intro f2 mT' mB' y1 y2 y3 y4 y5 y6 y7
      rw [x1] at y1
      subst y1
      simp only [sl_i, q5000_389]
      refine if_t (by first | rfl | trivial) ?_
      rw [← pw_xm]
      exact go [] nm s c us b mk ⟨⟨x3, x4, iK, iSc, i7, iB, iU, iMk, iW, iQ⟩, ⟨y3, jK, jE, jS, jg, jO, y4, ⟨y5 _ _ jB.1, y7 _ _ (by omega) sB.2.1.1 jB.2.1, y6 _ _ jB.2.2⟩, jU, (MKm_b jM (fun b r h1 h5 hb h => ⟨y5 _ _ h.1, y7 _ _ h5 hb.2.1.1 h.2.1, y6 _ _ h.2.2⟩)), jW, j9, ja⟩, ⟨tp_ok_nil, sN, sC, sB, hb_up sH⟩, by omega, iY⟩
end LD
