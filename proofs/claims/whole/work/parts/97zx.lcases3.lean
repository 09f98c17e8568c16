/-! printed by wip/whole/gen98c.py: see, mark, rests -/
set_option maxRecDepth 20000 in
theorem fm_1138 (fx : List Value → mm_H → Option (List Value × mm_H)) : (mp_P fx).1 5000 1138 = .fmul := rfl
theorem wr_fm {fx : List Value → mm_H → Option (List Value × mm_H)} {d : Nat} {ls : mm_V} {st st' : List Value} {h h' : mm_H} {Q : Option Value → mm_H → Prop} (hf : fx st h = some (st', h')) (hle : h.1 ≤ h'.1 ∧ h.2.1 ≤ h'.2.1) : ww (mp_P fx) d 5000 1138 ls st h Q ↔ ww (mp_P fx) d 5000 1141 ls st' h' Q := wr_fmul (fm_1138 fx) hf hle
section LE
variable {fx : List Value → mm_H → Option (List Value × mm_H)} {z : Nat} {E M : Nat → mm_C} {sw c2 w2 : Bool} {T : px_T} {D : px_D} {S : px_S} {S1 : px_S} {K : px_K} {R : px_R} {C : px_C} {W : px_W} {U : px_U} {q : px_q} {q1 : px_q} {B0 : px_K} {B1 : px_K} {B2 : px_K} {B3 : px_K} {T_signs : List Int32} {T_length : Int32} {T_fault : Int32} {T_types : List Int32} {T_starts : List Int32} {T_values : List Int64} {T_tokens : Int32} {T_at : Int32} {T_behind : Int32} {S_hour : Int32} {S_open : Int32} {S_places : List Int32} {S1_hour : Int32} {S1_open : Int32} {S1_places : List Int32} {K_lines : List Int32} {K_lineCount : Int32} {K_wishes : List Int32} {K_wishCount : Int32} {K_sights : List Int32} {K_sightCount : Int32} {R_shown : List Int32} {R_length : Int32} {R_readers : Int32} {R_begins : List Int32} {R_lengths : List Int32} {R_sentences : Int32} {R_order : List Int32} {R_able : Int32} {R_standing : List Int32} {R_lovers : List Int32} {R_lowest : List Int32} {C_ways : List Int32} {C_rows : List Int32} {C_shallower : List Int32} {C_length : Int32} {C_goal : Int32} {W_row : List Int32} {W_walkers : Int32} {W_names : Int32} {W_wanted : List Int32} {W_shown : List Int32} {W_places : List Int32} {W_rest : List Int32} {W_spent : List Int32} {W_tried : List Int32} {U_undoRows : List Int64} {U_markScenes : List Int64} {U_marksLaid : List Int32} {U_undoCount : Int32} {U_undoEnd : Int32} {q_sortNames : List Int64} {q_sortCount : Int32} {q_colourNames : List Int64} {q_colourSorts : List Int32} {q_colourCount : Int32} {q_ruleMakes : List Int32} {q_ruleFirsts : List Int32} {q_ruleSeconds : List Int32} {q_ruleCount : Int32} {q_saysSort : Int32} {q_walkerNames : List Int64} {q_kinds : List Int32} {q_walkerColours : List Int32} {q_starts : List Int32} {q_stepRows : List Int32} {q_stepCounts : List Int32} {q_walkerCount : Int32} {q_gusts : List Int32} {q_gustCount : Int32} {q_parts : List Int32} {q_count : Int32} {q_stack : List Int32} {q_height : Int32} {q1_sortNames : List Int64} {q1_sortCount : Int32} {q1_colourNames : List Int64} {q1_colourSorts : List Int32} {q1_colourCount : Int32} {q1_ruleMakes : List Int32} {q1_ruleFirsts : List Int32} {q1_ruleSeconds : List Int32} {q1_ruleCount : Int32} {q1_saysSort : Int32} {q1_walkerNames : List Int64} {q1_kinds : List Int32} {q1_walkerColours : List Int32} {q1_starts : List Int32} {q1_stepRows : List Int32} {q1_stepCounts : List Int32} {q1_walkerCount : Int32} {q1_gusts : List Int32} {q1_gustCount : Int32} {q1_parts : List Int32} {q1_count : Int32} {q1_stack : List Int32} {q1_height : Int32} {B0_lines : List Int32} {B0_lineCount : Int32} {B0_wishes : List Int32} {B0_wishCount : Int32} {B0_sights : List Int32} {B0_sightCount : Int32} {B1_lines : List Int32} {B1_lineCount : Int32} {B1_wishes : List Int32} {B1_wishCount : Int32} {B1_sights : List Int32} {B1_sightCount : Int32} {B2_lines : List Int32} {B2_lineCount : Int32} {B2_wishes : List Int32} {B2_wishCount : Int32} {B2_sights : List Int32} {B2_sightCount : Int32} {B3_lines : List Int32} {B3_lineCount : Int32} {B3_wishes : List Int32} {B3_wishCount : Int32} {B3_sights : List Int32} {B3_sightCount : Int32}
variable {fx : List Value → mm_H → Option (List Value × mm_H)} {z : Nat} {X Y : Nat → mm_C} {mV : pm_V} {mT : pm_T} {mQ : pm_Q} {mO : pm_O} {mE : pm_E} {mB : pm_B} {mS : pm_S} {mR : pm_R} {mW : pm_W} {m_thrown : Int32} {m_given : Int32} {m_fresh : Int64} {m_code : Int32} {m_taped : Int32} {m_tape : List Int32} {m_size : Int32} {m_place : Int32} {m_begin : Int32} {m_token : Int32} {m_word : Int64} {m_told : Int32} {m_wrong : Int32} {m_square : List Int32} {m_sortName : List Int64} {m_colourName : List Int64} {m_walkerName : List Int64} {m_sortOf : List Int32} {m_rules : List Int32} {m_kind : List Int32} {m_colour : List Int32} {m_atTold : List Int32} {m_goesMany : List Int32} {m_goes : List Int32} {m_gusts : List Int32} {m_lineFrom : List Int32} {m_lineTo : List Int32} {m_codes : List Int32} {m_opened : List Int32} {m_compared : List Int32} {m_kept : List Int32} {m_keptBy : List Int32} {m_ahead : List Int32} {m_against : List Int32} {m_sum : List Int32} {m_sumBy : List Int32} {m_term : List Int32} {m_termBy : List Int32} {m_byNot : List Int32} {m_valueOf : List Int32} {m_lines : List Int32} {m_lineWhat : List Int32} {m_lineA : List Int32} {m_lineB : List Int32} {m_wishes : List Int32} {m_wishOf : List Int32} {m_seens : List Int32} {m_seenAt : List Int32} {m_seenIn : List Int32} {m_seenThere : List Int32} {m_s : List Int32} {m_aside : List Int32} {m_before : List Int32} {m_marked : List Int32} {m_undone : List Int32} {m_isLaid : List Int32} {m_done : Int32} {m_gustNow : Int32} {m_shown : List Int32} {m_shownMany : Int32} {m_from7 : List Int32} {m_long7 : List Int32} {m_sentences : Int32} {m_text7 : List Int32} {m_textMany : Int32} {m_waysOf : List Int32} {m_rowOf : List Int32} {m_row : List Int32} {m_bestRow : List Int32} {m_leastSteps : Int32} {m_steps10 : List Int32} {m_placeIn : List Int32} {m_g : Int64}
variable {d i t : Nat} {xs : List Int32} {l5 l6 : Option Value} {Q : Option Value → mm_H → Prop} {tp : List Nat} {nm : NMs} {s : SQ} {c : SC} {us : List SC} {b : BK} {mk : Nat → Option (SC × BK)}
theorem lw_see (he : ELt E) (h0 : E 0 = mm_I 9 xs) (hl : xs.length ≤ 448) (hi : i + 7 ≤ xs.length) (ht : t < 64) (iA : LI t z Y tp nm s c us b mk T D S S1 K R C W U q q1 B0 B1 B2 B3 mV mT mQ mO mE mB mS mR mW) (go : GO fx d i t E Q) : ww (mp_P fx) (d + 50) 5000 996 [some (.ref 0), some (.ref 59), some (.ref 149), some (.ref 204), some (.int (nI i)), l5, l6] [] (px_h z E (pm_f E Y (pm_l mV mT mQ mO mE mB mS mR mW)) (px_l sw c2 w2 T D S S1 K R C W U q q1 B0 B1 B2 B3)) Q := by
  obtain ⟨⟨iT, iD, iK, iSc, i7, iB, iU, iMk, iW, iQ⟩, ⟨jT, jK, jE, jS, jg, jO, jL, jB, jU, jM, jW, j9, ja⟩, iS, iz, iY⟩ := id iA
  obtain ⟨sT, sN, sC, sB, sH⟩ := id iS
  have sH1 := sH.1
  have sho := iK.2.2.1
  have g1 : ∀ L, mm_gI (px_h z E (pm_f E Y (pm_l mV mT mQ mO mE mB mS mR mW)) L) 0 0 9 (nI (i + 1)) = some (xs.getD (i + 1) 0) := fun L => gS h0 (by omega) hl
  have g2 : ∀ L, mm_gI (px_h z E (pm_f E Y (pm_l mV mT mQ mO mE mB mS mR mW)) L) 0 0 9 (nI (i + 2)) = some (xs.getD (i + 2) 0) := fun L => gS h0 (by omega) hl
  have g3 : ∀ L, mm_gI (px_h z E (pm_f E Y (pm_l mV mT mQ mO mE mB mS mR mW)) L) 0 0 9 (nI (i + 3)) = some (xs.getD (i + 3) 0) := fun L => gS h0 (by omega) hl
  simp only [q5000_996, q5000_997, q5000_998, q5000_1000, q5000_1001, q5000_1002, q5000_1003, q5000_1004, q5000_1006, q5000_1007, q5000_1008, q5000_1009, q5000_1010, q5000_1012, q5000_1013, q5000_1014, q5000_1015, g1, g2, g3, nI_1, nI_p2, nI_p3, wx_some, wx_ref]
  by_cases e3 : xs.getD (i + 3) 0 = 0
  · rw [if_pos e3]
    simp only [q5000_1022]
    simp only [q5000_1023, xc_x]
    apply t_see (t := 0) (Or.inl rfl) sB iB
    · intro x1
      simp only [sl_i, q5000_1026, q5000_1027, q5000_1028, q5000_1030, q5000_1031, q5000_1032, q5000_1033, q5000_1034, q5000_1036, q5000_1037, q5000_1038, q5000_1039, q5000_1040, q5000_1042, q5000_1043, q5000_1044, q5000_1045, g1, g2, g3, nI_1, nI_p2, nI_p3, wx_some, wx_ref]
      rw [if_pos e3]
      simp only [q5000_1052]
      rw [pw_xm]
      simp only [q5000_1053, mc_o]
      apply tm_see (t := 0) (Or.inl rfl) sB jL jB
      · intro y1
        simp only [sl_i, q5000_1056]
        refine if_t (by first | rfl | trivial) ?_
        rw [← pw_xm]
        exact go tp nm s c us b mk ⟨⟨iT, iD, iK, iSc, i7, iB, iU, iMk, iW, iQ⟩, ⟨jT, jK, jE, jS, jg, jO, jL, jB, jU, jM, jW, j9, ja⟩, IS_up iS, by omega, iY⟩
      · intro p' n' mB' y1 y2 y3 y4 y5 y6
        rcases x1 with e | e | e
        · rw [e] at y1; cases y1
        · rw [e] at y2; cases y2
        · omega
    · intro p n K' x1 x2 x3 x4 x5
      simp only [sl_i, q5000_1026, q5000_1027, q5000_1028, q5000_1030, q5000_1031, q5000_1032, q5000_1033, q5000_1034, q5000_1036, q5000_1037, q5000_1038, q5000_1039, q5000_1040, q5000_1042, q5000_1043, q5000_1044, q5000_1045, g1, g2, g3, nI_1, nI_p2, nI_p3, wx_some, wx_ref]
      rw [if_pos e3]
      simp only [q5000_1052]
      rw [pw_xm]
      simp only [q5000_1053, mc_o]
      apply tm_see (t := 0) (Or.inl rfl) sB jL jB
      · intro y1
        rcases y1 with e | e | e
        · rw [e] at x1; cases x1
        · rw [e] at x2; cases x2
        · omega
      · intro p' n' mB' y1 y2 y3 y4 y5 y6
        rw [x1] at y1
        rw [x2] at y2
        cases y1
        cases y2
        simp only [sl_i, q5000_1056]
        refine if_t (by first | rfl | trivial) ?_
        rw [← pw_xm]
        exact go tp nm s c us (b.1, b.2.1, b.2.2.1 + 1, fun i => if i = b.2.2.1 then (p, n, decide ((0 : Int32) = 1)) else b.2.2.2 i) mk ⟨⟨iT, iD, iK, iSc, i7, x5, iU, iMk, iW, iQ⟩, ⟨jT, jK, jE, jS, jg, jO, y4, y5, jU, (MKm_b jM (fun b r h1 _ _ h => y6 b r h1 h)), jW, j9, ja⟩, ⟨sT, sN, sC, x4, hb_up sH⟩, by omega, iY⟩
  · rw [if_neg e3]
    simp only [q5000_1018, q5000_1019]
    simp only [q5000_1023, xc_x]
    apply t_see (t := 1) (Or.inr rfl) sB iB
    · intro x1
      simp only [sl_i, q5000_1026, q5000_1027, q5000_1028, q5000_1030, q5000_1031, q5000_1032, q5000_1033, q5000_1034, q5000_1036, q5000_1037, q5000_1038, q5000_1039, q5000_1040, q5000_1042, q5000_1043, q5000_1044, q5000_1045, g1, g2, g3, nI_1, nI_p2, nI_p3, wx_some, wx_ref]
      rw [if_neg e3]
      simp only [q5000_1048, q5000_1049]
      rw [pw_xm]
      simp only [q5000_1053, mc_o]
      apply tm_see (t := 1) (Or.inr rfl) sB jL jB
      · intro y1
        simp only [sl_i, q5000_1056]
        refine if_t (by first | rfl | trivial) ?_
        rw [← pw_xm]
        exact go tp nm s c us b mk ⟨⟨iT, iD, iK, iSc, i7, iB, iU, iMk, iW, iQ⟩, ⟨jT, jK, jE, jS, jg, jO, jL, jB, jU, jM, jW, j9, ja⟩, IS_up iS, by omega, iY⟩
      · intro p' n' mB' y1 y2 y3 y4 y5 y6
        rcases x1 with e | e | e
        · rw [e] at y1; cases y1
        · rw [e] at y2; cases y2
        · omega
    · intro p n K' x1 x2 x3 x4 x5
      simp only [sl_i, q5000_1026, q5000_1027, q5000_1028, q5000_1030, q5000_1031, q5000_1032, q5000_1033, q5000_1034, q5000_1036, q5000_1037, q5000_1038, q5000_1039, q5000_1040, q5000_1042, q5000_1043, q5000_1044, q5000_1045, g1, g2, g3, nI_1, nI_p2, nI_p3, wx_some, wx_ref]
      rw [if_neg e3]
      simp only [q5000_1048, q5000_1049]
      rw [pw_xm]
      simp only [q5000_1053, mc_o]
      apply tm_see (t := 1) (Or.inr rfl) sB jL jB
      · intro y1
        rcases y1 with e | e | e
        · rw [e] at x1; cases x1
        · rw [e] at x2; cases x2
        · omega
      · intro p' n' mB' y1 y2 y3 y4 y5 y6
        rw [x1] at y1
        rw [x2] at y2
        cases y1
        cases y2
        simp only [sl_i, q5000_1056]
        refine if_t (by first | rfl | trivial) ?_
        rw [← pw_xm]
        exact go tp nm s c us (b.1, b.2.1, b.2.2.1 + 1, fun i => if i = b.2.2.1 then (p, n, decide ((1 : Int32) = 1)) else b.2.2.2 i) mk ⟨⟨iT, iD, iK, iSc, i7, x5, iU, iMk, iW, iQ⟩, ⟨jT, jK, jE, jS, jg, jO, y4, y5, jU, (MKm_b jM (fun b r h1 _ _ h => y6 b r h1 h)), jW, j9, ja⟩, ⟨sT, sN, sC, x4, hb_up sH⟩, by omega, iY⟩
theorem lw_mark (he : ELt E) (h0 : E 0 = mm_I 9 xs) (hl : xs.length ≤ 448) (hi : i + 7 ≤ xs.length) (ht : t < 64) (iA : LI t z Y tp nm s c us b mk T D S S1 K R C W U q q1 B0 B1 B2 B3 mV mT mQ mO mE mB mS mR mW) (go : GO fx d i t E Q) : ww (mp_P fx) (d + 50) 5000 1253 [some (.ref 0), some (.ref 59), some (.ref 149), some (.ref 204), some (.int (nI i)), l5, l6] [] (px_h z E (pm_f E Y (pm_l mV mT mQ mO mE mB mS mR mW)) (px_l sw c2 w2 T D S S1 K R C W U q q1 B0 B1 B2 B3)) Q := by
  obtain ⟨⟨iT, iD, iK, iSc, i7, iB, iU, iMk, iW, iQ⟩, ⟨jT, jK, jE, jS, jg, jO, jL, jB, jU, jM, jW, j9, ja⟩, iS, iz, iY⟩ := id iA
  obtain ⟨sT, sN, sC, sB, sH⟩ := id iS
  have sH1 := sH.1
  have sho := iK.2.2.1
  have g1 : ∀ L, mm_gI (px_h z E (pm_f E Y (pm_l mV mT mQ mO mE mB mS mR mW)) L) 0 0 9 (nI (i + 1)) = some (xs.getD (i + 1) 0) := fun L => gS h0 (by omega) hl
  have g2 : ∀ L, mm_gI (px_h z E (pm_f E Y (pm_l mV mT mQ mO mE mB mS mR mW)) L) 0 0 9 (nI (i + 2)) = some (xs.getD (i + 2) 0) := fun L => gS h0 (by omega) hl
  simp only [q5000_1253, q5000_1254, q5000_1255, q5000_1257, q5000_1258, q5000_1259, q5000_1260, q5000_1261, q5000_1263, q5000_1264, q5000_1265, q5000_1266, g1, g2, nI_1, nI_p2, wx_some, wx_ref]
  by_cases e3 : xs.getD (i + 2) 0 = 0
  · rw [if_pos e3]
    simp only [q5000_1273]
    simp only [q5000_1274, xc_x]
    apply t_mark (t := 0) (Or.inl rfl) sho sC iSc sB iB iU iMk
    · intro x1
      simp only [sl_i, q5000_1277, q5000_1278, q5000_1279, q5000_1281, q5000_1282, q5000_1283, q5000_1284, q5000_1285, q5000_1287, q5000_1288, q5000_1289, q5000_1290, g1, g2, nI_1, nI_p2, wx_some, wx_ref]
      rw [if_pos e3]
      simp only [q5000_1297]
      rw [pw_xm]
      simp only [q5000_1298, mc_o]
      apply tm_mark (t := 0) (Or.inl rfl) jS sB jL jB jU jM
      · intro y1
        simp only [sl_i, q5000_1301]
        refine if_t (by first | rfl | trivial) ?_
        rw [← pw_xm]
        exact go tp nm s c us b mk ⟨⟨iT, iD, iK, iSc, i7, iB, iU, iMk, iW, iQ⟩, ⟨jT, jK, jE, jS, jg, jO, jL, jB, jU, jM, jW, j9, ja⟩, IS_up iS, by omega, iY⟩
      · intro k' c1' b1' r ld mB' y1 y2 y3 y4 y5 y6 y7 y8
        exact absurd y2 (by decide)
      · intro k' md ld mB' y1 y2 y3 y4 y5 y6
        rcases x1 with e | ⟨e, -⟩
        · rw [e] at y1; cases y1
        · exact absurd e (by decide)
    · intro k c1 b1 S' K' U' x1 x2 x3 x4 x5 x6 x7 x8 x9
      exact absurd x2 (by decide)
    · intro k U' B0' B1' B2' B3' x1 x2 x3 x4
      simp only [sl_i, q5000_1277, q5000_1278, q5000_1279, q5000_1281, q5000_1282, q5000_1283, q5000_1284, q5000_1285, q5000_1287, q5000_1288, q5000_1289, q5000_1290, g1, g2, nI_1, nI_p2, wx_some, wx_ref]
      rw [if_pos e3]
      simp only [q5000_1297]
      rw [pw_xm]
      simp only [q5000_1298, mc_o]
      apply tm_mark (t := 0) (Or.inl rfl) jS sB jL jB jU jM
      · intro y1
        rcases y1 with e | ⟨e, -⟩
        · rw [e] at x1; cases x1
        · exact absurd e (by decide)
      · intro k' c1' b1' r ld mB' y1 y2 y3 y4 y5 y6 y7 y8
        exact absurd y2 (by decide)
      · intro k' md ld mB' y1 y2 y3 y4 y5 y6
        rw [x1] at y1
        cases y1
        simp only [sl_i, q5000_1301]
        refine if_t (by first | rfl | trivial) ?_
        rw [← pw_xm]
        exact go tp nm s c us b (fun i => if i = k then some (c, b) else mk i) ⟨⟨iT, iD, iK, iSc, i7, iB, x3, x4, iW, iQ⟩, ⟨jT, jK, jE, jS, jg, jO, y3, y4, y5, y6, jW, j9, ja⟩, ⟨sT, sN, sC, sB, (hb_up sH).1, (hb_up sH).2.1, fun j x y e => by
          dsimp only at e
          by_cases ej : j = k
          · rw [if_pos ej] at e; cases e; omega
          · rw [if_neg ej] at e; exact (hb_up sH).2.2 j x y e⟩, by omega, iY⟩
  · rw [if_neg e3]
    simp only [q5000_1269, q5000_1270]
    simp only [q5000_1274, xc_x]
    apply t_mark (t := 1) (Or.inr rfl) sho sC iSc sB iB iU iMk
    · intro x1
      simp only [sl_i, q5000_1277, q5000_1278, q5000_1279, q5000_1281, q5000_1282, q5000_1283, q5000_1284, q5000_1285, q5000_1287, q5000_1288, q5000_1289, q5000_1290, g1, g2, nI_1, nI_p2, wx_some, wx_ref]
      rw [if_neg e3]
      simp only [q5000_1293, q5000_1294]
      rw [pw_xm]
      simp only [q5000_1298, mc_o]
      apply tm_mark (t := 1) (Or.inr rfl) jS sB jL jB jU jM
      · intro y1
        simp only [sl_i, q5000_1301]
        refine if_t (by first | rfl | trivial) ?_
        rw [← pw_xm]
        exact go tp nm s c us b mk ⟨⟨iT, iD, iK, iSc, i7, iB, iU, iMk, iW, iQ⟩, ⟨jT, jK, jE, jS, jg, jO, jL, jB, jU, jM, jW, j9, ja⟩, IS_up iS, by omega, iY⟩
      · intro k' c1' b1' r ld mB' y1 y2 y3 y4 y5 y6 y7 y8
        rcases x1 with e | ⟨-, k2, e, e2⟩
        · rw [e] at y1; cases y1
        · rw [e] at y1; cases y1; rw [e2] at y3; cases y3
      · intro k' md ld mB' y1 y2 y3 y4 y5 y6
        exact absurd y2 (by decide)
    · intro k c1 b1 S' K' U' x1 x2 x3 x4 x5 x6 x7 x8 x9
      simp only [sl_i, q5000_1277, q5000_1278, q5000_1279, q5000_1281, q5000_1282, q5000_1283, q5000_1284, q5000_1285, q5000_1287, q5000_1288, q5000_1289, q5000_1290, g1, g2, nI_1, nI_p2, wx_some, wx_ref]
      rw [if_neg e3]
      simp only [q5000_1293, q5000_1294]
      rw [pw_xm]
      simp only [q5000_1298, mc_o]
      apply tm_mark (t := 1) (Or.inr rfl) jS sB jL jB jU jM
      · intro y1
        rcases y1 with e | ⟨-, k2, e, e2⟩
        · rw [e] at x1; cases x1
        · rw [e] at x1; cases x1; rw [e2] at x3; cases x3
      · intro k' c1' b1' r ld mB' y1 y2 y3 y4 y5 y6 y7 y8
        rw [x1] at y1
        cases y1
        rw [x3] at y3
        cases y3
        simp only [sl_i, q5000_1301]
        refine if_t (by first | rfl | trivial) ?_
        rw [← pw_xm]
        exact go tp nm s c1 [] b1 mk ⟨⟨iT, iD, iK, x4, i7, x5, x8, x9, iW, iQ⟩, ⟨jT, jK, jE, y4, jg, jO, y5, y6, y7, y8, jW, j9, ja⟩, ⟨sT, sN, x6, x7, by have := sH.2.2 k c1 b1 x3; omega, fun x hx => (by cases hx), (hb_up sH).2.2⟩, by omega, iY⟩
      · intro k' md ld mB' y1 y2 y3 y4 y5 y6
        exact absurd y2 (by decide)
    · intro k U' B0' B1' B2' B3' x1 x2 x3 x4
      exact absurd x2 (by decide)
theorem lw_rests (he : ELt E) (h0 : E 0 = mm_I 9 xs) (hl : xs.length ≤ 448) (hi : i + 7 ≤ xs.length) (ht : t < 64) (iA : LI t z Y tp nm s c us b mk T D S S1 K R C W U q q1 B0 B1 B2 B3 mV mT mQ mO mE mB mS mR mW) (go : GO fxr d i t E Q) : ww (mp_P fxr) (d + 50) 5000 1112 [some (.ref 0), some (.ref 59), some (.ref 149), some (.ref 204), some (.int (nI i)), l5, l6] [] (px_h z E (pm_f E Y (pm_l mV mT mQ mO mE mB mS mR mW)) (px_l sw c2 w2 T D S S1 K R C W U q q1 B0 B1 B2 B3)) Q := by
  obtain ⟨⟨iT, iD, iK, iSc, i7, iB, iU, iMk, iW, iQ⟩, ⟨jT, jK, jE, jS, jg, jO, jL, jB, jU, jM, jW, j9, ja⟩, iS, iz, iY⟩ := id iA
  obtain ⟨sT, sN, sC, sB, sH⟩ := id iS
  have sH1 := sH.1
  have sho := iK.2.2.1
  have g1 : ∀ L, mm_gI (px_h z E (pm_f E Y (pm_l mV mT mQ mO mE mB mS mR mW)) L) 0 0 9 (nI (i + 1)) = some (xs.getD (i + 1) 0) := fun L => gS h0 (by omega) hl
  have g2 : ∀ L, mm_gI (px_h z E (pm_f E Y (pm_l mV mT mQ mO mE mB mS mR mW)) L) 0 0 9 (nI (i + 2)) = some (xs.getD (i + 2) 0) := fun L => gS h0 (by omega) hl
  have g3 : ∀ L, mm_gI (px_h z E (pm_f E Y (pm_l mV mT mQ mO mE mB mS mR mW)) L) 0 0 9 (nI (i + 3)) = some (xs.getD (i + 3) 0) := fun L => gS h0 (by omega) hl
  have g4 : ∀ L, mm_gI (px_h z E (pm_f E Y (pm_l mV mT mQ mO mE mB mS mR mW)) L) 0 0 9 (nI (i + 4)) = some (xs.getD (i + 4) 0) := fun L => gS h0 (by omega) hl
  obtain ⟨u, hu⟩ := iY
  have hx : (px_h z E (pm_f E Y (pm_l mV mT mQ mO mE mB mS mR mW)) (px_l sw c2 w2 T D S S1 K R C W U q q1 B0 B1 B2 B3)).2.2 59 = _ := pk_x
  have ho : (px_h z E (pm_f E Y (pm_l mV mT mQ mO mE mB mS mR mW)) (px_l sw c2 w2 T D S S1 K R C W U q q1 B0 B1 B2 B3)).2.2 204 = mm_L [u] := pw_204.trans hu
  simp only [q5000_1112, q5000_1113, q5000_1114, q5000_1116, q5000_1117, q5000_1118, q5000_1119, q5000_1120, q5000_1122, q5000_1123, q5000_1124, q5000_1125, q5000_1126, q5000_1128, q5000_1129, q5000_1130, q5000_1131, q5000_1132, q5000_1134, q5000_1135, q5000_1136, q5000_1137, g1, g2, g3, g4, nI_1, nI_p2, nI_p3, nI_p4, wx_some, wx_ref]
  cases er : sp_rests (xs.getD (i + 1) 0) (xs.getD (i + 2) 0) (xs.getD (i + 3) 0) (xs.getD (i + 4) 0) with
  | none =>
    rw [wr_fm (fx := fxr) (fxr_0 hx ho er) ⟨Nat.le_refl _, Nat.le_add_right _ _⟩]
    show ww (mp_P fxr) (d + 50) 5000 1141 _ _ (px_h (z + 6) E (pm_f E Y (pm_l mV mT mQ mO mE mB mS mR mW)) (px_l sw c2 w2 T D S S1 K R C W U q q1 B0 B1 B2 B3)) Q
    have g1 : ∀ L, mm_gI (px_h (z + 6) E (pm_f E Y (pm_l mV mT mQ mO mE mB mS mR mW)) L) 0 0 9 (nI (i + 1)) = some (xs.getD (i + 1) 0) := fun L => gS h0 (by omega) hl
    have g2 : ∀ L, mm_gI (px_h (z + 6) E (pm_f E Y (pm_l mV mT mQ mO mE mB mS mR mW)) L) 0 0 9 (nI (i + 2)) = some (xs.getD (i + 2) 0) := fun L => gS h0 (by omega) hl
    have g3 : ∀ L, mm_gI (px_h (z + 6) E (pm_f E Y (pm_l mV mT mQ mO mE mB mS mR mW)) L) 0 0 9 (nI (i + 3)) = some (xs.getD (i + 3) 0) := fun L => gS h0 (by omega) hl
    have g4 : ∀ L, mm_gI (px_h (z + 6) E (pm_f E Y (pm_l mV mT mQ mO mE mB mS mR mW)) L) 0 0 9 (nI (i + 4)) = some (xs.getD (i + 4) 0) := fun L => gS h0 (by omega) hl
    simp only [q5000_1141i, q5000_1143, q5000_1144, q5000_1145, q5000_1147, q5000_1148, q5000_1149, q5000_1150, q5000_1151, q5000_1153, q5000_1154, q5000_1155, q5000_1156, q5000_1157, q5000_1159, q5000_1160, q5000_1161, q5000_1162, q5000_1163, q5000_1165, q5000_1166, q5000_1167, g1, g2, g3, g4, nI_1, nI_p2, nI_p3, nI_p4, isl_i, isl_r, isl_n, wx_some, wx_ref]
    rw [pw_xm]
    simp only [q5000_1168, mc_o]
    apply tm_rests
    · intro y
      simp only [sl_i, q5000_1171i, q5000_1173, isl_i, isl_r, isl_n]
      simp only [q5000_1174, mc_o, e217, q217_0, q217_1, q217_4, mc_o, mg_thrown, mf_thrown, wx_some, wx_ref, sl_i]
      simp only [q5000_1177, q5000_1179]
      refine if_t (by first | rfl | trivial | decide) ?_
      simp only [q5000_1184, q5000_1186]
      rw [if_pos (by decide)]
      simp only [q5000_1201]
      rw [← pw_xm]
      exact go tp nm s c us b mk ⟨⟨iT, iD, iK, iSc, i7, iB, iU, iMk, iW, iQ⟩, ⟨jT, jK, jE, jS, jg, jO, jL, jB, jU, jM, jW, j9, ja⟩, IS_up iS, by omega, ⟨u, hu⟩⟩
    · intro r' y; rw [er] at y; cases y
  | some r =>
    rw [wr_fm (fx := fxr) (fxr_1 hx ho er) ⟨Nat.le_refl _, Nat.le_refl _⟩, pw_Y]
    have g1 : ∀ L, mm_gI (px_h z E (pm_f E (fun j => if j = 204 then mm_L [r.toInt64] else Y j) (pm_l mV mT mQ mO mE mB mS mR mW)) L) 0 0 9 (nI (i + 1)) = some (xs.getD (i + 1) 0) := fun L => gS h0 (by omega) hl
    have g2 : ∀ L, mm_gI (px_h z E (pm_f E (fun j => if j = 204 then mm_L [r.toInt64] else Y j) (pm_l mV mT mQ mO mE mB mS mR mW)) L) 0 0 9 (nI (i + 2)) = some (xs.getD (i + 2) 0) := fun L => gS h0 (by omega) hl
    have g3 : ∀ L, mm_gI (px_h z E (pm_f E (fun j => if j = 204 then mm_L [r.toInt64] else Y j) (pm_l mV mT mQ mO mE mB mS mR mW)) L) 0 0 9 (nI (i + 3)) = some (xs.getD (i + 3) 0) := fun L => gS h0 (by omega) hl
    have g4 : ∀ L, mm_gI (px_h z E (pm_f E (fun j => if j = 204 then mm_L [r.toInt64] else Y j) (pm_l mV mT mQ mO mE mB mS mR mW)) L) 0 0 9 (nI (i + 4)) = some (xs.getD (i + 4) 0) := fun L => gS h0 (by omega) hl
    simp only [q5000_1141i, q5000_1143, q5000_1144, q5000_1145, q5000_1147, q5000_1148, q5000_1149, q5000_1150, q5000_1151, q5000_1153, q5000_1154, q5000_1155, q5000_1156, q5000_1157, q5000_1159, q5000_1160, q5000_1161, q5000_1162, q5000_1163, q5000_1165, q5000_1166, q5000_1167, g1, g2, g3, g4, nI_1, nI_p2, nI_p3, nI_p4, isl_i, isl_r, isl_n, wx_some, wx_ref]
    rw [pw_xm]
    simp only [q5000_1168, mc_o]
    apply tm_rests
    · intro y; rw [er] at y; cases y
    · intro r' y
      rw [er] at y
      cases y
      simp only [sl_i, q5000_1171i, q5000_1173, isl_i, isl_r, isl_n]
      simp only [q5000_1174, mc_o, e217, q217_0, q217_1, q217_4, mc_o, mg_thrown, mf_thrown, wx_some, wx_ref, sl_i]
      simp only [q5000_1177, q5000_1179]
      refine if_t (by first | rfl | trivial | decide) ?_
      simp only [q5000_1184, q5000_1186]
      rw [if_neg (by decide)]
      rw [← pw_xm]
      have gl : ∀ L lm, mm_gL (px_h z E (pm_f E (fun j => if j = 204 then mm_L [r.toInt64] else Y j) lm) L) 204 0 = some r.toInt64 := by
        intro L lm
        have hc : (px_h z E (pm_f E (fun j => if j = 204 then mm_L [r.toInt64] else Y j) lm) L).2.2 204 = mm_L [r.toInt64] := pw_204.trans (if_pos rfl)
        unfold mm_gL
        rw [hc]
        rfl
      simp only [q5000_1189, q5000_1190, q5000_1191, q5000_1192, q5000_1194, q5000_1195, q5000_1196, gl, wx_some, wx_ref, lg_self]
      refine if_t (by first | rfl | trivial | decide) ?_
      simp only [q5000_1201]
      exact go tp nm s c us b mk ⟨⟨iT, iD, iK, iSc, i7, iB, iU, iMk, iW, iQ⟩, ⟨jT, jK, jE, jS, jg, jO, jL, jB, jU, jM, jW, j9, ja⟩, IS_up iS, by omega, ⟨_, if_pos rfl⟩⟩
end LE
