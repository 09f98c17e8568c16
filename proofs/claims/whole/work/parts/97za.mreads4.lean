/-! the line that tells a law, of the model -/
section GYB
variable {fx : List Value → mm_H → Option (List Value × mm_H)} {z : Nat} {X Y : Nat → mm_C} {mV : pm_V} {mT : pm_T} {mQ : pm_Q} {mO : pm_O} {mE : pm_E} {mB : pm_B} {mS : pm_S} {mR : pm_R} {mW : pm_W} {m_thrown : Int32} {m_given : Int32} {m_fresh : Int64} {m_code : Int32} {m_taped : Int32} {m_tape : List Int32} {m_size : Int32} {m_place : Int32} {m_begin : Int32} {m_token : Int32} {m_word : Int64} {m_told : Int32} {m_wrong : Int32} {m_square : List Int32} {m_sortName : List Int64} {m_colourName : List Int64} {m_walkerName : List Int64} {m_sortOf : List Int32} {m_rules : List Int32} {m_kind : List Int32} {m_colour : List Int32} {m_atTold : List Int32} {m_goesMany : List Int32} {m_goes : List Int32} {m_gusts : List Int32} {m_lineFrom : List Int32} {m_lineTo : List Int32} {m_codes : List Int32} {m_opened : List Int32} {m_compared : List Int32} {m_kept : List Int32} {m_keptBy : List Int32} {m_ahead : List Int32} {m_against : List Int32} {m_sum : List Int32} {m_sumBy : List Int32} {m_term : List Int32} {m_termBy : List Int32} {m_byNot : List Int32} {m_valueOf : List Int32} {m_lines : List Int32} {m_lineWhat : List Int32} {m_lineA : List Int32} {m_lineB : List Int32} {m_wishes : List Int32} {m_wishOf : List Int32} {m_seens : List Int32} {m_seenAt : List Int32} {m_seenIn : List Int32} {m_seenThere : List Int32} {m_s : List Int32} {m_aside : List Int32} {m_before : List Int32} {m_marked : List Int32} {m_undone : List Int32} {m_isLaid : List Int32} {m_done : Int32} {m_gustNow : Int32} {m_shown : List Int32} {m_shownMany : Int32} {m_from7 : List Int32} {m_long7 : List Int32} {m_sentences : Int32} {m_text7 : List Int32} {m_textMany : Int32} {m_waysOf : List Int32} {m_rowOf : List Int32} {m_row : List Int32} {m_bestRow : List Int32} {m_leastSteps : Int32} {m_steps10 : List Int32} {m_placeIn : List Int32} {m_g : Int64}
variable {Q : Option Value → mm_H → Prop} {tp : List Nat} {i k dep : Nat} {mV0 : pm_V} {mQ0 : pm_Q} {op cm : Nat → Int32} {o : PS} {a : pm_Q}
theorem LQ_fr {mV' : pm_V} {mQ' : pm_Q} {cs : List Nat} {x : Int32} (hl : QLm mQ) (hR : R0m a mQ) (h : LQm mV (mQ.1, mQ.2.1, mQ.2.2.1, mQ.2.2.2.1, mQ.2.2.2.2.1, mQ.2.2.2.2.2.1, mQ.2.2.2.2.2.2.1, mQ.2.2.2.2.2.2.2.1, mQ.2.2.2.2.2.2.2.2.1, mQ.2.2.2.2.2.2.2.2.2.1, mQ.2.2.2.2.2.2.2.2.2.2.1, mQ.2.2.2.2.2.2.2.2.2.2.2.1, (mQ.2.2.2.2.2.2.2.2.2.2.2.2.1).set 1 x, mQ.2.2.2.2.2.2.2.2.2.2.2.2.2.1, mQ.2.2.2.2.2.2.2.2.2.2.2.2.2.2) cs mV' mQ') : QLm mQ' ∧ R0m a mQ' := by
  obtain ⟨⟨xs, e1⟩, -, h1, -, -, h4⟩ := h
  subst e1
  obtain ⟨q1, q2, q3, q4, q5, q6, q7, q8, q9, q10, q11, q12, q13, q14, q15⟩ := hl
  obtain ⟨r1, r2, r3, r4, r5, r6, r7, r8, r9, r10, r11, r12, r13, r14, r15⟩ := hR
  refine ⟨⟨q1, q2, q3, q4, q5, q6, q7, q8, q9, q10, q11, q12, ?_, q14, h1⟩, r1, r2, r3, r4, r5, r6, r7, r8, r9, r10, r11, r12, ?_, r14, fun j hj => (h4 j hj).trans (r15 j hj)⟩
  · show (List.set _ _ _).length = 2; rw [List.length_set]; exact q13
  · exact (List.getElem?_set_ne (by omega)).trans r13
theorem tm_readsReads (h : OKm tp k o a mV mT mQ) (hO : OPm op cm mO) (hq1 : ∀ j o' mV' mT' mQ' mO' op' cm', sp_cl tp (l_reads tp k o) = (0, j, o') → OKm tp j o' a mV' mT' mQ' → OPm op' cm' mO' → Q (some (.int 1)) (pm_h z X Y (pm_l (mV') (mT') (mQ') (mO') mE mB mS mR mW))) (hq0 : ∀ f mV' mT' mQ' mO' op' cm', (sp_cl tp (l_reads tp k o)).1 = f → BDm tp f a mT' mQ' → OPm op' cm' mO' → Q (some (.int 0)) (pm_h z X Y (pm_l (mV') (mT') (mQ') (mO') mE mB mS mR mW))) : wm (mp_P fx) (dep + 4) 245 [.ref 149] (pm_h z X Y (pm_l mV mT mQ mO mE mB mS mR mW)) Q := by
  obtain ⟨hT, ⟨hl, hs, hN, hy, hL⟩, hP, hR, hc⟩ := id h
  obtain ⟨n, cs, c1, c2, c3, c4, c5, c6, c7, c8⟩ := hL
  obtain ⟨q1, q2, q3, q4, q5, q6, q7, q8, q9, q10, q11, q12, q13, q14, q15⟩ := id hl
  have gF : aG (mQ.2.2.2.2.2.2.2.2.2.2.2.2.1) 1 = some (nI 1000) := aG_n c3 (by omega)
  have gT : aG (mQ.2.2.2.2.2.2.2.2.2.2.2.2.2.1) 1 = some (nI (1000 + n)) := aG_n c4 (by omega)
  simp only [e245, b245_0, b245_1, bn_0 b245_0, bn_1 b245_1, q245_0, q245_1, q245_4, q245_5, q245_6, q245_7, q245_10, q245_11, q245_12, mc_o, mg_lineFrom, ma_lineFrom, mb_lineFrom, mn_lineFrom, mg_lineTo, ma_lineTo, mb_lineTo, mn_lineTo, wx_some, wx_ref, isl_i, isl_r, isl_n, gF, gT]
  by_cases eo : o.2.2.2 = true
  · have hn : ¬ n = 0 := fun e => by rw [c5.mpr e] at eo; cases eo
    have hb : (l_reads tp k o).1 = flt tp 3 k := by unfold l_reads; rw [if_pos eo]
    rw [if_neg (by rw [nI_leI (by omega) (by omega)]; omega)]
    simp only [b245_0, b245_1, bn_0 b245_0, bn_1 b245_1, q245_15, q245_16, q245_17, mc_o]
    apply tm_fails (kd := 3) hT
    intro mT' h1 h2
    simp only [sl_i, b245_0, b245_1, bn_0 b245_0, bn_1 b245_1, q245_20]
    exact hq0 _ mV mT' mQ mO op cm (sp_cl_bad hb (flt_ne (by omega))) ⟨flt_ne (by omega), h2, hl, hR, k, h1⟩ hO
  have ef : o.2.2.2 = false := by cases e : o.2.2.2 with
    | true => exact absurd e eo
    | false => rfl
  have hn : n = 0 := c5.mp ef
  subst hn
  have hcd := hc ef
  rw [if_pos (by rw [nI_leI (by omega) (by omega)]; omega)]
  simp only [b245_0, b245_1, bn_0 b245_0, bn_1 b245_1, q245_21, q245_22, mc_o]
  apply tm_nx hT
  intro mT1 hT1 _
  simp only [sl_n, b245_0, b245_1, bn_0 b245_0, bn_1 b245_1, q245_25, q245_26, q245_29, q245_30, q245_31, q245_34, q245_35, q245_36, mc_o, mg_lineFrom, ma_lineFrom, mb_lineFrom, mn_lineFrom, mg_code, mf_code, wx_some, wx_ref, hcd, show ∀ (x : Int32) (f : List Int32 → mm_H), aS (mQ.2.2.2.2.2.2.2.2.2.2.2.2.1) 1 x f = some (f ((mQ.2.2.2.2.2.2.2.2.2.2.2.2.1).set 1 x)) from fun x f => aS_n (j := 1) (by omega) (by omega)]
  apply tm_reads (mV0 := mV) (mQ0 := (mQ.1, mQ.2.1, mQ.2.2.1, mQ.2.2.2.1, mQ.2.2.2.2.1, mQ.2.2.2.2.2.1, mQ.2.2.2.2.2.2.1, mQ.2.2.2.2.2.2.2.1, mQ.2.2.2.2.2.2.2.2.1, mQ.2.2.2.2.2.2.2.2.2.1, mQ.2.2.2.2.2.2.2.2.2.2.1, mQ.2.2.2.2.2.2.2.2.2.2.2.1, (mQ.2.2.2.2.2.2.2.2.2.2.2.2.1).set 1 (nI 1000), mQ.2.2.2.2.2.2.2.2.2.2.2.2.2.1, mQ.2.2.2.2.2.2.2.2.2.2.2.2.2.2)) (dep := dep) hT.2.1 hT1 ⟨⟨_, rfl⟩, ⟨_, rfl⟩, q15, hcd, fun j hj => absurd hj (Nat.not_lt_zero _), fun j hj => rfl⟩ hO
  · intro a0 y59 mV' mT' mQ' mO' op' cm' b1 b2 b3
    have hr : l_reads tp k o = (0, (g_E tp (g_part tp 5) (k + 1)).2.1, setL o (g_E tp (g_part tp 5) (k + 1)).2.2.2.2) := by unfold l_reads; rw [if_neg eo, if_pos a0]
    obtain ⟨g1, g2⟩ := LQ_fr hl hR b2
    obtain ⟨⟨xs, e1⟩, ⟨cc, e2⟩, m1, m2, m3, m4⟩ := b2
    have hcd2 := m2
    obtain ⟨n1, n2⟩ := GLn_E (tp := tp) (GLn_part 5) (k + 1) a0
    have hgt := GLn_E (tp := tp) (GLn_part 5) (k + 1) a0
    have h1000 := TY_1000 hT.2.1 (show ¬ TY tp (g_E tp (g_part tp 5) (k + 1)).2.1 = 0 by rw [(snB_t.mp y59).1]; decide)
    have hpos : 0 < (g_E tp (g_part tp 5) (k + 1)).2.2.2.1.length := by omega
    have q14' := g1.2.2.2.2.2.2.2.2.2.2.2.2.2.1
    simp only [sl_i, b245_0, b245_1, bn_0 b245_0, bn_1 b245_1, q245_39]
    rw [if_pos (by decide)]
    simp only [b245_0, b245_1, bn_0 b245_0, bn_1 b245_1, q245_44, q245_45, q245_48, q245_49, q245_50, q245_53, q245_54, q245_55, mc_o, mg_lineTo, ma_lineTo, mb_lineTo, mn_lineTo, mg_code, mf_code, wx_some, wx_ref, hcd2, show ∀ (x : Int32) (f : List Int32 → mm_H), aS (mQ'.2.2.2.2.2.2.2.2.2.2.2.2.2.1) 1 x f = some (f ((mQ'.2.2.2.2.2.2.2.2.2.2.2.2.2.1).set 1 x)) from fun x f => aS_n (j := 1) (by omega) (by omega)]
    have hsp : sp_cl tp (l_reads tp k o) = (0, (g_E tp (g_part tp 5) (k + 1)).2.1 + 1, setL o (g_E tp (g_part tp 5) (k + 1)).2.2.2.2) := by unfold sp_cl; rw [hr]; simp only []; rw [if_pos trivial, if_pos y59]
    refine hq1 _ _ mV' mT' _ mO' op' cm' hsp ⟨b1, ⟨?_, ?_, ?_, ?_, ?_⟩, ok_setL hP, ?_, fun e => by cases e⟩ b3
    · obtain ⟨u1, u2, u3, u4, u5, u6, u7, u8, u9, u10, u11, u12, u13, u14, u15⟩ := g1
      exact ⟨u1, u2, u3, u4, u5, u6, u7, u8, u9, u10, u11, u12, u13, by show (List.set _ _ _).length = 2; rw [List.length_set]; exact u14, u15⟩
    · subst e1; exact hs
    · subst e1; exact hN
    · subst e1; exact hy
    · refine ⟨_, (g_E tp (g_part tp 5) (k + 1)).2.2.2.1, rfl, by omega, ?_, ?_, ⟨fun e => (by cases e), fun e => (by omega)⟩, ?_, fun e => (by omega), fun _ a b e f bn L => lm_E a0⟩
      · subst e1; exact List.getElem?_set_self (by omega)
      · exact List.getElem?_set_self (by omega)
      · intro j hj
        refine ⟨m3 j hj, ?_⟩
        rw [List.getD, List.getElem?_eq_getElem hj]
        exact CDl_E (tp := tp) (CDl_part 5) (k + 1) a0 _ (List.getElem_mem hj)
    · obtain ⟨r1, r2, r3, r4, r5, r6, r7, r8, r9, r10, r11, r12, r13, r14, r15⟩ := g2
      exact ⟨r1, r2, r3, r4, r5, r6, r7, r8, r9, r10, r11, r12, r13, (List.getElem?_set_ne (by omega)).trans r14, r15⟩
  · intro a0 n59 mV' mT' mQ' mO' cs' op' cm' k' b1 bw b2 b3
    have hr : l_reads tp k o = (0, (g_E tp (g_part tp 5) (k + 1)).2.1, setL o (g_E tp (g_part tp 5) (k + 1)).2.2.2.2) := by unfold l_reads; rw [if_neg eo, if_pos a0]
    obtain ⟨g1, g2⟩ := LQ_fr hl hR b2
    simp only [sl_i, b245_0, b245_1, bn_0 b245_0, bn_1 b245_1, q245_39, q245_42, q245_43]
    rw [if_neg (by decide)]
    refine hq0 _ mV' mT' mQ' mO' op' cm' ?_ ⟨flt_ne (by omega), bw, g1, g2, k', b1⟩ b3
    unfold sp_cl; rw [hr]; simp only []; rw [if_pos trivial, if_neg n59]
  · intro a0 mV' mT' mQ' mO' cs' op' cm' k' b1 bw b2 b3
    have hb : (l_reads tp k o).1 = (g_E tp (g_part tp 5) (k + 1)).1 := by unfold l_reads; rw [if_neg eo, if_neg a0]
    obtain ⟨g1, g2⟩ := LQ_fr hl hR b2
    simp only [sl_i, b245_0, b245_1, bn_0 b245_0, bn_1 b245_1, q245_39, q245_42, q245_43]
    rw [if_neg (by decide)]
    exact hq0 _ mV' mT' mQ' mO' op' cm' (sp_cl_bad hb a0) ⟨a0, bw, g1, g2, k', b1⟩ b3
end GYB
