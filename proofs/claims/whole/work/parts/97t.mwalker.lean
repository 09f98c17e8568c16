/-! lines of a square, of the model: walkers -/
section MLK
variable {fx : List Value → mm_H → Option (List Value × mm_H)} {z : Nat} {X Y : Nat → mm_C} {mV : pm_V} {mT : pm_T} {mQ : pm_Q} {mO : pm_O} {mE : pm_E} {mB : pm_B} {mS : pm_S} {mR : pm_R} {mW : pm_W} {m_thrown : Int32} {m_given : Int32} {m_fresh : Int64} {m_code : Int32} {m_taped : Int32} {m_tape : List Int32} {m_size : Int32} {m_place : Int32} {m_begin : Int32} {m_token : Int32} {m_word : Int64} {m_told : Int32} {m_wrong : Int32} {m_square : List Int32} {m_sortName : List Int64} {m_colourName : List Int64} {m_walkerName : List Int64} {m_sortOf : List Int32} {m_rules : List Int32} {m_kind : List Int32} {m_colour : List Int32} {m_atTold : List Int32} {m_goesMany : List Int32} {m_goes : List Int32} {m_gusts : List Int32} {m_lineFrom : List Int32} {m_lineTo : List Int32} {m_codes : List Int32} {m_opened : List Int32} {m_compared : List Int32} {m_kept : List Int32} {m_keptBy : List Int32} {m_ahead : List Int32} {m_against : List Int32} {m_sum : List Int32} {m_sumBy : List Int32} {m_term : List Int32} {m_termBy : List Int32} {m_byNot : List Int32} {m_valueOf : List Int32} {m_lines : List Int32} {m_lineWhat : List Int32} {m_lineA : List Int32} {m_lineB : List Int32} {m_wishes : List Int32} {m_wishOf : List Int32} {m_seens : List Int32} {m_seenAt : List Int32} {m_seenIn : List Int32} {m_seenThere : List Int32} {m_s : List Int32} {m_aside : List Int32} {m_before : List Int32} {m_marked : List Int32} {m_undone : List Int32} {m_isLaid : List Int32} {m_done : Int32} {m_gustNow : Int32} {m_shown : List Int32} {m_shownMany : Int32} {m_from7 : List Int32} {m_long7 : List Int32} {m_sentences : Int32} {m_text7 : List Int32} {m_textMany : Int32} {m_waysOf : List Int32} {m_rowOf : List Int32} {m_row : List Int32} {m_bestRow : List Int32} {m_leastSteps : Int32} {m_steps10 : List Int32} {m_placeIn : List Int32} {m_g : Int64}
variable {d : Nat} {Q : Option Value → mm_H → Prop} {tp : List Nat} {k : Nat} {nm : NMs} {s : SQ} {o : PS} {a : pm_Q}
theorem tm_kind (hT : TKm tp k mT) {l1 : Int32} (hq : ww (mp_P fx) (d + 3) 240 98 [some (.ref 149), some (.int l1)] [.int (io (kdO tp k)), .int l1, .ref 157] (pm_h z X Y (pm_l mV mT mQ mO mE mB mS mR mW)) Q) : ww (mp_P fx) (d + 3) 240 45 [some (.ref 149), some (.int l1)] [.long 8740238, .ref 149, .int l1, .ref 157] (pm_h z X Y (pm_l mV mT mQ mO mE mB mS mR mW)) Q := by
  unfold kdO at hq
  simp only [b240_0, b240_1, bn_0 b240_0, bn_1 b240_1, q240_45, mc_o]
  apply tm_isWord (w := 15) (by omega) (by decide) hT
  · intro y
    rw [if_pos (wdB_t.mpr y)] at hq
    simp only [sl_i, b240_0, b240_1, bn_0 b240_0, bn_1 b240_1, q240_48, q240_51, q240_52]
    rw [if_neg (by decide)]; exact hq
  intro y
  rw [if_neg (fun e => y (wdB_t.mp e))] at hq
  simp only [sl_i, b240_0, b240_1, bn_0 b240_0, bn_1 b240_1, q240_48, b240_0, b240_1, bn_0 b240_0, bn_1 b240_1, q240_55, q240_56]
  rw [if_pos (by decide)]
  simp only [b240_0, b240_1, bn_0 b240_0, bn_1 b240_1, q240_59, mc_o]
  apply tm_isWord (w := 16) (by omega) (by decide) hT
  · intro y
    rw [if_pos (wdB_t.mpr y)] at hq
    simp only [sl_i, b240_0, b240_1, bn_0 b240_0, bn_1 b240_1, q240_62, q240_65, q240_66]
    rw [if_neg (by decide)]; exact hq
  intro y
  rw [if_neg (fun e => y (wdB_t.mp e))] at hq
  simp only [sl_i, b240_0, b240_1, bn_0 b240_0, bn_1 b240_1, q240_62, b240_0, b240_1, bn_0 b240_0, bn_1 b240_1, q240_69, q240_70]
  rw [if_pos (by decide)]
  simp only [b240_0, b240_1, bn_0 b240_0, bn_1 b240_1, q240_73, mc_o]
  apply tm_isWord (w := 17) (by omega) (by decide) hT
  · intro y
    rw [if_pos (wdB_t.mpr y)] at hq
    simp only [sl_i, b240_0, b240_1, bn_0 b240_0, bn_1 b240_1, q240_76, q240_79, q240_80]
    rw [if_neg (by decide)]; exact hq
  intro y
  rw [if_neg (fun e => y (wdB_t.mp e))] at hq
  simp only [sl_i, b240_0, b240_1, bn_0 b240_0, bn_1 b240_1, q240_76, b240_0, b240_1, bn_0 b240_0, bn_1 b240_1, q240_83, q240_84]
  rw [if_pos (by decide)]
  simp only [b240_0, b240_1, bn_0 b240_0, bn_1 b240_1, q240_87, mc_o]
  apply tm_isWord (w := 18) (by omega) (by decide) hT
  · intro y
    rw [if_pos (wdB_t.mpr y)] at hq
    simp only [sl_i, b240_0, b240_1, bn_0 b240_0, bn_1 b240_1, q240_90, q240_93, q240_94]
    rw [if_neg (by decide)]; exact hq
  intro y
  rw [if_neg (fun e => y (wdB_t.mp e))] at hq
  simp only [sl_i, b240_0, b240_1, bn_0 b240_0, bn_1 b240_1, q240_90, b240_0, b240_1, bn_0 b240_0, bn_1 b240_1, q240_97]
  rw [if_pos (by decide)]; exact hq
def W1m (o : PS) (kd co : Nat) (mQ : pm_Q) : Prop := (mQ.2.2.2.2.2.2.1)[7 + k_nW o.1]? = some (nI kd) ∧ (mQ.2.2.2.2.2.2.2.1)[7 + k_nW o.1]? = some (nI co)
def K1m (o : PS) (kd : Nat) (mQ : pm_Q) : Prop := (mQ.2.2.2.2.2.2.1)[7 + k_nW o.1]? = some (nI kd)
def A1m (o : PS) (st : Nat) (mQ : pm_Q) : Prop := (mQ.2.2.2.2.2.2.2.2.1)[7 + k_nW o.1]? = some (nI st)
theorem tm_readsWalker (h : OKm tp k o a mV mT mQ) (hq1 : ∀ j o' mV' mT' mQ', sp_cl tp (l_walk tp k o) = (0, j, o') → OKm tp j o' a mV' mT' mQ' → Q (some (.int 1)) (pm_h z X Y (pm_l (mV') (mT') (mQ') mO mE mB mS mR mW))) (hq0 : ∀ f mV' mT' mQ', (sp_cl tp (l_walk tp k o)).1 = f → BDm tp f a mT' mQ' → Q (some (.int 0)) (pm_h z X Y (pm_l (mV') (mT') (mQ') mO mE mB mS mR mW))) : wm (mp_P fx) (d + 3) 240 [.ref 149] (pm_h z X Y (pm_l mV mT mQ mO mE mB mS mR mW)) Q := by
  obtain ⟨hT, ⟨hl, hs, hN, hy, hL⟩, hP, hR, hc⟩ := id h
  obtain ⟨ho, hnm, -, -⟩ := id hP
  have h6 := ho.1.2.2.2.1
  have h61 := ho.1.2.1
  obtain ⟨q1, q2, q3, q4, q5, q6, q7, q8, q9, q10, q11, q12⟩ := id hl
  have g9 : aG (mQ.1) 9 = some (nI (k_nW o.1)) := aG_n hs.1.2.2.2.1 (by omega)
  simp only [e240, b240_0, b240_1, bn_0 b240_0, bn_1 b240_1, q240_0, q240_2, q240_3, q240_6, q240_8, q240_9, q240_10r, q240_11, q240_12, q240_14, q240_17, q240_18, mc_o, mg_square, ma_square, mb_square, mn_square, wx_some, wx_ref, isl_i, isl_r, isl_n, g9, show (7 : Int32) + nI (k_nW o.1) = nI (7 + k_nW o.1) from nI_add 7 _]
  by_cases e6 : 7 ≤ k_nW o.1
  · have hb : (l_walk tp k o).1 = flt tp 5 k := by unfold l_walk; rw [if_pos e6]
    rw [if_neg (by rw [show k_nW o.1 = 7 by omega]; exact fun y => y rfl)]
    simp only [b240_0, b240_1, bn_0 b240_0, bn_1 b240_1, q240_19, mc_o]
    apply tm_fails (kd := 5) hT
    intro mT' h1 h2
    simp only [sl_i, b240_0, b240_1, bn_0 b240_0, bn_1 b240_1, q240_22]
    exact hq0 _ mV mT' mQ (sp_cl_bad hb (flt_ne (by omega))) ⟨flt_ne (by omega), h2, hl, hR, k, h1⟩
  rw [if_pos (by rw [show (14 : Int32) = nI 14 from rfl, nI_eq (by omega) (by omega)]; omega)]
  simp only [b240_0, b240_1, bn_0 b240_0, bn_1 b240_1, q240_23, q240_24, mc_o]
  apply tm_nx hT
  intro mT1 hT1 _
  simp only [sl_n, b240_0, b240_1, bn_0 b240_0, bn_1 b240_1, q240_27, q240_28, mc_o]
  apply tm_needsNew hT1 hl hs ho hN hnm
  rotate_left
  · intro mT' f a1 a2 a3 a4
    simp only [sl_i, b240_0, b240_1, bn_0 b240_0, bn_1 b240_1, q240_31, q240_34, q240_35]
    rw [if_neg (by decide)]
    refine hq0 f mV mT' mQ (sp_cl_bad ?_ a2) ⟨a2, a4, hl, hR, _, a3⟩
    unfold l_walk; rw [if_neg e6, if_neg (by rw [a1]; exact a2)]; exact a1
  intro y1 y2 mT2 hT2
  simp only [sl_i, b240_0, b240_1, bn_0 b240_0, bn_1 b240_1, q240_31, b240_0, b240_1, bn_0 b240_0, bn_1 b240_1, q240_36, q240_37, q240_40, q240_41, q240_42, mc_o, mg_kind, ma_kind, mb_kind, mn_kind, wx_some, wx_ref]
  rw [if_pos (by decide)]
  apply tm_kind hT2
  have hks : ((mQ.2.2.2.2.2.2.1).set (7 + k_nW o.1) (io (kdO tp (k + 1 + 1))))[7 + k_nW o.1]? = some (io (kdO tp (k + 1 + 1))) := List.getElem?_set_self (by omega)
  simp only [b240_0, b240_1, bn_0 b240_0, bn_1 b240_1, q240_98, q240_99, q240_100, q240_103, q240_104, q240_105, q240_108, q240_109, mc_o, mg_kind, ma_kind, mb_kind, mn_kind, wx_some, wx_ref, aS_n (show 7 + k_nW o.1 < (mQ.2.2.2.2.2.2.1).length by omega) (show (mQ.2.2.2.2.2.2.1).length < 2 ^ 31 by omega), aG_n hks (show ((mQ.2.2.2.2.2.2.1).set (7 + k_nW o.1) (io (kdO tp (k + 1 + 1)))).length < 2 ^ 31 by rw [List.length_set]; omega)]
  have hD2 : DRm o (mQ.1, mQ.2.1, mQ.2.2.1, mQ.2.2.2.1, mQ.2.2.2.2.1, mQ.2.2.2.2.2.1, (mQ.2.2.2.2.2.2.1).set (7 + k_nW o.1) (io (kdO tp (k + 1 + 1))), mQ.2.2.2.2.2.2.2.1, mQ.2.2.2.2.2.2.2.2.1, mQ.2.2.2.2.2.2.2.2.2.1, mQ.2.2.2.2.2.2.2.2.2.2.1, mQ.2.2.2.2.2.2.2.2.2.2.2.1, mQ.2.2.2.2.2.2.2.2.2.2.2.2.1, mQ.2.2.2.2.2.2.2.2.2.2.2.2.2.1, mQ.2.2.2.2.2.2.2.2.2.2.2.2.2.2) ∧ R0m a (mQ.1, mQ.2.1, mQ.2.2.1, mQ.2.2.2.1, mQ.2.2.2.2.1, mQ.2.2.2.2.2.1, (mQ.2.2.2.2.2.2.1).set (7 + k_nW o.1) (io (kdO tp (k + 1 + 1))), mQ.2.2.2.2.2.2.2.1, mQ.2.2.2.2.2.2.2.2.1, mQ.2.2.2.2.2.2.2.2.2.1, mQ.2.2.2.2.2.2.2.2.2.2.1, mQ.2.2.2.2.2.2.2.2.2.2.2.1, mQ.2.2.2.2.2.2.2.2.2.2.2.2.1, mQ.2.2.2.2.2.2.2.2.2.2.2.2.2.1, mQ.2.2.2.2.2.2.2.2.2.2.2.2.2.2) := by
    refine ⟨⟨⟨q1, q2, q3, q4, q5, q6, by show (List.set _ _ _).length = 14; rw [List.length_set]; exact q7, q8, q9, q10, q11, q12⟩, ⟨hs.1, hs.2.1, hs.2.2.1, fun w hw => ⟨(List.getElem?_set_ne (by omega)).trans (hs.2.2.2.1 w hw).1, (hs.2.2.2.1 w hw).2⟩, hs.2.2.2.2⟩, hN, hy, hL⟩, hR.1, hR.2.1, hR.2.2.1, hR.2.2.2.1, hR.2.2.2.2.1, hR.2.2.2.2.2.1, fun i hi => (List.getElem?_set_ne (by omega)).trans (hR.2.2.2.2.2.2.1 i hi), hR.2.2.2.2.2.2.2⟩
  have hx2 : ∀ kd, kdO tp (k + 2) = some kd → K1m o kd (mQ.1, mQ.2.1, mQ.2.2.1, mQ.2.2.2.1, mQ.2.2.2.2.1, mQ.2.2.2.2.2.1, (mQ.2.2.2.2.2.2.1).set (7 + k_nW o.1) (io (kdO tp (k + 1 + 1))), mQ.2.2.2.2.2.2.2.1, mQ.2.2.2.2.2.2.2.2.1, mQ.2.2.2.2.2.2.2.2.2.1, mQ.2.2.2.2.2.2.2.2.2.2.1, mQ.2.2.2.2.2.2.2.2.2.2.2.1, mQ.2.2.2.2.2.2.2.2.2.2.2.2.1, mQ.2.2.2.2.2.2.2.2.2.2.2.2.2.1, mQ.2.2.2.2.2.2.2.2.2.2.2.2.2.2) := fun kd e => by
    show ((mQ.2.2.2.2.2.2.1).set (7 + k_nW o.1) (io (kdO tp (k + 1 + 1))))[7 + k_nW o.1]? = _
    rw [hks, show kdO tp (k + 1 + 1) = some kd from e]; rfl
  revert hD2 hx2
  generalize ((mQ.1, mQ.2.1, mQ.2.2.1, mQ.2.2.2.1, mQ.2.2.2.2.1, mQ.2.2.2.2.2.1, (mQ.2.2.2.2.2.2.1).set (7 + k_nW o.1) (io (kdO tp (k + 1 + 1))), mQ.2.2.2.2.2.2.2.1, mQ.2.2.2.2.2.2.2.2.1, mQ.2.2.2.2.2.2.2.2.2.1, mQ.2.2.2.2.2.2.2.2.2.2.1, mQ.2.2.2.2.2.2.2.2.2.2.2.1, mQ.2.2.2.2.2.2.2.2.2.2.2.2.1, mQ.2.2.2.2.2.2.2.2.2.2.2.2.2.1, mQ.2.2.2.2.2.2.2.2.2.2.2.2.2.2) : pm_Q) = mQ2
  intro hD2 hx2
  obtain ⟨hD2, hR2⟩ := hD2
  obtain ⟨hl2, hs2, hN2, hy2, hL2⟩ := id hD2
  cases ek : kdO tp (k + 1 + 1) with
  | none =>
    have ek : kdO tp (k + 2) = none := ek
    rw [if_neg (by decide)]
    simp only [b240_0, b240_1, bn_0 b240_0, bn_1 b240_1, q240_110, mc_o]
    apply tm_fails (kd := 1) hT2
    intro mT' h1 h2
    simp only [sl_i, b240_0, b240_1, bn_0 b240_0, bn_1 b240_1, q240_113]
    refine hq0 _ _ mT' mQ2 (sp_cl_bad ?_ (flt_ne (by omega))) ⟨flt_ne (by omega), h2, hl2, hR2, _, h1⟩
    unfold l_walk; rw [if_neg e6, if_pos y2, ek]
  | some kd =>
  have ek : kdO tp (k + 2) = some kd := ek
  have hkd := kdO_lt ek
  have hK2 := hx2 kd ek
  rw [if_pos (io_ge (by omega))]
  simp only [b240_0, b240_1, bn_0 b240_0, bn_1 b240_1, q240_114, q240_115, mc_o]
  apply tm_nx hT2
  intro mT3 hT3 _
  simp only [sl_n, b240_0, b240_1, bn_0 b240_0, bn_1 b240_1, q240_118, q240_119, mc_o]
  apply tm_isKept hT3
  · intro y
    simp only [sl_i, b240_0, b240_1, bn_0 b240_0, bn_1 b240_1, q240_122, q240_125, q240_126]
    rw [if_neg (by decide)]
    simp only [b240_0, b240_1, bn_0 b240_0, bn_1 b240_1, q240_127, mc_o]
    apply tm_fails (kd := 1) hT3
    intro mT' h1 h2
    simp only [sl_i, b240_0, b240_1, bn_0 b240_0, bn_1 b240_1, q240_130]
    have hcn : c_named tp o.2.1 1 (k_nC o.1) (k + 3) = (flt tp 1 (k + 3), 0) := by unfold c_named; rw [if_neg (fun e => y (nmB_t.mp e))]
    refine hq0 _ _ mT' mQ2 (sp_cl_bad ?_ (flt_ne (by omega))) ⟨flt_ne (by omega), h2, hl2, hR2, _, h1⟩
    unfold l_walk; rw [if_neg e6, if_pos y2, ek]; simp only []; rw [hcn, if_neg (flt_ne (by omega))]
  intro y3
  have hwd := TKm_word hT3 y3.1
  obtain ⟨p1, p2, p3, p4, p5, p6, p7, p8, p9, p10, p11, p12⟩ := id hl2
  simp only [sl_i, b240_0, b240_1, bn_0 b240_0, bn_1 b240_1, q240_122, b240_0, b240_1, bn_0 b240_0, bn_1 b240_1, q240_131, q240_132, q240_135, q240_136, q240_137, mc_o, mg_colour, ma_colour, mb_colour, mn_colour, wx_some, wx_ref]
  rw [if_pos (by decide)]
  simp only [b240_0, b240_1, bn_0 b240_0, bn_1 b240_1, q240_138, mc_o]
  apply tm_colourN hl2 hs2 ho hN2 hnm hwd (isNm_wf y3)
  have hcs : ((mQ2.2.2.2.2.2.2.2.1).set (7 + k_nW o.1) (io (fnd o.2.1 1 (k_nC o.1) (LT tp (k + 1 + 1 + 1)))))[7 + k_nW o.1]? = some (io (fnd o.2.1 1 (k_nC o.1) (LT tp (k + 1 + 1 + 1)))) := List.getElem?_set_self (by omega)
  simp only [sl_i, b240_0, b240_1, bn_0 b240_0, bn_1 b240_1, q240_141, q240_142, q240_143, q240_146, q240_147, q240_148, q240_151, q240_152, mc_o, mg_colour, ma_colour, mb_colour, mn_colour, wx_some, wx_ref, aS_n (show 7 + k_nW o.1 < (mQ2.2.2.2.2.2.2.2.1).length by omega) (show (mQ2.2.2.2.2.2.2.2.1).length < 2 ^ 31 by omega), aG_n hcs (show ((mQ2.2.2.2.2.2.2.2.1).set (7 + k_nW o.1) (io (fnd o.2.1 1 (k_nC o.1) (LT tp (k + 1 + 1 + 1))))).length < 2 ^ 31 by rw [List.length_set]; omega)]
  have hD3 : DRm o (mQ2.1, mQ2.2.1, mQ2.2.2.1, mQ2.2.2.2.1, mQ2.2.2.2.2.1, mQ2.2.2.2.2.2.1, mQ2.2.2.2.2.2.2.1, (mQ2.2.2.2.2.2.2.2.1).set (7 + k_nW o.1) (io (fnd o.2.1 1 (k_nC o.1) (LT tp (k + 1 + 1 + 1)))), mQ2.2.2.2.2.2.2.2.2.1, mQ2.2.2.2.2.2.2.2.2.2.1, mQ2.2.2.2.2.2.2.2.2.2.2.1, mQ2.2.2.2.2.2.2.2.2.2.2.2.1, mQ2.2.2.2.2.2.2.2.2.2.2.2.2.1, mQ2.2.2.2.2.2.2.2.2.2.2.2.2.2.1, mQ2.2.2.2.2.2.2.2.2.2.2.2.2.2.2) ∧ R0m a (mQ2.1, mQ2.2.1, mQ2.2.2.1, mQ2.2.2.2.1, mQ2.2.2.2.2.1, mQ2.2.2.2.2.2.1, mQ2.2.2.2.2.2.2.1, (mQ2.2.2.2.2.2.2.2.1).set (7 + k_nW o.1) (io (fnd o.2.1 1 (k_nC o.1) (LT tp (k + 1 + 1 + 1)))), mQ2.2.2.2.2.2.2.2.2.1, mQ2.2.2.2.2.2.2.2.2.2.1, mQ2.2.2.2.2.2.2.2.2.2.2.1, mQ2.2.2.2.2.2.2.2.2.2.2.2.1, mQ2.2.2.2.2.2.2.2.2.2.2.2.2.1, mQ2.2.2.2.2.2.2.2.2.2.2.2.2.2.1, mQ2.2.2.2.2.2.2.2.2.2.2.2.2.2.2) := by
    refine ⟨⟨⟨p1, p2, p3, p4, p5, p6, p7, by show (List.set _ _ _).length = 14; rw [List.length_set]; exact p8, p9, p10, p11, p12⟩, ⟨hs2.1, hs2.2.1, hs2.2.2.1, fun w hw => ⟨(hs2.2.2.2.1 w hw).1, (List.getElem?_set_ne (by omega)).trans (hs2.2.2.2.1 w hw).2.1, (hs2.2.2.2.1 w hw).2.2⟩, hs2.2.2.2.2⟩, hN2, hy2, hL2⟩, hR2.1, hR2.2.1, hR2.2.2.1, hR2.2.2.2.1, hR2.2.2.2.2.1, hR2.2.2.2.2.2.1, hR2.2.2.2.2.2.2.1, fun i hi => (List.getElem?_set_ne (by omega)).trans (hR2.2.2.2.2.2.2.2.1 i hi), hR2.2.2.2.2.2.2.2.2⟩
  have hx3 : ∀ co, fnd o.2.1 1 (k_nC o.1) (LT tp (k + 3)) = some co → W1m o kd co (mQ2.1, mQ2.2.1, mQ2.2.2.1, mQ2.2.2.2.1, mQ2.2.2.2.2.1, mQ2.2.2.2.2.2.1, mQ2.2.2.2.2.2.2.1, (mQ2.2.2.2.2.2.2.2.1).set (7 + k_nW o.1) (io (fnd o.2.1 1 (k_nC o.1) (LT tp (k + 1 + 1 + 1)))), mQ2.2.2.2.2.2.2.2.2.1, mQ2.2.2.2.2.2.2.2.2.2.1, mQ2.2.2.2.2.2.2.2.2.2.2.1, mQ2.2.2.2.2.2.2.2.2.2.2.2.1, mQ2.2.2.2.2.2.2.2.2.2.2.2.2.1, mQ2.2.2.2.2.2.2.2.2.2.2.2.2.2.1, mQ2.2.2.2.2.2.2.2.2.2.2.2.2.2.2) := fun co e => by
    refine ⟨hK2, ?_⟩
    show ((mQ2.2.2.2.2.2.2.2.1).set (7 + k_nW o.1) (io (fnd o.2.1 1 (k_nC o.1) (LT tp (k + 1 + 1 + 1)))))[7 + k_nW o.1]? = _
    rw [hcs, show fnd o.2.1 1 (k_nC o.1) (LT tp (k + 1 + 1 + 1)) = some co from e]; rfl
  revert hD3 hx3
  generalize ((mQ2.1, mQ2.2.1, mQ2.2.2.1, mQ2.2.2.2.1, mQ2.2.2.2.2.1, mQ2.2.2.2.2.2.1, mQ2.2.2.2.2.2.2.1, (mQ2.2.2.2.2.2.2.2.1).set (7 + k_nW o.1) (io (fnd o.2.1 1 (k_nC o.1) (LT tp (k + 1 + 1 + 1)))), mQ2.2.2.2.2.2.2.2.2.1, mQ2.2.2.2.2.2.2.2.2.2.1, mQ2.2.2.2.2.2.2.2.2.2.2.1, mQ2.2.2.2.2.2.2.2.2.2.2.2.1, mQ2.2.2.2.2.2.2.2.2.2.2.2.2.1, mQ2.2.2.2.2.2.2.2.2.2.2.2.2.2.1, mQ2.2.2.2.2.2.2.2.2.2.2.2.2.2.2) : pm_Q) = mQ3
  intro hD3 hx3
  obtain ⟨hD3, hR3⟩ := hD3
  obtain ⟨hl3, hs3, hN3, hy3, hL3⟩ := id hD3
  cases ec : fnd o.2.1 1 (k_nC o.1) (LT tp (k + 1 + 1 + 1)) with
  | none =>
    have hcn : c_named tp o.2.1 1 (k_nC o.1) (k + 3) = (flt tp 2 (k + 3), 0) := by unfold c_named; rw [if_pos (nmB_t.mpr y3), show fnd o.2.1 1 (k_nC o.1) (LT tp (k + 3)) = none from ec]
    rw [if_neg (by decide)]
    simp only [b240_0, b240_1, bn_0 b240_0, bn_1 b240_1, q240_153, mc_o]
    apply tm_fails (kd := 2) hT3
    intro mT' h1 h2
    simp only [sl_i, b240_0, b240_1, bn_0 b240_0, bn_1 b240_1, q240_156]
    refine hq0 _ _ mT' mQ3 (sp_cl_bad ?_ (flt_ne (by omega))) ⟨flt_ne (by omega), h2, hl3, hR3, _, h1⟩
    unfold l_walk; rw [if_neg e6, if_pos y2, ek]; simp only []; rw [hcn, if_neg (flt_ne (by omega))]
  | some co =>
  have hco := fnd_lt ec
  have hW3 := hx3 co ec
  have hcn : c_named tp o.2.1 1 (k_nC o.1) (k + 3) = (0, co) := by unfold c_named; rw [if_pos (nmB_t.mpr y3), show fnd o.2.1 1 (k_nC o.1) (LT tp (k + 3)) = some co from ec]
  rw [if_pos (io_ge (by omega))]
  simp only [b240_0, b240_1, bn_0 b240_0, bn_1 b240_1, q240_157, q240_158, mc_o]
  apply tm_nx hT3
  intro mT4 hT4 _
  simp only [sl_n, b240_0, b240_1, bn_0 b240_0, bn_1 b240_1, q240_161, q240_162]
  simp only [b240_0, b240_1, bn_0 b240_0, bn_1 b240_1, q240_165, mc_o]
  apply tm_needsWord (w := 7) (by omega) (by decide) hT4
  rotate_left
  · intro y4 mT5 hT5 h5
    simp only [sl_i, b240_0, b240_1, bn_0 b240_0, bn_1 b240_1, q240_168, b240_0, b240_1, bn_0 b240_0, bn_1 b240_1, q240_181, q240_182]
    rw [if_pos (by decide)]
    refine hq0 _ _ mT5 mQ3 (sp_cl_bad ?_ (flt_ne (by omega))) ⟨flt_ne (by omega), h5, hl3, hR3, _, hT5⟩
    unfold l_walk; rw [if_neg e6, if_pos y2, ek]; simp only []; rw [hcn, if_pos rfl, if_neg (fun e => y4 (wdB_t.mp e))]
  intro y4 mT5 hT5
  simp only [sl_i, b240_0, b240_1, bn_0 b240_0, bn_1 b240_1, q240_168, q240_171, q240_172, q240_173]
  rw [if_neg (by decide)]
  simp only [b240_0, b240_1, bn_0 b240_0, bn_1 b240_1, q240_175, mc_o]
  apply tm_needsNumber (a := 0) (b := 9) (by omega) (by omega) hT5
  rotate_left
  · intro y5 y6 mT6 hT6 h6'
    simp only [sl_i, b240_0, b240_1, bn_0 b240_0, bn_1 b240_1, q240_178, q240_181, q240_182]
    rw [if_neg (by decide)]
    refine hq0 _ _ mT6 mQ3 (sp_cl_bad ?_ (flt_ne (by omega))) ⟨flt_ne (by omega), h6', hl3, hR3, _, hT6⟩
    unfold l_walk; rw [if_neg e6, if_pos y2, ek]; simp only []; rw [hcn, if_pos rfl, if_pos (wdB_t.mpr y4), if_pos y5, if_neg (fun e => y6 ⟨Nat.zero_le _, e⟩)]
  · intro y5 mT6 hT6 h6'
    simp only [sl_i, b240_0, b240_1, bn_0 b240_0, bn_1 b240_1, q240_178, q240_181, q240_182]
    rw [if_neg (by decide)]
    refine hq0 _ _ mT6 mQ3 (sp_cl_bad ?_ (flt_ne (by omega))) ⟨flt_ne (by omega), h6', hl3, hR3, _, hT6⟩
    unfold l_walk; rw [if_neg e6, if_pos y2, ek]; simp only []; rw [hcn, if_pos rfl, if_pos (wdB_t.mpr y4), if_neg y5]
  intro y5 y6 mT6 hT6
  obtain ⟨s1, s2, s3, s4, s5, s6, s7, s8, s9, s10, s11, s12⟩ := id hl3
  simp only [sl_i, b240_0, b240_1, bn_0 b240_0, bn_1 b240_1, q240_178, b240_0, b240_1, bn_0 b240_0, bn_1 b240_1, q240_183, q240_184, q240_187, q240_188, q240_189, q240_192, q240_193, q240_194, mc_o, mg_atTold, ma_atTold, mb_atTold, mn_atTold, mg_given, mf_given, wx_some, wx_ref, aS_n (show 7 + k_nW o.1 < (mQ3.2.2.2.2.2.2.2.2.1).length by omega) (show (mQ3.2.2.2.2.2.2.2.2.1).length < 2 ^ 31 by omega)]
  rw [if_pos (by decide)]
  have hD4 : DRm o (mQ3.1, mQ3.2.1, mQ3.2.2.1, mQ3.2.2.2.1, mQ3.2.2.2.2.1, mQ3.2.2.2.2.2.1, mQ3.2.2.2.2.2.2.1, mQ3.2.2.2.2.2.2.2.1, (mQ3.2.2.2.2.2.2.2.2.1).set (7 + k_nW o.1) (nI (VL tp (k + 1 + 1 + 1 + 1 + 1))), mQ3.2.2.2.2.2.2.2.2.2.1, mQ3.2.2.2.2.2.2.2.2.2.2.1, mQ3.2.2.2.2.2.2.2.2.2.2.2.1, mQ3.2.2.2.2.2.2.2.2.2.2.2.2.1, mQ3.2.2.2.2.2.2.2.2.2.2.2.2.2.1, mQ3.2.2.2.2.2.2.2.2.2.2.2.2.2.2) ∧ R0m a (mQ3.1, mQ3.2.1, mQ3.2.2.1, mQ3.2.2.2.1, mQ3.2.2.2.2.1, mQ3.2.2.2.2.2.1, mQ3.2.2.2.2.2.2.1, mQ3.2.2.2.2.2.2.2.1, (mQ3.2.2.2.2.2.2.2.2.1).set (7 + k_nW o.1) (nI (VL tp (k + 1 + 1 + 1 + 1 + 1))), mQ3.2.2.2.2.2.2.2.2.2.1, mQ3.2.2.2.2.2.2.2.2.2.2.1, mQ3.2.2.2.2.2.2.2.2.2.2.2.1, mQ3.2.2.2.2.2.2.2.2.2.2.2.2.1, mQ3.2.2.2.2.2.2.2.2.2.2.2.2.2.1, mQ3.2.2.2.2.2.2.2.2.2.2.2.2.2.2) ∧ W1m o kd co (mQ3.1, mQ3.2.1, mQ3.2.2.1, mQ3.2.2.2.1, mQ3.2.2.2.2.1, mQ3.2.2.2.2.2.1, mQ3.2.2.2.2.2.2.1, mQ3.2.2.2.2.2.2.2.1, (mQ3.2.2.2.2.2.2.2.2.1).set (7 + k_nW o.1) (nI (VL tp (k + 1 + 1 + 1 + 1 + 1))), mQ3.2.2.2.2.2.2.2.2.2.1, mQ3.2.2.2.2.2.2.2.2.2.2.1, mQ3.2.2.2.2.2.2.2.2.2.2.2.1, mQ3.2.2.2.2.2.2.2.2.2.2.2.2.1, mQ3.2.2.2.2.2.2.2.2.2.2.2.2.2.1, mQ3.2.2.2.2.2.2.2.2.2.2.2.2.2.2) ∧ A1m o (VL tp (k + 5)) (mQ3.1, mQ3.2.1, mQ3.2.2.1, mQ3.2.2.2.1, mQ3.2.2.2.2.1, mQ3.2.2.2.2.2.1, mQ3.2.2.2.2.2.2.1, mQ3.2.2.2.2.2.2.2.1, (mQ3.2.2.2.2.2.2.2.2.1).set (7 + k_nW o.1) (nI (VL tp (k + 1 + 1 + 1 + 1 + 1))), mQ3.2.2.2.2.2.2.2.2.2.1, mQ3.2.2.2.2.2.2.2.2.2.2.1, mQ3.2.2.2.2.2.2.2.2.2.2.2.1, mQ3.2.2.2.2.2.2.2.2.2.2.2.2.1, mQ3.2.2.2.2.2.2.2.2.2.2.2.2.2.1, mQ3.2.2.2.2.2.2.2.2.2.2.2.2.2.2) := by
    refine ⟨⟨⟨s1, s2, s3, s4, s5, s6, s7, s8, by show (List.set _ _ _).length = 14; rw [List.length_set]; exact s9, s10, s11, s12⟩, ⟨hs3.1, hs3.2.1, hs3.2.2.1, fun w hw => ⟨(hs3.2.2.2.1 w hw).1, (hs3.2.2.2.1 w hw).2.1, (List.getElem?_set_ne (by omega)).trans (hs3.2.2.2.1 w hw).2.2.1, (hs3.2.2.2.1 w hw).2.2.2⟩, hs3.2.2.2.2⟩, hN3, hy3, hL3⟩, ⟨hR3.1, hR3.2.1, hR3.2.2.1, hR3.2.2.2.1, hR3.2.2.2.2.1, hR3.2.2.2.2.2.1, hR3.2.2.2.2.2.2.1, hR3.2.2.2.2.2.2.2.1, fun i hi => (List.getElem?_set_ne (by omega)).trans (hR3.2.2.2.2.2.2.2.2.1 i hi), hR3.2.2.2.2.2.2.2.2.2⟩, hW3, List.getElem?_set_self (by omega)⟩
  revert hD4
  generalize ((mQ3.1, mQ3.2.1, mQ3.2.2.1, mQ3.2.2.2.1, mQ3.2.2.2.2.1, mQ3.2.2.2.2.2.1, mQ3.2.2.2.2.2.2.1, mQ3.2.2.2.2.2.2.2.1, (mQ3.2.2.2.2.2.2.2.2.1).set (7 + k_nW o.1) (nI (VL tp (k + 1 + 1 + 1 + 1 + 1))), mQ3.2.2.2.2.2.2.2.2.2.1, mQ3.2.2.2.2.2.2.2.2.2.2.1, mQ3.2.2.2.2.2.2.2.2.2.2.2.1, mQ3.2.2.2.2.2.2.2.2.2.2.2.2.1, mQ3.2.2.2.2.2.2.2.2.2.2.2.2.2.1, mQ3.2.2.2.2.2.2.2.2.2.2.2.2.2.2) : pm_Q) = mQ4
  rintro ⟨hD4, hR4, ⟨hk4, hco4⟩, hA4⟩
  obtain ⟨hl4, hs4, hN4, hy4, hL4⟩ := id hD4
  obtain ⟨u1, u2, u3, u4, u5, u6, u7, u8, u9, u10, u11, u12⟩ := id hl4
  simp only [b240_0, b240_1, bn_0 b240_0, bn_1 b240_1, q240_197, mc_o]
  apply tm_needsWord (w := 8) (by omega) (by decide) hT6
  rotate_left
  · intro y7 mT7 hT7 h7
    simp only [sl_i, b240_0, b240_1, bn_0 b240_0, bn_1 b240_1, q240_200, q240_203, q240_204]
    rw [if_neg (by decide)]
    refine hq0 _ _ mT7 mQ4 (sp_cl_bad ?_ (flt_ne (by omega))) ⟨flt_ne (by omega), h7, hl4, hR4, _, hT7⟩
    unfold l_walk; rw [if_neg e6, if_pos y2, ek]; simp only []; rw [hcn, if_pos rfl, if_pos (wdB_t.mpr y4), if_pos y5, if_pos y6.2, if_neg (fun e => y7 (wdB_t.mp e))]
  intro y7 mT7 hT7
  simp only [sl_i, b240_0, b240_1, bn_0 b240_0, bn_1 b240_1, q240_200, b240_0, b240_1, bn_0 b240_0, bn_1 b240_1, q240_205, q240_206, q240_209, q240_210, q240_211, q240_212, q240_215, q240_217, q240_218, q240_219, q240_220, mc_o, mg_goesMany, ma_goesMany, mb_goesMany, mn_goesMany, mg_goes, ma_goes, mb_goes, mn_goes, wx_some, wx_ref, nl_6, pk_mul]
  rw [if_pos (by decide)]
  simp only [b240_0, b240_1, bn_0 b240_0, bn_1 b240_1, q240_222, mc_o]
  apply tm_num_goes (mQ := mQ4) (xs := mQ4.2.2.2.2.2.2.2.2.2.2.1) (fr := 6 * (7 + k_nW o.1)) (many := 6) (mx := 2) hT7 (by omega) (by omega) (by omega) (by omega)
  · intro c mT8 ys a1 a2 a3 hT8 a4 a5 a6
    have a1 : l_nm tp 2 (k + 7) 6 0 = (0, c) := a1
    have hgs : ((mQ4.2.2.2.2.2.2.2.2.2.1).set (7 + k_nW o.1) (nI c))[7 + k_nW o.1]? = some (nI c) := List.getElem?_set_self (by omega)
    have g9' : aG (mQ4.1) 9 = some (nI (k_nW o.1)) := aG_n hs4.1.2.2.2.1 (by omega)
    simp only [sl_i, b240_0, b240_1, bn_0 b240_0, bn_1 b240_1, q240_225, q240_226, q240_227, q240_230, q240_231, q240_232, b240_0, b240_1, bn_0 b240_0, bn_1 b240_1, q240_237, q240_238, q240_241, q240_242, q240_243, q240_246, q240_247, q240_248, q240_251, q240_253, q240_254, q240_255, q240_256, q240_257, q240_258, mc_o, mg_square, ma_square, mb_square, mn_square, mg_goesMany, ma_goesMany, mb_goesMany, mn_goesMany, mg_walkerName, ma_walkerName, mb_walkerName, mn_walkerName, mg_fresh, mf_fresh, wx_some, wx_ref, g9', nI_1, aS_n (show 7 + k_nW o.1 < (mQ4.2.2.2.2.2.2.2.2.2.1).length by omega) (show (mQ4.2.2.2.2.2.2.2.2.2.1).length < 2 ^ 31 by omega), aG_n hgs (show ((mQ4.2.2.2.2.2.2.2.2.2.1).set (7 + k_nW o.1) (nI c)).length < 2 ^ 31 by rw [List.length_set]; omega), aS_n (show 7 + k_nW o.1 < (mQ4.2.2.2.1).length by omega) (show (mQ4.2.2.2.1).length < 2 ^ 31 by omega), show ∀ (x : Int32) (f : List Int32 → mm_H), aS (mQ4.1) 9 x f = some (f ((mQ4.1).set 9 x)) from fun x f => aS_n (j := 9) (by omega) (by omega)]
    rw [if_pos (by rw [nl_0, nI_leI (by omega) (by omega)]; omega)]
    simp only [b240_0, b240_1, bn_0 b240_0, bn_1 b240_1, q240_259, mc_o]
    have hr : l_walk tp k o = (0, k + 7 + c, addW o (LT tp (k + 1)) kd co (VL tp (k + 5)) c (fun t => VL tp (k + 7 + t))) := by
      unfold l_walk; rw [if_neg e6, if_pos y2, ek]; simp only []; rw [hcn, if_pos rfl, if_pos (wdB_t.mpr y4), if_pos y5, if_pos y6.2, if_pos (wdB_t.mpr y7), a1, if_pos rfl]
    have hO : OKm tp (k + 7 + c) (addW o (LT tp (k + 1)) kd co (VL tp (k + 5)) c (fun t => VL tp (k + 7 + t))) a (mV.1, nI (VL tp (k + 1 + 1 + 1 + 1 + 1)), w_m (LT tp (k + 1)), mV.2.2.2) mT8 ((mQ4.1).set 9 (nI (k_nW o.1 + 1)), mQ4.2.1, mQ4.2.2.1, (mQ4.2.2.2.1).set (7 + k_nW o.1) (w_m (LT tp (k + 1))), mQ4.2.2.2.2.1, mQ4.2.2.2.2.2.1, mQ4.2.2.2.2.2.2.1, mQ4.2.2.2.2.2.2.2.1, mQ4.2.2.2.2.2.2.2.2.1, (mQ4.2.2.2.2.2.2.2.2.2.1).set (7 + k_nW o.1) (nI c), ys, mQ4.2.2.2.2.2.2.2.2.2.2.2.1, mQ4.2.2.2.2.2.2.2.2.2.2.2.2.1, mQ4.2.2.2.2.2.2.2.2.2.2.2.2.2.1, mQ4.2.2.2.2.2.2.2.2.2.2.2.2.2.2) := by
      refine ⟨hT8, ⟨⟨by show (List.set _ _ _).length = 12; rw [List.length_set]; exact u1, u2, u3, by show (List.set _ _ _).length = 14; rw [List.length_set]; exact u4, u5, u6, u7, u8, u9, by show (List.set _ _ _).length = 14; rw [List.length_set]; exact u10, a4.trans u11, u12⟩, ⟨⟨(List.getElem?_set_ne (by omega)).trans hs4.1.1, (List.getElem?_set_ne (by omega)).trans hs4.1.2.1, (List.getElem?_set_ne (by omega)).trans hs4.1.2.2.1, List.getElem?_set_self (by omega), (List.getElem?_set_ne (by omega)).trans hs4.1.2.2.2.2⟩, hs4.2.1, hs4.2.2.1, fun w hw => ?_, hs4.2.2.2.2⟩, ⟨fun i hi => ?_, fun i hi => ?_, fun i hi => ?_⟩, (List.getElem?_set_ne (by omega)).trans hy4, hL4⟩, ok_addW hP (by omega) (isNm_wf y1) hkd hco (show VL tp (k + 5) < 10 from Nat.lt_succ_of_le y6.2) ⟨a3, a2⟩ (fun i hi => (a5 i hi).1), ⟨fun i hi => (List.getElem?_set_ne (by omega)).trans (hR4.1 i hi), hR4.2.1, hR4.2.2.1, fun i hi => (List.getElem?_set_ne (by omega)).trans (hR4.2.2.2.1 i hi), hR4.2.2.2.2.1, hR4.2.2.2.2.2.1, hR4.2.2.2.2.2.2.1, hR4.2.2.2.2.2.2.2.1, hR4.2.2.2.2.2.2.2.2.1, fun i hi => (List.getElem?_set_ne (by omega)).trans (hR4.2.2.2.2.2.2.2.2.2.1 i hi), fun i hi => (a6 i (by omega)).trans (hR4.2.2.2.2.2.2.2.2.2.2.1 i hi), hR4.2.2.2.2.2.2.2.2.2.2.2⟩, hc⟩
      · show (mQ4.2.2.2.2.2.2.1)[7 + w]? = some (nI (up (k_kd o.1) (k_nW o.1) kd w)) ∧ (mQ4.2.2.2.2.2.2.2.1)[7 + w]? = some (nI (up (k_wc o.1) (k_nW o.1) co w)) ∧ (mQ4.2.2.2.2.2.2.2.2.1)[7 + w]? = some (nI (up (k_st o.1) (k_nW o.1) (VL tp (k + 5)) w)) ∧ ((mQ4.2.2.2.2.2.2.2.2.2.1).set (7 + k_nW o.1) (nI c))[7 + w]? = some (nI (up (k_sc o.1) (k_nW o.1) c w)) ∧ ∀ i, i < up (k_sc o.1) (k_nW o.1) c w → ys[42 + 6 * w + i]? = some (nI (if w = k_nW o.1 then VL tp (k + 7 + i) else k_sr o.1 w i))
        by_cases e : w = k_nW o.1
        · subst e
          rw [up_eq, up_eq, up_eq, up_eq]
          refine ⟨hk4, hco4, hA4, hgs, fun i hi => ?_⟩
          rw [if_pos rfl, show 42 + 6 * k_nW o.1 + i = 6 * (7 + k_nW o.1) + i by omega]
          exact (a5 i hi).2
        · have hw' : w < k_nW o.1 := by have : w < k_nW o.1 + 1 := hw; omega
          have hsc := (ho.2.2.2.1 w hw').2.2.2.1.2
          obtain ⟨c1, c2, c3, c4, c5⟩ := hs4.2.2.2.1 w hw'
          rw [up_ne e, up_ne e, up_ne e, up_ne e]
          refine ⟨c1, c2, c3, (List.getElem?_set_ne (by omega)).trans c4, fun i hi => ?_⟩
          rw [if_neg e, a6 _ (by omega)]; exact c5 i hi
      · show _ = some (w_m (nmU o.2.1 2 (k_nW o.1) (LT tp (k + 1)) 0 i))
        rw [nmU_c (by omega)]; exact hN4.1 i hi
      · show _ = some (w_m (nmU o.2.1 2 (k_nW o.1) (LT tp (k + 1)) 1 i))
        rw [nmU_c (by omega)]; exact hN4.2.1 i hi
      · show ((mQ4.2.2.2.1).set (7 + k_nW o.1) (w_m (LT tp (k + 1))))[7 + i]? = some (w_m (nmU o.2.1 2 (k_nW o.1) (LT tp (k + 1)) 2 i))
        by_cases e : i = k_nW o.1
        · subst e; rw [nmU_eq, List.getElem?_set_self (by omega)]
        · rw [nmU_i e, List.getElem?_set_ne (by omega)]; exact hN4.2.2 i (by have : i < k_nW o.1 + 1 := hi; omega)
    apply tm_clo hr hO
    · intro mT' b1 b2
      simp only [sl_i, b240_0, b240_1, bn_0 b240_0, bn_1 b240_1, q240_262]
      exact hq1 _ _ _ mT' _ b1 b2
    · intro mT' f b1 b2
      simp only [sl_i, b240_0, b240_1, bn_0 b240_0, bn_1 b240_1, q240_262]
      exact hq0 f _ mT' _ b1 b2
  · intro f mT8 ys a1 a2 a3 a4 a5 a6
    have a1 : (l_nm tp 2 (k + 7) 6 0).1 = f := a1
    obtain ⟨k2, a3⟩ := a3
    have hgs : ((mQ4.2.2.2.2.2.2.2.2.2.1).set (7 + k_nW o.1) (-1))[7 + k_nW o.1]? = some (-1) := List.getElem?_set_self (by omega)
    simp only [sl_i, b240_0, b240_1, bn_0 b240_0, bn_1 b240_1, q240_225, q240_226, q240_227, q240_230, q240_231, q240_232, q240_235, q240_236, mc_o, mg_goesMany, ma_goesMany, mb_goesMany, mn_goesMany, wx_some, wx_ref, aS_n (show 7 + k_nW o.1 < (mQ4.2.2.2.2.2.2.2.2.2.1).length by omega) (show (mQ4.2.2.2.2.2.2.2.2.2.1).length < 2 ^ 31 by omega), aG_n hgs (show ((mQ4.2.2.2.2.2.2.2.2.2.1).set (7 + k_nW o.1) (-1)).length < 2 ^ 31 by rw [List.length_set]; omega)]
    rw [if_neg (by decide)]
    refine hq0 f _ mT8 (mQ4.1, mQ4.2.1, mQ4.2.2.1, mQ4.2.2.2.1, mQ4.2.2.2.2.1, mQ4.2.2.2.2.2.1, mQ4.2.2.2.2.2.2.1, mQ4.2.2.2.2.2.2.2.1, mQ4.2.2.2.2.2.2.2.2.1, (mQ4.2.2.2.2.2.2.2.2.2.1).set (7 + k_nW o.1) (-1), ys, mQ4.2.2.2.2.2.2.2.2.2.2.2.1, mQ4.2.2.2.2.2.2.2.2.2.2.2.2.1, mQ4.2.2.2.2.2.2.2.2.2.2.2.2.2.1, mQ4.2.2.2.2.2.2.2.2.2.2.2.2.2.2) (sp_cl_bad ?_ a2) ⟨a2, a4, ⟨u1, u2, u3, u4, u5, u6, u7, u8, u9, by show (List.set _ _ _).length = 14; rw [List.length_set]; exact u10, a5.trans u11, u12⟩, ⟨hR4.1, hR4.2.1, hR4.2.2.1, hR4.2.2.2.1, hR4.2.2.2.2.1, hR4.2.2.2.2.2.1, hR4.2.2.2.2.2.2.1, hR4.2.2.2.2.2.2.2.1, hR4.2.2.2.2.2.2.2.2.1, fun i hi => (List.getElem?_set_ne (by omega)).trans (hR4.2.2.2.2.2.2.2.2.2.1 i hi), fun i hi => (a6 i (by omega)).trans (hR4.2.2.2.2.2.2.2.2.2.2.1 i hi), hR4.2.2.2.2.2.2.2.2.2.2.2⟩, k2, a3⟩
    unfold l_walk; rw [if_neg e6, if_pos y2, ek]; simp only []; rw [hcn, if_pos rfl, if_pos (wdB_t.mpr y4), if_pos y5, if_pos y6.2, if_pos (wdB_t.mpr y7), if_neg (by rw [a1]; exact a2)]; exact a1
end MLK
