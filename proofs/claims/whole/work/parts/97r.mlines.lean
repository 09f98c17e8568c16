/-! lines of a square, of the model -/
section MLI
variable {fx : List Value → mm_H → Option (List Value × mm_H)} {z : Nat} {X Y : Nat → mm_C} {mV : pm_V} {mT : pm_T} {mQ : pm_Q} {mO : pm_O} {mE : pm_E} {mB : pm_B} {mS : pm_S} {mR : pm_R} {mW : pm_W} {m_thrown : Int32} {m_given : Int32} {m_fresh : Int64} {m_code : Int32} {m_taped : Int32} {m_tape : List Int32} {m_size : Int32} {m_place : Int32} {m_begin : Int32} {m_token : Int32} {m_word : Int64} {m_told : Int32} {m_wrong : Int32} {m_square : List Int32} {m_sortName : List Int64} {m_colourName : List Int64} {m_walkerName : List Int64} {m_sortOf : List Int32} {m_rules : List Int32} {m_kind : List Int32} {m_colour : List Int32} {m_atTold : List Int32} {m_goesMany : List Int32} {m_goes : List Int32} {m_gusts : List Int32} {m_lineFrom : List Int32} {m_lineTo : List Int32} {m_codes : List Int32} {m_opened : List Int32} {m_compared : List Int32} {m_kept : List Int32} {m_keptBy : List Int32} {m_ahead : List Int32} {m_against : List Int32} {m_sum : List Int32} {m_sumBy : List Int32} {m_term : List Int32} {m_termBy : List Int32} {m_byNot : List Int32} {m_valueOf : List Int32} {m_lines : List Int32} {m_lineWhat : List Int32} {m_lineA : List Int32} {m_lineB : List Int32} {m_wishes : List Int32} {m_wishOf : List Int32} {m_seens : List Int32} {m_seenAt : List Int32} {m_seenIn : List Int32} {m_seenThere : List Int32} {m_s : List Int32} {m_aside : List Int32} {m_before : List Int32} {m_marked : List Int32} {m_undone : List Int32} {m_isLaid : List Int32} {m_done : Int32} {m_gustNow : Int32} {m_shown : List Int32} {m_shownMany : Int32} {m_from7 : List Int32} {m_long7 : List Int32} {m_sentences : Int32} {m_text7 : List Int32} {m_textMany : Int32} {m_waysOf : List Int32} {m_rowOf : List Int32} {m_row : List Int32} {m_bestRow : List Int32} {m_leastSteps : Int32} {m_steps10 : List Int32} {m_placeIn : List Int32} {m_g : Int64}
variable {d : Nat} {Q : Option Value → mm_H → Prop} {tp : List Nat} {k : Nat} {nm : NMs} {s : SQ} {o : PS} {a : pm_Q}
theorem OKm_bad {j f : Nat} (h : OKm tp j o a mV mT mQ) (hf : ¬ f = 0) (hT : TKm tp j mT) (hw : mT.2.2.2.2.2.2.2.2 = nI f) : BDm tp f a mT mQ := ⟨hf, hw, h.2.1.1, h.2.2.2.1, j, hT⟩
theorem tm_clo {r : PR} {j : Nat} (hr : r = (0, j, o)) (h : OKm tp j o a mV mT mQ) (hq1 : ∀ mT', sp_cl tp r = (0, j + 1, o) → OKm tp (j + 1) o a mV mT' mQ → Q (some (.int 1)) (pm_h z X Y (pm_l mV (mT') mQ mO mE mB mS mR mW))) (hq0 : ∀ mT' f, (sp_cl tp r).1 = f → BDm tp f a mT' mQ → Q (some (.int 0)) (pm_h z X Y (pm_l mV (mT') mQ mO mE mB mS mR mW))) : wm (mp_P fx) (d + 2) 232 [.ref 149] (pm_h z X Y (pm_l mV mT mQ mO mE mB mS mR mW)) Q := by
  unfold sp_cl at hq1 hq0
  rw [hr, if_pos rfl] at hq1 hq0
  apply tm_closes h.1
  · intro y mT' h1
    rw [if_pos (snB_t.mpr y)] at hq1
    exact hq1 mT' rfl ⟨h1, h.2⟩
  · intro y mT' h1 h2
    rw [if_neg (fun e => y (snB_t.mp e))] at hq0
    exact hq0 mT' _ rfl ⟨flt_ne (by omega), h2, h.2.1.1, h.2.2.2.1, j, h1⟩
theorem sp_cl_bad {r : PR} {f : Nat} (h : r.1 = f) (hf : ¬ f = 0) : (sp_cl tp r).1 = f := by
  unfold sp_cl; rw [if_neg (by rw [h]; exact hf)]; exact h
theorem tm_readsSort (h : OKm tp k o a mV mT mQ) (hq1 : ∀ j o' mV' mT' mQ', sp_cl tp (l_sort tp k o) = (0, j, o') → OKm tp j o' a mV' mT' mQ' → Q (some (.int 1)) (pm_h z X Y (pm_l (mV') (mT') (mQ') mO mE mB mS mR mW))) (hq0 : ∀ f mV' mT' mQ', (sp_cl tp (l_sort tp k o)).1 = f → BDm tp f a mT' mQ' → Q (some (.int 0)) (pm_h z X Y (pm_l (mV') (mT') (mQ') mO mE mB mS mR mW))) : wm (mp_P fx) (d + 3) 225 [.ref 149] (pm_h z X Y (pm_l mV mT mQ mO mE mB mS mR mW)) Q := by
  obtain ⟨hT, ⟨hl, hs, hN, hy, hL⟩, hP, hR, hc⟩ := id h
  obtain ⟨ho, hnm, -, -⟩ := id hP
  have h6 := ho.1.1
  obtain ⟨q1, q2, -⟩ := id hl
  have g6 : aG (mQ.1) 6 = some (nI (k_nS o.1)) := aG_n hs.1.1 (by omega)
  simp only [e225, b225_0, b225_1, bn_0 b225_0, bn_1 b225_1, q225_0, q225_2, q225_3, q225_6, q225_8, q225_9, q225_10r, q225_11, q225_12, q225_14, q225_17, q225_18, mc_o, mg_square, ma_square, mb_square, mn_square, wx_some, wx_ref, isl_i, isl_r, isl_n, g6, show (6 : Int32) + nI (k_nS o.1) = nI (6 + k_nS o.1) from nI_add 6 _]
  by_cases e6 : 6 ≤ k_nS o.1
  · have hb : (l_sort tp k o).1 = flt tp 5 k := by unfold l_sort; rw [if_pos e6]
    rw [if_neg (by rw [show k_nS o.1 = 6 by omega]; exact fun y => y rfl)]
    simp only [b225_0, b225_1, bn_0 b225_0, bn_1 b225_1, q225_19, mc_o]
    apply tm_fails (kd := 5) hT
    intro mT' h1 h2
    simp only [sl_i, b225_0, b225_1, bn_0 b225_0, bn_1 b225_1, q225_22]
    exact hq0 _ mV mT' mQ (sp_cl_bad hb (flt_ne (by omega))) ⟨flt_ne (by omega), h2, hl, hR, k, h1⟩
  rw [if_pos (by rw [show (12 : Int32) = nI 12 from rfl, nI_eq (by omega) (by omega)]; omega)]
  simp only [b225_0, b225_1, bn_0 b225_0, bn_1 b225_1, q225_23, q225_24, mc_o]
  apply tm_nx hT
  intro mT1 hT1 _
  simp only [sl_n, b225_0, b225_1, bn_0 b225_0, bn_1 b225_1, q225_27, q225_28, mc_o]
  apply tm_needsNew hT1 hl hs ho hN hnm
  rotate_left
  · intro mT' f a1 a2 a3 a4
    simp only [sl_i, b225_0, b225_1, bn_0 b225_0, bn_1 b225_1, q225_31, q225_34, q225_35]
    rw [if_neg (by decide)]
    refine hq0 f mV mT' mQ (sp_cl_bad ?_ a2) ⟨a2, a4, hl, hR, _, a3⟩
    unfold l_sort; rw [if_neg e6, if_neg (by rw [a1]; exact a2)]; exact a1
  intro y1 y2 mT2 hT2
  simp only [sl_i, b225_0, b225_1, bn_0 b225_0, bn_1 b225_1, q225_31, b225_0, b225_1, bn_0 b225_0, bn_1 b225_1, q225_36, q225_37, q225_40, q225_41, q225_42, q225_45, q225_46, q225_47, q225_50, q225_52, q225_53, q225_54, q225_55, q225_56, q225_57, mc_o, mg_square, ma_square, mb_square, mn_square, mg_sortName, ma_sortName, mb_sortName, mn_sortName, mg_fresh, mf_fresh, wx_some, wx_ref, g6, nI_1, aS_n (show 6 + k_nS o.1 < (mQ.2.1).length by omega) (show (mQ.2.1).length < 2 ^ 31 by omega), show ∀ (x : Int32) (f : List Int32 → mm_H), aS (mQ.1) 6 x f = some (f ((mQ.1).set 6 x)) from fun x f => aS_n (j := 6) (by omega) (by omega)]
  rw [if_pos (by decide)]
  simp only [b225_0, b225_1, bn_0 b225_0, bn_1 b225_1, q225_58, mc_o]
  have hr : l_sort tp k o = (0, k + 2, addS o (LT tp (k + 1))) := by unfold l_sort; rw [if_neg e6, if_pos y2]
  have hO : OKm tp (k + 2) (addS o (LT tp (k + 1))) a (mV.1, mV.2.1, w_m (LT tp (k + 1)), mV.2.2.2) mT2 ((mQ.1).set 6 (nI (k_nS o.1 + 1)), (mQ.2.1).set (6 + k_nS o.1) (w_m (LT tp (k + 1))), mQ.2.2.1, mQ.2.2.2.1, mQ.2.2.2.2.1, mQ.2.2.2.2.2.1, mQ.2.2.2.2.2.2.1, mQ.2.2.2.2.2.2.2.1, mQ.2.2.2.2.2.2.2.2.1, mQ.2.2.2.2.2.2.2.2.2.1, mQ.2.2.2.2.2.2.2.2.2.2.1, mQ.2.2.2.2.2.2.2.2.2.2.2.1, mQ.2.2.2.2.2.2.2.2.2.2.2.2.1, mQ.2.2.2.2.2.2.2.2.2.2.2.2.2.1, mQ.2.2.2.2.2.2.2.2.2.2.2.2.2.2) := by
    refine ⟨hT2, ⟨⟨by show (List.set _ _ _).length = 12; rw [List.length_set]; exact q1, by show (List.set _ _ _).length = 12; rw [List.length_set]; exact q2, hl.2.2⟩, ⟨⟨List.getElem?_set_self (by omega), (List.getElem?_set_ne (by omega)).trans hs.1.2.1, (List.getElem?_set_ne (by omega)).trans hs.1.2.2.1, (List.getElem?_set_ne (by omega)).trans hs.1.2.2.2.1, (List.getElem?_set_ne (by omega)).trans hs.1.2.2.2.2⟩, hs.2⟩, ⟨fun i hi => ?_, fun i hi => ?_, fun i hi => ?_⟩, (List.getElem?_set_ne (by omega)).trans hy, hL⟩, ok_addS hP (by omega) (isNm_wf y1), ⟨fun i hi => (List.getElem?_set_ne (by omega)).trans (hR.1 i hi), fun i hi => (List.getElem?_set_ne (by omega)).trans (hR.2.1 i hi), hR.2.2⟩, hc⟩
    · show ((mQ.2.1).set (6 + k_nS o.1) (w_m (LT tp (k + 1))))[6 + i]? = some (w_m (nmU o.2.1 0 (k_nS o.1) (LT tp (k + 1)) 0 i))
      by_cases e : i = k_nS o.1
      · subst e; rw [nmU_eq, List.getElem?_set_self (by omega)]
      · rw [nmU_i e, List.getElem?_set_ne (by omega)]; exact hN.1 i (by have : i < k_nS o.1 + 1 := hi; omega)
    · show _ = some (w_m (nmU o.2.1 0 (k_nS o.1) (LT tp (k + 1)) 1 i))
      rw [nmU_c (by omega)]; exact hN.2.1 i hi
    · show _ = some (w_m (nmU o.2.1 0 (k_nS o.1) (LT tp (k + 1)) 2 i))
      rw [nmU_c (by omega)]; exact hN.2.2 i hi
  apply tm_clo hr hO
  · intro mT' b1 b2
    simp only [sl_i, b225_0, b225_1, bn_0 b225_0, bn_1 b225_1, q225_61]
    exact hq1 _ _ _ mT' _ b1 b2
  · intro mT' f b1 b2
    simp only [sl_i, b225_0, b225_1, bn_0 b225_0, bn_1 b225_1, q225_61]
    exact hq0 f _ mT' _ b1 b2
theorem tm_readsSays (h : OKm tp k o a mV mT mQ) (hq1 : ∀ j o' mV' mT' mQ', sp_cl tp (l_says tp k o) = (0, j, o') → OKm tp j o' a mV' mT' mQ' → Q (some (.int 1)) (pm_h z X Y (pm_l (mV') (mT') (mQ') mO mE mB mS mR mW))) (hq0 : ∀ f mV' mT' mQ', (sp_cl tp (l_says tp k o)).1 = f → BDm tp f a mT' mQ' → Q (some (.int 0)) (pm_h z X Y (pm_l (mV') (mT') (mQ') mO mE mB mS mR mW))) : wm (mp_P fx) (d + 3) 239 [.ref 149] (pm_h z X Y (pm_l mV mT mQ mO mE mB mS mR mW)) Q := by
  obtain ⟨hT, ⟨hl, hs, hN, hy, hL⟩, hP, hR, hc⟩ := id h
  obtain ⟨ho, hnm, -, hsl⟩ := id hP
  have h6 := ho.1.1
  obtain ⟨q1, q2, -⟩ := id hl
  have g10 : aG (mQ.1) 10 = some (io o.2.2.1) := aG_n hy (by omega)
  simp only [e239, b239_0, b239_1, bn_0 b239_0, bn_1 b239_1, q239_0, q239_1, q239_4, q239_6, q239_7, q239_10, q239_11, mc_o, mg_square, ma_square, mb_square, mn_square, wx_some, wx_ref, isl_i, isl_r, isl_n, g10]
  cases e6 : o.2.2.1 with
  | some v =>
    have hv := hsl v e6
    have hb : (l_says tp k o).1 = flt tp 3 k := by unfold l_says; rw [e6, if_pos (show (some v).isSome = true from rfl)]
    rw [if_neg (Int32.not_lt.mpr (io_ge (by omega)))]
    simp only [b239_0, b239_1, bn_0 b239_0, bn_1 b239_1, q239_12, mc_o]
    apply tm_fails (kd := 3) hT
    intro mT' h1 h2
    simp only [sl_i, b239_0, b239_1, bn_0 b239_0, bn_1 b239_1, q239_15]
    exact hq0 _ mV mT' mQ (sp_cl_bad hb (flt_ne (by omega))) ⟨flt_ne (by omega), h2, hl, hR, k, h1⟩
  | none =>
  rw [if_pos (by decide)]
  simp only [b239_0, b239_1, bn_0 b239_0, bn_1 b239_1, q239_16, q239_17, mc_o]
  apply tm_nx hT
  intro mT1 hT1 _
  simp only [sl_n, b239_0, b239_1, bn_0 b239_0, bn_1 b239_1, q239_20, q239_21, mc_o]
  apply tm_passesSort hT1 hl hs ho hN hnm
  rotate_left
  · intro mT' g f a1 a2 a3 a4
    simp only [sl_i, b239_0, b239_1, bn_0 b239_0, bn_1 b239_1, q239_24, q239_27, q239_28]
    rw [if_neg (by decide)]
    refine hq0 f _ mT' mQ (sp_cl_bad ?_ a2) ⟨a2, a4, hl, hR, _, a3⟩
    unfold l_says; rw [e6, if_neg (fun y => by cases y), if_neg (by rw [a1]; exact a2)]; exact a1
  intro y1 v mT2 y2 hv hT2
  simp only [sl_i, b239_0, b239_1, bn_0 b239_0, bn_1 b239_1, q239_24, b239_0, b239_1, bn_0 b239_0, bn_1 b239_1, q239_29, q239_30, q239_33, q239_35, q239_36, q239_39, q239_40, mc_o, mg_square, ma_square, mb_square, mn_square, mg_given, mf_given, wx_some, wx_ref, show ∀ (x : Int32) (f : List Int32 → mm_H), aS (mQ.1) 10 x f = some (f ((mQ.1).set 10 x)) from fun x f => aS_n (j := 10) (by omega) (by omega)]
  rw [if_pos (by decide)]
  simp only [b239_0, b239_1, bn_0 b239_0, bn_1 b239_1, q239_41, mc_o]
  have hr : l_says tp k o = (0, k + 2, setY o v) := by unfold l_says; rw [e6, if_neg (fun y => by cases y), y2, if_pos rfl]
  have hO : OKm tp (k + 2) (setY o v) a (mV.1, nI v, mV.2.2.1, mV.2.2.2) mT2 ((mQ.1).set 10 (nI v), mQ.2.1, mQ.2.2.1, mQ.2.2.2.1, mQ.2.2.2.2.1, mQ.2.2.2.2.2.1, mQ.2.2.2.2.2.2.1, mQ.2.2.2.2.2.2.2.1, mQ.2.2.2.2.2.2.2.2.1, mQ.2.2.2.2.2.2.2.2.2.1, mQ.2.2.2.2.2.2.2.2.2.2.1, mQ.2.2.2.2.2.2.2.2.2.2.2.1, mQ.2.2.2.2.2.2.2.2.2.2.2.2.1, mQ.2.2.2.2.2.2.2.2.2.2.2.2.2.1, mQ.2.2.2.2.2.2.2.2.2.2.2.2.2.2) :=
    ⟨hT2, ⟨⟨by show (List.set _ _ _).length = 12; rw [List.length_set]; exact q1, hl.2⟩, ⟨⟨(List.getElem?_set_ne (by omega)).trans hs.1.1, (List.getElem?_set_ne (by omega)).trans hs.1.2.1, (List.getElem?_set_ne (by omega)).trans hs.1.2.2.1, (List.getElem?_set_ne (by omega)).trans hs.1.2.2.2.1, (List.getElem?_set_ne (by omega)).trans hs.1.2.2.2.2⟩, hs.2⟩, hN, List.getElem?_set_self (by omega), hL⟩, ok_setY hP hv, ⟨fun i hi => (List.getElem?_set_ne (by omega)).trans (hR.1 i hi), hR.2⟩, hc⟩
  apply tm_clo hr hO
  · intro mT' b1 b2
    simp only [sl_i, b239_0, b239_1, bn_0 b239_0, bn_1 b239_1, q239_44]
    exact hq1 _ _ _ mT' _ b1 b2
  · intro mT' f b1 b2
    simp only [sl_i, b239_0, b239_1, bn_0 b239_0, bn_1 b239_1, q239_44]
    exact hq0 f _ mT' _ b1 b2
theorem tm_readsColour (h : OKm tp k o a mV mT mQ) (hq1 : ∀ j o' mV' mT' mQ', sp_cl tp (l_col tp k o) = (0, j, o') → OKm tp j o' a mV' mT' mQ' → Q (some (.int 1)) (pm_h z X Y (pm_l (mV') (mT') (mQ') mO mE mB mS mR mW))) (hq0 : ∀ f mV' mT' mQ', (sp_cl tp (l_col tp k o)).1 = f → BDm tp f a mT' mQ' → Q (some (.int 0)) (pm_h z X Y (pm_l (mV') (mT') (mQ') mO mE mB mS mR mW))) : wm (mp_P fx) (d + 3) 234 [.ref 149] (pm_h z X Y (pm_l mV mT mQ mO mE mB mS mR mW)) Q := by
  obtain ⟨hT, ⟨hl, hs, hN, hy, hL⟩, hP, hR, hc⟩ := id h
  obtain ⟨ho, hnm, -, -⟩ := id hP
  have h6 := ho.1.2.1
  have h61 := ho.1.1
  obtain ⟨q1, q2, q3, q4, q5, -⟩ := id hl
  have g7 : aG (mQ.1) 7 = some (nI (k_nC o.1)) := aG_n hs.1.2.1 (by omega)
  simp only [e234, b234_0, b234_1, bn_0 b234_0, bn_1 b234_1, q234_0, q234_2, q234_3, q234_6, q234_8, q234_9, q234_10r, q234_11, q234_12, q234_14, q234_17, q234_18, mc_o, mg_square, ma_square, mb_square, mn_square, wx_some, wx_ref, isl_i, isl_r, isl_n, g7, show (6 : Int32) + nI (k_nC o.1) = nI (6 + k_nC o.1) from nI_add 6 _]
  by_cases e6 : 6 ≤ k_nC o.1
  · have hb : (l_col tp k o).1 = flt tp 5 k := by unfold l_col; rw [if_pos e6]
    rw [if_neg (by rw [show k_nC o.1 = 6 by omega]; exact fun y => y rfl)]
    simp only [b234_0, b234_1, bn_0 b234_0, bn_1 b234_1, q234_19, mc_o]
    apply tm_fails (kd := 5) hT
    intro mT' h1 h2
    simp only [sl_i, b234_0, b234_1, bn_0 b234_0, bn_1 b234_1, q234_22]
    exact hq0 _ mV mT' mQ (sp_cl_bad hb (flt_ne (by omega))) ⟨flt_ne (by omega), h2, hl, hR, k, h1⟩
  rw [if_pos (by rw [show (12 : Int32) = nI 12 from rfl, nI_eq (by omega) (by omega)]; omega)]
  simp only [b234_0, b234_1, bn_0 b234_0, bn_1 b234_1, q234_23, q234_24, mc_o]
  apply tm_nx hT
  intro mT1 hT1 _
  simp only [sl_n, b234_0, b234_1, bn_0 b234_0, bn_1 b234_1, q234_27, q234_28, mc_o]
  apply tm_needsNew hT1 hl hs ho hN hnm
  rotate_left
  · intro mT' f a1 a2 a3 a4
    simp only [sl_i, b234_0, b234_1, bn_0 b234_0, bn_1 b234_1, q234_31, b234_0, b234_1, bn_0 b234_0, bn_1 b234_1, q234_51, q234_52]
    rw [if_pos (by decide)]
    refine hq0 f mV mT' mQ (sp_cl_bad ?_ a2) ⟨a2, a4, hl, hR, _, a3⟩
    unfold l_col; rw [if_neg e6, if_neg (by rw [a1]; exact a2)]; exact a1
  intro y1 y2 mT2 hT2
  simp only [sl_i, b234_0, b234_1, bn_0 b234_0, bn_1 b234_1, q234_31, q234_34, q234_35]
  rw [if_neg (by decide)]
  simp only [b234_0, b234_1, bn_0 b234_0, bn_1 b234_1, q234_38, mc_o]
  apply tm_needsWord (w := 2) (by omega) (by decide) hT2
  rotate_left
  · intro y3 mT3 hT3 h3
    simp only [sl_i, b234_0, b234_1, bn_0 b234_0, bn_1 b234_1, q234_41, b234_0, b234_1, bn_0 b234_0, bn_1 b234_1, q234_51, q234_52]
    rw [if_pos (by decide)]
    refine hq0 _ _ mT3 mQ (sp_cl_bad ?_ (flt_ne (by omega))) ⟨flt_ne (by omega), h3, hl, hR, _, hT3⟩
    unfold l_col; rw [if_neg e6, if_pos y2, if_neg (fun e => y3 (wdB_t.mp e))]
  intro y3 mT3 hT3
  simp only [sl_i, b234_0, b234_1, bn_0 b234_0, bn_1 b234_1, q234_41, q234_44, q234_45, mc_o]
  rw [if_neg (by decide)]
  apply tm_passesSort hT3 hl hs ho hN hnm
  rotate_left
  · intro mT' g f a1 a2 a3 a4
    simp only [sl_i, b234_0, b234_1, bn_0 b234_0, bn_1 b234_1, q234_48, q234_51, q234_52]
    rw [if_neg (by decide)]
    refine hq0 f _ mT' mQ (sp_cl_bad ?_ a2) ⟨a2, a4, hl, hR, _, a3⟩
    unfold l_col; rw [if_neg e6, if_pos y2, if_pos (wdB_t.mpr y3), if_neg (by rw [a1]; exact a2)]; exact a1
  intro y4 v mT4 y5 hv hT4
  simp only [sl_i, b234_0, b234_1, bn_0 b234_0, bn_1 b234_1, q234_48, b234_0, b234_1, bn_0 b234_0, bn_1 b234_1, q234_53, q234_54, q234_57, q234_58, q234_59, q234_62, q234_63, q234_64, q234_67, q234_68, q234_69, q234_72, q234_73, q234_74, q234_77, q234_79, q234_80, q234_81, q234_82, q234_83, q234_84, mc_o, mg_square, ma_square, mb_square, mn_square, mg_colourName, ma_colourName, mb_colourName, mn_colourName, mg_sortOf, ma_sortOf, mb_sortOf, mn_sortOf, mg_fresh, mf_fresh, mg_given, mf_given, wx_some, wx_ref, g7, nI_1, aS_n (show 6 + k_nC o.1 < (mQ.2.2.1).length by omega) (show (mQ.2.2.1).length < 2 ^ 31 by omega), aS_n (show 6 + k_nC o.1 < (mQ.2.2.2.2.1).length by omega) (show (mQ.2.2.2.2.1).length < 2 ^ 31 by omega), show ∀ (x : Int32) (f : List Int32 → mm_H), aS (mQ.1) 7 x f = some (f ((mQ.1).set 7 x)) from fun x f => aS_n (j := 7) (by omega) (by omega)]
  rw [if_pos (by decide)]
  simp only [b234_0, b234_1, bn_0 b234_0, bn_1 b234_1, q234_85, mc_o]
  have hr : l_col tp k o = (0, k + 4, addC o (LT tp (k + 1)) v) := by unfold l_col; rw [if_neg e6, if_pos y2, if_pos (wdB_t.mpr y3), y5, if_pos rfl]
  have hO : OKm tp (k + 4) (addC o (LT tp (k + 1)) v) a (mV.1, nI v, w_m (LT tp (k + 1)), mV.2.2.2) mT4 ((mQ.1).set 7 (nI (k_nC o.1 + 1)), mQ.2.1, (mQ.2.2.1).set (6 + k_nC o.1) (w_m (LT tp (k + 1))), mQ.2.2.2.1, (mQ.2.2.2.2.1).set (6 + k_nC o.1) (nI v), mQ.2.2.2.2.2.1, mQ.2.2.2.2.2.2.1, mQ.2.2.2.2.2.2.2.1, mQ.2.2.2.2.2.2.2.2.1, mQ.2.2.2.2.2.2.2.2.2.1, mQ.2.2.2.2.2.2.2.2.2.2.1, mQ.2.2.2.2.2.2.2.2.2.2.2.1, mQ.2.2.2.2.2.2.2.2.2.2.2.2.1, mQ.2.2.2.2.2.2.2.2.2.2.2.2.2.1, mQ.2.2.2.2.2.2.2.2.2.2.2.2.2.2) := by
    refine ⟨hT4, ⟨⟨by show (List.set _ _ _).length = 12; rw [List.length_set]; exact q1, q2, by show (List.set _ _ _).length = 12; rw [List.length_set]; exact q3, q4, by show (List.set _ _ _).length = 12; rw [List.length_set]; exact q5, hl.2.2.2.2.2⟩, ⟨⟨(List.getElem?_set_ne (by omega)).trans hs.1.1, List.getElem?_set_self (by omega), (List.getElem?_set_ne (by omega)).trans hs.1.2.2.1, (List.getElem?_set_ne (by omega)).trans hs.1.2.2.2.1, (List.getElem?_set_ne (by omega)).trans hs.1.2.2.2.2⟩, fun i hi => ?_, hs.2.2⟩, ⟨fun i hi => ?_, fun i hi => ?_, fun i hi => ?_⟩, (List.getElem?_set_ne (by omega)).trans hy, hL⟩, ok_addC hP (by omega) (isNm_wf y1) hv, ⟨fun i hi => (List.getElem?_set_ne (by omega)).trans (hR.1 i hi), hR.2.1, fun i hi => (List.getElem?_set_ne (by omega)).trans (hR.2.2.1 i hi), hR.2.2.2.1, fun i hi => (List.getElem?_set_ne (by omega)).trans (hR.2.2.2.2.1 i hi), hR.2.2.2.2.2⟩, hc⟩
    · show ((mQ.2.2.2.2.1).set (6 + k_nC o.1) (nI v))[6 + i]? = some (nI (up (k_cs o.1) (k_nC o.1) v i))
      by_cases e : i = k_nC o.1
      · subst e; rw [up_eq, List.getElem?_set_self (by omega)]
      · rw [up_ne e, List.getElem?_set_ne (by omega)]; exact hs.2.1 i (by have : i < k_nC o.1 + 1 := hi; omega)
    · show _ = some (w_m (nmU o.2.1 1 (k_nC o.1) (LT tp (k + 1)) 0 i))
      rw [nmU_c (by omega)]; exact hN.1 i hi
    · show ((mQ.2.2.1).set (6 + k_nC o.1) (w_m (LT tp (k + 1))))[6 + i]? = some (w_m (nmU o.2.1 1 (k_nC o.1) (LT tp (k + 1)) 1 i))
      by_cases e : i = k_nC o.1
      · subst e; rw [nmU_eq, List.getElem?_set_self (by omega)]
      · rw [nmU_i e, List.getElem?_set_ne (by omega)]; exact hN.2.1 i (by have : i < k_nC o.1 + 1 := hi; omega)
    · show _ = some (w_m (nmU o.2.1 1 (k_nC o.1) (LT tp (k + 1)) 2 i))
      rw [nmU_c (by omega)]; exact hN.2.2 i hi
  apply tm_clo hr hO
  · intro mT' b1 b2
    simp only [sl_i, b234_0, b234_1, bn_0 b234_0, bn_1 b234_1, q234_88]
    exact hq1 _ _ _ mT' _ b1 b2
  · intro mT' f b1 b2
    simp only [sl_i, b234_0, b234_1, bn_0 b234_0, bn_1 b234_1, q234_88]
    exact hq0 f _ mT' _ b1 b2
end MLI
