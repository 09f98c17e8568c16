/-! calls of the model that only read -/
section MG
variable {fx : List Value → mm_H → Option (List Value × mm_H)} {z : Nat} {X Y : Nat → mm_C} {mV : pm_V} {mT : pm_T} {mQ : pm_Q} {mO : pm_O} {mE : pm_E} {mB : pm_B} {mS : pm_S} {mR : pm_R} {mW : pm_W} {m_thrown : Int32} {m_given : Int32} {m_fresh : Int64} {m_code : Int32} {m_taped : Int32} {m_tape : List Int32} {m_size : Int32} {m_place : Int32} {m_begin : Int32} {m_token : Int32} {m_word : Int64} {m_told : Int32} {m_wrong : Int32} {m_square : List Int32} {m_sortName : List Int64} {m_colourName : List Int64} {m_walkerName : List Int64} {m_sortOf : List Int32} {m_rules : List Int32} {m_kind : List Int32} {m_colour : List Int32} {m_atTold : List Int32} {m_goesMany : List Int32} {m_goes : List Int32} {m_gusts : List Int32} {m_lineFrom : List Int32} {m_lineTo : List Int32} {m_codes : List Int32} {m_opened : List Int32} {m_compared : List Int32} {m_kept : List Int32} {m_keptBy : List Int32} {m_ahead : List Int32} {m_against : List Int32} {m_sum : List Int32} {m_sumBy : List Int32} {m_term : List Int32} {m_termBy : List Int32} {m_byNot : List Int32} {m_valueOf : List Int32} {m_lines : List Int32} {m_lineWhat : List Int32} {m_lineA : List Int32} {m_lineB : List Int32} {m_wishes : List Int32} {m_wishOf : List Int32} {m_seens : List Int32} {m_seenAt : List Int32} {m_seenIn : List Int32} {m_seenThere : List Int32} {m_s : List Int32} {m_aside : List Int32} {m_before : List Int32} {m_marked : List Int32} {m_undone : List Int32} {m_isLaid : List Int32} {m_done : Int32} {m_gustNow : Int32} {m_shown : List Int32} {m_shownMany : Int32} {m_from7 : List Int32} {m_long7 : List Int32} {m_sentences : Int32} {m_text7 : List Int32} {m_textMany : Int32} {m_waysOf : List Int32} {m_rowOf : List Int32} {m_row : List Int32} {m_bestRow : List Int32} {m_leastSteps : Int32} {m_steps10 : List Int32} {m_placeIn : List Int32} {m_g : Int64}
variable {d : Nat} {Q : Option Value → mm_H → Prop} {s : SQ} {c : SC} {nm : NMs}
def NMm (nm : NMs) (s : SQ) (mQ : pm_Q) : Prop := (∀ i, i < k_nS s → (mQ.2.1)[i]? = some (w_m (nm 0 i))) ∧ (∀ i, i < k_nC s → (mQ.2.2.1)[i]? = some (w_m (nm 1 i))) ∧ (∀ i, i < k_nW s → (mQ.2.2.2.1)[i]? = some (w_m (nm 2 i)))
/-- what the model's calls need of the square -/
def KM (nm : NMs) (s : SQ) (mQ : pm_Q) : Prop := SQm mQ s ∧ LWm mQ s ∧ k_ok s ∧ NMm nm s mQ
/-- and of its rows -/
def KE (mE : pm_E) (mR : pm_R) : Prop := ELl mE ∧ RLm mR
theorem tm_rd (hK : KM nm s mQ) (hE : KE mE mR) (hc : c_ok s c) (hS : SCm s mS.1 c) (hg : mS.2.2.2.2.2.2.2 = -1) (hq : ∀ mE' mR', KE mE' mR' → RDm (sp_now s c) (sp_now s c).length mR' → Q none (pm_h z X Y (pm_l mV mT mQ mO (mE') mB mS (mR') mW))) : wm (mp_P fx) (d + 4) 269 [.ref 149] (pm_h z X Y (pm_l mV mT mQ mO mE mB mS mR mW)) Q :=
  tm_looks hK.1 hK.2.1 hK.2.2.1 hc hS hE.1 (Or.inl ⟨hg, rfl⟩) hE.2 (fun mE' mR' h1 h2 _ _ => hq mE' mR' ⟨h1, h2.1⟩ h2)
theorem tm_sd (hK : KM nm s mQ) (hE : KE mE mR) (hc : c_ok s c) (hS : SCm s mS.1 c) (hg : mS.2.2.2.2.2.2.2 = -1) (hq : ∀ mE' mR', KE mE' mR' → Q (some (.int (nI (sp_said s (sp_now s c))))) (pm_h z X Y (pm_l mV mT mQ mO (mE') mB mS (mR') mW))) : wm (mp_P fx) (d + 5) 277 [.ref 149] (pm_h z X Y (pm_l mV mT mQ mO mE mB mS mR mW)) Q :=
  tm_said hK.1 hK.2.1 hK.2.2.1 hc hS hE.1 (Or.inl ⟨hg, rfl⟩) hE.2 (fun mE' mR' h1 h2 => hq mE' mR' ⟨h1, h2⟩)
theorem tm_saidC (hK : KM nm s mQ) (hE : KE mE mR) (hc : c_ok s c) (hS : SCm s mS.1 c) (hg : mS.2.2.2.2.2.2.2 = -1) (hq : ∀ mE' mR', KE mE' mR' → Q (some (.int (nI (sp_said s (sp_now s c))))) (pm_h z X Y (pm_l ((0, mV.2.1, mV.2.2.1, mV.2.2.2)) mT mQ mO (mE') mB mS (mR') mW))) : wm (mp_P fx) (d + 6) 288 [.ref 149] (pm_h z X Y (pm_l mV mT mQ mO mE mB mS mR mW)) Q := by
  simp only [e288, q288_0, q288_1, q288_2, q288_5, q288_6, q288_9, mc_o, mg_thrown, mf_thrown, wx_some]
  apply tm_sd hK hE hc hS hg
  intro mE' mR' h
  simp only [sl_i, e288, q288_0, q288_1, q288_2, q288_5, q288_6, q288_9]
  exact hq mE' mR' h
theorem tm_read {v : Int32} (hK : KM nm s mQ) (hE : KE mE mR) (hc : c_ok s c) (hS : SCm s mS.1 c) (hg : mS.2.2.2.2.2.2.2 = -1) (hq : ∀ mE' mR', KE mE' mR' → Q (some (.int (match sx (sp_now s c).length v with
    | none => -1
    | some k => nI ((sp_now s c).getD k 0)))) (pm_h z X Y (pm_l ((0, mV.2.1, mV.2.2.1, mV.2.2.2)) mT mQ mO (mE') mB mS (mR') mW))) : wm (mp_P fx) (d + 5) 268 [.ref 149, .int v] (pm_h z X Y (pm_l mV mT mQ mO mE mB mS mR mW)) Q := by
  have hW := hK.2.2.1.1.2.2.2.1
  have hLl : (sp_now s c).length ≤ _ := sp_list_len hc
  simp only [e268, q268_0, q268_1, q268_2, q268_5, q268_6, q268_9, q268_10, q268_13, q268_14, q268_15, q268_18, q268_21, q268_22, q268_25, q268_26, q268_27, q268_30, q268_31, mc_o, mg_thrown, mf_thrown, wx_some]
  apply tm_rd hK hE hc hS hg
  intro mE' mR' h hR
  have hqq := hq mE' mR' h
  obtain ⟨⟨r1, -⟩, b1, b2, -⟩ := id hR
  simp only [sl_n, e268, q268_0, q268_1, q268_2, q268_5, q268_6, q268_9, q268_10, q268_13, q268_14, q268_15, q268_18, q268_21, q268_22, q268_25, q268_26, q268_27, q268_30, q268_31, mc_o, mg_shown, ma_shown, mb_shown, mn_shown, mg_shownMany, mf_shownMany, wx_some, wx_ref, b1]
  rcases sx_c (sp_now s c).length v (by omega) with ⟨e, h1⟩ | ⟨k, hk, rfl, e⟩
  · rw [e] at hqq
    rcases h1 with h1 | ⟨h1, h2⟩
    · rw [if_pos h1]; exact hqq
    · rw [if_neg h1, if_pos h2]; exact hqq
  · rw [e] at hqq
    rw [if_neg (by rw [nl_0, nI_ltI (by omega) (by omega)]; omega), if_neg (by rw [nI_leI (by omega) (by omega)]; omega), ag_G b2 (by omega) hk, wx_some]
    exact hqq
theorem tm_colours (hK : KM nm s mQ) (hE : KE mE mR) (hc : c_ok s c) (hS : SCm s mS.1 c) (hg : mS.2.2.2.2.2.2.2 = -1) (hq : ∀ mE' mR', KE mE' mR' → Q (some (.int (nI (cbk (sp_now s c) (sp_now s c).length)))) (pm_h z X Y (pm_l ((0, mV.2.1, mV.2.2.1, mV.2.2.2)) mT mQ mO (mE') mB mS (mR') mW))) : wm (mp_P fx) (d + 5) 309 [.ref 149] (pm_h z X Y (pm_l mV mT mQ mO mE mB mS mR mW)) Q := by
  have hW := hK.2.2.1.1.2.2.2.1
  have hLl : (sp_now s c).length ≤ _ := sp_list_len hc
  simp only [e309, q309_0, q309_1, q309_2, q309_5, q309_6, q309_9, q309_10r, q309_11, q309_12i, q309_14, q309_15, q309_18, q309_21, q309_22, q309_23, q309_26, q309_27, q309_28, q309_30, q309_33, q309_34, q309_37, q309_38, q309_39, q309_42, q309_43, q309_44, q309_45, q309_46r, q309_47i, q309_50, q309_53, q309_54, mc_o, mg_thrown, mf_thrown, wx_some, isl_i, isl_r, isl_n]
  apply tm_rd hK hE hc hS hg
  intro mE' mR' h hR
  have hqq := hq mE' mR' h
  obtain ⟨⟨r1, -⟩, b1, b2, -⟩ := id hR
  have h6 : ∀ j, (sp_now s c).getD j 0 ≤ 6 := fun j => sp_list_le hK.2.2.1
  generalize sp_now s c = L at *
  simp only [sl_n, q309_9, q309_10r, q309_11, q309_12i, isl_i, isl_r, isl_n]
  have key : ∀ (m k : Nat), k + m = L.length → ww (mp_P fx) (d + 5) 309 13 [some (.ref 149), some (.int (nI (cbk L k))), some (.int (nI k))] [] (pm_h z X Y (pm_l ((0, mV.2.1, mV.2.2.1, mV.2.2.2)) mT mQ mO (mE') mB mS (mR') mW)) Q := by
    intro m
    induction m with
    | zero =>
      intro k hk
      rw [q309_13]
      simp only [q309_14, q309_15, q309_18, q309_21, q309_22, q309_23, q309_26, q309_27, q309_28, q309_30, q309_33, q309_34, q309_37, q309_38, q309_39, q309_42, q309_43, q309_44, q309_45, q309_46r, q309_47i, q309_50, q309_53, q309_54, mc_o, mg_shown, ma_shown, mb_shown, mn_shown, mg_shownMany, mf_shownMany, wx_some, wx_ref, b1]
      rw [if_pos (by rw [nI_leI (by omega) (by omega)]; omega)]
      rw [show k = L.length by omega]; exact hqq
    | succ m ih =>
      intro k hk
      have g1 := ag_G b2 (show (mR'.1).length < 2 ^ 31 by omega) (show k < L.length by omega)
      have h6k := h6 k
      have hgo := ih (k + 1) (by omega)
      rw [cbk] at hgo
      rw [q309_13]
      simp only [q309_14, q309_15, q309_18, q309_21, q309_22, q309_23, q309_26, q309_27, q309_28, q309_30, q309_33, q309_34, q309_37, q309_38, q309_39, q309_42, q309_43, q309_44, q309_45, q309_46r, q309_47i, q309_50, mc_o, mg_shown, ma_shown, mb_shown, mn_shown, mg_shownMany, mf_shownMany, wx_some, wx_ref, isl_i, isl_r, isl_n, b1, g1]
      rw [if_neg (by rw [nI_leI (by omega) (by omega)]; omega)]
      by_cases e : L.getD k 0 = 6
      · rw [if_pos e, Nat.or_zero] at hgo
        rw [if_neg (by rw [e]; exact fun z => z rfl), Int32.or_zero, nl_1, nI_add]
        exact hgo
      · rw [if_neg e] at hgo
        rw [if_pos (by rw [show (6 : Int32) = nI 6 from rfl, nI_eq (by omega) (by omega)]; exact e), k6_or _ (cbk_lt h6 k) _ (by omega), nl_1, nI_add]
        exact hgo
  exact key L.length 0 (by omega)
theorem tm_isSentence {v : Int32} (hK : KM nm s mQ) (hE : KE mE mR) (hc : c_ok s c) (hS : SCm s mS.1 c) (hg : mS.2.2.2.2.2.2.2 = -1)
    (hq0 : ∀ mE' mR', KE mE' mR' → sx (snk (sp_now s c) (sp_now s c).length).1 v = none → Q (some (.int 0)) (pm_h z X Y (pm_l mV mT mQ mO (mE') mB mS (mR') mW)))
    (hq1 : ∀ mE' mR' k, KE mE' mR' → sx (snk (sp_now s c) (sp_now s c).length).1 v = some k → TXm s (sp_text (sp_now s c) k) (sp_tlen (sp_now s c) k) mR' → 1 ≤ sp_tlen (sp_now s c) k → sp_tlen (sp_now s c) k ≤ 7 → 0 < k_nS s → (∀ j, j < sp_tlen (sp_now s c) k → sp_text (sp_now s c) k j < k_nC s) → Q (some (.int 1)) (pm_h z X Y (pm_l mV mT mQ mO (mE') mB mS (mR') mW))) : wm (mp_P fx) (d + 5) 290 [.ref 149, .int v] (pm_h z X Y (pm_l mV mT mQ mO mE mB mS mR mW)) Q := by
  have hW := hK.2.2.1.1.2.2.2.1
  have hLl : (sp_now s c).length ≤ _ := sp_list_len hc
  have hL : L_ok s (sp_now s c) := sp_list_ok hK.2.2.1 hc
  simp only [e290, b290_0, b290_1, bn_0 b290_0, bn_1 b290_1, q290_0, q290_1, q290_4, q290_5, q290_8, q290_9, q290_10, q290_13, q290_16, q290_17, q290_18, q290_19, q290_20, q290_23, q290_24, mc_o]
  apply tm_rd hK hE hc hS hg
  intro mE' mR' h hR
  have hq0 := hq0 mE' mR' h
  have hq1 := hq1 mE'
  generalize sp_now s c = L at *
  obtain ⟨k1, -, k3⟩ := snk_ok L L.length
  obtain ⟨-, b1, b2, b3, b4, b5⟩ := id hR
  simp only [sl_n, e290, b290_0, b290_1, bn_0 b290_0, bn_1 b290_1, q290_0, q290_1, q290_4, q290_5, q290_8, q290_9, q290_10, q290_13, q290_16, q290_17, q290_18, q290_19, q290_20, q290_23, q290_24, mc_o, mg_sentences, mf_sentences, wx_some, wx_ref, b3]
  rcases sx_c (snk L L.length).1 v (by omega) with ⟨e, h1⟩ | ⟨k, hk, rfl, e⟩
  · have hq0 := hq0 e
    rcases h1 with h1 | ⟨h1, h2⟩
    · rw [if_pos h1]; exact hq0
    · rw [if_neg h1, if_neg (Int32.not_lt.mpr h2)]; exact hq0
  · rw [if_neg (by rw [nl_0, nI_ltI (by omega) (by omega)]; omega), if_pos (by rw [nI_ltI (by omega) (by omega)]; omega)]
    apply tm_lays hK.1 hK.2.2.1 hR hL hk
    intro mR2 hR2 hT h1 h7 h0
    obtain ⟨a1, a2, a3⟩ := k3 k hk
    simp only [sl_n, b290_0, b290_1, bn_0 b290_0, bn_1 b290_1, q290_23, q290_24]
    exact hq1 mR2 k ⟨h.1, hR2.1⟩ e hT h1 h7 h0 (fun j hj => hL.2 _ (by unfold sp_tlen at hj; omega) (a3 _ (by omega) (by unfold sp_tlen at hj; omega)))
theorem tm_ways {v : Int32} (hK : KM nm s mQ) (hE : KE mE mR) (hc : c_ok s c) (hS : SCm s mS.1 c) (hg : mS.2.2.2.2.2.2.2 = -1) (hq : ∀ mE' mR', KE mE' mR' → Q (some (.int (match sx (snk (sp_now s c) (sp_now s c).length).1 v with
    | none => -1
    | some k => nI (sp_ways s (sp_now s c) k)))) (pm_h z X Y (pm_l ((0, mV.2.1, mV.2.2.1, mV.2.2.2)) mT mQ mO (mE') mB mS (mR') mW))) : wm (mp_P fx) (d + 6) 289 [.ref 149, .int v] (pm_h z X Y (pm_l mV mT mQ mO mE mB mS mR mW)) Q := by
  simp only [e289, q289_0, q289_1, q289_2, q289_5, q289_6, q289_7, q289_10, q289_13, q289_14, q289_17, q289_20, q289_21, mc_o, mg_thrown, mf_thrown, wx_some]
  apply tm_isSentence hK hE hc hS hg
  · intro mE' mR' h e
    have hqq := hq mE' mR' h
    rw [e] at hqq
    simp only [sl_i, e289, q289_0, q289_1, q289_2, q289_5, q289_6, q289_7, q289_10, q289_13, q289_14, q289_17, q289_20, q289_21]
    rw [if_pos (by decide)]; exact hqq
  · intro mE' mR' k h e hT h1 h7 h0 hcol
    have hqq := hq mE' mR' h
    rw [e] at hqq
    simp only [sl_i, e289, q289_0, q289_1, q289_2, q289_5, q289_6, q289_7, q289_10, q289_13, q289_14, q289_17, q289_20, q289_21, mc_o]
    rw [if_neg (by decide)]
    apply tm_whole hK.1 hK.2.2.1 h1 h7 h.2 hT.1 h0 (hT.2.2 0 _ (by omega) (by omega))
    simp only [sl_i, e289, q289_0, q289_1, q289_2, q289_5, q289_6, q289_7, q289_10, q289_13, q289_14, q289_17, q289_20, q289_21]
    exact hqq
theorem tm_sorts {v a b : Int32} (hK : KM nm s mQ) (hE : KE mE mR) (hc : c_ok s c) (hS : SCm s mS.1 c) (hg : mS.2.2.2.2.2.2.2 = -1) (hq : ∀ mE' mR', KE mE' mR' → Q (some (.int (match sx (snk (sp_now s c) (sp_now s c).length).1 v with
    | none => -1
    | some k => (match sp_part (sp_tlen (sp_now s c) k) a b with
      | none => -1
      | some (i, j) => nI (sp_bits s (sp_text (sp_now s c) k) i j))))) (pm_h z X Y (pm_l ((0, mV.2.1, mV.2.2.1, mV.2.2.2)) mT mQ mO (mE') mB mS (mR') mW))) : wm (mp_P fx) (d + 6) 291 [.ref 149, .int v, .int a, .int b] (pm_h z X Y (pm_l mV mT mQ mO mE mB mS mR mW)) Q := by
  simp only [e291, q291_0, q291_1, q291_2, q291_5, q291_6, q291_7, q291_10, q291_13, q291_14, q291_17, q291_18, q291_19, q291_22, q291_23, q291_24, q291_27, q291_30, q291_31, q291_32, q291_33i, q291_35, q291_36i, q291_40, q291_42, q291_45, q291_47, q291_48, q291_51, q291_53, q291_55, q291_56, q291_58, q291_59, q291_60, q291_61, q291_62, q291_63, q291_64, q291_67, q291_68, q291_70, q291_71, q291_74, q291_75, q291_76i, q291_78i, q291_81, q291_84, q291_86, mc_o, mg_thrown, mf_thrown, wx_some, isl_i, isl_r, isl_n]
  apply tm_isSentence hK hE hc hS hg
  · intro mE' mR' h e
    have hqq := hq mE' mR' h
    rw [e] at hqq
    simp only [sl_i, q291_10, q291_13, q291_14, q291_17, q291_18, q291_19, q291_22, q291_23, q291_24, q291_27, q291_30, q291_31]
    rw [if_pos (by decide)]; exact hqq
  · intro mE' mR' kk h e hT h1 h7 h0 hcol
    have hqq := hq mE' mR' h
    rw [e] at hqq
    simp only [] at hqq
    obtain ⟨-, ⟨-, -, -, -, r5, -⟩⟩ := id h
    obtain ⟨t1, t2, t3⟩ := hT
    generalize sp_tlen (sp_now s c) kk = n at *
    generalize sp_text (sp_now s c) kk = t at *
    simp only [sl_i, q291_10, q291_13, q291_14, q291_17, q291_18, q291_19, q291_22, q291_23, q291_24, q291_27, q291_30, q291_31, mc_o, mg_textMany, mf_textMany, wx_some, t1]
    rw [if_neg (by decide)]
    rcases sp_part_c n a b (by omega) with ⟨e, hh⟩ | ⟨i, k, hik, hk, rfl, rfl, e⟩
    · rw [e] at hqq
      rcases hh with g1 | ⟨g1, g2⟩ | ⟨g1, g2, g3⟩
      · rw [if_pos g1]; exact hqq
      · rw [if_neg g1, if_pos g2]; exact hqq
      · rw [if_neg g1, if_neg g2, if_neg (Int32.not_lt.mpr g3)]; exact hqq
    · rw [e] at hqq
      simp only [] at hqq
      rw [if_neg (by rw [nl_0, nI_ltI (by omega) (by omega)]; omega), if_neg (by rw [nI_ltI (by omega) (by omega)]; omega), if_pos (by rw [nI_ltI (by omega) (by omega)]; omega)]
      simp only [q291_32, q291_33i, q291_35, q291_36i, isl_i, isl_r, isl_n]
      have hw := t3 i k hik hk
      have key : ∀ (m y : Nat), y + m = 6 → ww (mp_P fx) (d + 6) 291 38 [some (.ref 149), some (.int v), some (.int (nI i)), some (.int (nI k)), some (.int (nI (bmk (fun y => decide (0 < wy s t (k - i) i y)) y))), some (.int (nI y))] [] (pm_h z X Y (pm_l ((0, mV.2.1, mV.2.2.1, mV.2.2.2)) mT mQ mO (mE') mB mS (mR') mW)) Q := by
        intro m
        induction m with
        | zero =>
          intro y hy
          have hy2 : y = 6 := by omega
          subst hy2
          rw [q291_38]
          simp only [q291_40, q291_42, q291_84, q291_86]
          rw [if_pos (by decide)]
          exact hqq
        | succ m ih =>
          intro y hy
          have hv := hw y (by omega)
          have hwl := wy_lt (t := t) hK.2.2.1 (p := k - i) (i := i) (y := y) (by omega)
          have hgo := ih (y + 1) (by omega)
          rw [bmk] at hgo
          have hlt : bmk (fun y => decide (0 < wy s t (k - i) i y)) y < 64 := Nat.lt_of_lt_of_le bmk_lt (show 2 ^ y ≤ 64 from Nat.pow_le_pow_right (n := 2) (j := 6) (by omega) (by omega))
          rw [q291_38]
          simp only [q291_40, q291_42, q291_45, q291_47, q291_48, q291_51, q291_53, q291_55, q291_56, q291_58, q291_59, q291_60, q291_61, q291_62, q291_63, q291_64, q291_67, q291_68, q291_70, q291_71, q291_74, q291_75, q291_76i, q291_78i, q291_81, mc_o, mg_waysOf, ma_waysOf, mb_waysOf, mn_waysOf, wx_some, wx_ref, isl_i, isl_r, isl_n, show (49 : Int32) = nI 49 from rfl, nl_7, pk_mul, nI_add, aG_n (show (mR'.2.2.2.2.2.2.2.1)[49 * y + 7 * i + k]? = _ from hv) (show (mR'.2.2.2.2.2.2.2.1).length < 2 ^ 31 by omega)]
          rw [if_neg (by rw [show (6 : Int32) = nI 6 from rfl, nI_leI (by omega) (by omega)]; omega)]
          by_cases e0 : 0 < wy s t (k - i) i y
          · rw [if_pos (decide_eq_true e0)] at hgo
            rw [if_neg (nI_nle e0 hwl), k6_or _ hlt _ (by omega), nl_1, nI_add]
            exact hgo
          · rw [if_neg (by rw [decide_eq_false e0]; exact Bool.false_ne_true), Nat.or_zero] at hgo
            rw [show wy s t (k - i) i y = 0 by omega, if_pos (by decide), Int32.or_zero, nl_1, nI_add]
            exact hgo
      exact key 6 0 (by omega)
theorem tm_copies {fx : List Value → mm_H → Option (List Value × mm_H)} {d : Nat} {Q : Option Value → mm_H → Prop} {H : List Int32 → mm_H} {fr to a b : Nat} {fs ts : List Int32} (hg : ∀ l i, mm_gI (H l) fr 0 9 i = aG fs i) (hs : ∀ l i x, mm_sI (H l) to 0 i x = aS l i x H) (ha : a + 9 ≤ fs.length) (hb : b + 9 ≤ ts.length) (hf : fs.length < 2 ^ 20) (ht : ts.length < 2 ^ 20)
    (hq : ∀ ts', ts'.length = ts.length → (∀ j, ts'[j]? = if b ≤ j ∧ j < b + 9 then fs[a + (j - b)]? else ts[j]?) → Q none (H ts')) : wm (mp_P fx) d 273 [.ref fr, .int (nI a), .ref to, .int (nI b)] (H ts) Q := by
  simp only [e273, q273_0, q273_1i, isl_i, isl_r, isl_n]
  have key : ∀ (m k : Nat) (us : List Int32), k + m = 9 → us.length = ts.length → (∀ j, us[j]? = if b ≤ j ∧ j < b + k then fs[a + (j - b)]? else ts[j]?) → ww (mp_P fx) d 273 3 [some (.ref fr), some (.int (nI a)), some (.ref to), some (.int (nI b)), some (.int (nI k))] [] (H us) Q := by
    intro m
    induction m with
    | zero =>
      intro k us hk hu hI
      have hk2 : k = 9 := by omega
      subst hk2
      rw [q273_3]
      simp only [q273_5, q273_7, q273_28]
      rw [if_pos (by decide)]
      exact hq us hu hI
    | succ m ih =>
      intro k us hk hu hI
      have hv : fs[a + k]? = some (fs[a + k]'(by omega)) := List.getElem?_eq_getElem (by omega)
      rw [q273_3]
      simp only [q273_5, q273_7, q273_10, q273_11, q273_12, q273_14, q273_15, q273_16, q273_17, q273_19, q273_20, q273_21, q273_22i, q273_25, hg, hs, wx_some, isl_i, isl_r, isl_n, nl_1, nI_add, aG_n hv (show fs.length < 2 ^ 31 by omega), aS_n (show b + k < us.length by omega) (show us.length < 2 ^ 31 by omega)]
      rw [if_neg (by rw [nl_9, nI_leI (by omega) (by omega)]; omega)]
      refine ih (k + 1) _ (by omega) (by rw [List.length_set]; exact hu) (fun j => ?_)
      rw [List.getElem?_set]
      by_cases e : b + k = j
      · subst e
        rw [if_pos rfl, if_pos (by omega), if_pos (by omega), show b + k - b = k by omega, hv]
      · rw [if_neg e, hI j]
        by_cases e2 : b ≤ j ∧ j < b + k
        · rw [if_pos e2, if_pos (by omega)]
        · rw [if_neg e2, if_neg (by omega)]
  exact key 9 0 ts (by omega) rfl (fun j => by rw [if_neg (by omega)])
end MG
