/-! what is said, of the model -/
section MD
variable {fx : List Value → mm_H → Option (List Value × mm_H)} {z : Nat} {X Y : Nat → mm_C} {mV : pm_V} {mT : pm_T} {mQ : pm_Q} {mO : pm_O} {mE : pm_E} {mB : pm_B} {mS : pm_S} {mR : pm_R} {mW : pm_W} {m_thrown : Int32} {m_given : Int32} {m_fresh : Int64} {m_code : Int32} {m_taped : Int32} {m_tape : List Int32} {m_size : Int32} {m_place : Int32} {m_begin : Int32} {m_token : Int32} {m_word : Int64} {m_told : Int32} {m_wrong : Int32} {m_square : List Int32} {m_sortName : List Int64} {m_colourName : List Int64} {m_walkerName : List Int64} {m_sortOf : List Int32} {m_rules : List Int32} {m_kind : List Int32} {m_colour : List Int32} {m_atTold : List Int32} {m_goesMany : List Int32} {m_goes : List Int32} {m_gusts : List Int32} {m_lineFrom : List Int32} {m_lineTo : List Int32} {m_codes : List Int32} {m_opened : List Int32} {m_compared : List Int32} {m_kept : List Int32} {m_keptBy : List Int32} {m_ahead : List Int32} {m_against : List Int32} {m_sum : List Int32} {m_sumBy : List Int32} {m_term : List Int32} {m_termBy : List Int32} {m_byNot : List Int32} {m_valueOf : List Int32} {m_lines : List Int32} {m_lineWhat : List Int32} {m_lineA : List Int32} {m_lineB : List Int32} {m_wishes : List Int32} {m_wishOf : List Int32} {m_seens : List Int32} {m_seenAt : List Int32} {m_seenIn : List Int32} {m_seenThere : List Int32} {m_s : List Int32} {m_aside : List Int32} {m_before : List Int32} {m_marked : List Int32} {m_undone : List Int32} {m_isLaid : List Int32} {m_done : Int32} {m_gustNow : Int32} {m_shown : List Int32} {m_shownMany : Int32} {m_from7 : List Int32} {m_long7 : List Int32} {m_sentences : Int32} {m_text7 : List Int32} {m_textMany : Int32} {m_waysOf : List Int32} {m_rowOf : List Int32} {m_row : List Int32} {m_bestRow : List Int32} {m_leastSteps : Int32} {m_steps10 : List Int32} {m_placeIn : List Int32} {m_g : Int64}
variable {d : Nat} {Q : Option Value → mm_H → Prop} {s : SQ} {c : SC}
/-- the k-th sentence is laid out and worked -/
def TXm (s : SQ) (t : Nat → Nat) (n : Nat) (mR : pm_R) : Prop := mR.2.2.2.2.2.2.1 = nI n ∧ ag mR.2.2.2.2.2.1 n t ∧ ∀ i k, i ≤ k → k < n → WTm s t mR.2.2.2.2.2.2.2.1 i k
theorem tm_lays {L : List Nat} {k : Nat} (hs : SQm mQ s) (ho : k_ok s) (hR : RDm L L.length mR) (hL : L_ok s L) (hk : k < (snk L L.length).1) (hq : ∀ mR', RDm L L.length mR' → TXm s (sp_text L k) (sp_tlen L k) mR' → 1 ≤ sp_tlen L k → sp_tlen L k ≤ 7 → 0 < k_nS s → Q none (pm_h z X Y (pm_l mV mT mQ mO mE mB mS (mR') mW))) :
    wm (mp_P fx) (d + 2) 278 [.ref 149, .int (nI k)] (pm_h z X Y (pm_l mV mT mQ mO mE mB mS mR mW)) Q := by
  obtain ⟨k1, k2, k3⟩ := snk_ok L L.length
  obtain ⟨a1, a2, a3⟩ := k3 k hk
  have h7 := hL.1
  obtain ⟨⟨p1, p2, p3, p4, p5, p6⟩, b1, b2, b3, b4, b5⟩ := id hR
  have g1 := ag_G b5 (show (mR.2.2.2.1).length < 2 ^ 31 by omega) hk
  have g2 := ag_G b4 (show (mR.2.2.1).length < 2 ^ 31 by omega) hk
  have hcol : ∀ j, j < sp_tlen L k → sp_text L k j < k_nC s := fun j hj => hL.2 _ (by unfold sp_tlen at hj; omega) (a3 _ (by omega) (by unfold sp_tlen at hj; omega))
  have hs0 : 0 < k_nS s := by
    have h1 := hcol 0 (by unfold sp_tlen; omega)
    have h2 := ho.2.1 _ h1
    omega
  have htl : (snk L L.length).2.2.1 k = sp_tlen L k := rfl
  rw [htl] at g1 a1 a2 a3
  have hT7 : sp_tlen L k ≤ 7 := by omega
  simp only [e278, q278_0, q278_1, q278_2, q278_5, q278_6, q278_7, q278_10, q278_11i, mg_long7, ma_long7, mb_long7, mn_long7, mg_textMany, mf_textMany, wx_some, wx_ref, isl_i, isl_r, isl_n, nl_0, g1]
  have key : ∀ (m j : Nat) (ts : List Int32), j + m = sp_tlen L k → ts.length = 7 → (∀ i, i < j → ts[i]? = some (nI (sp_text L k i))) → ww (mp_P fx) (d + 2) 278 12 [some (.ref 149), some (.int (nI k)), some (.int (nI j))] [] (pm_h z X Y (pm_l mV mT mQ mO mE mB mS ((mR.1, mR.2.1, mR.2.2.1, mR.2.2.2.1, mR.2.2.2.2.1, ts, nI (sp_tlen L k), mR.2.2.2.2.2.2.2.1, mR.2.2.2.2.2.2.2.2)) mW)) Q := by
    intro m
    induction m with
    | zero =>
      intro j ts hj hts hI
      have hj2 : j = sp_tlen L k := by omega
      subst hj2
      rw [q278_12]
      simp only [q278_13, q278_14, q278_17, q278_45, q278_46, mc_o, mg_textMany, mf_textMany, wx_some, wx_ref]
      rw [if_pos (by rw [nI_leI (by omega) (by omega)]; omega)]
      apply tm_works (t := sp_text L k) (n := sp_tlen L k) (mR := (mR.1, mR.2.1, mR.2.2.1, mR.2.2.2.1, mR.2.2.2.2.1, ts, nI (sp_tlen L k), mR.2.2.2.2.2.2.2.1, mR.2.2.2.2.2.2.2.2)) hs ho hT7 ⟨p1, p2, p3, hts, p5, p6⟩ rfl (fun j hj => ⟨hI j hj, hcol j hj⟩)
      intro ws hw hwt
      simp only [sl_n, q278_49]
      exact hq (mR.1, mR.2.1, mR.2.2.1, mR.2.2.2.1, mR.2.2.2.2.1, ts, nI (sp_tlen L k), ws, mR.2.2.2.2.2.2.2.2) ⟨⟨p1, p2, p3, hts, hw, p6⟩, b1, b2, b3, b4, b5⟩ ⟨rfl, hI, hwt⟩ a1 hT7 hs0
    | succ m ih =>
      intro j ts hj hts hI
      have g3 := ag_G b2 (show (mR.1).length < 2 ^ 31 by omega) (show (snk L L.length).2.1 k + j < L.length by omega)
      rw [q278_12]
      simp only [q278_13, q278_14, q278_17, q278_20, q278_21, q278_24, q278_25, q278_26, q278_29, q278_30, q278_33, q278_34, q278_35, q278_36, q278_37, q278_38, q278_39i, q278_42, mg_shown, ma_shown, mb_shown, mn_shown, mg_from7, ma_from7, mb_from7, mn_from7, mg_text7, ma_text7, mb_text7, mn_text7, mg_textMany, mf_textMany, wx_some, wx_ref, isl_i, isl_r, isl_n, g2, nI_add, g3, nl_1, aS_n (show j < ts.length by omega) (show ts.length < 2 ^ 31 by omega)]
      rw [if_neg (by rw [nI_leI (by omega) (by omega)]; omega)]
      refine ih (j + 1) _ (by omega) (by rw [List.length_set]; exact hts) (fun i hi => ?_)
      rw [List.getElem?_set]
      by_cases e : j = i
      · subst e; rw [if_pos rfl, if_pos (by omega)]; rfl
      · rw [if_neg e]; exact hI i (by omega)
  exact key (sp_tlen L k) 0 mR.2.2.2.2.2.1 (by omega) p4 (fun i hi => by omega)
theorem tm_saidR {L : List Nat} (hs : SQm mQ s) (ho : k_ok s) (hL : L_ok s L) (hq : ∀ mR', RDm L L.length mR' → Q (some (.int (nI (sp_said s L)))) (pm_h z X Y (pm_l mV mT mQ mO mE mB mS (mR') mW))) :
    ∀ (m k : Nat) (mR1 : pm_R), k + m = (snk L L.length).1 → RDm L L.length mR1 → ww (mp_P fx) (d + 5) 277 8 [some (.ref 149), some (.int (nI (cn (fun k => decide (0 < sp_ways s L k)) k))), some (.int (nI k))] [] (pm_h z X Y (pm_l mV mT mQ mO mE mB mS (mR1) mW)) Q := by
  obtain ⟨k1, k2, k3⟩ := snk_ok L L.length
  have h7 := hL.1
  intro m
  induction m with
  | zero =>
    intro k mR1 hk hR1
    rw [q277_8]
    simp only [q277_9, q277_10, q277_13, q277_42, q277_43, mg_sentences, mf_sentences, wx_some, wx_ref, hR1.2.2.2.1]
    rw [if_pos (by rw [nI_leI (by omega) (by omega)]; omega)]
    have := hq mR1 hR1
    unfold sp_said at this
    rw [show k = (snk L L.length).1 by omega]
    exact this
  | succ m ih =>
    intro k mR1 hk hR1
    rw [q277_8]
    simp only [q277_9, q277_10, q277_13, q277_16, q277_17, q277_18, mc_o, mg_sentences, mf_sentences, wx_some, wx_ref, hR1.2.2.2.1]
    rw [if_neg (by rw [nI_leI (by omega) (by omega)]; omega)]
    apply tm_lays hs ho hR1 hL (show k < (snk L L.length).1 by omega)
    intro mR2 hR2 hT h1 h77 h0
    simp only [sl_n, q277_21, q277_22, q277_23, mc_o]
    apply tm_whole hs ho h1 h77 hR2.1 hT.1 h0 (hT.2.2 0 (sp_tlen L k - 1) (by omega) (by omega))
    have hwl := wy_lt (t := sp_text L k) ho (p := sp_tlen L k - 1) (i := 0) (y := k_sy s) (by omega)
    simp only [sl_i, q277_26, q277_29, q277_30, q277_33, q277_34, q277_35r, q277_36i, q277_39, isl_i, isl_r, isl_n, nl_1, nI_add]
    have hgo := ih (k + 1) mR2 (by omega) hR2
    rw [cn] at hgo
    by_cases hw : 0 < sp_ways s L k
    · rw [if_pos (decide_eq_true hw)] at hgo
      rw [if_neg (nI_nle (show 0 < wy s (sp_text L k) (sp_tlen L k - 1) 0 (k_sy s) from hw) hwl)]
      exact hgo
    · rw [if_neg (by rw [decide_eq_false hw]; exact Bool.false_ne_true)] at hgo
      have h00 : wy s (sp_text L k) (sp_tlen L k - 1) 0 (k_sy s) = 0 := by unfold sp_ways at hw; omega
      rw [h00, if_pos (by decide), nl_0, nI_add]
      exact hgo
theorem tm_said {g : Nat} (hs : SQm mQ s) (hl : LWm mQ s) (ho : k_ok s) (hc : c_ok s c) (hS : SCm s mS.1 c) (hE : ELl mE) (hg : GN mS s c g) (hR : RLm mR) (hq : ∀ mE' mR', ELl mE' → RLm mR' → Q (some (.int (nI (sp_said s (sp_list s c 0 g))))) (pm_h z X Y (pm_l mV mT mQ mO (mE') mB mS (mR') mW))) : wm (mp_P fx) (d + 5) 277 [.ref 149] (pm_h z X Y (pm_l mV mT mQ mO mE mB mS mR mW)) Q := by
  simp only [e277, q277_0, q277_1, mc_o, isl_i, isl_r, isl_n]
  apply tm_looks hs hl ho hc hS hE hg hR
  intro mE1 mR1 hE1 hR1 _ _
  simp only [sl_n, q277_4, q277_5r, q277_6, q277_7i, isl_i, isl_r, isl_n]
  exact tm_saidR hs ho (sp_list_ok ho hc) (fun mR' h => hq mE1 mR' hE1 h.1) (snk (sp_list s c 0 g) (sp_list s c 0 g).length).1 0 mR1 (by omega) hR1
end MD
