/-! the model reads wishes -/
def sp_ws (tp : List Nat) (nm : NMs) (s : SQ) : Nat → Nat → Nat × Nat
  | 0, t => if ¬ t = 0 ∧ TY tp t = 0 then (0, t) else if (c_named tp nm 1 (k_nC s) t).1 = 0 then (flt tp 5 t, t) else ((c_named tp nm 1 (k_nC s) t).1, t)
  | r + 1, t => if ¬ t = 0 ∧ TY tp t = 0 then (0, t) else if (c_named tp nm 1 (k_nC s) t).1 = 0 then sp_ws tp nm s r (t + 1) else ((c_named tp nm 1 (k_nC s) t).1, t)
section GZG
variable {fx : List Value → mm_H → Option (List Value × mm_H)} {z : Nat} {X Y : Nat → mm_C} {mV : pm_V} {mT : pm_T} {mQ : pm_Q} {mO : pm_O} {mE : pm_E} {mB : pm_B} {mS : pm_S} {mR : pm_R} {mW : pm_W} {m_thrown : Int32} {m_given : Int32} {m_fresh : Int64} {m_code : Int32} {m_taped : Int32} {m_tape : List Int32} {m_size : Int32} {m_place : Int32} {m_begin : Int32} {m_token : Int32} {m_word : Int64} {m_told : Int32} {m_wrong : Int32} {m_square : List Int32} {m_sortName : List Int64} {m_colourName : List Int64} {m_walkerName : List Int64} {m_sortOf : List Int32} {m_rules : List Int32} {m_kind : List Int32} {m_colour : List Int32} {m_atTold : List Int32} {m_goesMany : List Int32} {m_goes : List Int32} {m_gusts : List Int32} {m_lineFrom : List Int32} {m_lineTo : List Int32} {m_codes : List Int32} {m_opened : List Int32} {m_compared : List Int32} {m_kept : List Int32} {m_keptBy : List Int32} {m_ahead : List Int32} {m_against : List Int32} {m_sum : List Int32} {m_sumBy : List Int32} {m_term : List Int32} {m_termBy : List Int32} {m_byNot : List Int32} {m_valueOf : List Int32} {m_lines : List Int32} {m_lineWhat : List Int32} {m_lineA : List Int32} {m_lineB : List Int32} {m_wishes : List Int32} {m_wishOf : List Int32} {m_seens : List Int32} {m_seenAt : List Int32} {m_seenIn : List Int32} {m_seenThere : List Int32} {m_s : List Int32} {m_aside : List Int32} {m_before : List Int32} {m_marked : List Int32} {m_undone : List Int32} {m_isLaid : List Int32} {m_done : Int32} {m_gustNow : Int32} {m_shown : List Int32} {m_shownMany : Int32} {m_from7 : List Int32} {m_long7 : List Int32} {m_sentences : Int32} {m_text7 : List Int32} {m_textMany : Int32} {m_waysOf : List Int32} {m_rowOf : List Int32} {m_row : List Int32} {m_bestRow : List Int32} {m_leastSteps : Int32} {m_steps10 : List Int32} {m_placeIn : List Int32} {m_g : Int64}
variable {d : Nat} {Q : Option Value → mm_H → Prop} {tp : List Nat} {nm : NMs} {s : SQ}
theorem tm_readsWish (hT : TKm tp 0 mT) (hK : KM nm s mQ) (hw : nmok nm s) (hB : BLm mB) (h0 : (mB.2.2.2.2.1)[5]? = some (nI 0)) (hq1 : ∀ (t : Nat) (mT' : pm_T) (ws wo : List Int32), sp_ws tp nm s 7 0 = (0, t) → t ≤ 7 → (∃ k, TKm tp k mT') → ws.length = 6 → wo.length = 42 → ws[5]? = some (nI t) → (∀ i : Nat, i < t → (c_named tp nm 1 (k_nC s) i).1 = 0 ∧ wo[35 + i]? = some (nI (c_named tp nm 1 (k_nC s) i).2)) → (∀ i : Nat, i < 5 → ws[i]? = (mB.2.2.2.2.1)[i]?) → (∀ i : Nat, i < 35 → wo[i]? = (mB.2.2.2.2.2.1)[i]?) → Q (some (.int 1)) (pm_h z X Y (pm_l mV (mT') mQ mO mE ((mB.1, mB.2.1, mB.2.2.1, mB.2.2.2.1, ws, wo, mB.2.2.2.2.2.2.1, mB.2.2.2.2.2.2.2.1, mB.2.2.2.2.2.2.2.2.1, mB.2.2.2.2.2.2.2.2.2)) mS mR mW))) (hq0 : ∀ (f : Nat) (mT' : pm_T) (ws wo : List Int32), (sp_ws tp nm s 7 0).1 = f → ¬ f = 0 → (∃ k, TKm tp k mT') → mT'.2.2.2.2.2.2.2.2 = nI f → ws.length = 6 → wo.length = 42 → (∀ i : Nat, i < 5 → ws[i]? = (mB.2.2.2.2.1)[i]?) → (∀ i : Nat, i < 35 → wo[i]? = (mB.2.2.2.2.2.1)[i]?) → Q (some (.int 0)) (pm_h z X Y (pm_l mV (mT') mQ mO mE ((mB.1, mB.2.1, mB.2.2.1, mB.2.2.2.1, ws, wo, mB.2.2.2.2.2.2.1, mB.2.2.2.2.2.2.2.1, mB.2.2.2.2.2.2.2.2.1, mB.2.2.2.2.2.2.2.2.2)) mS mR mW))) : wm (mp_P fx) (d + 2) 256 [.ref 149] (pm_h z X Y (pm_l mV mT mQ mO mE mB mS mR mW)) Q := by
  have h6 := hK.2.2.1.1.2.1
  have key : ∀ (r t : Nat) (mT' : pm_T) (ws wo : List Int32) (l1 : Option Value), t + r = 7 → TKm tp t mT' → mm_isL l1 = false → ws.length = 6 → wo.length = 42 → ws[5]? = some (nI t) → (∀ i : Nat, i < t → (c_named tp nm 1 (k_nC s) i).1 = 0 ∧ wo[35 + i]? = some (nI (c_named tp nm 1 (k_nC s) i).2)) → (∀ i : Nat, i < 5 → ws[i]? = (mB.2.2.2.2.1)[i]?) → (∀ i : Nat, i < 35 → wo[i]? = (mB.2.2.2.2.2.1)[i]?) → sp_ws tp nm s 7 0 = sp_ws tp nm s r t → ww (mp_P fx) (d + 2) 256 0 [some (.ref 149), l1] [] (pm_h z X Y (pm_l mV (mT') mQ mO mE ((mB.1, mB.2.1, mB.2.2.1, mB.2.2.2.1, ws, wo, mB.2.2.2.2.2.2.1, mB.2.2.2.2.2.2.2.1, mB.2.2.2.2.2.2.2.2.1, mB.2.2.2.2.2.2.2.2.2)) mS mR mW)) Q := by
    intro r
    induction r with
    | zero =>
      intro t mT' ws wo l1 hr hTt i1 w1 w2 w3 w4 w5 w6 hsp
      have hty := TKm_ty hTt
      have htl := TY_le (tp := tp) (i := t)
      have g5 : aG ws 5 = some (nI t) := aG_n w3 (by omega)
      rw [sp_ws] at hsp
      rw [q256_0]
      simp only [b256_0, b256_1, bn_0 b256_0, bn_1 b256_1, q256_1, q256_4, q256_5, q256_6, mc_o, mg_wishes, ma_wishes, mb_wishes, mn_wishes, wx_some, wx_ref, g5]
      rw [if_neg (by rw [nl_0, nI_eq (by omega) (by omega)]; omega)]
      simp only [b256_0, b256_1, bn_0 b256_0, bn_1 b256_1, q256_9, q256_10, q256_13, mc_o, mg_token, mf_token, wx_some, wx_ref, hty]
      by_cases e0 : TY tp t = 0
      · rw [if_pos ⟨by omega, e0⟩] at hsp
        rw [if_pos (by rw [e0]; rfl)]
        simp only [b256_0, b256_1, bn_0 b256_0, bn_1 b256_1, q256_94, q256_95]
        exact hq1 t mT' ws wo hsp (by omega) ⟨t, hTt⟩ w1 w2 w3 w4 w5 w6
      rw [if_neg (fun e => e0 e.2)] at hsp
      rw [if_neg (by rw [nl_0, nI_eq (by omega) (by omega)]; exact e0)]
      simp only [b256_0, b256_1, bn_0 b256_0, bn_1 b256_1, q256_16, q256_17, mc_o]
      apply tm_isKept hTt
      · intro y
        have hc : (c_named tp nm 1 (k_nC s) t).1 = flt tp 1 t := by unfold c_named; rw [if_neg (fun e => y (nmB_t.mp e))]
        rw [if_neg (by rw [hc]; exact flt_ne (by omega)), hc] at hsp
        simp only [sl_i, b256_0, b256_1, bn_0 b256_0, bn_1 b256_1, q256_20, q256_23, q256_24, q256_25, mc_o]
        rw [if_neg (by decide)]
        apply tm_fails (kd := 1) hTt
        intro mT2 h1 h2
        simp only [sl_i, b256_0, b256_1, bn_0 b256_0, bn_1 b256_1, q256_28]
        exact hq0 _ mT2 ws wo (by rw [hsp]) (flt_ne (by omega)) ⟨t, h1⟩ h2 w1 w2 w5 w6
      intro y
      simp only [sl_i, b256_0, b256_1, bn_0 b256_0, bn_1 b256_1, q256_20, b256_0, b256_1, bn_0 b256_0, bn_1 b256_1, q256_29, q256_30, q256_31, mc_o]
      rw [if_pos (by decide)]
      apply tm_colourNamed (r := 0) (m := k_nC s) (f := nm 1) (l := LT tp t) (by omega) h6 hK.1.1.1 hK.1.1.2.2.1 hK.1.2.1.2.1 (fun i hi => by rw [show 6 * 0 + i = i by omega]; exact hK.2.2.2.2.1 i hi) (TKm_word hTt y.1) (isNm_wf y) hw.2.1
      simp only [sl_i, b256_0, b256_1, bn_0 b256_0, bn_1 b256_1, q256_34r, q256_35, q256_36, i1, isl_i, isl_r, isl_n]
      cases ev : ffl (fun i => decide (nm 1 i = LT tp t)) (k_nC s) with
      | none =>
        have hc : (c_named tp nm 1 (k_nC s) t).1 = flt tp 2 t := by unfold c_named fnd; rw [if_pos (nmB_t.mpr y), ev]
        rw [if_neg (by rw [hc]; exact flt_ne (by omega)), hc] at hsp
        rw [if_neg (by decide)]
        simp only [b256_0, b256_1, bn_0 b256_0, bn_1 b256_1, q256_39, q256_40, q256_41, mc_o]
        apply tm_fails (kd := 2) hTt
        intro mT2 h1 h2
        simp only [sl_i, b256_0, b256_1, bn_0 b256_0, bn_1 b256_1, q256_44]
        exact hq0 _ mT2 ws wo (by rw [hsp]) (flt_ne (by omega)) ⟨t, h1⟩ h2 w1 w2 w5 w6
      | some v =>
        have hc : (c_named tp nm 1 (k_nC s) t).1 = 0 := by unfold c_named fnd; rw [if_pos (nmB_t.mpr y), ev]
        have hv := ffl_lt _ _ ev
        rw [if_pos hc] at hsp
        rw [if_pos (io_ge (by omega))]
        simp only [b256_0, b256_1, bn_0 b256_0, bn_1 b256_1, q256_45, q256_46, q256_49, q256_50, q256_51, q256_53, mc_o, mg_wishes, ma_wishes, mb_wishes, mn_wishes, wx_some, wx_ref, g5]
        rw [if_neg (by rw [show (7 : Int32) = nI 7 from rfl, nI_eq (by omega) (by omega)]; omega)]
        simp only [b256_0, b256_1, bn_0 b256_0, bn_1 b256_1, q256_56, q256_57, q256_58, mc_o]
        apply tm_fails (kd := 5) hTt
        intro mT2 h1 h2
        simp only [sl_i, b256_0, b256_1, bn_0 b256_0, bn_1 b256_1, q256_61]
        exact hq0 _ mT2 ws wo (by rw [hsp]) (flt_ne (by omega)) ⟨t, h1⟩ h2 w1 w2 w5 w6
    | succ r ih =>
      intro t mT' ws wo l1 hr hTt i1 w1 w2 w3 w4 w5 w6 hsp
      have hty := TKm_ty hTt
      have htl := TY_le (tp := tp) (i := t)
      have g5 : aG ws 5 = some (nI t) := aG_n w3 (by omega)
      rw [show sp_ws tp nm s (r + 1) t = if ¬ t = 0 ∧ TY tp t = 0 then (0, t) else if (c_named tp nm 1 (k_nC s) t).1 = 0 then sp_ws tp nm s r (t + 1) else ((c_named tp nm 1 (k_nC s) t).1, t) from rfl] at hsp
      have at16 : ¬ (¬ t = 0 ∧ TY tp t = 0) → ww (mp_P fx) (d + 2) 256 16 [some (.ref 149), l1] [] (pm_h z X Y (pm_l mV (mT') mQ mO mE ((mB.1, mB.2.1, mB.2.2.1, mB.2.2.2.1, ws, wo, mB.2.2.2.2.2.2.1, mB.2.2.2.2.2.2.2.1, mB.2.2.2.2.2.2.2.2.1, mB.2.2.2.2.2.2.2.2.2)) mS mR mW)) Q := by
        intro e0
        rw [if_neg e0] at hsp
        simp only [b256_0, b256_1, bn_0 b256_0, bn_1 b256_1, q256_16, q256_17, mc_o]
        apply tm_isKept hTt
        · intro y
          have hc : (c_named tp nm 1 (k_nC s) t).1 = flt tp 1 t := by unfold c_named; rw [if_neg (fun e => y (nmB_t.mp e))]
          rw [if_neg (by rw [hc]; exact flt_ne (by omega)), hc] at hsp
          simp only [sl_i, b256_0, b256_1, bn_0 b256_0, bn_1 b256_1, q256_20, q256_23, q256_24, q256_25, mc_o]
          rw [if_neg (by decide)]
          apply tm_fails (kd := 1) hTt
          intro mT2 h1 h2
          simp only [sl_i, b256_0, b256_1, bn_0 b256_0, bn_1 b256_1, q256_28]
          exact hq0 _ mT2 ws wo (by rw [hsp]) (flt_ne (by omega)) ⟨t, h1⟩ h2 w1 w2 w5 w6
        intro y
        simp only [sl_i, b256_0, b256_1, bn_0 b256_0, bn_1 b256_1, q256_20, b256_0, b256_1, bn_0 b256_0, bn_1 b256_1, q256_29, q256_30, q256_31, mc_o]
        rw [if_pos (by decide)]
        apply tm_colourNamed (r := 0) (m := k_nC s) (f := nm 1) (l := LT tp t) (by omega) h6 hK.1.1.1 hK.1.1.2.2.1 hK.1.2.1.2.1 (fun i hi => by rw [show 6 * 0 + i = i by omega]; exact hK.2.2.2.2.1 i hi) (TKm_word hTt y.1) (isNm_wf y) hw.2.1
        simp only [sl_i, b256_0, b256_1, bn_0 b256_0, bn_1 b256_1, q256_34r, q256_35, q256_36, i1, isl_i, isl_r, isl_n]
        cases ev : ffl (fun i => decide (nm 1 i = LT tp t)) (k_nC s) with
        | none =>
          have hc : (c_named tp nm 1 (k_nC s) t).1 = flt tp 2 t := by unfold c_named fnd; rw [if_pos (nmB_t.mpr y), ev]
          rw [if_neg (by rw [hc]; exact flt_ne (by omega)), hc] at hsp
          rw [if_neg (by decide)]
          simp only [b256_0, b256_1, bn_0 b256_0, bn_1 b256_1, q256_39, q256_40, q256_41, mc_o]
          apply tm_fails (kd := 2) hTt
          intro mT2 h1 h2
          simp only [sl_i, b256_0, b256_1, bn_0 b256_0, bn_1 b256_1, q256_44]
          exact hq0 _ mT2 ws wo (by rw [hsp]) (flt_ne (by omega)) ⟨t, h1⟩ h2 w1 w2 w5 w6
        | some v =>
          have hc : c_named tp nm 1 (k_nC s) t = (0, v) := by unfold c_named fnd; rw [if_pos (nmB_t.mpr y), ev]
          have hv := ffl_lt _ _ ev
          rw [if_pos (by rw [hc])] at hsp
          rw [if_pos (io_ge (by omega))]
          simp only [b256_0, b256_1, bn_0 b256_0, bn_1 b256_1, q256_45, q256_46, q256_49, q256_50, q256_51, q256_53, mc_o, mg_wishes, ma_wishes, mb_wishes, mn_wishes, wx_some, wx_ref, g5]
          rw [if_pos (by rw [show (7 : Int32) = nI 7 from rfl]; exact fun e => absurd ((nI_eq (by omega) (by omega)).mp e) (by omega))]
          simp only [b256_0, b256_1, bn_0 b256_0, bn_1 b256_1, q256_62, q256_63, q256_66, q256_68, q256_69, q256_72, q256_73, q256_74, q256_75, q256_76, q256_77, q256_78, q256_81, q256_82, q256_83, q256_84, q256_85, q256_86, q256_87, q256_88, mc_o, mg_wishes, ma_wishes, mb_wishes, mn_wishes, mg_wishOf, ma_wishOf, mb_wishOf, mn_wishOf, wx_some, wx_ref, g5, nI_1, show (35 : Int32) + nI t = nI (35 + t) from nI_add 35 _, aS_n (show 35 + t < wo.length by omega) (show wo.length < 2 ^ 31 by omega), show ∀ (x : Int32) (f : List Int32 → mm_H), aS ws 5 x f = some (f (ws.set 5 x)) from fun x f => aS_n (j := 5) (by omega) (by omega)]
          apply tm_nx hTt
          intro mT2 hT2 _
          simp only [sl_n, b256_0, b256_1, bn_0 b256_0, bn_1 b256_1, q256_91]
          refine ih (t + 1) mT2 (ws.set 5 (nI (t + 1))) (wo.set (35 + t) (io (some v))) _ (by omega) hT2 rfl (by rw [List.length_set]; exact w1) (by rw [List.length_set]; exact w2) (List.getElem?_set_self (by omega)) (fun i hi => ?_) (fun i hi => (List.getElem?_set_ne (by omega)).trans (w5 i hi)) (fun i hi => (List.getElem?_set_ne (by omega)).trans (w6 i hi)) hsp
          by_cases e : i = t
          · subst e; rw [hc]; exact ⟨rfl, List.getElem?_set_self (by omega)⟩
          · exact ⟨(w4 i (by omega)).1, (List.getElem?_set_ne (by omega)).trans (w4 i (by omega)).2⟩
      rw [q256_0]
      simp only [b256_0, b256_1, bn_0 b256_0, bn_1 b256_1, q256_1, q256_4, q256_5, q256_6, mc_o, mg_wishes, ma_wishes, mb_wishes, mn_wishes, wx_some, wx_ref, g5]
      by_cases ez : t = 0
      · rw [if_pos (by rw [ez]; rfl)]
        exact at16 (fun e => e.1 ez)
      rw [if_neg (by rw [nl_0, nI_eq (by omega) (by omega)]; omega)]
      simp only [b256_0, b256_1, bn_0 b256_0, bn_1 b256_1, q256_9, q256_10, q256_13, mc_o, mg_token, mf_token, wx_some, wx_ref, hty]
      by_cases e0 : TY tp t = 0
      · rw [if_pos ⟨ez, e0⟩] at hsp
        rw [if_pos (by rw [e0]; rfl)]
        simp only [b256_0, b256_1, bn_0 b256_0, bn_1 b256_1, q256_94, q256_95]
        exact hq1 t mT' ws wo hsp (by omega) ⟨t, hTt⟩ w1 w2 w3 w4 w5 w6
      rw [if_neg (by rw [nl_0, nI_eq (by omega) (by omega)]; exact e0)]
      exact at16 (fun e => e0 e.2)
  rw [e256]
  exact key 7 0 mT (mB.2.2.2.2.1) (mB.2.2.2.2.2.1) none rfl hT rfl hB.2.2.2.2.1 hB.2.2.2.2.2.1 h0 (fun i hi => absurd hi (Nat.not_lt_zero _)) (fun _ _ => rfl) (fun _ _ => rfl) rfl
end GZG
