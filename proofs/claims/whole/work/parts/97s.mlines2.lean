/-! lines of a square, of the model: numbers, gusts, rules -/
section MLJ
variable {fx : List Value → mm_H → Option (List Value × mm_H)} {z : Nat} {X Y : Nat → mm_C} {mV : pm_V} {mT : pm_T} {mQ : pm_Q} {mO : pm_O} {mE : pm_E} {mB : pm_B} {mS : pm_S} {mR : pm_R} {mW : pm_W} {m_thrown : Int32} {m_given : Int32} {m_fresh : Int64} {m_code : Int32} {m_taped : Int32} {m_tape : List Int32} {m_size : Int32} {m_place : Int32} {m_begin : Int32} {m_token : Int32} {m_word : Int64} {m_told : Int32} {m_wrong : Int32} {m_square : List Int32} {m_sortName : List Int64} {m_colourName : List Int64} {m_walkerName : List Int64} {m_sortOf : List Int32} {m_rules : List Int32} {m_kind : List Int32} {m_colour : List Int32} {m_atTold : List Int32} {m_goesMany : List Int32} {m_goes : List Int32} {m_gusts : List Int32} {m_lineFrom : List Int32} {m_lineTo : List Int32} {m_codes : List Int32} {m_opened : List Int32} {m_compared : List Int32} {m_kept : List Int32} {m_keptBy : List Int32} {m_ahead : List Int32} {m_against : List Int32} {m_sum : List Int32} {m_sumBy : List Int32} {m_term : List Int32} {m_termBy : List Int32} {m_byNot : List Int32} {m_valueOf : List Int32} {m_lines : List Int32} {m_lineWhat : List Int32} {m_lineA : List Int32} {m_lineB : List Int32} {m_wishes : List Int32} {m_wishOf : List Int32} {m_seens : List Int32} {m_seenAt : List Int32} {m_seenIn : List Int32} {m_seenThere : List Int32} {m_s : List Int32} {m_aside : List Int32} {m_before : List Int32} {m_marked : List Int32} {m_undone : List Int32} {m_isLaid : List Int32} {m_done : Int32} {m_gustNow : Int32} {m_shown : List Int32} {m_shownMany : Int32} {m_from7 : List Int32} {m_long7 : List Int32} {m_sentences : Int32} {m_text7 : List Int32} {m_textMany : Int32} {m_waysOf : List Int32} {m_rowOf : List Int32} {m_row : List Int32} {m_bestRow : List Int32} {m_leastSteps : Int32} {m_steps10 : List Int32} {m_placeIn : List Int32} {m_g : Int64}
variable {d : Nat} {Q : Option Value → mm_H → Prop} {tp : List Nat} {k : Nat} {nm : NMs} {s : SQ} {o : PS} {a : pm_Q}
theorem tm_num_goes {j fr many mx : Nat} {xs : List Int32} (hT : TKm tp j mT) (hmx : mx < 2 ^ 20) (hr1 : 1 ≤ many) (hfr : fr + many ≤ xs.length) (hxl : xs.length < 100) (hq1 : ∀ c mT' ys, l_nm tp mx j many 0 = (0, c) → c ≤ many → 1 ≤ c → TKm tp (j + c) mT' → ys.length = xs.length → (∀ i, i < c → VL tp (j + i) ≤ mx ∧ ys[fr + i]? = some (nI (VL tp (j + i)))) → (∀ i, i < fr → ys[i]? = xs[i]?) → Q (some (.int (nI c))) (pm_h z X Y (pm_l mV (mT') ((mQ.1, mQ.2.1, mQ.2.2.1, mQ.2.2.2.1, mQ.2.2.2.2.1, mQ.2.2.2.2.2.1, mQ.2.2.2.2.2.2.1, mQ.2.2.2.2.2.2.2.1, mQ.2.2.2.2.2.2.2.2.1, mQ.2.2.2.2.2.2.2.2.2.1, ys, mQ.2.2.2.2.2.2.2.2.2.2.2.1, mQ.2.2.2.2.2.2.2.2.2.2.2.2.1, mQ.2.2.2.2.2.2.2.2.2.2.2.2.2.1, mQ.2.2.2.2.2.2.2.2.2.2.2.2.2.2)) mO mE mB mS mR mW))) (hq0 : ∀ f mT' ys, (l_nm tp mx j many 0).1 = f → ¬ f = 0 → (∃ k, TKm tp k mT') → mT'.2.2.2.2.2.2.2.2 = nI f → ys.length = xs.length → (∀ i, i < fr → ys[i]? = xs[i]?) → Q (some (.int (-1))) (pm_h z X Y (pm_l mV (mT') ((mQ.1, mQ.2.1, mQ.2.2.1, mQ.2.2.2.1, mQ.2.2.2.2.1, mQ.2.2.2.2.2.1, mQ.2.2.2.2.2.2.1, mQ.2.2.2.2.2.2.2.1, mQ.2.2.2.2.2.2.2.2.1, mQ.2.2.2.2.2.2.2.2.2.1, ys, mQ.2.2.2.2.2.2.2.2.2.2.2.1, mQ.2.2.2.2.2.2.2.2.2.2.2.2.1, mQ.2.2.2.2.2.2.2.2.2.2.2.2.2.1, mQ.2.2.2.2.2.2.2.2.2.2.2.2.2.2)) mO mE mB mS mR mW))) : wm (mp_P fx) (d + 2) 243 [.ref 149, .ref 161, .int (nI fr), .int (nI mx), .int (nI many)] (pm_h z X Y (pm_l mV mT ((mQ.1, mQ.2.1, mQ.2.2.1, mQ.2.2.2.1, mQ.2.2.2.2.1, mQ.2.2.2.2.2.1, mQ.2.2.2.2.2.2.1, mQ.2.2.2.2.2.2.2.1, mQ.2.2.2.2.2.2.2.2.1, mQ.2.2.2.2.2.2.2.2.2.1, xs, mQ.2.2.2.2.2.2.2.2.2.2.2.1, mQ.2.2.2.2.2.2.2.2.2.2.2.2.1, mQ.2.2.2.2.2.2.2.2.2.2.2.2.2.1, mQ.2.2.2.2.2.2.2.2.2.2.2.2.2.2)) mO mE mB mS mR mW)) Q := by
  have key : ∀ (r t : Nat) (mT' : pm_T) (ys : List Int32), t + r = many → TKm tp (j + t) mT' → ys.length = xs.length → (∀ i, i < t → VL tp (j + i) ≤ mx ∧ ys[fr + i]? = some (nI (VL tp (j + i)))) → (∀ i, i < fr → ys[i]? = xs[i]?) → l_nm tp mx j many 0 = l_nm tp mx j r t → ww (mp_P fx) (d + 2) 243 3 [some (.ref 149), some (.ref 161), some (.int (nI fr)), some (.int (nI mx)), some (.int (nI many)), some (.int (nI t))] [] (pm_h z X Y (pm_l mV (mT') ((mQ.1, mQ.2.1, mQ.2.2.1, mQ.2.2.2.1, mQ.2.2.2.2.1, mQ.2.2.2.2.2.1, mQ.2.2.2.2.2.2.1, mQ.2.2.2.2.2.2.2.1, mQ.2.2.2.2.2.2.2.2.1, mQ.2.2.2.2.2.2.2.2.2.1, ys, mQ.2.2.2.2.2.2.2.2.2.2.2.1, mQ.2.2.2.2.2.2.2.2.2.2.2.2.1, mQ.2.2.2.2.2.2.2.2.2.2.2.2.2.1, mQ.2.2.2.2.2.2.2.2.2.2.2.2.2.2)) mO mE mB mS mR mW)) Q := by
    intro r
    induction r with
    | zero =>
      intro t mT' ys ht hT' hl hfil hlow hnm
      have hty := TKm_ty hT'
      have htl := TY_le (tp := tp) (i := j + t)
      have ht0 : ¬ t = 0 := by omega
      rw [q243_3]
      simp only [q243_5, q243_8, q243_9, q243_12, q243_13, mc_o, mg_token, mf_token, wx_some, wx_ref, hty]
      rw [if_neg (by rw [nl_0, nI_eq (by omega) (by omega)]; exact ht0)]
      by_cases e2 : TY tp (j + t) = 2
      · have hv := VL_lt e2
        have htd := TKm_told hT' e2
        rw [if_neg (by rw [e2]; exact fun y => y rfl)]
        simp only [q243_16, q243_17, q243_20, q243_21, q243_24, q243_25, q243_26, q243_29, q243_30, q243_33, q243_34, q243_37, q243_38, mc_o, mg_token, mf_token, mg_told, mf_told, wx_some, wx_ref, hty, htd]
        rw [if_pos (by rw [e2]; rfl)]
        by_cases e4 : VL tp (j + t) ≤ mx
        · rw [if_pos (by rw [nI_leI (by omega) (by omega)]; exact e4)]
          simp only [q243_50, q243_52, q243_54, q243_57, q243_58]
          rw [if_neg (by rw [show t = many by omega]; exact fun y => y rfl)]
          simp only [q243_57, q243_58, q243_59, mc_o]
          apply tm_fails (kd := 5) hT'
          intro mT2 h1 h2
          simp only [sl_i, q243_62, q243_63, q243_64, q243_67, q243_68, q243_71, q243_72, q243_75, q243_76, q243_79, q243_81, q243_83, q243_86, q243_87, mc_o, mg_token, mf_token, mg_told, mf_told, wx_some, wx_ref, TKm_ty h1, TKm_told h1 e2]
          rw [if_neg (by rw [e2]; exact fun y => y rfl), if_neg (by rw [nI_ltI (by omega) (by omega)]; omega), if_neg (by rw [show t = many by omega]; exact fun y => y rfl)]
          rw [l_nm, if_pos e2, if_pos e4] at hnm
          exact hq0 _ mT2 ys (by rw [hnm]) (flt_ne (by omega)) ⟨_, h1⟩ h2 hl hlow
        · rw [if_neg (by rw [nI_leI (by omega) (by omega)]; exact e4)]
          simp only [q243_41, q243_42, q243_43, mc_o]
          apply tm_fails (kd := 4) hT'
          intro mT2 h1 h2
          simp only [sl_i, q243_46, q243_47, q243_63, q243_64, q243_67, q243_68, q243_71, q243_72, q243_75, q243_76, q243_79, q243_81, q243_83, q243_86, q243_87, mc_o, mg_token, mf_token, mg_told, mf_told, wx_some, wx_ref, TKm_ty h1, TKm_told h1 e2]
          rw [if_neg (by rw [e2]; exact fun y => y rfl), if_pos (by rw [nI_ltI (by omega) (by omega)]; omega)]
          rw [l_nm_4 e2 e4] at hnm
          exact hq0 _ mT2 ys (by rw [hnm]) (flt_ne (by omega)) ⟨_, h1⟩ h2 hl hlow
      · rw [if_pos (by rw [nl_2, nI_eq (by omega) (by omega)]; exact e2)]
        simp only [q243_108, q243_110]
        rw [l_nm_end e2, if_neg ht0] at hnm
        exact hq1 t mT' ys hnm (by omega) (by omega) hT' hl hfil hlow
    | succ r ih =>
      intro t mT' ys ht hT' hl hfil hlow hnm
      have hty := TKm_ty hT'
      have htl := TY_le (tp := tp) (i := j + t)
      have mid : TY tp (j + t) = 2 ∨ t = 0 → ww (mp_P fx) (d + 2) 243 16 [some (.ref 149), some (.ref 161), some (.int (nI fr)), some (.int (nI mx)), some (.int (nI many)), some (.int (nI t))] [] (pm_h z X Y (pm_l mV (mT') ((mQ.1, mQ.2.1, mQ.2.2.1, mQ.2.2.2.1, mQ.2.2.2.2.1, mQ.2.2.2.2.2.1, mQ.2.2.2.2.2.2.1, mQ.2.2.2.2.2.2.2.1, mQ.2.2.2.2.2.2.2.2.1, mQ.2.2.2.2.2.2.2.2.2.1, ys, mQ.2.2.2.2.2.2.2.2.2.2.2.1, mQ.2.2.2.2.2.2.2.2.2.2.2.2.1, mQ.2.2.2.2.2.2.2.2.2.2.2.2.2.1, mQ.2.2.2.2.2.2.2.2.2.2.2.2.2.2)) mO mE mB mS mR mW)) Q := by
        intro hor
        by_cases e2 : TY tp (j + t) = 2
        · have hv := VL_lt e2
          have htd := TKm_told hT' e2
          simp only [q243_16, q243_17, q243_20, q243_21, q243_24, q243_25, q243_26, q243_29, q243_30, q243_33, q243_34, q243_37, q243_38, mc_o, mg_token, mf_token, mg_told, mf_told, wx_some, wx_ref, hty, htd]
          rw [if_pos (by rw [e2]; rfl)]
          by_cases e4 : VL tp (j + t) ≤ mx
          · rw [if_pos (by rw [nI_leI (by omega) (by omega)]; exact e4)]
            simp only [q243_50, q243_52, q243_54]
            rw [if_pos (by rw [nI_eq (by omega) (by omega)]; omega)]
            simp only [q243_63, q243_64, q243_67, q243_68, q243_71, q243_72, q243_75, q243_76, q243_79, q243_81, q243_83, q243_88, q243_89, q243_90, q243_92, q243_93, q243_94, q243_97, q243_98i, q243_101, mc_o, mg_token, mf_token, mg_told, mf_told, mg_goes, ma_goes, mb_goes, mn_goes, wx_some, wx_ref, isl_i, isl_r, isl_n, hty, htd, nI_add, nI_1, aS_n (show fr + t < ys.length by omega) (show ys.length < 2 ^ 31 by omega)]
            rw [if_neg (by rw [e2]; exact fun y => y rfl), if_neg (by rw [nI_ltI (by omega) (by omega)]; omega), if_pos (by rw [nI_eq (by omega) (by omega)]; omega)]
            simp only [q243_102, mc_o]
            apply tm_nx hT'
            intro mT2 h1 h2
            simp only [sl_n, q243_105]
            rw [l_nm, if_pos e2, if_pos e4] at hnm
            refine ih (t + 1) mT2 _ (by omega) h1 (by rw [List.length_set]; exact hl) (fun i hi => ?_) (fun i hi => ?_) hnm
            · by_cases e : i = t
              · subst e; exact ⟨e4, List.getElem?_set_self (by omega)⟩
              · rw [List.getElem?_set_ne (by omega)]; exact hfil i (by omega)
            · rw [List.getElem?_set_ne (by omega)]; exact hlow i hi
          · rw [if_neg (by rw [nI_leI (by omega) (by omega)]; exact e4)]
            simp only [q243_41, q243_42, q243_43, mc_o]
            apply tm_fails (kd := 4) hT'
            intro mT2 h1 h2
            simp only [sl_i, q243_46, q243_47, q243_63, q243_64, q243_67, q243_68, q243_71, q243_72, q243_75, q243_76, q243_79, q243_81, q243_83, q243_86, q243_87, mc_o, mg_token, mf_token, mg_told, mf_told, wx_some, wx_ref, TKm_ty h1, TKm_told h1 e2]
            rw [if_neg (by rw [e2]; exact fun y => y rfl), if_pos (by rw [nI_ltI (by omega) (by omega)]; omega)]
            rw [l_nm_4 e2 e4] at hnm
            exact hq0 _ mT2 ys (by rw [hnm]) (flt_ne (by omega)) ⟨_, h1⟩ h2 hl hlow
        · have ht0 : t = 0 := hor.resolve_left e2
          simp only [q243_16, q243_17, q243_20, q243_21, q243_24, q243_25, mc_o, mg_token, mf_token, wx_some, wx_ref, hty]
          rw [if_neg (by rw [nl_2, nI_eq (by omega) (by omega)]; exact e2)]
          simp only [q243_26, mc_o]
          apply tm_fails (kd := 1) hT'
          intro mT2 h1 h2
          simp only [sl_i, q243_29, q243_30, q243_63, q243_64, q243_67, q243_68, q243_86, q243_87, mc_o, mg_token, mf_token, wx_some, wx_ref, TKm_ty h1]
          rw [if_pos (by rw [nl_2, nI_eq (by omega) (by omega)]; exact e2)]
          rw [l_nm_end e2, if_pos ht0] at hnm
          exact hq0 _ mT2 ys (by rw [hnm]) (flt_ne (by omega)) ⟨_, h1⟩ h2 hl hlow
      rw [q243_3]
      simp only [q243_5, q243_8, q243_9, q243_12, q243_13, mc_o, mg_token, mf_token, wx_some, wx_ref, hty]
      by_cases ht0 : t = 0
      · rw [if_pos (by rw [ht0]; rfl)]
        exact mid (Or.inr ht0)
      · rw [if_neg (by rw [nl_0, nI_eq (by omega) (by omega)]; exact ht0)]
        by_cases e2 : TY tp (j + t) = 2
        · rw [if_neg (by rw [e2]; exact fun y => y rfl)]
          exact mid (Or.inl e2)
        · rw [if_pos (by rw [nl_2, nI_eq (by omega) (by omega)]; exact e2)]
          simp only [q243_108, q243_110]
          rw [l_nm_end e2, if_neg ht0] at hnm
          exact hq1 t mT' ys hnm (by omega) (by omega) hT' hl hfil hlow
  simp only [e243, q243_0, q243_1i, isl_i, isl_r, isl_n]
  exact key many 0 mT xs (by omega) hT rfl (fun i hi => by omega) (fun i hi => rfl) rfl
theorem tm_num_gusts {j fr many mx : Nat} {xs : List Int32} (hT : TKm tp j mT) (hmx : mx < 2 ^ 20) (hr1 : 1 ≤ many) (hfr : fr + many ≤ xs.length) (hxl : xs.length < 100) (hq1 : ∀ c mT' ys, l_nm tp mx j many 0 = (0, c) → c ≤ many → 1 ≤ c → TKm tp (j + c) mT' → ys.length = xs.length → (∀ i, i < c → VL tp (j + i) ≤ mx ∧ ys[fr + i]? = some (nI (VL tp (j + i)))) → (∀ i, i < fr → ys[i]? = xs[i]?) → Q (some (.int (nI c))) (pm_h z X Y (pm_l mV (mT') ((mQ.1, mQ.2.1, mQ.2.2.1, mQ.2.2.2.1, mQ.2.2.2.2.1, mQ.2.2.2.2.2.1, mQ.2.2.2.2.2.2.1, mQ.2.2.2.2.2.2.2.1, mQ.2.2.2.2.2.2.2.2.1, mQ.2.2.2.2.2.2.2.2.2.1, mQ.2.2.2.2.2.2.2.2.2.2.1, ys, mQ.2.2.2.2.2.2.2.2.2.2.2.2.1, mQ.2.2.2.2.2.2.2.2.2.2.2.2.2.1, mQ.2.2.2.2.2.2.2.2.2.2.2.2.2.2)) mO mE mB mS mR mW))) (hq0 : ∀ f mT' ys, (l_nm tp mx j many 0).1 = f → ¬ f = 0 → (∃ k, TKm tp k mT') → mT'.2.2.2.2.2.2.2.2 = nI f → ys.length = xs.length → (∀ i, i < fr → ys[i]? = xs[i]?) → Q (some (.int (-1))) (pm_h z X Y (pm_l mV (mT') ((mQ.1, mQ.2.1, mQ.2.2.1, mQ.2.2.2.1, mQ.2.2.2.2.1, mQ.2.2.2.2.2.1, mQ.2.2.2.2.2.2.1, mQ.2.2.2.2.2.2.2.1, mQ.2.2.2.2.2.2.2.2.1, mQ.2.2.2.2.2.2.2.2.2.1, mQ.2.2.2.2.2.2.2.2.2.2.1, ys, mQ.2.2.2.2.2.2.2.2.2.2.2.2.1, mQ.2.2.2.2.2.2.2.2.2.2.2.2.2.1, mQ.2.2.2.2.2.2.2.2.2.2.2.2.2.2)) mO mE mB mS mR mW))) : wm (mp_P fx) (d + 2) 243 [.ref 149, .ref 162, .int (nI fr), .int (nI mx), .int (nI many)] (pm_h z X Y (pm_l mV mT ((mQ.1, mQ.2.1, mQ.2.2.1, mQ.2.2.2.1, mQ.2.2.2.2.1, mQ.2.2.2.2.2.1, mQ.2.2.2.2.2.2.1, mQ.2.2.2.2.2.2.2.1, mQ.2.2.2.2.2.2.2.2.1, mQ.2.2.2.2.2.2.2.2.2.1, mQ.2.2.2.2.2.2.2.2.2.2.1, xs, mQ.2.2.2.2.2.2.2.2.2.2.2.2.1, mQ.2.2.2.2.2.2.2.2.2.2.2.2.2.1, mQ.2.2.2.2.2.2.2.2.2.2.2.2.2.2)) mO mE mB mS mR mW)) Q := by
  have key : ∀ (r t : Nat) (mT' : pm_T) (ys : List Int32), t + r = many → TKm tp (j + t) mT' → ys.length = xs.length → (∀ i, i < t → VL tp (j + i) ≤ mx ∧ ys[fr + i]? = some (nI (VL tp (j + i)))) → (∀ i, i < fr → ys[i]? = xs[i]?) → l_nm tp mx j many 0 = l_nm tp mx j r t → ww (mp_P fx) (d + 2) 243 3 [some (.ref 149), some (.ref 162), some (.int (nI fr)), some (.int (nI mx)), some (.int (nI many)), some (.int (nI t))] [] (pm_h z X Y (pm_l mV (mT') ((mQ.1, mQ.2.1, mQ.2.2.1, mQ.2.2.2.1, mQ.2.2.2.2.1, mQ.2.2.2.2.2.1, mQ.2.2.2.2.2.2.1, mQ.2.2.2.2.2.2.2.1, mQ.2.2.2.2.2.2.2.2.1, mQ.2.2.2.2.2.2.2.2.2.1, mQ.2.2.2.2.2.2.2.2.2.2.1, ys, mQ.2.2.2.2.2.2.2.2.2.2.2.2.1, mQ.2.2.2.2.2.2.2.2.2.2.2.2.2.1, mQ.2.2.2.2.2.2.2.2.2.2.2.2.2.2)) mO mE mB mS mR mW)) Q := by
    intro r
    induction r with
    | zero =>
      intro t mT' ys ht hT' hl hfil hlow hnm
      have hty := TKm_ty hT'
      have htl := TY_le (tp := tp) (i := j + t)
      have ht0 : ¬ t = 0 := by omega
      rw [q243_3]
      simp only [q243_5, q243_8, q243_9, q243_12, q243_13, mc_o, mg_token, mf_token, wx_some, wx_ref, hty]
      rw [if_neg (by rw [nl_0, nI_eq (by omega) (by omega)]; exact ht0)]
      by_cases e2 : TY tp (j + t) = 2
      · have hv := VL_lt e2
        have htd := TKm_told hT' e2
        rw [if_neg (by rw [e2]; exact fun y => y rfl)]
        simp only [q243_16, q243_17, q243_20, q243_21, q243_24, q243_25, q243_26, q243_29, q243_30, q243_33, q243_34, q243_37, q243_38, mc_o, mg_token, mf_token, mg_told, mf_told, wx_some, wx_ref, hty, htd]
        rw [if_pos (by rw [e2]; rfl)]
        by_cases e4 : VL tp (j + t) ≤ mx
        · rw [if_pos (by rw [nI_leI (by omega) (by omega)]; exact e4)]
          simp only [q243_50, q243_52, q243_54, q243_57, q243_58]
          rw [if_neg (by rw [show t = many by omega]; exact fun y => y rfl)]
          simp only [q243_57, q243_58, q243_59, mc_o]
          apply tm_fails (kd := 5) hT'
          intro mT2 h1 h2
          simp only [sl_i, q243_62, q243_63, q243_64, q243_67, q243_68, q243_71, q243_72, q243_75, q243_76, q243_79, q243_81, q243_83, q243_86, q243_87, mc_o, mg_token, mf_token, mg_told, mf_told, wx_some, wx_ref, TKm_ty h1, TKm_told h1 e2]
          rw [if_neg (by rw [e2]; exact fun y => y rfl), if_neg (by rw [nI_ltI (by omega) (by omega)]; omega), if_neg (by rw [show t = many by omega]; exact fun y => y rfl)]
          rw [l_nm, if_pos e2, if_pos e4] at hnm
          exact hq0 _ mT2 ys (by rw [hnm]) (flt_ne (by omega)) ⟨_, h1⟩ h2 hl hlow
        · rw [if_neg (by rw [nI_leI (by omega) (by omega)]; exact e4)]
          simp only [q243_41, q243_42, q243_43, mc_o]
          apply tm_fails (kd := 4) hT'
          intro mT2 h1 h2
          simp only [sl_i, q243_46, q243_47, q243_63, q243_64, q243_67, q243_68, q243_71, q243_72, q243_75, q243_76, q243_79, q243_81, q243_83, q243_86, q243_87, mc_o, mg_token, mf_token, mg_told, mf_told, wx_some, wx_ref, TKm_ty h1, TKm_told h1 e2]
          rw [if_neg (by rw [e2]; exact fun y => y rfl), if_pos (by rw [nI_ltI (by omega) (by omega)]; omega)]
          rw [l_nm_4 e2 e4] at hnm
          exact hq0 _ mT2 ys (by rw [hnm]) (flt_ne (by omega)) ⟨_, h1⟩ h2 hl hlow
      · rw [if_pos (by rw [nl_2, nI_eq (by omega) (by omega)]; exact e2)]
        simp only [q243_108, q243_110]
        rw [l_nm_end e2, if_neg ht0] at hnm
        exact hq1 t mT' ys hnm (by omega) (by omega) hT' hl hfil hlow
    | succ r ih =>
      intro t mT' ys ht hT' hl hfil hlow hnm
      have hty := TKm_ty hT'
      have htl := TY_le (tp := tp) (i := j + t)
      have mid : TY tp (j + t) = 2 ∨ t = 0 → ww (mp_P fx) (d + 2) 243 16 [some (.ref 149), some (.ref 162), some (.int (nI fr)), some (.int (nI mx)), some (.int (nI many)), some (.int (nI t))] [] (pm_h z X Y (pm_l mV (mT') ((mQ.1, mQ.2.1, mQ.2.2.1, mQ.2.2.2.1, mQ.2.2.2.2.1, mQ.2.2.2.2.2.1, mQ.2.2.2.2.2.2.1, mQ.2.2.2.2.2.2.2.1, mQ.2.2.2.2.2.2.2.2.1, mQ.2.2.2.2.2.2.2.2.2.1, mQ.2.2.2.2.2.2.2.2.2.2.1, ys, mQ.2.2.2.2.2.2.2.2.2.2.2.2.1, mQ.2.2.2.2.2.2.2.2.2.2.2.2.2.1, mQ.2.2.2.2.2.2.2.2.2.2.2.2.2.2)) mO mE mB mS mR mW)) Q := by
        intro hor
        by_cases e2 : TY tp (j + t) = 2
        · have hv := VL_lt e2
          have htd := TKm_told hT' e2
          simp only [q243_16, q243_17, q243_20, q243_21, q243_24, q243_25, q243_26, q243_29, q243_30, q243_33, q243_34, q243_37, q243_38, mc_o, mg_token, mf_token, mg_told, mf_told, wx_some, wx_ref, hty, htd]
          rw [if_pos (by rw [e2]; rfl)]
          by_cases e4 : VL tp (j + t) ≤ mx
          · rw [if_pos (by rw [nI_leI (by omega) (by omega)]; exact e4)]
            simp only [q243_50, q243_52, q243_54]
            rw [if_pos (by rw [nI_eq (by omega) (by omega)]; omega)]
            simp only [q243_63, q243_64, q243_67, q243_68, q243_71, q243_72, q243_75, q243_76, q243_79, q243_81, q243_83, q243_88, q243_89, q243_90, q243_92, q243_93, q243_94, q243_97, q243_98i, q243_101, mc_o, mg_token, mf_token, mg_told, mf_told, mg_gusts, ma_gusts, mb_gusts, mn_gusts, wx_some, wx_ref, isl_i, isl_r, isl_n, hty, htd, nI_add, nI_1, aS_n (show fr + t < ys.length by omega) (show ys.length < 2 ^ 31 by omega)]
            rw [if_neg (by rw [e2]; exact fun y => y rfl), if_neg (by rw [nI_ltI (by omega) (by omega)]; omega), if_pos (by rw [nI_eq (by omega) (by omega)]; omega)]
            simp only [q243_102, mc_o]
            apply tm_nx hT'
            intro mT2 h1 h2
            simp only [sl_n, q243_105]
            rw [l_nm, if_pos e2, if_pos e4] at hnm
            refine ih (t + 1) mT2 _ (by omega) h1 (by rw [List.length_set]; exact hl) (fun i hi => ?_) (fun i hi => ?_) hnm
            · by_cases e : i = t
              · subst e; exact ⟨e4, List.getElem?_set_self (by omega)⟩
              · rw [List.getElem?_set_ne (by omega)]; exact hfil i (by omega)
            · rw [List.getElem?_set_ne (by omega)]; exact hlow i hi
          · rw [if_neg (by rw [nI_leI (by omega) (by omega)]; exact e4)]
            simp only [q243_41, q243_42, q243_43, mc_o]
            apply tm_fails (kd := 4) hT'
            intro mT2 h1 h2
            simp only [sl_i, q243_46, q243_47, q243_63, q243_64, q243_67, q243_68, q243_71, q243_72, q243_75, q243_76, q243_79, q243_81, q243_83, q243_86, q243_87, mc_o, mg_token, mf_token, mg_told, mf_told, wx_some, wx_ref, TKm_ty h1, TKm_told h1 e2]
            rw [if_neg (by rw [e2]; exact fun y => y rfl), if_pos (by rw [nI_ltI (by omega) (by omega)]; omega)]
            rw [l_nm_4 e2 e4] at hnm
            exact hq0 _ mT2 ys (by rw [hnm]) (flt_ne (by omega)) ⟨_, h1⟩ h2 hl hlow
        · have ht0 : t = 0 := hor.resolve_left e2
          simp only [q243_16, q243_17, q243_20, q243_21, q243_24, q243_25, mc_o, mg_token, mf_token, wx_some, wx_ref, hty]
          rw [if_neg (by rw [nl_2, nI_eq (by omega) (by omega)]; exact e2)]
          simp only [q243_26, mc_o]
          apply tm_fails (kd := 1) hT'
          intro mT2 h1 h2
          simp only [sl_i, q243_29, q243_30, q243_63, q243_64, q243_67, q243_68, q243_86, q243_87, mc_o, mg_token, mf_token, wx_some, wx_ref, TKm_ty h1]
          rw [if_pos (by rw [nl_2, nI_eq (by omega) (by omega)]; exact e2)]
          rw [l_nm_end e2, if_pos ht0] at hnm
          exact hq0 _ mT2 ys (by rw [hnm]) (flt_ne (by omega)) ⟨_, h1⟩ h2 hl hlow
      rw [q243_3]
      simp only [q243_5, q243_8, q243_9, q243_12, q243_13, mc_o, mg_token, mf_token, wx_some, wx_ref, hty]
      by_cases ht0 : t = 0
      · rw [if_pos (by rw [ht0]; rfl)]
        exact mid (Or.inr ht0)
      · rw [if_neg (by rw [nl_0, nI_eq (by omega) (by omega)]; exact ht0)]
        by_cases e2 : TY tp (j + t) = 2
        · rw [if_neg (by rw [e2]; exact fun y => y rfl)]
          exact mid (Or.inl e2)
        · rw [if_pos (by rw [nl_2, nI_eq (by omega) (by omega)]; exact e2)]
          simp only [q243_108, q243_110]
          rw [l_nm_end e2, if_neg ht0] at hnm
          exact hq1 t mT' ys hnm (by omega) (by omega) hT' hl hfil hlow
  simp only [e243, q243_0, q243_1i, isl_i, isl_r, isl_n]
  exact key many 0 mT xs (by omega) hT rfl (fun i hi => by omega) (fun i hi => rfl) rfl
theorem tm_readsGusts (h : OKm tp k o a mV mT mQ) (hq1 : ∀ j o' mV' mT' mQ', sp_cl tp (l_gust tp k o) = (0, j, o') → OKm tp j o' a mV' mT' mQ' → Q (some (.int 1)) (pm_h z X Y (pm_l (mV') (mT') (mQ') mO mE mB mS mR mW))) (hq0 : ∀ f mV' mT' mQ', (sp_cl tp (l_gust tp k o)).1 = f → BDm tp f a mT' mQ' → Q (some (.int 0)) (pm_h z X Y (pm_l (mV') (mT') (mQ') mO mE mB mS mR mW))) : wm (mp_P fx) (d + 3) 244 [.ref 149] (pm_h z X Y (pm_l mV mT mQ mO mE mB mS mR mW)) Q := by
  obtain ⟨hT, ⟨hl, hs, hN, hy, hL⟩, hP, hR, hc⟩ := id h
  obtain ⟨ho, hnm, -, hsl⟩ := id hP
  have h6 := ho.1.2.2.2.2
  obtain ⟨q1, q2, q3, q4, q5, q6, q7, q8, q9, q10, q11, q12, -⟩ := id hl
  have g11 : aG (mQ.1) 11 = some (nI (k_nG o.1)) := aG_n hs.1.2.2.2.2 (by omega)
  simp only [e244, b244_0, b244_1, bn_0 b244_0, bn_1 b244_1, q244_0, q244_1, q244_4, q244_6, q244_7, q244_10, q244_11, mc_o, mg_square, ma_square, mb_square, mn_square, wx_some, wx_ref, isl_i, isl_r, isl_n, g11]
  by_cases e0 : 0 < k_nG o.1
  · have hb : (l_gust tp k o).1 = flt tp 3 k := by unfold l_gust; rw [if_pos e0]
    rw [if_neg (nI_nle e0 (by omega))]
    simp only [b244_0, b244_1, bn_0 b244_0, bn_1 b244_1, q244_12, mc_o]
    apply tm_fails (kd := 3) hT
    intro mT' h1 h2
    simp only [sl_i, b244_0, b244_1, bn_0 b244_0, bn_1 b244_1, q244_15]
    exact hq0 _ mV mT' mQ (sp_cl_bad hb (flt_ne (by omega))) ⟨flt_ne (by omega), h2, hl, hR, k, h1⟩
  rw [if_pos (by rw [show k_nG o.1 = 0 by omega]; decide)]
  simp only [b244_0, b244_1, bn_0 b244_0, bn_1 b244_1, q244_16, q244_17, mc_o]
  apply tm_nx hT
  intro mT1 hT1 _
  simp only [sl_n, b244_0, b244_1, bn_0 b244_0, bn_1 b244_1, q244_20, q244_21, q244_22, q244_25, q244_27, q244_29, mc_o, mg_gusts, ma_gusts, mb_gusts, mn_gusts, wx_some, wx_ref]
  simp only [b244_0, b244_1, bn_0 b244_0, bn_1 b244_1, q244_31, mc_o]
  apply tm_num_gusts (mQ := mQ) (xs := mQ.2.2.2.2.2.2.2.2.2.2.2.1) (fr := 8) (many := 8) (mx := 10) hT1 (by omega) (by omega) (by omega) (by omega)
  · intro c mT' ys a1 a2 a3 hT' a4 a5 a6
    simp only [sl_i, b244_0, b244_1, bn_0 b244_0, bn_1 b244_1, q244_34r, q244_35, q244_36, q244_39, q244_40, q244_41, q244_42, q244_45, q244_47, q244_48, q244_49, mc_o, mg_square, ma_square, mb_square, mn_square, wx_some, wx_ref, isl_i, isl_r, isl_n, show ∀ (x : Int32) (f : List Int32 → mm_H), aS (mQ.1) 11 x f = some (f ((mQ.1).set 11 x)) from fun x f => aS_n (j := 11) (by omega) (by omega)]
    rw [if_pos (by rw [nl_0, nI_leI (by omega) (by omega)]; omega)]
    simp only [b244_0, b244_1, bn_0 b244_0, bn_1 b244_1, q244_50, mc_o]
    have hr : l_gust tp k o = (0, k + 1 + c, setG o c (fun t => VL tp (k + 1 + t))) := by unfold l_gust; rw [if_neg e0, a1, if_pos rfl]
    have hO : OKm tp (k + 1 + c) (setG o c (fun t => VL tp (k + 1 + t))) a mV mT' ((mQ.1).set 11 (nI c), mQ.2.1, mQ.2.2.1, mQ.2.2.2.1, mQ.2.2.2.2.1, mQ.2.2.2.2.2.1, mQ.2.2.2.2.2.2.1, mQ.2.2.2.2.2.2.2.1, mQ.2.2.2.2.2.2.2.2.1, mQ.2.2.2.2.2.2.2.2.2.1, mQ.2.2.2.2.2.2.2.2.2.2.1, ys, mQ.2.2.2.2.2.2.2.2.2.2.2.2.1, mQ.2.2.2.2.2.2.2.2.2.2.2.2.2.1, mQ.2.2.2.2.2.2.2.2.2.2.2.2.2.2) :=
      ⟨hT', ⟨⟨by show (List.set _ _ _).length = 12; rw [List.length_set]; exact q1, q2, q3, q4, q5, q6, q7, q8, q9, q10, q11, a4.trans q12, hl.2.2.2.2.2.2.2.2.2.2.2.2⟩, ⟨⟨(List.getElem?_set_ne (by omega)).trans hs.1.1, (List.getElem?_set_ne (by omega)).trans hs.1.2.1, (List.getElem?_set_ne (by omega)).trans hs.1.2.2.1, (List.getElem?_set_ne (by omega)).trans hs.1.2.2.2.1, List.getElem?_set_self (by omega)⟩, hs.2.1, hs.2.2.1, hs.2.2.2.1, fun i hi => (a5 i hi).2⟩, hN, (List.getElem?_set_ne (by omega)).trans hy, hL⟩, ok_setG hP a2 (fun i hi => (a5 i hi).1), ⟨fun i hi => (List.getElem?_set_ne (by omega)).trans (hR.1 i hi), hR.2.1, hR.2.2.1, hR.2.2.2.1, hR.2.2.2.2.1, hR.2.2.2.2.2.1, hR.2.2.2.2.2.2.1, hR.2.2.2.2.2.2.2.1, hR.2.2.2.2.2.2.2.2.1, hR.2.2.2.2.2.2.2.2.2.1, hR.2.2.2.2.2.2.2.2.2.2.1, fun i hi => (a6 i hi).trans (hR.2.2.2.2.2.2.2.2.2.2.2.1 i hi), hR.2.2.2.2.2.2.2.2.2.2.2.2⟩, hc⟩
    apply tm_clo hr hO
    · intro mT2 b1 b2
      simp only [sl_i, b244_0, b244_1, bn_0 b244_0, bn_1 b244_1, q244_53]
      exact hq1 _ _ _ mT2 _ b1 b2
    · intro mT2 f b1 b2
      simp only [sl_i, b244_0, b244_1, bn_0 b244_0, bn_1 b244_1, q244_53]
      exact hq0 f _ mT2 _ b1 b2
  · intro f mT' ys a1 a2 a3 a4 a5 a6
    obtain ⟨k2, a3⟩ := a3
    simp only [sl_i, b244_0, b244_1, bn_0 b244_0, bn_1 b244_1, q244_34r, q244_35, q244_36, q244_39, q244_40, isl_i, isl_r, isl_n]
    rw [if_neg (by decide)]
    refine hq0 f mV mT' (mQ.1, mQ.2.1, mQ.2.2.1, mQ.2.2.2.1, mQ.2.2.2.2.1, mQ.2.2.2.2.2.1, mQ.2.2.2.2.2.2.1, mQ.2.2.2.2.2.2.2.1, mQ.2.2.2.2.2.2.2.2.1, mQ.2.2.2.2.2.2.2.2.2.1, mQ.2.2.2.2.2.2.2.2.2.2.1, ys, mQ.2.2.2.2.2.2.2.2.2.2.2.2.1, mQ.2.2.2.2.2.2.2.2.2.2.2.2.2.1, mQ.2.2.2.2.2.2.2.2.2.2.2.2.2.2) (sp_cl_bad ?_ a2) ⟨a2, a4, ⟨q1, q2, q3, q4, q5, q6, q7, q8, q9, q10, q11, a5.trans q12, hl.2.2.2.2.2.2.2.2.2.2.2.2⟩, ⟨hR.1, hR.2.1, hR.2.2.1, hR.2.2.2.1, hR.2.2.2.2.1, hR.2.2.2.2.2.1, hR.2.2.2.2.2.2.1, hR.2.2.2.2.2.2.2.1, hR.2.2.2.2.2.2.2.2.1, hR.2.2.2.2.2.2.2.2.2.1, hR.2.2.2.2.2.2.2.2.2.2.1, fun i hi => (a6 i hi).trans (hR.2.2.2.2.2.2.2.2.2.2.2.1 i hi), hR.2.2.2.2.2.2.2.2.2.2.2.2⟩, k2, a3⟩
    unfold l_gust; rw [if_neg e0, if_neg (by rw [a1]; exact a2)]; exact a1
theorem rl_inj {a b c a' b' c' : Nat} (h1 : b < 6) (h2 : c < 6) (h3 : b' < 6) (h4 : c' < 6) : 36 * a + 6 * b + c = 36 * a' + 6 * b' + c' ↔ a = a' ∧ b = b' ∧ c = c' := by omega
theorem tm_readsRule (h : OKm tp k o a mV mT mQ) (hq1 : ∀ j o' mV' mT' mQ', sp_cl tp (l_rule tp k o) = (0, j, o') → OKm tp j o' a mV' mT' mQ' → Q (some (.int 1)) (pm_h z X Y (pm_l (mV') (mT') (mQ') mO mE mB mS mR mW))) (hq0 : ∀ f mV' mT' mQ', (sp_cl tp (l_rule tp k o)).1 = f → BDm tp f a mT' mQ' → Q (some (.int 0)) (pm_h z X Y (pm_l (mV') (mT') (mQ') mO mE mB mS mR mW))) : wm (mp_P fx) (d + 3) 238 [.ref 149] (pm_h z X Y (pm_l mV mT mQ mO mE mB mS mR mW)) Q := by
  obtain ⟨hT, ⟨hl, hs, hN, hy, hL⟩, hP, hR, hc⟩ := id h
  obtain ⟨ho, hnm, -, -⟩ := id hP
  have h6 := ho.1.2.2.1
  have h61 := ho.1.1
  obtain ⟨q1, q2, q3, q4, q5, q6, -⟩ := id hl
  have g8 : aG (mQ.1) 8 = some (nI (k_nR o.1)) := aG_n hs.1.2.2.1 (by omega)
  simp only [e238, b238_0, b238_1, bn_0 b238_0, bn_1 b238_1, q238_0, q238_2, q238_3, q238_6, q238_8, q238_9, q238_10r, q238_11, q238_12, q238_14, q238_17, q238_18, mc_o, mg_square, ma_square, mb_square, mn_square, wx_some, wx_ref, isl_i, isl_r, isl_n, g8, show (12 : Int32) + nI (k_nR o.1) = nI (12 + k_nR o.1) from nI_add 12 _]
  by_cases e6 : 12 ≤ k_nR o.1
  · have hb : (l_rule tp k o).1 = flt tp 5 k := by unfold l_rule; rw [if_pos e6]
    rw [if_neg (by rw [show k_nR o.1 = 12 by omega]; exact fun y => y rfl)]
    simp only [b238_0, b238_1, bn_0 b238_0, bn_1 b238_1, q238_19, mc_o]
    apply tm_fails (kd := 5) hT
    intro mT' h1 h2
    simp only [sl_i, b238_0, b238_1, bn_0 b238_0, bn_1 b238_1, q238_22]
    exact hq0 _ mV mT' mQ (sp_cl_bad hb (flt_ne (by omega))) ⟨flt_ne (by omega), h2, hl, hR, k, h1⟩
  rw [if_pos (by rw [show (24 : Int32) = nI 24 from rfl, nI_eq (by omega) (by omega)]; omega)]
  simp only [b238_0, b238_1, bn_0 b238_0, bn_1 b238_1, q238_23, q238_24, mc_o]
  apply tm_nx hT
  intro mT1 hT1 _
  simp only [sl_n, b238_0, b238_1, bn_0 b238_0, bn_1 b238_1, q238_27, q238_28, mc_o]
  apply tm_passesSort hT1 hl hs ho hN hnm
  rotate_left
  · intro mT' g f a1 a2 a3 a4
    simp only [sl_i, b238_0, b238_1, bn_0 b238_0, bn_1 b238_1, q238_31, q238_34, q238_35]
    rw [if_neg (by decide)]
    refine hq0 f _ mT' mQ (sp_cl_bad ?_ a2) ⟨a2, a4, hl, hR, _, a3⟩
    unfold l_rule; rw [if_neg e6, if_neg (by rw [a1]; exact a2)]; exact a1
  intro y1 va mT2 y2 hva hT2
  simp only [sl_i, b238_0, b238_1, bn_0 b238_0, bn_1 b238_1, q238_31, b238_0, b238_1, bn_0 b238_0, bn_1 b238_1, q238_36, q238_38, q238_39, q238_42, q238_43i, q238_44, q238_45, mc_o, mg_given, mf_given, wx_some, wx_ref, isl_i, isl_r, isl_n, show (36 : Int32) = nI 36 from rfl, pk_mul]
  rw [if_pos (by decide)]
  simp only [b238_0, b238_1, bn_0 b238_0, bn_1 b238_1, q238_48, mc_o]
  apply tm_needsWord (w := 4) (by omega) (by decide) hT2
  rotate_left
  · intro y3 mT3 hT3 h3
    simp only [sl_i, b238_0, b238_1, bn_0 b238_0, bn_1 b238_1, q238_51, b238_0, b238_1, bn_0 b238_0, bn_1 b238_1, q238_61, q238_62]
    rw [if_pos (by decide)]
    refine hq0 _ _ mT3 mQ (sp_cl_bad ?_ (flt_ne (by omega))) ⟨flt_ne (by omega), h3, hl, hR, _, hT3⟩
    unfold l_rule; rw [if_neg e6, y2, if_pos rfl, if_neg (fun e => y3 (wdB_t.mp e))]
  intro y3 mT3 hT3
  simp only [sl_i, b238_0, b238_1, bn_0 b238_0, bn_1 b238_1, q238_51, q238_54, q238_55, mc_o]
  rw [if_neg (by decide)]
  apply tm_passesSort hT3 hl hs ho hN hnm
  rotate_left
  · intro mT' g f a1 a2 a3 a4
    simp only [sl_i, b238_0, b238_1, bn_0 b238_0, bn_1 b238_1, q238_58, q238_61, q238_62]
    rw [if_neg (by decide)]
    refine hq0 f _ mT' mQ (sp_cl_bad ?_ a2) ⟨a2, a4, hl, hR, _, a3⟩
    unfold l_rule; rw [if_neg e6, y2, if_pos rfl, if_pos (wdB_t.mpr y3), if_neg (by rw [a1]; exact a2)]; exact a1
  intro y4 vb mT4 y5 hvb hT4
  simp only [sl_i, b238_0, b238_1, bn_0 b238_0, bn_1 b238_1, q238_58, b238_0, b238_1, bn_0 b238_0, bn_1 b238_1, q238_63, q238_64, q238_66, q238_67, q238_70, q238_71, q238_72i, q238_73, q238_74, mc_o, mg_given, mf_given, wx_some, wx_ref, isl_i, isl_r, isl_n, nl_6, pk_mul, nI_add]
  rw [if_pos (by decide)]
  apply tm_needsSort hT4 hl hs ho hN hnm
  rotate_left
  · intro mT' g f a1 a2 a3 a4
    simp only [sl_i, b238_0, b238_1, bn_0 b238_0, bn_1 b238_1, q238_77, q238_80, q238_81]
    rw [if_neg (by decide)]
    refine hq0 f _ mT' mQ (sp_cl_bad ?_ a2) ⟨a2, a4, hl, hR, _, a3⟩
    unfold l_rule; rw [if_neg e6, y2, if_pos rfl, if_pos (wdB_t.mpr y3), y5, if_pos rfl, if_neg (by rw [a1]; exact a2)]; exact a1
  intro y6 vc y7 hvc
  simp only [sl_i, b238_0, b238_1, bn_0 b238_0, bn_1 b238_1, q238_77, b238_0, b238_1, bn_0 b238_0, bn_1 b238_1, q238_82, q238_83, q238_84, q238_87, q238_88i, q238_89, q238_91i, mc_o, mg_given, mf_given, wx_some, wx_ref, isl_i, isl_r, isl_n, nI_add]
  rw [if_pos (by decide)]
  have hlr : l_rule tp k o = if hasR o.1 va vb vc = true then (flt tp 3 (k + 4), k, o) else (0, k + 5, addR o va vb vc) := by
    unfold l_rule; rw [if_neg e6, y2, if_pos rfl, if_pos (wdB_t.mpr y3), y5, if_pos rfl, y7, if_pos rfl]
  have hB : ∀ r, r < k_nR o.1 → ((decide (k_rm o.1 r = va) && (decide (k_rf o.1 r = vb) && decide (k_rs o.1 r = vc))) = true ↔ 36 * k_rm o.1 r + 6 * k_rf o.1 r + k_rs o.1 r = 36 * va + 6 * vb + vc) := fun r hr => by
    obtain ⟨b1, b2, b3⟩ := ho.2.2.1 r hr
    rw [rl_inj (by omega) (by omega) (by omega) (by omega), Bool.and_eq_true, Bool.and_eq_true, decide_eq_true_eq, decide_eq_true_eq, decide_eq_true_eq]
  have key : ∀ (t r : Nat), r + t = k_nR o.1 → (∀ j, j < r → (decide (k_rm o.1 j = va) && (decide (k_rf o.1 j = vb) && decide (k_rs o.1 j = vc))) = false) → ww (mp_P fx) (d + 3) 238 92 [some (.ref 149), some (.int (nI (12 + k_nR o.1))), some (.int (nI (36 * va + 6 * vb + vc))), some (.int (nI (12 + r)))] [] (pm_h z X Y (pm_l ((mV.1, nI vc, mV.2.2.1, mV.2.2.2)) (mT4) mQ mO mE mB mS mR mW)) Q := by
    intro t
    induction t with
    | zero =>
      intro r hr hno
      have hh : hasR o.1 va vb vc = false := by unfold hasR; rw [ffl_none _ (fun j hj => hno j (by omega))]; rfl
      rw [hh, if_neg Bool.false_ne_true] at hlr
      rw [q238_92]
      simp only [b238_0, b238_1, bn_0 b238_0, bn_1 b238_1, q238_93, q238_94, b238_0, b238_1, bn_0 b238_0, bn_1 b238_1, q238_119, q238_120, q238_123, q238_124, q238_125, q238_126, q238_127, q238_130, q238_132, q238_133, q238_134, q238_135, q238_136, q238_137, mc_o, mg_square, ma_square, mb_square, mn_square, mg_rules, ma_rules, mb_rules, mn_rules, wx_some, wx_ref, g8, nI_1, aS_n (show 12 + k_nR o.1 < (mQ.2.2.2.2.2.1).length by omega) (show (mQ.2.2.2.2.2.1).length < 2 ^ 31 by omega), show ∀ (x : Int32) (f : List Int32 → mm_H), aS (mQ.1) 8 x f = some (f ((mQ.1).set 8 x)) from fun x f => aS_n (j := 8) (by omega) (by omega)]
      rw [if_pos (by rw [nI_leI (by omega) (by omega)]; omega)]
      simp only [b238_0, b238_1, bn_0 b238_0, bn_1 b238_1, q238_138, mc_o]
      apply tm_nx hT4
      intro mT5 hT5 _
      simp only [sl_n, b238_0, b238_1, bn_0 b238_0, bn_1 b238_1, q238_141, q238_142, mc_o]
      have hO : OKm tp (k + 5) (addR o va vb vc) a (mV.1, nI vc, mV.2.2.1, mV.2.2.2) mT5 ((mQ.1).set 8 (nI (k_nR o.1 + 1)), mQ.2.1, mQ.2.2.1, mQ.2.2.2.1, mQ.2.2.2.2.1, (mQ.2.2.2.2.2.1).set (12 + k_nR o.1) (nI (36 * va + 6 * vb + vc)), mQ.2.2.2.2.2.2.1, mQ.2.2.2.2.2.2.2.1, mQ.2.2.2.2.2.2.2.2.1, mQ.2.2.2.2.2.2.2.2.2.1, mQ.2.2.2.2.2.2.2.2.2.2.1, mQ.2.2.2.2.2.2.2.2.2.2.2.1, mQ.2.2.2.2.2.2.2.2.2.2.2.2.1, mQ.2.2.2.2.2.2.2.2.2.2.2.2.2.1, mQ.2.2.2.2.2.2.2.2.2.2.2.2.2.2) := by
        refine ⟨hT5, ⟨⟨by show (List.set _ _ _).length = 12; rw [List.length_set]; exact q1, q2, q3, q4, q5, by show (List.set _ _ _).length = 24; rw [List.length_set]; exact q6, hl.2.2.2.2.2.2⟩, ⟨⟨(List.getElem?_set_ne (by omega)).trans hs.1.1, (List.getElem?_set_ne (by omega)).trans hs.1.2.1, List.getElem?_set_self (by omega), (List.getElem?_set_ne (by omega)).trans hs.1.2.2.2.1, (List.getElem?_set_ne (by omega)).trans hs.1.2.2.2.2⟩, hs.2.1, fun i hi => ?_, hs.2.2.2⟩, hN, (List.getElem?_set_ne (by omega)).trans hy, hL⟩, ok_addR hP (by omega) hva hvb hvc, ⟨fun i hi => (List.getElem?_set_ne (by omega)).trans (hR.1 i hi), hR.2.1, hR.2.2.1, hR.2.2.2.1, hR.2.2.2.2.1, fun i hi => (List.getElem?_set_ne (by omega)).trans (hR.2.2.2.2.2.1 i hi), hR.2.2.2.2.2.2⟩, hc⟩
        show ((mQ.2.2.2.2.2.1).set (12 + k_nR o.1) (nI (36 * va + 6 * vb + vc)))[12 + i]? = some (nI (36 * up (k_rm o.1) (k_nR o.1) va i + 6 * up (k_rf o.1) (k_nR o.1) vb i + up (k_rs o.1) (k_nR o.1) vc i))
        by_cases e : i = k_nR o.1
        · subst e; rw [up_eq, up_eq, up_eq, List.getElem?_set_self (by omega)]
        · rw [up_ne e, up_ne e, up_ne e, List.getElem?_set_ne (by omega)]; exact hs.2.2.1 i (by have : i < k_nR o.1 + 1 := hi; omega)
      apply tm_clo hlr hO
      · intro mT' b1 b2
        simp only [sl_i, b238_0, b238_1, bn_0 b238_0, bn_1 b238_1, q238_145]
        exact hq1 _ _ _ mT' _ b1 b2
      · intro mT' f b1 b2
        simp only [sl_i, b238_0, b238_1, bn_0 b238_0, bn_1 b238_1, q238_145]
        exact hq0 f _ mT' _ b1 b2
    | succ t ih =>
      intro r hr hno
      have hr' : r < k_nR o.1 := by omega
      obtain ⟨b1, b2, b3⟩ := ho.2.2.1 r hr'
      rw [q238_92]
      simp only [b238_0, b238_1, bn_0 b238_0, bn_1 b238_1, q238_93, q238_94, q238_97, q238_98, q238_101, q238_102, q238_103, q238_104, q238_107, q238_108, b238_0, b238_1, bn_0 b238_0, bn_1 b238_1, q238_113i, q238_116, mc_o, mg_rules, ma_rules, mb_rules, mn_rules, wx_some, wx_ref, isl_i, isl_r, isl_n, aG_n (hs.2.2.1 r hr') (show (mQ.2.2.2.2.2.1).length < 2 ^ 31 by omega), nI_1]
      rw [if_neg (by rw [nI_leI (by omega) (by omega)]; omega)]
      by_cases e : 36 * k_rm o.1 r + 6 * k_rf o.1 r + k_rs o.1 r = 36 * va + 6 * vb + vc
      · have hh : hasR o.1 va vb vc = true := by unfold hasR; rw [ffl_at hno ((hB r hr').mpr e) _ hr']; rfl
        rw [hh, if_pos rfl] at hlr
        rw [if_neg (by rw [e]; exact fun y => y rfl)]
        simp only [b238_0, b238_1, bn_0 b238_0, bn_1 b238_1, q238_109, mc_o]
        apply tm_fails (kd := 3) hT4
        intro mT' h1 h2
        simp only [sl_i, b238_0, b238_1, bn_0 b238_0, bn_1 b238_1, q238_112]
        exact hq0 _ _ mT' mQ (sp_cl_bad (by rw [hlr]) (flt_ne (by omega))) ⟨flt_ne (by omega), h2, hl, hR, _, h1⟩
      · rw [if_pos (by rw [nI_eq (by omega) (by omega)]; exact e)]
        exact ih (r + 1) (by omega) (fun j hj => by
          by_cases ej : j = r
          · subst ej; exact Bool.eq_false_iff.mpr (fun y => e ((hB j hr').mp y))
          · exact hno j (by omega))
  exact key (k_nR o.1) 0 (by omega) (fun j hj => by omega)
end MLJ
