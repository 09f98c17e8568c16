/-! what is told becomes the square: the model -/
section GZC
variable {fx : List Value → mm_H → Option (List Value × mm_H)} {z : Nat} {X Y : Nat → mm_C} {mV : pm_V} {mT : pm_T} {mQ : pm_Q} {mO : pm_O} {mE : pm_E} {mB : pm_B} {mS : pm_S} {mR : pm_R} {mW : pm_W} {m_thrown : Int32} {m_given : Int32} {m_fresh : Int64} {m_code : Int32} {m_taped : Int32} {m_tape : List Int32} {m_size : Int32} {m_place : Int32} {m_begin : Int32} {m_token : Int32} {m_word : Int64} {m_told : Int32} {m_wrong : Int32} {m_square : List Int32} {m_sortName : List Int64} {m_colourName : List Int64} {m_walkerName : List Int64} {m_sortOf : List Int32} {m_rules : List Int32} {m_kind : List Int32} {m_colour : List Int32} {m_atTold : List Int32} {m_goesMany : List Int32} {m_goes : List Int32} {m_gusts : List Int32} {m_lineFrom : List Int32} {m_lineTo : List Int32} {m_codes : List Int32} {m_opened : List Int32} {m_compared : List Int32} {m_kept : List Int32} {m_keptBy : List Int32} {m_ahead : List Int32} {m_against : List Int32} {m_sum : List Int32} {m_sumBy : List Int32} {m_term : List Int32} {m_termBy : List Int32} {m_byNot : List Int32} {m_valueOf : List Int32} {m_lines : List Int32} {m_lineWhat : List Int32} {m_lineA : List Int32} {m_lineB : List Int32} {m_wishes : List Int32} {m_wishOf : List Int32} {m_seens : List Int32} {m_seenAt : List Int32} {m_seenIn : List Int32} {m_seenThere : List Int32} {m_s : List Int32} {m_aside : List Int32} {m_before : List Int32} {m_marked : List Int32} {m_undone : List Int32} {m_isLaid : List Int32} {m_done : Int32} {m_gustNow : Int32} {m_shown : List Int32} {m_shownMany : Int32} {m_from7 : List Int32} {m_long7 : List Int32} {m_sentences : Int32} {m_text7 : List Int32} {m_textMany : Int32} {m_waysOf : List Int32} {m_rowOf : List Int32} {m_row : List Int32} {m_bestRow : List Int32} {m_leastSteps : Int32} {m_steps10 : List Int32} {m_placeIn : List Int32} {m_g : Int64}
variable {d : Nat} {Q : Option Value → mm_H → Prop} {o : PS}
theorem tm_shift_square (hl : (mQ.1).length = 2 * 6) (hq : ∀ ys : List Int32, ys.length = 2 * 6 → (∀ i : Nat, i < 6 → ys[i]? = (mQ.1)[6 + i]?) → Q none (pm_h z X Y (pm_l mV mT ((ys, mQ.2.1, mQ.2.2.1, mQ.2.2.2.1, mQ.2.2.2.2.1, mQ.2.2.2.2.2.1, mQ.2.2.2.2.2.2.1, mQ.2.2.2.2.2.2.2.1, mQ.2.2.2.2.2.2.2.2.1, mQ.2.2.2.2.2.2.2.2.2.1, mQ.2.2.2.2.2.2.2.2.2.2.1, mQ.2.2.2.2.2.2.2.2.2.2.2.1, mQ.2.2.2.2.2.2.2.2.2.2.2.2.1, mQ.2.2.2.2.2.2.2.2.2.2.2.2.2.1, mQ.2.2.2.2.2.2.2.2.2.2.2.2.2.2)) mO mE mB mS mR mW))) : wm (mp_P fx) d 250 [.ref 151, .int (nI 6)] (pm_h z X Y (pm_l mV mT mQ mO mE mB mS mR mW)) Q := by
  have key : ∀ (r j : Nat) (ys : List Int32), j + r = 6 → ys.length = 2 * 6 → (∀ i : Nat, i < j → ys[i]? = (mQ.1)[6 + i]?) → (∀ i : Nat, j ≤ i → ys[i]? = (mQ.1)[i]?) → ww (mp_P fx) d 250 2 [some (.ref 151), some (.int (nI 6)), some (.int (nI j))] [] (pm_h z X Y (pm_l mV mT ((ys, mQ.2.1, mQ.2.2.1, mQ.2.2.2.1, mQ.2.2.2.2.1, mQ.2.2.2.2.2.1, mQ.2.2.2.2.2.2.1, mQ.2.2.2.2.2.2.2.1, mQ.2.2.2.2.2.2.2.2.1, mQ.2.2.2.2.2.2.2.2.2.1, mQ.2.2.2.2.2.2.2.2.2.2.1, mQ.2.2.2.2.2.2.2.2.2.2.2.1, mQ.2.2.2.2.2.2.2.2.2.2.2.2.1, mQ.2.2.2.2.2.2.2.2.2.2.2.2.2.1, mQ.2.2.2.2.2.2.2.2.2.2.2.2.2.2)) mO mE mB mS mR mW)) Q := by
    intro r
    induction r with
    | zero =>
      intro j ys hj hy h1 h2
      rw [q250_2]
      simp only [q250_3, q250_4]
      rw [if_pos (by rw [nI_leI (by omega) (by omega)]; omega)]
      simp only [q250_21]
      exact hq ys hy (fun i hi => h1 i (by omega))
    | succ r ih =>
      intro j ys hj hy h1 h2
      have hv : ys[6 + j]? = some (ys[6 + j]'(by omega)) := List.getElem?_eq_getElem _
      have hv2 := h2 (6 + j) (by omega)
      rw [q250_2]
      simp only [q250_3, q250_4]
      rw [if_neg (by rw [nI_leI (by omega) (by omega)]; omega)]
      simp only [q250_7, q250_8, q250_9, q250_10, q250_11, q250_12, q250_13, q250_14, q250_15i, q250_18, mc_o, mg_square, ma_square, mb_square, mn_square, wx_some, wx_ref, isl_i, isl_r, isl_n, nI_1, nI_add 6 j, aG_n hv (show ys.length < 2 ^ 31 by omega), aS_n (show j < ys.length by omega) (show ys.length < 2 ^ 31 by omega)]
      refine ih (j + 1) (ys.set j _) (by omega) (by rw [List.length_set]; exact hy) (fun i hi => ?_) (fun i hi => (List.getElem?_set_ne (by omega)).trans (h2 i (by omega)))
      by_cases e : i = j
      · rw [e, List.getElem?_set_self (by omega), ← hv]; exact hv2
      · exact (List.getElem?_set_ne (by omega)).trans (h1 i (by omega))
  simp only [e250, q250_0, q250_1i, isl_i, isl_r, isl_n]
  exact key 6 0 (mQ.1) (by omega) hl (fun i hi => absurd hi (Nat.not_lt_zero _)) (fun _ _ => rfl)
theorem tm_shift_sortName (hl : (mQ.2.1).length = 2 * 6) (hq : ∀ ys : List Int64, ys.length = 2 * 6 → (∀ i : Nat, i < 6 → ys[i]? = (mQ.2.1)[6 + i]?) → Q none (pm_h z X Y (pm_l mV mT ((mQ.1, ys, mQ.2.2.1, mQ.2.2.2.1, mQ.2.2.2.2.1, mQ.2.2.2.2.2.1, mQ.2.2.2.2.2.2.1, mQ.2.2.2.2.2.2.2.1, mQ.2.2.2.2.2.2.2.2.1, mQ.2.2.2.2.2.2.2.2.2.1, mQ.2.2.2.2.2.2.2.2.2.2.1, mQ.2.2.2.2.2.2.2.2.2.2.2.1, mQ.2.2.2.2.2.2.2.2.2.2.2.2.1, mQ.2.2.2.2.2.2.2.2.2.2.2.2.2.1, mQ.2.2.2.2.2.2.2.2.2.2.2.2.2.2)) mO mE mB mS mR mW))) : wm (mp_P fx) d 251 [.ref 152, .int (nI 6)] (pm_h z X Y (pm_l mV mT mQ mO mE mB mS mR mW)) Q := by
  have key : ∀ (r j : Nat) (ys : List Int64), j + r = 6 → ys.length = 2 * 6 → (∀ i : Nat, i < j → ys[i]? = (mQ.2.1)[6 + i]?) → (∀ i : Nat, j ≤ i → ys[i]? = (mQ.2.1)[i]?) → ww (mp_P fx) d 251 2 [some (.ref 152), some (.int (nI 6)), some (.int (nI j))] [] (pm_h z X Y (pm_l mV mT ((mQ.1, ys, mQ.2.2.1, mQ.2.2.2.1, mQ.2.2.2.2.1, mQ.2.2.2.2.2.1, mQ.2.2.2.2.2.2.1, mQ.2.2.2.2.2.2.2.1, mQ.2.2.2.2.2.2.2.2.1, mQ.2.2.2.2.2.2.2.2.2.1, mQ.2.2.2.2.2.2.2.2.2.2.1, mQ.2.2.2.2.2.2.2.2.2.2.2.1, mQ.2.2.2.2.2.2.2.2.2.2.2.2.1, mQ.2.2.2.2.2.2.2.2.2.2.2.2.2.1, mQ.2.2.2.2.2.2.2.2.2.2.2.2.2.2)) mO mE mB mS mR mW)) Q := by
    intro r
    induction r with
    | zero =>
      intro j ys hj hy h1 h2
      rw [q251_2]
      simp only [q251_3, q251_4]
      rw [if_pos (by rw [nI_leI (by omega) (by omega)]; omega)]
      simp only [q251_21]
      exact hq ys hy (fun i hi => h1 i (by omega))
    | succ r ih =>
      intro j ys hj hy h1 h2
      have hv : ys[6 + j]? = some (ys[6 + j]'(by omega)) := List.getElem?_eq_getElem _
      have hv2 := h2 (6 + j) (by omega)
      rw [q251_2]
      simp only [q251_3, q251_4]
      rw [if_neg (by rw [nI_leI (by omega) (by omega)]; omega)]
      simp only [q251_7, q251_8, q251_9, q251_10, q251_11, q251_12, q251_13, q251_14, q251_15i, q251_18, mc_o, mg_sortName, ma_sortName, mb_sortName, mn_sortName, wx_some, wx_ref, isl_i, isl_r, isl_n, nI_1, nI_add 6 j, aG_n hv (show ys.length < 2 ^ 31 by omega), aS_n (show j < ys.length by omega) (show ys.length < 2 ^ 31 by omega)]
      refine ih (j + 1) (ys.set j _) (by omega) (by rw [List.length_set]; exact hy) (fun i hi => ?_) (fun i hi => (List.getElem?_set_ne (by omega)).trans (h2 i (by omega)))
      by_cases e : i = j
      · rw [e, List.getElem?_set_self (by omega), ← hv]; exact hv2
      · exact (List.getElem?_set_ne (by omega)).trans (h1 i (by omega))
  simp only [e251, q251_0, q251_1i, isl_i, isl_r, isl_n]
  exact key 6 0 (mQ.2.1) (by omega) hl (fun i hi => absurd hi (Nat.not_lt_zero _)) (fun _ _ => rfl)
theorem tm_shift_colourName (hl : (mQ.2.2.1).length = 2 * 6) (hq : ∀ ys : List Int64, ys.length = 2 * 6 → (∀ i : Nat, i < 6 → ys[i]? = (mQ.2.2.1)[6 + i]?) → Q none (pm_h z X Y (pm_l mV mT ((mQ.1, mQ.2.1, ys, mQ.2.2.2.1, mQ.2.2.2.2.1, mQ.2.2.2.2.2.1, mQ.2.2.2.2.2.2.1, mQ.2.2.2.2.2.2.2.1, mQ.2.2.2.2.2.2.2.2.1, mQ.2.2.2.2.2.2.2.2.2.1, mQ.2.2.2.2.2.2.2.2.2.2.1, mQ.2.2.2.2.2.2.2.2.2.2.2.1, mQ.2.2.2.2.2.2.2.2.2.2.2.2.1, mQ.2.2.2.2.2.2.2.2.2.2.2.2.2.1, mQ.2.2.2.2.2.2.2.2.2.2.2.2.2.2)) mO mE mB mS mR mW))) : wm (mp_P fx) d 251 [.ref 153, .int (nI 6)] (pm_h z X Y (pm_l mV mT mQ mO mE mB mS mR mW)) Q := by
  have key : ∀ (r j : Nat) (ys : List Int64), j + r = 6 → ys.length = 2 * 6 → (∀ i : Nat, i < j → ys[i]? = (mQ.2.2.1)[6 + i]?) → (∀ i : Nat, j ≤ i → ys[i]? = (mQ.2.2.1)[i]?) → ww (mp_P fx) d 251 2 [some (.ref 153), some (.int (nI 6)), some (.int (nI j))] [] (pm_h z X Y (pm_l mV mT ((mQ.1, mQ.2.1, ys, mQ.2.2.2.1, mQ.2.2.2.2.1, mQ.2.2.2.2.2.1, mQ.2.2.2.2.2.2.1, mQ.2.2.2.2.2.2.2.1, mQ.2.2.2.2.2.2.2.2.1, mQ.2.2.2.2.2.2.2.2.2.1, mQ.2.2.2.2.2.2.2.2.2.2.1, mQ.2.2.2.2.2.2.2.2.2.2.2.1, mQ.2.2.2.2.2.2.2.2.2.2.2.2.1, mQ.2.2.2.2.2.2.2.2.2.2.2.2.2.1, mQ.2.2.2.2.2.2.2.2.2.2.2.2.2.2)) mO mE mB mS mR mW)) Q := by
    intro r
    induction r with
    | zero =>
      intro j ys hj hy h1 h2
      rw [q251_2]
      simp only [q251_3, q251_4]
      rw [if_pos (by rw [nI_leI (by omega) (by omega)]; omega)]
      simp only [q251_21]
      exact hq ys hy (fun i hi => h1 i (by omega))
    | succ r ih =>
      intro j ys hj hy h1 h2
      have hv : ys[6 + j]? = some (ys[6 + j]'(by omega)) := List.getElem?_eq_getElem _
      have hv2 := h2 (6 + j) (by omega)
      rw [q251_2]
      simp only [q251_3, q251_4]
      rw [if_neg (by rw [nI_leI (by omega) (by omega)]; omega)]
      simp only [q251_7, q251_8, q251_9, q251_10, q251_11, q251_12, q251_13, q251_14, q251_15i, q251_18, mc_o, mg_colourName, ma_colourName, mb_colourName, mn_colourName, wx_some, wx_ref, isl_i, isl_r, isl_n, nI_1, nI_add 6 j, aG_n hv (show ys.length < 2 ^ 31 by omega), aS_n (show j < ys.length by omega) (show ys.length < 2 ^ 31 by omega)]
      refine ih (j + 1) (ys.set j _) (by omega) (by rw [List.length_set]; exact hy) (fun i hi => ?_) (fun i hi => (List.getElem?_set_ne (by omega)).trans (h2 i (by omega)))
      by_cases e : i = j
      · rw [e, List.getElem?_set_self (by omega), ← hv]; exact hv2
      · exact (List.getElem?_set_ne (by omega)).trans (h1 i (by omega))
  simp only [e251, q251_0, q251_1i, isl_i, isl_r, isl_n]
  exact key 6 0 (mQ.2.2.1) (by omega) hl (fun i hi => absurd hi (Nat.not_lt_zero _)) (fun _ _ => rfl)
theorem tm_shift_walkerName (hl : (mQ.2.2.2.1).length = 2 * 7) (hq : ∀ ys : List Int64, ys.length = 2 * 7 → (∀ i : Nat, i < 7 → ys[i]? = (mQ.2.2.2.1)[7 + i]?) → Q none (pm_h z X Y (pm_l mV mT ((mQ.1, mQ.2.1, mQ.2.2.1, ys, mQ.2.2.2.2.1, mQ.2.2.2.2.2.1, mQ.2.2.2.2.2.2.1, mQ.2.2.2.2.2.2.2.1, mQ.2.2.2.2.2.2.2.2.1, mQ.2.2.2.2.2.2.2.2.2.1, mQ.2.2.2.2.2.2.2.2.2.2.1, mQ.2.2.2.2.2.2.2.2.2.2.2.1, mQ.2.2.2.2.2.2.2.2.2.2.2.2.1, mQ.2.2.2.2.2.2.2.2.2.2.2.2.2.1, mQ.2.2.2.2.2.2.2.2.2.2.2.2.2.2)) mO mE mB mS mR mW))) : wm (mp_P fx) d 251 [.ref 154, .int (nI 7)] (pm_h z X Y (pm_l mV mT mQ mO mE mB mS mR mW)) Q := by
  have key : ∀ (r j : Nat) (ys : List Int64), j + r = 7 → ys.length = 2 * 7 → (∀ i : Nat, i < j → ys[i]? = (mQ.2.2.2.1)[7 + i]?) → (∀ i : Nat, j ≤ i → ys[i]? = (mQ.2.2.2.1)[i]?) → ww (mp_P fx) d 251 2 [some (.ref 154), some (.int (nI 7)), some (.int (nI j))] [] (pm_h z X Y (pm_l mV mT ((mQ.1, mQ.2.1, mQ.2.2.1, ys, mQ.2.2.2.2.1, mQ.2.2.2.2.2.1, mQ.2.2.2.2.2.2.1, mQ.2.2.2.2.2.2.2.1, mQ.2.2.2.2.2.2.2.2.1, mQ.2.2.2.2.2.2.2.2.2.1, mQ.2.2.2.2.2.2.2.2.2.2.1, mQ.2.2.2.2.2.2.2.2.2.2.2.1, mQ.2.2.2.2.2.2.2.2.2.2.2.2.1, mQ.2.2.2.2.2.2.2.2.2.2.2.2.2.1, mQ.2.2.2.2.2.2.2.2.2.2.2.2.2.2)) mO mE mB mS mR mW)) Q := by
    intro r
    induction r with
    | zero =>
      intro j ys hj hy h1 h2
      rw [q251_2]
      simp only [q251_3, q251_4]
      rw [if_pos (by rw [nI_leI (by omega) (by omega)]; omega)]
      simp only [q251_21]
      exact hq ys hy (fun i hi => h1 i (by omega))
    | succ r ih =>
      intro j ys hj hy h1 h2
      have hv : ys[7 + j]? = some (ys[7 + j]'(by omega)) := List.getElem?_eq_getElem _
      have hv2 := h2 (7 + j) (by omega)
      rw [q251_2]
      simp only [q251_3, q251_4]
      rw [if_neg (by rw [nI_leI (by omega) (by omega)]; omega)]
      simp only [q251_7, q251_8, q251_9, q251_10, q251_11, q251_12, q251_13, q251_14, q251_15i, q251_18, mc_o, mg_walkerName, ma_walkerName, mb_walkerName, mn_walkerName, wx_some, wx_ref, isl_i, isl_r, isl_n, nI_1, nI_add 7 j, aG_n hv (show ys.length < 2 ^ 31 by omega), aS_n (show j < ys.length by omega) (show ys.length < 2 ^ 31 by omega)]
      refine ih (j + 1) (ys.set j _) (by omega) (by rw [List.length_set]; exact hy) (fun i hi => ?_) (fun i hi => (List.getElem?_set_ne (by omega)).trans (h2 i (by omega)))
      by_cases e : i = j
      · rw [e, List.getElem?_set_self (by omega), ← hv]; exact hv2
      · exact (List.getElem?_set_ne (by omega)).trans (h1 i (by omega))
  simp only [e251, q251_0, q251_1i, isl_i, isl_r, isl_n]
  exact key 7 0 (mQ.2.2.2.1) (by omega) hl (fun i hi => absurd hi (Nat.not_lt_zero _)) (fun _ _ => rfl)
theorem tm_shift_sortOf (hl : (mQ.2.2.2.2.1).length = 2 * 6) (hq : ∀ ys : List Int32, ys.length = 2 * 6 → (∀ i : Nat, i < 6 → ys[i]? = (mQ.2.2.2.2.1)[6 + i]?) → Q none (pm_h z X Y (pm_l mV mT ((mQ.1, mQ.2.1, mQ.2.2.1, mQ.2.2.2.1, ys, mQ.2.2.2.2.2.1, mQ.2.2.2.2.2.2.1, mQ.2.2.2.2.2.2.2.1, mQ.2.2.2.2.2.2.2.2.1, mQ.2.2.2.2.2.2.2.2.2.1, mQ.2.2.2.2.2.2.2.2.2.2.1, mQ.2.2.2.2.2.2.2.2.2.2.2.1, mQ.2.2.2.2.2.2.2.2.2.2.2.2.1, mQ.2.2.2.2.2.2.2.2.2.2.2.2.2.1, mQ.2.2.2.2.2.2.2.2.2.2.2.2.2.2)) mO mE mB mS mR mW))) : wm (mp_P fx) d 250 [.ref 155, .int (nI 6)] (pm_h z X Y (pm_l mV mT mQ mO mE mB mS mR mW)) Q := by
  have key : ∀ (r j : Nat) (ys : List Int32), j + r = 6 → ys.length = 2 * 6 → (∀ i : Nat, i < j → ys[i]? = (mQ.2.2.2.2.1)[6 + i]?) → (∀ i : Nat, j ≤ i → ys[i]? = (mQ.2.2.2.2.1)[i]?) → ww (mp_P fx) d 250 2 [some (.ref 155), some (.int (nI 6)), some (.int (nI j))] [] (pm_h z X Y (pm_l mV mT ((mQ.1, mQ.2.1, mQ.2.2.1, mQ.2.2.2.1, ys, mQ.2.2.2.2.2.1, mQ.2.2.2.2.2.2.1, mQ.2.2.2.2.2.2.2.1, mQ.2.2.2.2.2.2.2.2.1, mQ.2.2.2.2.2.2.2.2.2.1, mQ.2.2.2.2.2.2.2.2.2.2.1, mQ.2.2.2.2.2.2.2.2.2.2.2.1, mQ.2.2.2.2.2.2.2.2.2.2.2.2.1, mQ.2.2.2.2.2.2.2.2.2.2.2.2.2.1, mQ.2.2.2.2.2.2.2.2.2.2.2.2.2.2)) mO mE mB mS mR mW)) Q := by
    intro r
    induction r with
    | zero =>
      intro j ys hj hy h1 h2
      rw [q250_2]
      simp only [q250_3, q250_4]
      rw [if_pos (by rw [nI_leI (by omega) (by omega)]; omega)]
      simp only [q250_21]
      exact hq ys hy (fun i hi => h1 i (by omega))
    | succ r ih =>
      intro j ys hj hy h1 h2
      have hv : ys[6 + j]? = some (ys[6 + j]'(by omega)) := List.getElem?_eq_getElem _
      have hv2 := h2 (6 + j) (by omega)
      rw [q250_2]
      simp only [q250_3, q250_4]
      rw [if_neg (by rw [nI_leI (by omega) (by omega)]; omega)]
      simp only [q250_7, q250_8, q250_9, q250_10, q250_11, q250_12, q250_13, q250_14, q250_15i, q250_18, mc_o, mg_sortOf, ma_sortOf, mb_sortOf, mn_sortOf, wx_some, wx_ref, isl_i, isl_r, isl_n, nI_1, nI_add 6 j, aG_n hv (show ys.length < 2 ^ 31 by omega), aS_n (show j < ys.length by omega) (show ys.length < 2 ^ 31 by omega)]
      refine ih (j + 1) (ys.set j _) (by omega) (by rw [List.length_set]; exact hy) (fun i hi => ?_) (fun i hi => (List.getElem?_set_ne (by omega)).trans (h2 i (by omega)))
      by_cases e : i = j
      · rw [e, List.getElem?_set_self (by omega), ← hv]; exact hv2
      · exact (List.getElem?_set_ne (by omega)).trans (h1 i (by omega))
  simp only [e250, q250_0, q250_1i, isl_i, isl_r, isl_n]
  exact key 6 0 (mQ.2.2.2.2.1) (by omega) hl (fun i hi => absurd hi (Nat.not_lt_zero _)) (fun _ _ => rfl)
theorem tm_shift_rules (hl : (mQ.2.2.2.2.2.1).length = 2 * 12) (hq : ∀ ys : List Int32, ys.length = 2 * 12 → (∀ i : Nat, i < 12 → ys[i]? = (mQ.2.2.2.2.2.1)[12 + i]?) → Q none (pm_h z X Y (pm_l mV mT ((mQ.1, mQ.2.1, mQ.2.2.1, mQ.2.2.2.1, mQ.2.2.2.2.1, ys, mQ.2.2.2.2.2.2.1, mQ.2.2.2.2.2.2.2.1, mQ.2.2.2.2.2.2.2.2.1, mQ.2.2.2.2.2.2.2.2.2.1, mQ.2.2.2.2.2.2.2.2.2.2.1, mQ.2.2.2.2.2.2.2.2.2.2.2.1, mQ.2.2.2.2.2.2.2.2.2.2.2.2.1, mQ.2.2.2.2.2.2.2.2.2.2.2.2.2.1, mQ.2.2.2.2.2.2.2.2.2.2.2.2.2.2)) mO mE mB mS mR mW))) : wm (mp_P fx) d 250 [.ref 156, .int (nI 12)] (pm_h z X Y (pm_l mV mT mQ mO mE mB mS mR mW)) Q := by
  have key : ∀ (r j : Nat) (ys : List Int32), j + r = 12 → ys.length = 2 * 12 → (∀ i : Nat, i < j → ys[i]? = (mQ.2.2.2.2.2.1)[12 + i]?) → (∀ i : Nat, j ≤ i → ys[i]? = (mQ.2.2.2.2.2.1)[i]?) → ww (mp_P fx) d 250 2 [some (.ref 156), some (.int (nI 12)), some (.int (nI j))] [] (pm_h z X Y (pm_l mV mT ((mQ.1, mQ.2.1, mQ.2.2.1, mQ.2.2.2.1, mQ.2.2.2.2.1, ys, mQ.2.2.2.2.2.2.1, mQ.2.2.2.2.2.2.2.1, mQ.2.2.2.2.2.2.2.2.1, mQ.2.2.2.2.2.2.2.2.2.1, mQ.2.2.2.2.2.2.2.2.2.2.1, mQ.2.2.2.2.2.2.2.2.2.2.2.1, mQ.2.2.2.2.2.2.2.2.2.2.2.2.1, mQ.2.2.2.2.2.2.2.2.2.2.2.2.2.1, mQ.2.2.2.2.2.2.2.2.2.2.2.2.2.2)) mO mE mB mS mR mW)) Q := by
    intro r
    induction r with
    | zero =>
      intro j ys hj hy h1 h2
      rw [q250_2]
      simp only [q250_3, q250_4]
      rw [if_pos (by rw [nI_leI (by omega) (by omega)]; omega)]
      simp only [q250_21]
      exact hq ys hy (fun i hi => h1 i (by omega))
    | succ r ih =>
      intro j ys hj hy h1 h2
      have hv : ys[12 + j]? = some (ys[12 + j]'(by omega)) := List.getElem?_eq_getElem _
      have hv2 := h2 (12 + j) (by omega)
      rw [q250_2]
      simp only [q250_3, q250_4]
      rw [if_neg (by rw [nI_leI (by omega) (by omega)]; omega)]
      simp only [q250_7, q250_8, q250_9, q250_10, q250_11, q250_12, q250_13, q250_14, q250_15i, q250_18, mc_o, mg_rules, ma_rules, mb_rules, mn_rules, wx_some, wx_ref, isl_i, isl_r, isl_n, nI_1, nI_add 12 j, aG_n hv (show ys.length < 2 ^ 31 by omega), aS_n (show j < ys.length by omega) (show ys.length < 2 ^ 31 by omega)]
      refine ih (j + 1) (ys.set j _) (by omega) (by rw [List.length_set]; exact hy) (fun i hi => ?_) (fun i hi => (List.getElem?_set_ne (by omega)).trans (h2 i (by omega)))
      by_cases e : i = j
      · rw [e, List.getElem?_set_self (by omega), ← hv]; exact hv2
      · exact (List.getElem?_set_ne (by omega)).trans (h1 i (by omega))
  simp only [e250, q250_0, q250_1i, isl_i, isl_r, isl_n]
  exact key 12 0 (mQ.2.2.2.2.2.1) (by omega) hl (fun i hi => absurd hi (Nat.not_lt_zero _)) (fun _ _ => rfl)
theorem tm_shift_kind (hl : (mQ.2.2.2.2.2.2.1).length = 2 * 7) (hq : ∀ ys : List Int32, ys.length = 2 * 7 → (∀ i : Nat, i < 7 → ys[i]? = (mQ.2.2.2.2.2.2.1)[7 + i]?) → Q none (pm_h z X Y (pm_l mV mT ((mQ.1, mQ.2.1, mQ.2.2.1, mQ.2.2.2.1, mQ.2.2.2.2.1, mQ.2.2.2.2.2.1, ys, mQ.2.2.2.2.2.2.2.1, mQ.2.2.2.2.2.2.2.2.1, mQ.2.2.2.2.2.2.2.2.2.1, mQ.2.2.2.2.2.2.2.2.2.2.1, mQ.2.2.2.2.2.2.2.2.2.2.2.1, mQ.2.2.2.2.2.2.2.2.2.2.2.2.1, mQ.2.2.2.2.2.2.2.2.2.2.2.2.2.1, mQ.2.2.2.2.2.2.2.2.2.2.2.2.2.2)) mO mE mB mS mR mW))) : wm (mp_P fx) d 250 [.ref 157, .int (nI 7)] (pm_h z X Y (pm_l mV mT mQ mO mE mB mS mR mW)) Q := by
  have key : ∀ (r j : Nat) (ys : List Int32), j + r = 7 → ys.length = 2 * 7 → (∀ i : Nat, i < j → ys[i]? = (mQ.2.2.2.2.2.2.1)[7 + i]?) → (∀ i : Nat, j ≤ i → ys[i]? = (mQ.2.2.2.2.2.2.1)[i]?) → ww (mp_P fx) d 250 2 [some (.ref 157), some (.int (nI 7)), some (.int (nI j))] [] (pm_h z X Y (pm_l mV mT ((mQ.1, mQ.2.1, mQ.2.2.1, mQ.2.2.2.1, mQ.2.2.2.2.1, mQ.2.2.2.2.2.1, ys, mQ.2.2.2.2.2.2.2.1, mQ.2.2.2.2.2.2.2.2.1, mQ.2.2.2.2.2.2.2.2.2.1, mQ.2.2.2.2.2.2.2.2.2.2.1, mQ.2.2.2.2.2.2.2.2.2.2.2.1, mQ.2.2.2.2.2.2.2.2.2.2.2.2.1, mQ.2.2.2.2.2.2.2.2.2.2.2.2.2.1, mQ.2.2.2.2.2.2.2.2.2.2.2.2.2.2)) mO mE mB mS mR mW)) Q := by
    intro r
    induction r with
    | zero =>
      intro j ys hj hy h1 h2
      rw [q250_2]
      simp only [q250_3, q250_4]
      rw [if_pos (by rw [nI_leI (by omega) (by omega)]; omega)]
      simp only [q250_21]
      exact hq ys hy (fun i hi => h1 i (by omega))
    | succ r ih =>
      intro j ys hj hy h1 h2
      have hv : ys[7 + j]? = some (ys[7 + j]'(by omega)) := List.getElem?_eq_getElem _
      have hv2 := h2 (7 + j) (by omega)
      rw [q250_2]
      simp only [q250_3, q250_4]
      rw [if_neg (by rw [nI_leI (by omega) (by omega)]; omega)]
      simp only [q250_7, q250_8, q250_9, q250_10, q250_11, q250_12, q250_13, q250_14, q250_15i, q250_18, mc_o, mg_kind, ma_kind, mb_kind, mn_kind, wx_some, wx_ref, isl_i, isl_r, isl_n, nI_1, nI_add 7 j, aG_n hv (show ys.length < 2 ^ 31 by omega), aS_n (show j < ys.length by omega) (show ys.length < 2 ^ 31 by omega)]
      refine ih (j + 1) (ys.set j _) (by omega) (by rw [List.length_set]; exact hy) (fun i hi => ?_) (fun i hi => (List.getElem?_set_ne (by omega)).trans (h2 i (by omega)))
      by_cases e : i = j
      · rw [e, List.getElem?_set_self (by omega), ← hv]; exact hv2
      · exact (List.getElem?_set_ne (by omega)).trans (h1 i (by omega))
  simp only [e250, q250_0, q250_1i, isl_i, isl_r, isl_n]
  exact key 7 0 (mQ.2.2.2.2.2.2.1) (by omega) hl (fun i hi => absurd hi (Nat.not_lt_zero _)) (fun _ _ => rfl)
theorem tm_shift_colour (hl : (mQ.2.2.2.2.2.2.2.1).length = 2 * 7) (hq : ∀ ys : List Int32, ys.length = 2 * 7 → (∀ i : Nat, i < 7 → ys[i]? = (mQ.2.2.2.2.2.2.2.1)[7 + i]?) → Q none (pm_h z X Y (pm_l mV mT ((mQ.1, mQ.2.1, mQ.2.2.1, mQ.2.2.2.1, mQ.2.2.2.2.1, mQ.2.2.2.2.2.1, mQ.2.2.2.2.2.2.1, ys, mQ.2.2.2.2.2.2.2.2.1, mQ.2.2.2.2.2.2.2.2.2.1, mQ.2.2.2.2.2.2.2.2.2.2.1, mQ.2.2.2.2.2.2.2.2.2.2.2.1, mQ.2.2.2.2.2.2.2.2.2.2.2.2.1, mQ.2.2.2.2.2.2.2.2.2.2.2.2.2.1, mQ.2.2.2.2.2.2.2.2.2.2.2.2.2.2)) mO mE mB mS mR mW))) : wm (mp_P fx) d 250 [.ref 158, .int (nI 7)] (pm_h z X Y (pm_l mV mT mQ mO mE mB mS mR mW)) Q := by
  have key : ∀ (r j : Nat) (ys : List Int32), j + r = 7 → ys.length = 2 * 7 → (∀ i : Nat, i < j → ys[i]? = (mQ.2.2.2.2.2.2.2.1)[7 + i]?) → (∀ i : Nat, j ≤ i → ys[i]? = (mQ.2.2.2.2.2.2.2.1)[i]?) → ww (mp_P fx) d 250 2 [some (.ref 158), some (.int (nI 7)), some (.int (nI j))] [] (pm_h z X Y (pm_l mV mT ((mQ.1, mQ.2.1, mQ.2.2.1, mQ.2.2.2.1, mQ.2.2.2.2.1, mQ.2.2.2.2.2.1, mQ.2.2.2.2.2.2.1, ys, mQ.2.2.2.2.2.2.2.2.1, mQ.2.2.2.2.2.2.2.2.2.1, mQ.2.2.2.2.2.2.2.2.2.2.1, mQ.2.2.2.2.2.2.2.2.2.2.2.1, mQ.2.2.2.2.2.2.2.2.2.2.2.2.1, mQ.2.2.2.2.2.2.2.2.2.2.2.2.2.1, mQ.2.2.2.2.2.2.2.2.2.2.2.2.2.2)) mO mE mB mS mR mW)) Q := by
    intro r
    induction r with
    | zero =>
      intro j ys hj hy h1 h2
      rw [q250_2]
      simp only [q250_3, q250_4]
      rw [if_pos (by rw [nI_leI (by omega) (by omega)]; omega)]
      simp only [q250_21]
      exact hq ys hy (fun i hi => h1 i (by omega))
    | succ r ih =>
      intro j ys hj hy h1 h2
      have hv : ys[7 + j]? = some (ys[7 + j]'(by omega)) := List.getElem?_eq_getElem _
      have hv2 := h2 (7 + j) (by omega)
      rw [q250_2]
      simp only [q250_3, q250_4]
      rw [if_neg (by rw [nI_leI (by omega) (by omega)]; omega)]
      simp only [q250_7, q250_8, q250_9, q250_10, q250_11, q250_12, q250_13, q250_14, q250_15i, q250_18, mc_o, mg_colour, ma_colour, mb_colour, mn_colour, wx_some, wx_ref, isl_i, isl_r, isl_n, nI_1, nI_add 7 j, aG_n hv (show ys.length < 2 ^ 31 by omega), aS_n (show j < ys.length by omega) (show ys.length < 2 ^ 31 by omega)]
      refine ih (j + 1) (ys.set j _) (by omega) (by rw [List.length_set]; exact hy) (fun i hi => ?_) (fun i hi => (List.getElem?_set_ne (by omega)).trans (h2 i (by omega)))
      by_cases e : i = j
      · rw [e, List.getElem?_set_self (by omega), ← hv]; exact hv2
      · exact (List.getElem?_set_ne (by omega)).trans (h1 i (by omega))
  simp only [e250, q250_0, q250_1i, isl_i, isl_r, isl_n]
  exact key 7 0 (mQ.2.2.2.2.2.2.2.1) (by omega) hl (fun i hi => absurd hi (Nat.not_lt_zero _)) (fun _ _ => rfl)
theorem tm_shift_atTold (hl : (mQ.2.2.2.2.2.2.2.2.1).length = 2 * 7) (hq : ∀ ys : List Int32, ys.length = 2 * 7 → (∀ i : Nat, i < 7 → ys[i]? = (mQ.2.2.2.2.2.2.2.2.1)[7 + i]?) → Q none (pm_h z X Y (pm_l mV mT ((mQ.1, mQ.2.1, mQ.2.2.1, mQ.2.2.2.1, mQ.2.2.2.2.1, mQ.2.2.2.2.2.1, mQ.2.2.2.2.2.2.1, mQ.2.2.2.2.2.2.2.1, ys, mQ.2.2.2.2.2.2.2.2.2.1, mQ.2.2.2.2.2.2.2.2.2.2.1, mQ.2.2.2.2.2.2.2.2.2.2.2.1, mQ.2.2.2.2.2.2.2.2.2.2.2.2.1, mQ.2.2.2.2.2.2.2.2.2.2.2.2.2.1, mQ.2.2.2.2.2.2.2.2.2.2.2.2.2.2)) mO mE mB mS mR mW))) : wm (mp_P fx) d 250 [.ref 159, .int (nI 7)] (pm_h z X Y (pm_l mV mT mQ mO mE mB mS mR mW)) Q := by
  have key : ∀ (r j : Nat) (ys : List Int32), j + r = 7 → ys.length = 2 * 7 → (∀ i : Nat, i < j → ys[i]? = (mQ.2.2.2.2.2.2.2.2.1)[7 + i]?) → (∀ i : Nat, j ≤ i → ys[i]? = (mQ.2.2.2.2.2.2.2.2.1)[i]?) → ww (mp_P fx) d 250 2 [some (.ref 159), some (.int (nI 7)), some (.int (nI j))] [] (pm_h z X Y (pm_l mV mT ((mQ.1, mQ.2.1, mQ.2.2.1, mQ.2.2.2.1, mQ.2.2.2.2.1, mQ.2.2.2.2.2.1, mQ.2.2.2.2.2.2.1, mQ.2.2.2.2.2.2.2.1, ys, mQ.2.2.2.2.2.2.2.2.2.1, mQ.2.2.2.2.2.2.2.2.2.2.1, mQ.2.2.2.2.2.2.2.2.2.2.2.1, mQ.2.2.2.2.2.2.2.2.2.2.2.2.1, mQ.2.2.2.2.2.2.2.2.2.2.2.2.2.1, mQ.2.2.2.2.2.2.2.2.2.2.2.2.2.2)) mO mE mB mS mR mW)) Q := by
    intro r
    induction r with
    | zero =>
      intro j ys hj hy h1 h2
      rw [q250_2]
      simp only [q250_3, q250_4]
      rw [if_pos (by rw [nI_leI (by omega) (by omega)]; omega)]
      simp only [q250_21]
      exact hq ys hy (fun i hi => h1 i (by omega))
    | succ r ih =>
      intro j ys hj hy h1 h2
      have hv : ys[7 + j]? = some (ys[7 + j]'(by omega)) := List.getElem?_eq_getElem _
      have hv2 := h2 (7 + j) (by omega)
      rw [q250_2]
      simp only [q250_3, q250_4]
      rw [if_neg (by rw [nI_leI (by omega) (by omega)]; omega)]
      simp only [q250_7, q250_8, q250_9, q250_10, q250_11, q250_12, q250_13, q250_14, q250_15i, q250_18, mc_o, mg_atTold, ma_atTold, mb_atTold, mn_atTold, wx_some, wx_ref, isl_i, isl_r, isl_n, nI_1, nI_add 7 j, aG_n hv (show ys.length < 2 ^ 31 by omega), aS_n (show j < ys.length by omega) (show ys.length < 2 ^ 31 by omega)]
      refine ih (j + 1) (ys.set j _) (by omega) (by rw [List.length_set]; exact hy) (fun i hi => ?_) (fun i hi => (List.getElem?_set_ne (by omega)).trans (h2 i (by omega)))
      by_cases e : i = j
      · rw [e, List.getElem?_set_self (by omega), ← hv]; exact hv2
      · exact (List.getElem?_set_ne (by omega)).trans (h1 i (by omega))
  simp only [e250, q250_0, q250_1i, isl_i, isl_r, isl_n]
  exact key 7 0 (mQ.2.2.2.2.2.2.2.2.1) (by omega) hl (fun i hi => absurd hi (Nat.not_lt_zero _)) (fun _ _ => rfl)
theorem tm_shift_goesMany (hl : (mQ.2.2.2.2.2.2.2.2.2.1).length = 2 * 7) (hq : ∀ ys : List Int32, ys.length = 2 * 7 → (∀ i : Nat, i < 7 → ys[i]? = (mQ.2.2.2.2.2.2.2.2.2.1)[7 + i]?) → Q none (pm_h z X Y (pm_l mV mT ((mQ.1, mQ.2.1, mQ.2.2.1, mQ.2.2.2.1, mQ.2.2.2.2.1, mQ.2.2.2.2.2.1, mQ.2.2.2.2.2.2.1, mQ.2.2.2.2.2.2.2.1, mQ.2.2.2.2.2.2.2.2.1, ys, mQ.2.2.2.2.2.2.2.2.2.2.1, mQ.2.2.2.2.2.2.2.2.2.2.2.1, mQ.2.2.2.2.2.2.2.2.2.2.2.2.1, mQ.2.2.2.2.2.2.2.2.2.2.2.2.2.1, mQ.2.2.2.2.2.2.2.2.2.2.2.2.2.2)) mO mE mB mS mR mW))) : wm (mp_P fx) d 250 [.ref 160, .int (nI 7)] (pm_h z X Y (pm_l mV mT mQ mO mE mB mS mR mW)) Q := by
  have key : ∀ (r j : Nat) (ys : List Int32), j + r = 7 → ys.length = 2 * 7 → (∀ i : Nat, i < j → ys[i]? = (mQ.2.2.2.2.2.2.2.2.2.1)[7 + i]?) → (∀ i : Nat, j ≤ i → ys[i]? = (mQ.2.2.2.2.2.2.2.2.2.1)[i]?) → ww (mp_P fx) d 250 2 [some (.ref 160), some (.int (nI 7)), some (.int (nI j))] [] (pm_h z X Y (pm_l mV mT ((mQ.1, mQ.2.1, mQ.2.2.1, mQ.2.2.2.1, mQ.2.2.2.2.1, mQ.2.2.2.2.2.1, mQ.2.2.2.2.2.2.1, mQ.2.2.2.2.2.2.2.1, mQ.2.2.2.2.2.2.2.2.1, ys, mQ.2.2.2.2.2.2.2.2.2.2.1, mQ.2.2.2.2.2.2.2.2.2.2.2.1, mQ.2.2.2.2.2.2.2.2.2.2.2.2.1, mQ.2.2.2.2.2.2.2.2.2.2.2.2.2.1, mQ.2.2.2.2.2.2.2.2.2.2.2.2.2.2)) mO mE mB mS mR mW)) Q := by
    intro r
    induction r with
    | zero =>
      intro j ys hj hy h1 h2
      rw [q250_2]
      simp only [q250_3, q250_4]
      rw [if_pos (by rw [nI_leI (by omega) (by omega)]; omega)]
      simp only [q250_21]
      exact hq ys hy (fun i hi => h1 i (by omega))
    | succ r ih =>
      intro j ys hj hy h1 h2
      have hv : ys[7 + j]? = some (ys[7 + j]'(by omega)) := List.getElem?_eq_getElem _
      have hv2 := h2 (7 + j) (by omega)
      rw [q250_2]
      simp only [q250_3, q250_4]
      rw [if_neg (by rw [nI_leI (by omega) (by omega)]; omega)]
      simp only [q250_7, q250_8, q250_9, q250_10, q250_11, q250_12, q250_13, q250_14, q250_15i, q250_18, mc_o, mg_goesMany, ma_goesMany, mb_goesMany, mn_goesMany, wx_some, wx_ref, isl_i, isl_r, isl_n, nI_1, nI_add 7 j, aG_n hv (show ys.length < 2 ^ 31 by omega), aS_n (show j < ys.length by omega) (show ys.length < 2 ^ 31 by omega)]
      refine ih (j + 1) (ys.set j _) (by omega) (by rw [List.length_set]; exact hy) (fun i hi => ?_) (fun i hi => (List.getElem?_set_ne (by omega)).trans (h2 i (by omega)))
      by_cases e : i = j
      · rw [e, List.getElem?_set_self (by omega), ← hv]; exact hv2
      · exact (List.getElem?_set_ne (by omega)).trans (h1 i (by omega))
  simp only [e250, q250_0, q250_1i, isl_i, isl_r, isl_n]
  exact key 7 0 (mQ.2.2.2.2.2.2.2.2.2.1) (by omega) hl (fun i hi => absurd hi (Nat.not_lt_zero _)) (fun _ _ => rfl)
theorem tm_shift_goes (hl : (mQ.2.2.2.2.2.2.2.2.2.2.1).length = 2 * 42) (hq : ∀ ys : List Int32, ys.length = 2 * 42 → (∀ i : Nat, i < 42 → ys[i]? = (mQ.2.2.2.2.2.2.2.2.2.2.1)[42 + i]?) → Q none (pm_h z X Y (pm_l mV mT ((mQ.1, mQ.2.1, mQ.2.2.1, mQ.2.2.2.1, mQ.2.2.2.2.1, mQ.2.2.2.2.2.1, mQ.2.2.2.2.2.2.1, mQ.2.2.2.2.2.2.2.1, mQ.2.2.2.2.2.2.2.2.1, mQ.2.2.2.2.2.2.2.2.2.1, ys, mQ.2.2.2.2.2.2.2.2.2.2.2.1, mQ.2.2.2.2.2.2.2.2.2.2.2.2.1, mQ.2.2.2.2.2.2.2.2.2.2.2.2.2.1, mQ.2.2.2.2.2.2.2.2.2.2.2.2.2.2)) mO mE mB mS mR mW))) : wm (mp_P fx) d 250 [.ref 161, .int (nI 42)] (pm_h z X Y (pm_l mV mT mQ mO mE mB mS mR mW)) Q := by
  have key : ∀ (r j : Nat) (ys : List Int32), j + r = 42 → ys.length = 2 * 42 → (∀ i : Nat, i < j → ys[i]? = (mQ.2.2.2.2.2.2.2.2.2.2.1)[42 + i]?) → (∀ i : Nat, j ≤ i → ys[i]? = (mQ.2.2.2.2.2.2.2.2.2.2.1)[i]?) → ww (mp_P fx) d 250 2 [some (.ref 161), some (.int (nI 42)), some (.int (nI j))] [] (pm_h z X Y (pm_l mV mT ((mQ.1, mQ.2.1, mQ.2.2.1, mQ.2.2.2.1, mQ.2.2.2.2.1, mQ.2.2.2.2.2.1, mQ.2.2.2.2.2.2.1, mQ.2.2.2.2.2.2.2.1, mQ.2.2.2.2.2.2.2.2.1, mQ.2.2.2.2.2.2.2.2.2.1, ys, mQ.2.2.2.2.2.2.2.2.2.2.2.1, mQ.2.2.2.2.2.2.2.2.2.2.2.2.1, mQ.2.2.2.2.2.2.2.2.2.2.2.2.2.1, mQ.2.2.2.2.2.2.2.2.2.2.2.2.2.2)) mO mE mB mS mR mW)) Q := by
    intro r
    induction r with
    | zero =>
      intro j ys hj hy h1 h2
      rw [q250_2]
      simp only [q250_3, q250_4]
      rw [if_pos (by rw [nI_leI (by omega) (by omega)]; omega)]
      simp only [q250_21]
      exact hq ys hy (fun i hi => h1 i (by omega))
    | succ r ih =>
      intro j ys hj hy h1 h2
      have hv : ys[42 + j]? = some (ys[42 + j]'(by omega)) := List.getElem?_eq_getElem _
      have hv2 := h2 (42 + j) (by omega)
      rw [q250_2]
      simp only [q250_3, q250_4]
      rw [if_neg (by rw [nI_leI (by omega) (by omega)]; omega)]
      simp only [q250_7, q250_8, q250_9, q250_10, q250_11, q250_12, q250_13, q250_14, q250_15i, q250_18, mc_o, mg_goes, ma_goes, mb_goes, mn_goes, wx_some, wx_ref, isl_i, isl_r, isl_n, nI_1, nI_add 42 j, aG_n hv (show ys.length < 2 ^ 31 by omega), aS_n (show j < ys.length by omega) (show ys.length < 2 ^ 31 by omega)]
      refine ih (j + 1) (ys.set j _) (by omega) (by rw [List.length_set]; exact hy) (fun i hi => ?_) (fun i hi => (List.getElem?_set_ne (by omega)).trans (h2 i (by omega)))
      by_cases e : i = j
      · rw [e, List.getElem?_set_self (by omega), ← hv]; exact hv2
      · exact (List.getElem?_set_ne (by omega)).trans (h1 i (by omega))
  simp only [e250, q250_0, q250_1i, isl_i, isl_r, isl_n]
  exact key 42 0 (mQ.2.2.2.2.2.2.2.2.2.2.1) (by omega) hl (fun i hi => absurd hi (Nat.not_lt_zero _)) (fun _ _ => rfl)
theorem tm_shift_gusts (hl : (mQ.2.2.2.2.2.2.2.2.2.2.2.1).length = 2 * 8) (hq : ∀ ys : List Int32, ys.length = 2 * 8 → (∀ i : Nat, i < 8 → ys[i]? = (mQ.2.2.2.2.2.2.2.2.2.2.2.1)[8 + i]?) → Q none (pm_h z X Y (pm_l mV mT ((mQ.1, mQ.2.1, mQ.2.2.1, mQ.2.2.2.1, mQ.2.2.2.2.1, mQ.2.2.2.2.2.1, mQ.2.2.2.2.2.2.1, mQ.2.2.2.2.2.2.2.1, mQ.2.2.2.2.2.2.2.2.1, mQ.2.2.2.2.2.2.2.2.2.1, mQ.2.2.2.2.2.2.2.2.2.2.1, ys, mQ.2.2.2.2.2.2.2.2.2.2.2.2.1, mQ.2.2.2.2.2.2.2.2.2.2.2.2.2.1, mQ.2.2.2.2.2.2.2.2.2.2.2.2.2.2)) mO mE mB mS mR mW))) : wm (mp_P fx) d 250 [.ref 162, .int (nI 8)] (pm_h z X Y (pm_l mV mT mQ mO mE mB mS mR mW)) Q := by
  have key : ∀ (r j : Nat) (ys : List Int32), j + r = 8 → ys.length = 2 * 8 → (∀ i : Nat, i < j → ys[i]? = (mQ.2.2.2.2.2.2.2.2.2.2.2.1)[8 + i]?) → (∀ i : Nat, j ≤ i → ys[i]? = (mQ.2.2.2.2.2.2.2.2.2.2.2.1)[i]?) → ww (mp_P fx) d 250 2 [some (.ref 162), some (.int (nI 8)), some (.int (nI j))] [] (pm_h z X Y (pm_l mV mT ((mQ.1, mQ.2.1, mQ.2.2.1, mQ.2.2.2.1, mQ.2.2.2.2.1, mQ.2.2.2.2.2.1, mQ.2.2.2.2.2.2.1, mQ.2.2.2.2.2.2.2.1, mQ.2.2.2.2.2.2.2.2.1, mQ.2.2.2.2.2.2.2.2.2.1, mQ.2.2.2.2.2.2.2.2.2.2.1, ys, mQ.2.2.2.2.2.2.2.2.2.2.2.2.1, mQ.2.2.2.2.2.2.2.2.2.2.2.2.2.1, mQ.2.2.2.2.2.2.2.2.2.2.2.2.2.2)) mO mE mB mS mR mW)) Q := by
    intro r
    induction r with
    | zero =>
      intro j ys hj hy h1 h2
      rw [q250_2]
      simp only [q250_3, q250_4]
      rw [if_pos (by rw [nI_leI (by omega) (by omega)]; omega)]
      simp only [q250_21]
      exact hq ys hy (fun i hi => h1 i (by omega))
    | succ r ih =>
      intro j ys hj hy h1 h2
      have hv : ys[8 + j]? = some (ys[8 + j]'(by omega)) := List.getElem?_eq_getElem _
      have hv2 := h2 (8 + j) (by omega)
      rw [q250_2]
      simp only [q250_3, q250_4]
      rw [if_neg (by rw [nI_leI (by omega) (by omega)]; omega)]
      simp only [q250_7, q250_8, q250_9, q250_10, q250_11, q250_12, q250_13, q250_14, q250_15i, q250_18, mc_o, mg_gusts, ma_gusts, mb_gusts, mn_gusts, wx_some, wx_ref, isl_i, isl_r, isl_n, nI_1, nI_add 8 j, aG_n hv (show ys.length < 2 ^ 31 by omega), aS_n (show j < ys.length by omega) (show ys.length < 2 ^ 31 by omega)]
      refine ih (j + 1) (ys.set j _) (by omega) (by rw [List.length_set]; exact hy) (fun i hi => ?_) (fun i hi => (List.getElem?_set_ne (by omega)).trans (h2 i (by omega)))
      by_cases e : i = j
      · rw [e, List.getElem?_set_self (by omega), ← hv]; exact hv2
      · exact (List.getElem?_set_ne (by omega)).trans (h1 i (by omega))
  simp only [e250, q250_0, q250_1i, isl_i, isl_r, isl_n]
  exact key 8 0 (mQ.2.2.2.2.2.2.2.2.2.2.2.1) (by omega) hl (fun i hi => absurd hi (Nat.not_lt_zero _)) (fun _ _ => rfl)
theorem tm_shift_codes (hl : (mQ.2.2.2.2.2.2.2.2.2.2.2.2.2.2).length = 2 * 1000) (hq : ∀ ys : List Int32, ys.length = 2 * 1000 → (∀ i : Nat, i < 1000 → ys[i]? = (mQ.2.2.2.2.2.2.2.2.2.2.2.2.2.2)[1000 + i]?) → Q none (pm_h z X Y (pm_l mV mT ((mQ.1, mQ.2.1, mQ.2.2.1, mQ.2.2.2.1, mQ.2.2.2.2.1, mQ.2.2.2.2.2.1, mQ.2.2.2.2.2.2.1, mQ.2.2.2.2.2.2.2.1, mQ.2.2.2.2.2.2.2.2.1, mQ.2.2.2.2.2.2.2.2.2.1, mQ.2.2.2.2.2.2.2.2.2.2.1, mQ.2.2.2.2.2.2.2.2.2.2.2.1, mQ.2.2.2.2.2.2.2.2.2.2.2.2.1, mQ.2.2.2.2.2.2.2.2.2.2.2.2.2.1, ys)) mO mE mB mS mR mW))) : wm (mp_P fx) d 250 [.ref 165, .int (nI 1000)] (pm_h z X Y (pm_l mV mT mQ mO mE mB mS mR mW)) Q := by
  have key : ∀ (r j : Nat) (ys : List Int32), j + r = 1000 → ys.length = 2 * 1000 → (∀ i : Nat, i < j → ys[i]? = (mQ.2.2.2.2.2.2.2.2.2.2.2.2.2.2)[1000 + i]?) → (∀ i : Nat, j ≤ i → ys[i]? = (mQ.2.2.2.2.2.2.2.2.2.2.2.2.2.2)[i]?) → ww (mp_P fx) d 250 2 [some (.ref 165), some (.int (nI 1000)), some (.int (nI j))] [] (pm_h z X Y (pm_l mV mT ((mQ.1, mQ.2.1, mQ.2.2.1, mQ.2.2.2.1, mQ.2.2.2.2.1, mQ.2.2.2.2.2.1, mQ.2.2.2.2.2.2.1, mQ.2.2.2.2.2.2.2.1, mQ.2.2.2.2.2.2.2.2.1, mQ.2.2.2.2.2.2.2.2.2.1, mQ.2.2.2.2.2.2.2.2.2.2.1, mQ.2.2.2.2.2.2.2.2.2.2.2.1, mQ.2.2.2.2.2.2.2.2.2.2.2.2.1, mQ.2.2.2.2.2.2.2.2.2.2.2.2.2.1, ys)) mO mE mB mS mR mW)) Q := by
    intro r
    induction r with
    | zero =>
      intro j ys hj hy h1 h2
      rw [q250_2]
      simp only [q250_3, q250_4]
      rw [if_pos (by rw [nI_leI (by omega) (by omega)]; omega)]
      simp only [q250_21]
      exact hq ys hy (fun i hi => h1 i (by omega))
    | succ r ih =>
      intro j ys hj hy h1 h2
      have hv : ys[1000 + j]? = some (ys[1000 + j]'(by omega)) := List.getElem?_eq_getElem _
      have hv2 := h2 (1000 + j) (by omega)
      rw [q250_2]
      simp only [q250_3, q250_4]
      rw [if_neg (by rw [nI_leI (by omega) (by omega)]; omega)]
      simp only [q250_7, q250_8, q250_9, q250_10, q250_11, q250_12, q250_13, q250_14, q250_15i, q250_18, mc_o, mg_codes, ma_codes, mb_codes, mn_codes, wx_some, wx_ref, isl_i, isl_r, isl_n, nI_1, nI_add 1000 j, aG_n hv (show ys.length < 2 ^ 31 by omega), aS_n (show j < ys.length by omega) (show ys.length < 2 ^ 31 by omega)]
      refine ih (j + 1) (ys.set j _) (by omega) (by rw [List.length_set]; exact hy) (fun i hi => ?_) (fun i hi => (List.getElem?_set_ne (by omega)).trans (h2 i (by omega)))
      by_cases e : i = j
      · rw [e, List.getElem?_set_self (by omega), ← hv]; exact hv2
      · exact (List.getElem?_set_ne (by omega)).trans (h1 i (by omega))
  simp only [e250, q250_0, q250_1i, isl_i, isl_r, isl_n]
  exact key 1000 0 (mQ.2.2.2.2.2.2.2.2.2.2.2.2.2.2) (by omega) hl (fun i hi => absurd hi (Nat.not_lt_zero _)) (fun _ _ => rfl)
end GZC
