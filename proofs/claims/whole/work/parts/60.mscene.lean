/-! the model: ticks -/
section MS1
variable {fx : List Value → mm_H → Option (List Value × mm_H)} {z : Nat} {X Y : Nat → mm_C} {mV : pm_V} {mT : pm_T} {mQ : pm_Q} {mO : pm_O} {mE : pm_E} {mB : pm_B} {mS : pm_S} {mR : pm_R} {mW : pm_W} {m_thrown : Int32} {m_given : Int32} {m_fresh : Int64} {m_code : Int32} {m_taped : Int32} {m_tape : List Int32} {m_size : Int32} {m_place : Int32} {m_begin : Int32} {m_token : Int32} {m_word : Int64} {m_told : Int32} {m_wrong : Int32} {m_square : List Int32} {m_sortName : List Int64} {m_colourName : List Int64} {m_walkerName : List Int64} {m_sortOf : List Int32} {m_rules : List Int32} {m_kind : List Int32} {m_colour : List Int32} {m_atTold : List Int32} {m_goesMany : List Int32} {m_goes : List Int32} {m_gusts : List Int32} {m_lineFrom : List Int32} {m_lineTo : List Int32} {m_codes : List Int32} {m_opened : List Int32} {m_compared : List Int32} {m_kept : List Int32} {m_keptBy : List Int32} {m_ahead : List Int32} {m_against : List Int32} {m_sum : List Int32} {m_sumBy : List Int32} {m_term : List Int32} {m_termBy : List Int32} {m_byNot : List Int32} {m_valueOf : List Int32} {m_lines : List Int32} {m_lineWhat : List Int32} {m_lineA : List Int32} {m_lineB : List Int32} {m_wishes : List Int32} {m_wishOf : List Int32} {m_seens : List Int32} {m_seenAt : List Int32} {m_seenIn : List Int32} {m_seenThere : List Int32} {m_s : List Int32} {m_aside : List Int32} {m_before : List Int32} {m_marked : List Int32} {m_undone : List Int32} {m_isLaid : List Int32} {m_done : Int32} {m_gustNow : Int32} {m_shown : List Int32} {m_shownMany : Int32} {m_from7 : List Int32} {m_long7 : List Int32} {m_sentences : Int32} {m_text7 : List Int32} {m_textMany : Int32} {m_waysOf : List Int32} {m_rowOf : List Int32} {m_row : List Int32} {m_bestRow : List Int32} {m_leastSteps : Int32} {m_steps10 : List Int32} {m_placeIn : List Int32} {m_g : Int64}
variable {d : Nat} {Q : Option Value → mm_H → Prop} {s : SQ} {c : SC}
def stI (p st : Nat) : Int32 := if st = 0 then nI p else if st = 1 then nI p + 1 else nI p - 1
def sp_can (p st : Nat) : Bool := decide (st = 0 ∨ (st = 1 ∧ p < 9) ∨ (st = 2 ∧ 0 < p))
theorem k_can : ∀ p, p < 10 → ∀ st, st < 3 → ((0 ≤ stI p st ∧ stI p st ≤ 9) ↔ sp_can p st = true) := by decide +kernel
theorem k_stI : ∀ p, p < 10 → ∀ st, st < 3 → sp_can p st = true → stI p st = nI (sp_behind p st) := by decide +kernel
theorem k_beh : ∀ p, p < 10 → ∀ st, st < 3 → sp_can p st = false → sp_behind p st = p := by decide +kernel
theorem tm_within {h : mm_H} {v a b : Int32} (hq : Q (some (.int (if a ≤ v ∧ v ≤ b then 1 else 0))) h) : wm (mp_P fx) d 242 [.int v, .int a, .int b] h Q := by
  simp only [e242, b242_0, b242_1, bn_0 b242_0, bn_1 b242_1, q242_0, q242_1, q242_2, q242_5, q242_6, q242_7, q242_10, q242_11, q242_14, q242_15]
  by_cases h1 : v < a
  · rw [if_neg (fun z => absurd z.1 (Int32.not_le.mpr h1))] at hq; rw [if_pos h1]; exact hq
  · rw [if_neg h1]
    by_cases h2 : b < v
    · rw [if_neg (fun z => absurd z.2 (Int32.not_le.mpr h2))] at hq; rw [if_pos h2]; exact hq
    · rw [if_pos ⟨Int32.not_lt.mp h1, Int32.not_lt.mp h2⟩] at hq; rw [if_neg h2]; exact hq
theorem tm_stepped {h : mm_H} {p st : Nat} (hst : st < 3) (hq : Q (some (.int (stI p st))) h) : wm (mp_P fx) d 276 [.int (nI p), .int (nI st)] h Q := by
  unfold stI at hq
  simp only [e276, q276_0, q276_1, q276_4, q276_5, q276_8, q276_9, q276_10, q276_13, q276_14, q276_15, q276_16, q276_19, q276_20, q276_21, q276_22]
  by_cases h0 : st = 0
  · rw [if_pos h0] at hq; rw [h0, if_neg (fun z => z rfl)]; exact hq
  · rw [if_neg h0] at hq; rw [if_pos (nI_ne0 (by omega) (by omega))]
    by_cases h1 : st = 1
    · rw [if_pos h1] at hq; rw [h1, if_neg (fun z => z rfl)]; exact hq
    · rw [if_neg h1] at hq; rw [nl_1, if_pos (by rw [nI_eq (by omega) (by omega)]; exact h1)]; exact hq
theorem tm_can {w st : Nat} (hc : c_ok s c) (hS : SCm s mS.1 c) (hw : w < k_nW s) (h7 : k_nW s ≤ 7) (hst : st < 3) (hq : Q (some (.int (if sp_can (c.2.2 w) st = true then 1 else 0))) (pm_h z X Y (pm_l mV mT mQ mO mE mB mS mR mW))) : wm (mp_P fx) (d + 1) 275 [.ref 149, .int (nI w), .int (nI st)] (pm_h z X Y (pm_l mV mT mQ mO mE mB mS mR mW)) Q := by
  obtain ⟨h9, -, -, hp⟩ := hS
  have hpw := hp w (by omega)
  rw [if_pos hw] at hpw
  have hk := k_can _ (hc.2.2 w hw) st hst
  simp only [e275, b275_0, b275_1, bn_0 b275_0, bn_1 b275_1, q275_0, q275_1, q275_4, q275_5, q275_6, q275_7, q275_8, q275_9, q275_12, q275_13, q275_15, q275_18, mg_s, ma_s, mb_s, mn_s, wx_some, wx_ref, nl_2, nI_add, aG_n hpw (show (mS.1).length < 2 ^ 31 by omega)]
  apply tm_stepped hst
  simp only [sl_i, e275, b275_0, b275_1, bn_0 b275_0, bn_1 b275_1, q275_0, q275_1, q275_4, q275_5, q275_6, q275_7, q275_8, q275_9, q275_12, q275_13, q275_15, q275_18]
  apply tm_within
  simp only [sl_i]
  by_cases e : sp_can (c.2.2 w) st = true
  · rw [if_pos e] at hq; rw [if_pos (hk.mpr e)]
    simp only [e275, b275_0, b275_1, bn_0 b275_0, bn_1 b275_1, q275_0, q275_1, q275_4, q275_5, q275_6, q275_7, q275_8, q275_9, q275_12, q275_13, q275_15, q275_18]; exact hq
  · rw [if_neg e] at hq; rw [if_neg (fun z => e (hk.mp z))]
    simp only [e275, b275_0, b275_1, bn_0 b275_0, bn_1 b275_1, q275_0, q275_1, q275_4, q275_5, q275_6, q275_7, q275_8, q275_9, q275_12, q275_13, q275_15, q275_18]; exact hq
theorem tm_stepOf {w : Nat} (hs : SQm mQ s) (ho : k_ok s) (hc : c_ok s c) (hS : SCm s mS.1 c) (hw : w < k_nW s) (hq : Q (some (.int (nI (sp_step s w c.1)))) (pm_h z X Y (pm_l mV mT mQ mO mE mB mS mR mW))) : wm (mp_P fx) d 260 [.ref 149, .int (nI w)] (pm_h z X Y (pm_l mV mT mQ mO mE mB mS mR mW)) Q := by
  have h7 := ho.1.2.2.2.1
  have h6 := (ho.2.2.2.1 w hw).2.2.2.1
  have hm := Nat.mod_lt c.1 h6.1
  have hh := hc.1
  obtain ⟨h9, hp0, -, -⟩ := hS
  have hgm := hs.2.2.2.1.2.2.2.2.2.1
  have hl1 := hs.1.2.2.2.2.2.2.2.2.2.1
  have hl2 := hs.1.2.2.2.2.2.2.2.2.2.2.1
  have hg := hs.2.2.2.2 w hw _ hm
  simp only [e260, q260_0, q260_1, q260_4, q260_6, q260_7, q260_8, q260_9, q260_12, q260_13, q260_14, q260_15, q260_18, q260_19, q260_20, q260_21, q260_22, q260_23, mg_s, ma_s, mb_s, mn_s, mg_goes, ma_goes, mb_goes, mn_goes, mg_goesMany, ma_goesMany, mb_goesMany, mn_goesMany, wx_some, wx_ref, aG_n (show (mS.1)[0]? = _ from hp0) (show (mS.1).length < 2 ^ 31 by omega), ag_G hgm (show (mQ.2.2.2.2.2.2.2.2.2.1).length < 2 ^ 31 by omega) hw, nl_0, nl_6, pk_mul]
  rw [if_neg (by rw [nI_eq (by omega) (by omega)]; omega), nI_mod (by omega) (by omega) (by omega), nI_add, aG_n hg (by omega), wx_some]
  exact hq
theorem tm_passes_l (hs : SQm mQ s) (ho : k_ok s) (hc : c_ok s c) (hq : ∀ r, SCm s r (sp_on s c) → Q none (pm_h z X Y (pm_l mV mT mQ mO mE mB ((r, mS.2.1, mS.2.2.1, mS.2.2.2.1, mS.2.2.2.2.1, mS.2.2.2.2.2.1, mS.2.2.2.2.2.2.1, mS.2.2.2.2.2.2.2)) mR mW))) : ∀ (n w : Nat) (r : List Int32), w + n = k_nW s → SCm s r (c.1, c.2.1, fun i => if i < w then (sp_on s c).2.2 i else c.2.2 i) → ww (mp_P fx) (d + 2) 274 2 [some (.ref 149), some (.int (nI w))] [] (pm_h z X Y (pm_l mV mT mQ mO mE mB ((r, mS.2.1, mS.2.2.1, mS.2.2.2.1, mS.2.2.2.2.1, mS.2.2.2.2.2.1, mS.2.2.2.2.2.2.1, mS.2.2.2.2.2.2.2)) mR mW)) Q := by
  have h7 := ho.1.2.2.2.1
  have hl := hs.1.1
  have hn := hs.2.1.2.2.2.1
  have hh := hc.1
  intro n
  induction n with
  | zero =>
    intro w r hw hr
    obtain ⟨h9, hp0, hp1, hp⟩ := hr
    rw [q274_2]
    simp only [e274, q274_0, q274_1r, q274_3, q274_4, q274_7, q274_8, q274_9, q274_12, q274_13, q274_14, q274_15, q274_16, q274_19, q274_22, q274_25, q274_26, q274_29, q274_30, q274_31, q274_32, q274_33, q274_36, q274_37, q274_38, q274_39, q274_40, q274_41, q274_42, q274_45, q274_48, q274_49r, q274_52, q274_55, q274_56, q274_59, q274_60, q274_61, q274_62, q274_63, q274_64, q274_65, mg_s, ma_s, mb_s, mn_s, mg_square, ma_square, mb_square, mn_square, wx_some, wx_ref, nl_3, aG_n hn (show (mQ.1).length < 2 ^ 31 by omega), nl_0, nl_1, aG_n hp0 (show r.length < 2 ^ 31 by omega), aS_n (show 0 < r.length by omega) (show r.length < 2 ^ 31 by omega), nI_add]
    rw [if_pos (by rw [nI_leI (by omega) (by omega)]; omega)]
    refine hq _ ⟨by rw [List.length_set]; exact h9, by rw [List.getElem?_set_self (by omega)]; rfl, by rw [List.getElem?_set_ne (by omega)]; exact hp1, fun i hi => ?_⟩
    rw [List.getElem?_set_ne (by omega), hp i hi]
    by_cases e : i < k_nW s
    · rw [if_pos e, if_pos e, show w = k_nW s by omega]
      show some (nI (if i < k_nW s then (sp_on s c).2.2 i else c.2.2 i)) = _
      rw [if_pos e]
    · rw [if_neg e, if_neg e]
  | succ n ih =>
    intro w r hw hr
    have hw' : w < k_nW s := by omega
    have hcw : c_ok s (c.1, c.2.1, fun i => if i < w then (sp_on s c).2.2 i else c.2.2 i) := by
      refine ⟨hc.1, hc.2.1, fun i hi => ?_⟩
      show (if i < w then (sp_on s c).2.2 i else c.2.2 i) < 10
      split
      · exact sp_behind_lt (hc.2.2 i hi)
      · exact hc.2.2 i hi
    have h2 := sp_step_le (hr := c.1) ho hw'
    have hstep : ∀ (Q' : Option Value → mm_H → Prop), Q' (some (.int (nI (sp_step s w c.1)))) (pm_h z X Y (pm_l mV mT mQ mO mE mB ((r, mS.2.1, mS.2.2.1, mS.2.2.2.1, mS.2.2.2.2.1, mS.2.2.2.2.2.1, mS.2.2.2.2.2.2.1, mS.2.2.2.2.2.2.2)) mR mW)) → wm (mp_P fx) (d + 1) 260 [.ref 149, .int (nI w)] (pm_h z X Y (pm_l mV mT mQ mO mE mB ((r, mS.2.1, mS.2.2.1, mS.2.2.2.1, mS.2.2.2.2.1, mS.2.2.2.2.2.1, mS.2.2.2.2.2.2.1, mS.2.2.2.2.2.2.2)) mR mW)) Q' := fun Q' h => tm_stepOf (c := (c.1, c.2.1, fun i => if i < w then (sp_on s c).2.2 i else c.2.2 i)) hs ho hcw hr hw' h
    have hpw := hr.2.2.2 w (by omega)
    rw [if_pos hw'] at hpw
    simp only [] at hpw
    rw [if_neg (Nat.lt_irrefl w)] at hpw
    have h9 := hr.1
    rw [q274_2]
    simp only [e274, q274_0, q274_1r, q274_3, q274_4, q274_7, q274_8, q274_9, q274_12, q274_13, q274_14, q274_15, q274_16, q274_19, q274_22, q274_25, q274_26, q274_29, q274_30, q274_31, q274_32, q274_33, q274_36, q274_37, q274_38, q274_39, q274_40, q274_41, q274_42, q274_45, q274_48, q274_49r, q274_52, q274_55, q274_56, q274_59, q274_60, q274_61, q274_62, q274_63, q274_64, q274_65, mc_o, mg_s, ma_s, mb_s, mn_s, mg_square, ma_square, mb_square, mn_square, wx_some, wx_ref, nl_3, aG_n hn (show (mQ.1).length < 2 ^ 31 by omega)]
    rw [if_neg (by rw [nI_leI (by omega) (by omega)]; omega)]
    apply hstep
    simp only [sl_i, e274, q274_0, q274_1r, q274_3, q274_4, q274_7, q274_8, q274_9, q274_12, q274_13, q274_14, q274_15, q274_16, q274_19, q274_22, q274_25, q274_26, q274_29, q274_30, q274_31, q274_32, q274_33, q274_36, q274_37, q274_38, q274_39, q274_40, q274_41, q274_42, q274_45, q274_48, q274_49r, q274_52, q274_55, q274_56, q274_59, q274_60, q274_61, q274_62, q274_63, q274_64, q274_65, mc_o, mg_s, ma_s, mb_s, mn_s]
    apply tm_can (st := sp_step s w c.1) hcw hr hw' h7 (by omega)
    simp only [sl_i, e274, q274_0, q274_1r, q274_3, q274_4, q274_7, q274_8, q274_9, q274_12, q274_13, q274_14, q274_15, q274_16, q274_19, q274_22, q274_25, q274_26, q274_29, q274_30, q274_31, q274_32, q274_33, q274_36, q274_37, q274_38, q274_39, q274_40, q274_41, q274_42, q274_45, q274_48, q274_49r, q274_52, q274_55, q274_56, q274_59, q274_60, q274_61, q274_62, q274_63, q274_64, q274_65, mc_o, mg_s, ma_s, mb_s, mn_s, wx_some, wx_ref, nl_2, nI_add, aG_n hpw (show r.length < 2 ^ 31 by omega)]
    have hcan := sp_can ((fun i => if i < w then (sp_on s c).2.2 i else c.2.2 i) w) (sp_step s w c.1)
    have hval : (if w < w then (sp_on s c).2.2 w else c.2.2 w) = c.2.2 w := if_neg (Nat.lt_irrefl w)
    have fin : ∀ r', r'.length = 9 → (∀ i, r'[i]? = if i = 2 + w then some (nI ((sp_on s c).2.2 w)) else r[i]?) → SCm s r' (c.1, c.2.1, fun i => if i < w + 1 then (sp_on s c).2.2 i else c.2.2 i) := by
      intro r' hl' hi'
      refine ⟨hl', by rw [hi' 0, if_neg (by omega)]; exact hr.2.1, by rw [hi' 1, if_neg (by omega)]; exact hr.2.2.1, fun i hi => ?_⟩
      rw [hi' (2 + i)]
      by_cases e : i = w
      · subst e; rw [if_pos rfl, if_pos hw']; simp only []; rw [if_pos (by omega)]
      · rw [if_neg (by omega), hr.2.2.2 i hi]
        by_cases e2 : i < k_nW s
        · rw [if_pos e2, if_pos e2]; simp only []
          by_cases e3 : i < w
          · rw [if_pos e3, if_pos (by omega)]
          · rw [if_neg e3, if_neg (by omega)]
        · rw [if_neg e2, if_neg e2]
    simp only [hval]
    by_cases e : sp_can (c.2.2 w) (sp_step s w c.1) = true
    · rw [if_pos e, if_neg (by decide)]
      apply hstep
      simp only [sl_i, e274, q274_0, q274_1r, q274_3, q274_4, q274_7, q274_8, q274_9, q274_12, q274_13, q274_14, q274_15, q274_16, q274_19, q274_22, q274_25, q274_26, q274_29, q274_30, q274_31, q274_32, q274_33, q274_36, q274_37, q274_38, q274_39, q274_40, q274_41, q274_42, q274_45, q274_48, q274_49r, q274_52, q274_55, q274_56, q274_59, q274_60, q274_61, q274_62, q274_63, q274_64, q274_65]
      apply tm_stepped (by omega)
      simp only [sl_i, e274, q274_0, q274_1r, q274_3, q274_4, q274_7, q274_8, q274_9, q274_12, q274_13, q274_14, q274_15, q274_16, q274_19, q274_22, q274_25, q274_26, q274_29, q274_30, q274_31, q274_32, q274_33, q274_36, q274_37, q274_38, q274_39, q274_40, q274_41, q274_42, q274_45, q274_48, q274_49r, q274_52, q274_55, q274_56, q274_59, q274_60, q274_61, q274_62, q274_63, q274_64, q274_65, mc_o, mg_s, ma_s, mb_s, mn_s, wx_some, wx_ref, aS_n (show 2 + w < r.length by omega) (show r.length < 2 ^ 31 by omega), nl_1, nI_add]
      apply ih (w + 1) _ (by omega)
      apply fin _ (by rw [List.length_set]; exact h9)
      intro i
      rw [List.getElem?_set, k_stI _ (hc.2.2 w hw') _ (by omega) e]
      by_cases ei : i = 2 + w
      · rw [if_pos ei.symm, if_pos (by omega), if_pos ei]; rfl
      · rw [if_neg (fun z => ei z.symm), if_neg ei]
    · rw [if_neg e, if_pos rfl]
      simp only [nl_1, nI_add]
      apply ih (w + 1) r (by omega)
      apply fin r h9
      intro i
      by_cases ei : i = 2 + w
      · rw [if_pos ei, ei, hpw]
        show _ = some (nI (sp_behind (c.2.2 w) (sp_step s w c.1)))
        rw [k_beh _ (hc.2.2 w hw') _ (by omega) (Bool.eq_false_iff.mpr e)]
      · rw [if_neg ei]
theorem tm_passes (hs : SQm mQ s) (ho : k_ok s) (hc : c_ok s c) (hS : SCm s mS.1 c) (hq : ∀ r, SCm s r (sp_on s c) → Q none (pm_h z X Y (pm_l mV mT mQ mO mE mB ((r, mS.2.1, mS.2.2.1, mS.2.2.2.1, mS.2.2.2.2.1, mS.2.2.2.2.2.1, mS.2.2.2.2.2.2.1, mS.2.2.2.2.2.2.2)) mR mW))) : wm (mp_P fx) (d + 2) 274 [.ref 149] (pm_h z X Y (pm_l mV mT mQ mO mE mB mS mR mW)) Q := by
  simp only [e274, q274_0, q274_1r, q274_3, q274_4, q274_7, q274_8, q274_9, q274_12, q274_13, q274_14, q274_15, q274_16, q274_19, q274_22, q274_25, q274_26, q274_29, q274_30, q274_31, q274_32, q274_33, q274_36, q274_37, q274_38, q274_39, q274_40, q274_41, q274_42, q274_45, q274_48, q274_49r, q274_52, q274_55, q274_56, q274_59, q274_60, q274_61, q274_62, q274_63, q274_64, q274_65, isl_i, isl_r, isl_n]
  refine tm_passes_l hs ho hc hq (k_nW s) 0 mS.1 (by omega) ⟨hS.1, hS.2.1, hS.2.2.1, fun i hi => ?_⟩
  rw [hS.2.2.2 i hi]
  by_cases e : i < k_nW s
  · rw [if_pos e, if_pos e]; simp only []; rw [if_neg (by omega)]
  · rw [if_neg e, if_neg e]
end MS1
