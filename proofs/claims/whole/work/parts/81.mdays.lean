/-! days by draws, of the model -/
theorem sm_cut {f : Nat → Nat} {n : Nat} : ∀ m, sm (fun i => if i < n then f i else 0) (n + m) = sm f n := by
  intro m
  induction m with
  | zero => exact sm_ext (fun i hi => if_pos hi)
  | succ m ih =>
    show sm _ (n + m + 1) = _
    rw [sm, ih, if_neg (by omega)]; rfl
section MY
variable {fx : List Value → mm_H → Option (List Value × mm_H)} {z : Nat} {X Y : Nat → mm_C} {mV : pm_V} {mT : pm_T} {mQ : pm_Q} {mO : pm_O} {mE : pm_E} {mB : pm_B} {mS : pm_S} {mR : pm_R} {mW : pm_W} {m_thrown : Int32} {m_given : Int32} {m_fresh : Int64} {m_code : Int32} {m_taped : Int32} {m_tape : List Int32} {m_size : Int32} {m_place : Int32} {m_begin : Int32} {m_token : Int32} {m_word : Int64} {m_told : Int32} {m_wrong : Int32} {m_square : List Int32} {m_sortName : List Int64} {m_colourName : List Int64} {m_walkerName : List Int64} {m_sortOf : List Int32} {m_rules : List Int32} {m_kind : List Int32} {m_colour : List Int32} {m_atTold : List Int32} {m_goesMany : List Int32} {m_goes : List Int32} {m_gusts : List Int32} {m_lineFrom : List Int32} {m_lineTo : List Int32} {m_codes : List Int32} {m_opened : List Int32} {m_compared : List Int32} {m_kept : List Int32} {m_keptBy : List Int32} {m_ahead : List Int32} {m_against : List Int32} {m_sum : List Int32} {m_sumBy : List Int32} {m_term : List Int32} {m_termBy : List Int32} {m_byNot : List Int32} {m_valueOf : List Int32} {m_lines : List Int32} {m_lineWhat : List Int32} {m_lineA : List Int32} {m_lineB : List Int32} {m_wishes : List Int32} {m_wishOf : List Int32} {m_seens : List Int32} {m_seenAt : List Int32} {m_seenIn : List Int32} {m_seenThere : List Int32} {m_s : List Int32} {m_aside : List Int32} {m_before : List Int32} {m_marked : List Int32} {m_undone : List Int32} {m_isLaid : List Int32} {m_done : Int32} {m_gustNow : Int32} {m_shown : List Int32} {m_shownMany : Int32} {m_from7 : List Int32} {m_long7 : List Int32} {m_sentences : Int32} {m_text7 : List Int32} {m_textMany : Int32} {m_waysOf : List Int32} {m_rowOf : List Int32} {m_row : List Int32} {m_bestRow : List Int32} {m_leastSteps : Int32} {m_steps10 : List Int32} {m_placeIn : List Int32} {m_g : Int64}
variable {d : Nat} {Q : Option Value → mm_H → Prop} {s : SQ} {c : SC} {nm : NMs}
theorem tm_draws {g m : Nat} (hg : g < 2 ^ 31) (hm : m < 2 ^ 31) (h0 : 0 < m) (hq : Q (some (.int (nI (sp_dr g / 65536 % m)))) (pm_h z X Y (pm_l mV mT mQ mO mE mB mS mR ((mW.1, mW.2.1, mW.2.2.1, mW.2.2.2.1, mW.2.2.2.2.1, lN (sp_dr g)))))) : wm (mp_P fx) d 326 [.ref 149, .int (nI m)] (pm_h z X Y (pm_l mV mT mQ mO mE mB mS mR ((mW.1, mW.2.1, mW.2.2.1, mW.2.2.2.1, mW.2.2.2.2.1, lN g)))) Q := by
  have hg1 := sp_dr_lt g
  have e : lN (g * 1103515245 + 12345) - lN (g * 1103515245 + 12345) / 2147483648 * 2147483648 = lN (sp_dr g) := pk_lRem (b := 2147483648) (by omega) (by omega) (by omega)
  simp only [e326, q326_0, q326_1, q326_2, q326_5, q326_8, q326_9, q326_12, q326_13, q326_16, q326_17, q326_20, q326_21, q326_24, q326_27, q326_28, q326_29, q326_30, q326_31, q326_32, mc_o, mg_g, mf_g, wx_some, wx_ref, show (1103515245 : Int64) = lN 1103515245 from rfl, show (12345 : Int64) = lN 12345 from rfl, lN_mul, lN_add, if_neg (show ¬ (2147483648 : Int64) = 0 by decide), if_neg (show ¬ (65536 : Int64) = 0 by decide), e, nI_l hm]
  rw [if_neg (by rw [show (0 : Int64) = lN 0 from rfl, pk_lEQ (by omega) (by omega)]; omega), lN_dm hg1 hm h0]
  exact hq
theorem tm_lives {g : Nat} (hK : KM nm s mQ) (hc : c_ok s c) (hh : c.1 + 1 < 2 ^ 20) (hg : g < 2 ^ 31) (hS : SCm s mS.1 c) (hq : ∀ r, SCm s r (sp_on s (sp_stir s g c).2) → Q none (pm_h z X Y (pm_l mV mT mQ mO mE mB ((r, mS.2.1, mS.2.2.1, mS.2.2.2.1, mS.2.2.2.2.1, mS.2.2.2.2.2.1, mS.2.2.2.2.2.2.1, mS.2.2.2.2.2.2.2)) mR ((mW.1, mW.2.1, mW.2.2.1, mW.2.2.2.1, mW.2.2.2.2.1, lN (sp_stir s g c).1))))) : wm (mp_P fx) (d + 3) 325 [.ref 149] (pm_h z X Y (pm_l mV mT mQ mO mE mB mS mR ((mW.1, mW.2.1, mW.2.2.1, mW.2.2.2.1, mW.2.2.2.2.1, lN g)))) Q := by
  have ho := hK.2.2.1
  have h7 := ho.1.2.2.2.1
  have hs9 := hS.1
  have hsl := hK.1.1.1
  have hn := hK.1.2.1.2.2.2.1
  have h128 : c.2.1 < 128 := Nat.lt_of_lt_of_le hc.2.1 (p27 h7)
  have hst := c_stir hg hc
  have fin : ∀ (c' : SC) (g' : Nat) (r : List Int32) (l1 l2 l3 : Option Value), sp_stir s g c = (g', c') → SCm s r c' → ww (mp_P fx) (d + 3) 325 112 [some (.ref 149), l1, l2, l3] [] (pm_h z X Y (pm_l mV mT mQ mO mE mB ((r, mS.2.1, mS.2.2.1, mS.2.2.2.1, mS.2.2.2.2.1, mS.2.2.2.2.2.1, mS.2.2.2.2.2.2.1, mS.2.2.2.2.2.2.2)) mR ((mW.1, mW.2.1, mW.2.2.1, mW.2.2.2.1, mW.2.2.2.2.1, lN g')))) Q := by
    intro c' g' r l1 l2 l3 he hr
    rw [he] at hq hst
    simp only [q325_112, q325_113, mc_o]
    apply tm_passes (mS := (r, mS.2.1, mS.2.2.1, mS.2.2.2.1, mS.2.2.2.2.1, mS.2.2.2.2.2.1, mS.2.2.2.2.2.2.1, mS.2.2.2.2.2.2.2)) hK.1 ho hst.1 hr
    intro r2 hr2
    simp only [sl_n, q325_116]
    exact hq r2 hr2
  simp only [e325, q325_0, q325_1, q325_4, q325_5, q325_6, q325_9, q325_10, q325_11, q325_14, q325_15, mc_o, mg_square, ma_square, mb_square, mn_square, wx_some, wx_ref, isl_i, isl_r, isl_n, nl_3, aG_n hn (show (mQ.1).length < 2 ^ 31 by omega)]
  have hsti : sp_stir s g c = sp_stir s g c := rfl
  unfold sp_stir at hsti
  by_cases e : k_nW s = 0
  · rw [if_pos e] at hsti
    rw [e, if_pos (by decide)]
    exact fin c g mS.1 _ _ _ (by unfold sp_stir; rw [if_pos e]) hS
  rw [if_neg (nI_nle (by omega) (by omega))]
  simp only [q325_16, mc_o]
  apply tm_draws hg (by omega) (by omega)
  have hg1 := sp_dr_lt g
  have hg2 := sp_dr_lt (sp_dr g)
  have hg3 := sp_dr_lt (sp_dr (sp_dr g))
  have hw : sp_dr g / 65536 % k_nW s < k_nW s := Nat.mod_lt _ (by omega)
  have hd6 : sp_dr (sp_dr g) / 65536 % 6 < 6 := Nat.mod_lt _ (by omega)
  have hdef : sp_stir s g c = if sp_dr (sp_dr g) / 65536 % 6 = 0 then (sp_dr (sp_dr (sp_dr g)), sp_put c (sp_dr g / 65536 % k_nW s) (sp_behind (c.2.2 (sp_dr g / 65536 % k_nW s)) (sp_dr (sp_dr (sp_dr g)) / 65536 % 2 + 1))) else if sp_dr (sp_dr g) / 65536 % 6 = 1 then (sp_dr (sp_dr g), (c.1, c.2.1 &&& (127 ^^^ 2 ^ (sp_dr g / 65536 % k_nW s)), c.2.2)) else if sp_dr (sp_dr g) / 65536 % 6 = 2 then (sp_dr (sp_dr g), (c.1, c.2.1 ||| 2 ^ (sp_dr g / 65536 % k_nW s), c.2.2)) else (sp_dr (sp_dr g), c) := by
    unfold sp_stir; rw [if_neg e]
  clear hsti
  generalize sp_dr g / 65536 % k_nW s = w at *
  simp only [sl_i, q325_19r, q325_20, q325_21, q325_23, mc_o, isl_i, isl_r, isl_n, nl_6]
  apply tm_draws hg1 (by omega) (by omega)
  simp only [sl_i, q325_26i, q325_27, q325_28, q325_31, q325_32, mc_o, isl_i, isl_r, isl_n]
  have hpw := hS.2.2.2 w (by omega)
  rw [if_pos hw] at hpw
  have hp := hc.2.2 w hw
  have hp1 := hS.2.2.1
  by_cases e0 : sp_dr (sp_dr g) / 65536 % 6 = 0
  · rw [if_pos e0] at hdef
    rw [e0, if_neg (fun z => z rfl), nl_2]
    simp only [q325_33, mc_o]
    apply tm_draws hg2 (by omega) (by omega)
    have hst2 : sp_dr (sp_dr (sp_dr g)) / 65536 % 2 < 2 := Nat.mod_lt _ (by omega)
    generalize sp_dr (sp_dr (sp_dr g)) / 65536 % 2 = st at *
    simp only [sl_i, q325_36, q325_37, q325_38, q325_41, q325_42i, q325_43, q325_44, q325_47, q325_48, q325_49, mc_o, isl_i, isl_r, isl_n, nI_1]
    rw [if_neg (fun z => z rfl)]
    have tail : ∀ (r : List Int32), SCm s r (sp_put c w (sp_behind (c.2.2 w) (st + 1))) → ww (mp_P fx) (d + 3) 325 76 [some (.ref 149), some (.int (nI w)), some (.int (nI 0)), some (.int (nI (st + 1)))] [] (pm_h z X Y (pm_l mV mT mQ mO mE mB ((r, mS.2.1, mS.2.2.1, mS.2.2.2.1, mS.2.2.2.2.1, mS.2.2.2.2.2.1, mS.2.2.2.2.2.2.1, mS.2.2.2.2.2.2.2)) mR ((mW.1, mW.2.1, mW.2.2.1, mW.2.2.2.1, mW.2.2.2.2.1, lN (sp_dr (sp_dr (sp_dr g))))))) Q := by
      intro r hr
      simp only [q325_76, q325_77, q325_78, q325_95, q325_96, q325_97]
      rw [if_pos (by decide), if_pos (by decide)]
      exact fin _ _ r _ _ _ hdef hr
    have hcb := k_canb _ hp (st + 1) (by omega) (by omega)
    simp only [q325_50, mc_o]
    apply tm_can hc hS hw h7 (by omega)
    simp only [sl_i, q325_53, q325_56, q325_57, q325_60, q325_61, q325_62, q325_63, q325_64, q325_67, q325_68, q325_69, q325_70, q325_71, mc_o, mg_s, ma_s, mb_s, mn_s, wx_some, wx_ref, nl_2, nI_add, aG_n hpw (show (mS.1).length < 2 ^ 31 by omega)]
    by_cases ec : sp_can (c.2.2 w) (st + 1) = true
    · rw [if_pos ec, if_neg (by decide)]
      simp only [q325_72]
      apply tm_stepped (by omega)
      rw [k_stI _ hp (st + 1) (by omega) ec]
      simp only [sl_i, q325_75, mc_o, mg_s, ma_s, mb_s, mn_s, wx_some, wx_ref, aS_n (show 2 + w < (mS.1).length by omega) (show (mS.1).length < 2 ^ 31 by omega)]
      exact tail _ (SCm_put hw h7 hS)
    · rw [if_neg ec, if_pos (by decide)]
      apply tail mS.1
      rw [show sp_behind (c.2.2 w) (st + 1) = c.2.2 w from Decidable.not_not.mp (fun z => ec (hcb.mpr z)), sp_put_self]
      exact hS
  rw [if_neg e0] at hdef
  rw [if_pos (nI_ne0 (by omega) (by omega))]
  simp only [q325_41, q325_42i, q325_43, q325_44, isl_i, isl_r, isl_n]
  rw [if_pos (nI_ne0 (by omega) (by omega))]
  simp only [q325_76, q325_77, q325_78, q325_81, q325_82, q325_85, q325_86, q325_87, q325_88, q325_89, q325_90, q325_91, q325_92, q325_93, q325_94, q325_95, q325_96, q325_97, q325_100, q325_101, q325_104, q325_105, q325_106, q325_107, q325_108, q325_109, q325_110, q325_111, mc_o, mg_s, ma_s, mb_s, mn_s, wx_some, wx_ref, show aG (mS.1) 1 = some (nI c.2.1) from aG_n hp1 (by omega), k7_m1 _ h128 w (show w < 7 by omega), k7_or _ h128 w (show w < 7 by omega), show ∀ x (f : List Int32 → mm_H), aS (mS.1) 1 x f = some (f ((mS.1).set 1 x)) from fun x f => aS_n (j := 1) (by omega) (by omega)]
  by_cases e1 : sp_dr (sp_dr g) / 65536 % 6 = 1
  · rw [if_pos e1] at hdef
    rw [e1, if_neg (fun z => z rfl), if_pos (by decide)]
    exact fin _ _ _ _ _ _ hdef (SCm_open hS)
  rw [if_neg e1] at hdef
  rw [nl_1, if_pos (by rw [nI_eq (by omega) (by omega)]; exact e1)]
  by_cases e2 : sp_dr (sp_dr g) / 65536 % 6 = 2
  · rw [if_pos e2] at hdef
    rw [e2, if_neg (fun z => z rfl)]
    exact fin _ _ _ _ _ _ hdef (SCm_open hS)
  rw [if_neg e2] at hdef
  rw [nl_2, if_pos (by rw [nI_eq (by omega) (by omega)]; exact e2)]
  exact fin _ _ _ _ _ _ hdef hS
theorem tm_days {a b v : Int32} (hK : KM nm s mQ) (hE : KE mE mR) (hc : c_ok s c) (hh : c.1 + 100 < 2 ^ 20) (hS : SCm s mS.1 c) (hg : mS.2.2.2.2.2.2.2 = -1) (hla : (mS.2.1).length = 9) (hq : ∀ mE' mR' a' g', KE mE' mR' → a'.length = 9 → Q (some (.int (sp_dq s c a b v))) (pm_h z X Y (pm_l ((0, mV.2.1, mV.2.2.1, mV.2.2.2)) mT mQ mO (mE') mB ((mS.1, a', mS.2.2.1, mS.2.2.2.1, mS.2.2.2.2.1, mS.2.2.2.2.2.1, mS.2.2.2.2.2.2.1, mS.2.2.2.2.2.2.2)) (mR') ((mW.1, mW.2.1, mW.2.2.1, mW.2.2.2.1, mW.2.2.2.2.1, g'))))) : wm (mp_P fx) (d + 6) 324 [.ref 149, .int a, .int b, .int v] (pm_h z X Y (pm_l mV mT mQ mO mE mB mS mR mW)) Q := by
  have ho := hK.2.2.1
  have h7 := ho.1.2.2.2.1
  have hs9 := hS.1
  have hq0 : sp_dq s c a b v = -1 → Q (some (.int (-1))) (pm_h z X Y (pm_l ((0, mV.2.1, mV.2.2.1, mV.2.2.2)) mT mQ mO mE mB mS mR mW)) := fun h => by have := hq mE mR mS.2.1 mW.2.2.2.2.2 hE hla; rw [h] at this; exact this
  unfold sp_dq at hq0 hq
  simp only [e324, q324_0, q324_1, q324_2, q324_5, q324_6, q324_7, q324_10, mc_o, mg_thrown, mf_thrown, wx_some, wx_ref, isl_i, isl_r, isl_n]
  apply tm_in
  · intro h0
    simp only [sl_i, q324_13, q324_35, q324_36]
    rw [if_pos (by decide)]
    rcases sx_c 10000 a (by omega) with ⟨e, -⟩ | ⟨n, hn, rfl, e⟩
    · rw [e] at hq0; exact hq0 rfl
    · rw [nl_0, show (9999 : Int32) = nI 9999 from rfl, nI_ltI (by omega) (by omega), nI_ltI (by omega) (by omega)] at h0
      omega
  intro h1 h2
  rcases sx_c 10000 a (by omega) with ⟨e, h3⟩ | ⟨g, hgl, rfl, e⟩
  · rcases h3 with h3 | ⟨h3, h4⟩
    · exact absurd h1 (Int32.not_le.mpr h3)
    · exact absurd h2 (Int32.not_le.mpr (Int32.lt_of_lt_of_le (by decide : (9999 : Int32) < nI 10000) h4))
  rw [e] at hq hq0
  simp only [sl_i, q324_13, q324_16, q324_17, q324_18, q324_20]
  rw [if_neg (by decide)]
  apply tm_in
  · intro h0
    simp only [sl_i, q324_23, q324_35, q324_36]
    rw [if_pos (by decide)]
    apply hq0
    rcases sx_c 100 b (by omega) with ⟨e2, -⟩ | ⟨n, hn, rfl, e2⟩
    · rw [e2]
    · rw [nl_1, show (99 : Int32) = nI 99 from rfl, nI_ltI (by omega) (by omega), nI_ltI (by omega) (by omega)] at h0
      rw [e2]
      cases sx 3 v with
      | none => rfl
      | some k => simp only []; rw [if_pos (show n = 0 by omega)]
  intro h3 h4
  rcases sx_c 100 b (by omega) with ⟨e2, h5⟩ | ⟨n, hn, rfl, e2⟩
  · rcases h5 with h5 | ⟨h5, h6⟩
    · exact absurd h3 (Int32.not_le.mpr (Int32.lt_of_lt_of_le h5 (by decide : (0 : Int32) ≤ 1)))
    · exact absurd h4 (Int32.not_le.mpr (Int32.lt_of_lt_of_le (by decide : (99 : Int32) < nI 100) h6))
  have hn0 : ¬ n = 0 := by
    rw [nl_1, nI_leI (by omega) (by omega)] at h3
    omega
  rw [e2] at hq hq0
  simp only [sl_i, q324_23, q324_26, q324_27, q324_28, q324_29]
  rw [if_neg (by decide)]
  apply tm_in
  · intro h0
    simp only [sl_i, q324_32, q324_35, q324_36]
    rw [if_neg (by decide)]
    apply hq0
    rcases sx_c 3 v (by omega) with ⟨e3, -⟩ | ⟨k, hk, rfl, e3⟩
    · rw [e3]
    · rw [nl_0, nl_2, nI_ltI (by omega) (by omega), nI_ltI (by omega) (by omega)] at h0
      omega
  intro h5 h6
  rcases sx_c 3 v (by omega) with ⟨e3, h8⟩ | ⟨k, hk, rfl, e3⟩
  · rcases h8 with h8 | ⟨h8, h9⟩
    · exact absurd h5 (Int32.not_le.mpr h8)
    · exact absurd h6 (Int32.not_le.mpr (Int32.lt_of_lt_of_le (by decide : (2 : Int32) < nI 3) h9))
  rw [e3] at hq
  simp only [] at hq
  rw [if_neg hn0] at hq
  unfold sp_days at hq
  simp only [sl_i, q324_32, q324_35, q324_36, q324_37, q324_38, q324_39, q324_40, q324_43, q324_44, q324_47, q324_48, q324_49, q324_52, mc_o, mg_g, mf_g, mg_s, ma_s, mb_s, mn_s, mg_aside, ma_aside, mb_aside, mn_aside, wx_some, wx_ref, nI_l (show g < 2 ^ 31 by omega)]
  rw [if_pos (by decide)]
  simp only [q324_53]
  apply tm_saveaside hs9 hla
  simp only [sl_n, q324_56, q324_57i, q324_59, q324_60i, isl_i, isl_r, isl_n]
  have fin : ∀ (r : List Int32) (mE' : pm_E) (mR' : pm_R) (g' : Int64), KE mE' mR' → SCm s r (sp_lv s g c n).2 → ww (mp_P fx) (d + 6) 324 87 [some (.ref 149), some (.int (nI g)), some (.int (nI n)), some (.int (nI k)), some (.int (nI (sp_dsum s g c n))), some (.int (nI n)), none, none] [] (pm_h z X Y (pm_l ((0, mV.2.1, mV.2.2.1, mV.2.2.2)) mT mQ mO (mE') mB ((r, mS.1, mS.2.2.1, mS.2.2.2.1, mS.2.2.2.2.1, mS.2.2.2.2.2.1, mS.2.2.2.2.2.2.1, mS.2.2.2.2.2.2.2)) (mR') ((mW.1, mW.2.1, mW.2.2.1, mW.2.2.2.1, mW.2.2.2.2.1, g')))) Q := by
    intro r mE' mR' g' hE' hr
    have hr9 := hr.1
    have hqq := hq mE' mR' mS.1 g' hE' hs9
    simp only [q324_87, q324_88, q324_91, q324_92, q324_93i, q324_95, q324_96i, q324_98, q324_99i, mc_o, mg_s, ma_s, mb_s, mn_s, wx_some, wx_ref, isl_i, isl_r, isl_n, show aG r 1 = some (nI (sp_lv s g c n).2.2.1) from aG_n hr.2.2.1 (by omega)]
    have sums : ∀ (m w : Nat), w + m = 7 → ww (mp_P fx) (d + 6) 324 101 [some (.ref 149), some (.int (nI g)), some (.int (nI n)), some (.int (nI k)), some (.int (nI (sp_dsum s g c n))), some (.int (nI (sp_lv s g c n).2.2.1)), some (.int (nI (sm (fun i => if i < k_nW s then (sp_lv s g c n).2.2.2 i else 0) w))), some (.int (nI w))] [] (pm_h z X Y (pm_l ((0, mV.2.1, mV.2.2.1, mV.2.2.2)) mT mQ mO (mE') mB ((r, mS.1, mS.2.2.1, mS.2.2.2.1, mS.2.2.2.2.1, mS.2.2.2.2.2.1, mS.2.2.2.2.2.2.1, mS.2.2.2.2.2.2.2)) (mR') ((mW.1, mW.2.1, mW.2.2.1, mW.2.2.2.1, mW.2.2.2.2.1, g')))) Q := by
      intro m
      induction m with
      | zero =>
        intro w hw
        have hw2 : w = 7 := by omega
        subst hw2
        have hsum : sm (fun i => if i < k_nW s then (sp_lv s g c n).2.2.2 i else 0) 7 = sm (sp_lv s g c n).2.2.2 (k_nW s) := by
          have := sm_cut (f := (sp_lv s g c n).2.2.2) (n := k_nW s) (7 - k_nW s)
          rw [show k_nW s + (7 - k_nW s) = 7 by omega] at this
          exact this
        rw [hsum, q324_101]
        simp only [q324_103, q324_105, q324_128, q324_129, q324_132, q324_133, q324_134, q324_137, mc_o, mg_s, ma_s, mb_s, mn_s, mg_aside, ma_aside, mb_aside, mn_aside, wx_some, wx_ref]
        rw [if_pos (by decide)]
        simp only [q324_138]
        apply tm_backaside hr9 hs9
        simp only [sl_n, q324_141, q324_142, q324_145, q324_147, q324_150, q324_151, q324_152, q324_155, q324_157, q324_160, q324_162]
        have hk3 : k = 0 ∨ k = 1 ∨ k = 2 := by omega
        rcases hk3 with h | h | h
        · subst h
          rw [if_pos rfl] at hqq
          rw [if_neg (fun z => z rfl)]
          exact hqq
        · subst h
          rw [if_neg (by omega), if_pos rfl] at hqq
          rw [if_pos (by decide), if_neg (fun z => z rfl)]
          exact hqq
        · subst h
          rw [if_neg (by omega), if_neg (by omega)] at hqq
          rw [if_pos (by decide), if_pos (by decide)]
          exact hqq
      | succ m ih =>
        intro w hw
        have g1 := hr.2.2.2 w (by omega)
        rw [q324_101]
        simp only [q324_103, q324_105, q324_108, q324_110, q324_111, q324_114, q324_115, q324_117, q324_118, q324_119, q324_120i, q324_122i, q324_125, mc_o, mg_s, ma_s, mb_s, mn_s, wx_some, wx_ref, isl_i, isl_r, isl_n, nl_2, nI_add, aG_n g1 (show r.length < 2 ^ 31 by omega), nI_1]
        rw [nl_7, if_neg (by rw [nI_leI (by omega) (by omega)]; omega)]
        exact ih (w + 1) (by omega)
    exact sums 7 0 (by omega)
  have key : ∀ (m t : Nat) (r : List Int32) (mE' : pm_E) (mR' : pm_R), t + m = n → KE mE' mR' → SCm s r (sp_lv s g c t).2 → ww (mp_P fx) (d + 6) 324 62 [some (.ref 149), some (.int (nI g)), some (.int (nI n)), some (.int (nI k)), some (.int (nI (sp_dsum s g c t))), some (.int (nI t)), none, none] [] (pm_h z X Y (pm_l ((0, mV.2.1, mV.2.2.1, mV.2.2.2)) mT mQ mO (mE') mB ((r, mS.1, mS.2.2.1, mS.2.2.2.1, mS.2.2.2.2.1, mS.2.2.2.2.2.1, mS.2.2.2.2.2.2.1, mS.2.2.2.2.2.2.2)) (mR') ((mW.1, mW.2.1, mW.2.2.1, mW.2.2.2.1, mW.2.2.2.2.1, lN (sp_lv s g c t).1)))) Q := by
    intro m
    induction m with
    | zero =>
      intro t r mE' mR' ht hE' hr
      have ht2 : t = n := by omega
      subst ht2
      rw [q324_62]
      simp only [q324_64, q324_65]
      rw [if_pos (by rw [nI_leI (by omega) (by omega)]; omega)]
      exact fin r mE' mR' _ hE' hr
    | succ m ih =>
      intro t r mE' mR' ht hE' hr
      obtain ⟨h1, h2, h3⟩ := c_lv (show g < 2 ^ 31 by omega) hc t (by omega)
      have hcn := (c_lv (show g < 2 ^ 31 by omega) hc (t + 1) (by omega)).1
      rw [q324_62]
      simp only [q324_64, q324_65, q324_68, mc_o]
      rw [if_neg (by rw [nI_leI (by omega) (by omega)]; omega)]
      simp only [q324_69, mc_o]
      apply tm_lives (mS := (r, mS.1, mS.2.2.1, mS.2.2.2.1, mS.2.2.2.2.1, mS.2.2.2.2.2.1, mS.2.2.2.2.2.2.1, mS.2.2.2.2.2.2.2)) hK h1 (by omega) h3 hr
      intro r2 hr2
      have hr2 : SCm s r2 (sp_lv s g c (t + 1)).2 := hr2
      simp only [sl_n, q324_72, q324_74, q324_75, mc_o]
      apply tm_sd (mS := (r2, mS.1, mS.2.2.1, mS.2.2.2.1, mS.2.2.2.2.1, mS.2.2.2.2.2.1, mS.2.2.2.2.2.2.1, mS.2.2.2.2.2.2.2)) hK hE' hcn hr2 hg
      intro mE2 mR2 hE2
      simp only [sl_i, q324_78, q324_79i, q324_81i, q324_84, isl_i, isl_r, isl_n, nI_1, nI_add]
      exact ih (t + 1) r2 mE2 mR2 (by omega) hE2 hr2
  exact key n 0 mS.1 mE mR (by omega) hE hS
end MY
