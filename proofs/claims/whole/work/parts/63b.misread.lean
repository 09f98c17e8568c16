/-! who is read, of the model: the walk -/
section MR2
variable {fx : List Value → mm_H → Option (List Value × mm_H)} {z : Nat} {X Y : Nat → mm_C} {mV : pm_V} {mT : pm_T} {mQ : pm_Q} {mO : pm_O} {mE : pm_E} {mB : pm_B} {mS : pm_S} {mR : pm_R} {mW : pm_W} {m_thrown : Int32} {m_given : Int32} {m_fresh : Int64} {m_code : Int32} {m_taped : Int32} {m_tape : List Int32} {m_size : Int32} {m_place : Int32} {m_begin : Int32} {m_token : Int32} {m_word : Int64} {m_told : Int32} {m_wrong : Int32} {m_square : List Int32} {m_sortName : List Int64} {m_colourName : List Int64} {m_walkerName : List Int64} {m_sortOf : List Int32} {m_rules : List Int32} {m_kind : List Int32} {m_colour : List Int32} {m_atTold : List Int32} {m_goesMany : List Int32} {m_goes : List Int32} {m_gusts : List Int32} {m_lineFrom : List Int32} {m_lineTo : List Int32} {m_codes : List Int32} {m_opened : List Int32} {m_compared : List Int32} {m_kept : List Int32} {m_keptBy : List Int32} {m_ahead : List Int32} {m_against : List Int32} {m_sum : List Int32} {m_sumBy : List Int32} {m_term : List Int32} {m_termBy : List Int32} {m_byNot : List Int32} {m_valueOf : List Int32} {m_lines : List Int32} {m_lineWhat : List Int32} {m_lineA : List Int32} {m_lineB : List Int32} {m_wishes : List Int32} {m_wishOf : List Int32} {m_seens : List Int32} {m_seenAt : List Int32} {m_seenIn : List Int32} {m_seenThere : List Int32} {m_s : List Int32} {m_aside : List Int32} {m_before : List Int32} {m_marked : List Int32} {m_undone : List Int32} {m_isLaid : List Int32} {m_done : Int32} {m_gustNow : Int32} {m_shown : List Int32} {m_shownMany : Int32} {m_from7 : List Int32} {m_long7 : List Int32} {m_sentences : Int32} {m_text7 : List Int32} {m_textMany : Int32} {m_waysOf : List Int32} {m_rowOf : List Int32} {m_row : List Int32} {m_bestRow : List Int32} {m_leastSteps : Int32} {m_steps10 : List Int32} {m_placeIn : List Int32} {m_g : Int64}
variable {d : Nat} {Q : Option Value → mm_H → Prop} {s : SQ} {c : SC}
theorem tm_isRead {w g : Nat} (hs : SQm mQ s) (hl : LWm mQ s) (ho : k_ok s) (hc : c_ok s c) (hS : SCm s mS.1 c) (hE : ELl mE) (hg : GN mS s c g) (hw : w < k_nW s) (hq : ∀ mE', ELl mE' → Q (some (.int (if sp_rd s c 0 g w = true then 1 else 0))) (pm_h z X Y (pm_l mV mT mQ mO (mE') mB mS mR mW))) : wm (mp_P fx) (d + 3) 261 [.ref 149, .int (nI w)] (pm_h z X Y (pm_l mV mT mQ mO mE mB mS mR mW)) Q := by
  have h7 := ho.1.2.2.2.1
  have hh := hc.1
  have hpw := hc.2.2 w hw
  obtain ⟨h9, hp0, hp1, hp⟩ := id hS
  have hat : ∀ i, i < k_nW s → (mS.1)[2 + i]? = some (nI (c.2.2 i)) := fun i hi => by rw [hp i (by omega), if_pos hi]
  have hsl := hs.1.1
  have hn := hs.2.1.2.2.2.1
  have hkl := hs.1.2.2.2.2.2.2.1
  have hkd := hs.2.2.2.1.2.2.1
  have hk4 := fun i hi => (ho.2.2.2.1 i hi).1
  have hs9 : (mS.1).length < 2 ^ 31 := by omega
  have hvl := hE.2
  have hq0 : sp_rd s c 0 g w = false → Q (some (.int 0)) (pm_h z X Y (pm_l mV mT mQ mO mE mB mS mR mW)) := fun h => by
    have := hq mE hE; rw [h, if_neg Bool.false_ne_true] at this; exact this
  have hg10 : g ≤ 10 := by
    rcases hg with ⟨-, e⟩ | ⟨-, e⟩
    · rw [e]; exact sp_gust_lt ho
    · exact e
  -- behind the loop
  by_cases hop : c.2.1.testBit w = true
  case neg =>
    simp only [e261, b261_0, b261_1, bn_0 b261_0, bn_1 b261_1, q261_0, q261_1, q261_2, mc_o, isl_i, isl_r, isl_n]
    apply tm_isOpen h7 hc hS hw
    simp only [sl_i, b261_0, b261_1, bn_0 b261_0, bn_1 b261_1, q261_5, b261_0, b261_1, bn_0 b261_0, bn_1 b261_1, q261_43, q261_44]
    rw [if_neg hop, if_pos rfl]
    apply hq0
    unfold sp_rd sp_able
    rw [Bool.eq_false_iff.mpr hop, Bool.false_and, Bool.false_and]
  by_cases hgw : c.2.2 w = g
  case pos =>
    have hr0 : sp_rd s c 0 g w = false := by
      unfold sp_rd
      rw [decide_eq_true hgw, Bool.not_true, Bool.and_false, Bool.and_false]
    simp only [e261, b261_0, b261_1, bn_0 b261_0, bn_1 b261_1, q261_0, q261_1, q261_2, mc_o, isl_i, isl_r, isl_n]
    apply tm_isOpen h7 hc hS hw
    simp only [sl_i, b261_0, b261_1, bn_0 b261_0, bn_1 b261_1, q261_5, q261_8, q261_9, q261_12, q261_13, q261_14, q261_15, q261_16, q261_17, q261_20, mc_o, mg_s, ma_s, mb_s, mn_s, mg_gustNow, mf_gustNow, wx_some, wx_ref, nl_2, nI_add, aG_n (hat w hw) hs9]
    rw [if_pos hop, if_neg (by decide)]
    rcases hg with ⟨e1, e2⟩ | ⟨e1, e2⟩
    · rw [e1, if_neg (by decide)]
      simp only [b261_0, b261_1, bn_0 b261_0, bn_1 b261_1, q261_23, q261_24, q261_25, q261_28, q261_29, q261_30, mc_o, mg_s, ma_s, mb_s, mn_s, mg_gustNow, mf_gustNow, wx_some, wx_ref, show aG (mS.1) 0 = some (nI c.1) from aG_n hp0 hs9]
      apply tm_gustOf hs ho hh
      simp only [sl_i, b261_0, b261_1, bn_0 b261_0, bn_1 b261_1, q261_33, b261_0, b261_1, bn_0 b261_0, bn_1 b261_1, q261_40, q261_43, q261_44]
      rw [← e2, if_neg (fun z => z (by rw [hgw]))]
      exact hq0 hr0
    · rw [e1, if_pos (by rw [nl_0, nI_leI (by omega) (by omega)]; omega)]
      simp only [b261_0, b261_1, bn_0 b261_0, bn_1 b261_1, q261_36, q261_37, q261_40, q261_43, q261_44, mc_o, mg_gustNow, mf_gustNow, e1, wx_some]
      rw [if_neg (fun z => z (by rw [hgw]))]
      exact hq0 hr0
  have fin2 : ∀ (a f : Nat) (l4 l5 : Option Value), ¬ (k_kd s w = 2 ∧ 1 < cn (lv_ s c (c.2.2 w)) (k_nW s)) → a = cn (at_ c (c.2.2 w)) (k_nW s) - 1 → f = (if cn (at_ c (c.2.2 w)) w = 0 then 1 else 0) → ww (mp_P fx) (d + 3) 261 152 [some (.ref 149), some (.int (nI w)), some (.int (nI a)), some (.int (nI f)), l4, l5] [] (pm_h z X Y (pm_l mV mT mQ mO mE mB mS mR mW)) Q := by
    intro a f l4 l5 hlv ha hf
    have hres : sp_rd s c 0 g w = !(decide (k_lw s (nI (c.2.2 w)) (nI a) (nI c.1) (nI f) = 0)) := by
      unfold sp_rd sp_able
      have : (decide (k_kd s w = 2) && decide (1 < cn (lv_ s c (c.2.2 w)) (k_nW s))) = false := by
        rw [← Bool.decide_and]; exact decide_eq_false hlv
      rw [hop, Bool.true_and, this, Bool.not_false, Bool.true_and, Nat.zero_testBit, Bool.not_false, Bool.true_and, decide_eq_false hgw, Bool.not_false, Bool.and_true, ha, hf]
    obtain ⟨ff, n, cs, h1, h2, h3, h4, h5, h6, -⟩ := id hl
    have hl1 := hs.1.2.2.2.2.2.2.2.2.2.2.2.2.1
    have hl2 := hs.1.2.2.2.2.2.2.2.2.2.2.2.2.2.1
    have hf1 : f ≤ 1 := by rw [hf]; split <;> omega
    simp only [b261_0, b261_1, bn_0 b261_0, bn_1 b261_1, q261_152, q261_153, q261_156, q261_157, q261_158, q261_159, q261_162, q261_163, q261_164, mg_lineTo, ma_lineTo, mb_lineTo, mn_lineTo, mg_lineFrom, ma_lineFrom, mb_lineFrom, mn_lineFrom, wx_some, wx_ref, show aG (mQ.2.2.2.2.2.2.2.2.2.2.2.2.2.1) 0 = some (nI (ff + n)) from aG_n h4 (by omega), show aG (mQ.2.2.2.2.2.2.2.2.2.2.2.2.1) 0 = some (nI ff) from aG_n h3 (by omega)]
    by_cases hn0 : n = 0
    · have hk := h6 hn0 (nI (c.2.2 w)) (nI a) (nI c.1) (nI f)
      rw [hk] at hres
      rw [if_neg (by rw [hn0]; exact fun z => z rfl)]
      simp only [b261_0, b261_1, bn_0 b261_0, bn_1 b261_1, q261_167, q261_168, q261_169, q261_172, q261_173, q261_176, q261_177]
      have hqq := hq mE hE
      rw [hres] at hqq
      by_cases e : f = 1
      · subst e
        rw [if_neg (fun z => z rfl)]
        exact hqq
      · have e0 : f = 0 := by omega
        subst e0
        rw [if_pos (by decide)]
        exact hqq
    · rw [if_pos (by rw [nI_eq (by omega) (by omega)]; omega)]
      simp only [b261_0, b261_1, bn_0 b261_0, bn_1 b261_1, q261_178, q261_179, q261_182, q261_183, q261_184, q261_187, q261_188, q261_189, q261_190, q261_191, q261_192, q261_193, q261_196, q261_197, q261_198, q261_199, q261_200, q261_203, q261_204, q261_205, q261_208, q261_209, q261_210, q261_211, q261_212, q261_215, q261_216, q261_217, q261_218, q261_219, mc_o, mg_s, ma_s, mb_s, mn_s, mg_valueOf, ma_valueOf, mb_valueOf, mn_valueOf, wx_some, wx_ref, show aG (mS.1) 0 = some (nI c.1) from aG_n hp0 hs9, nl_1, nl_2, nl_3, nl_4, nI_add, aG_n (hat w hw) hs9, aS_n (show 1 < (mE.2.2.2.2.2.2.2.2.2).length by omega) (show (mE.2.2.2.2.2.2.2.2.2).length < 2 ^ 31 by omega)]
      rw [aS_n (by rw [List.length_set]; omega) (by rw [List.length_set]; omega)]
      simp only [wx_some, b261_0, b261_1, bn_0 b261_0, bn_1 b261_1, q261_178, q261_179, q261_182, q261_183, q261_184, q261_187, q261_188, q261_189, q261_190, q261_191, q261_192, q261_193, q261_196, q261_197, q261_198, q261_199, q261_200, q261_203, q261_204, q261_205, q261_208, q261_209, q261_210, q261_211, q261_212, q261_215, q261_216, q261_217, q261_218, q261_219, mc_o, mg_s, ma_s, mb_s, mn_s, mg_valueOf, ma_valueOf, mb_valueOf, mn_valueOf, wx_ref, show aG (mS.1) 0 = some (nI c.1) from aG_n hp0 hs9]
      rw [nl_3, aS_n (by rw [List.length_set, List.length_set]; omega) (by rw [List.length_set, List.length_set]; omega)]
      simp only [wx_some, b261_0, b261_1, bn_0 b261_0, bn_1 b261_1, q261_178, q261_179, q261_182, q261_183, q261_184, q261_187, q261_188, q261_189, q261_190, q261_191, q261_192, q261_193, q261_196, q261_197, q261_198, q261_199, q261_200, q261_203, q261_204, q261_205, q261_208, q261_209, q261_210, q261_211, q261_212, q261_215, q261_216, q261_217, q261_218, q261_219, mc_o, mg_s, ma_s, mb_s, mn_s, mg_valueOf, ma_valueOf, mb_valueOf, mn_valueOf, wx_ref]
      rw [nl_4, aS_n (by rw [List.length_set, List.length_set, List.length_set]; omega) (by rw [List.length_set, List.length_set, List.length_set]; omega)]
      simp only [wx_some, b261_0, b261_1, bn_0 b261_0, bn_1 b261_1, q261_178, q261_179, q261_182, q261_183, q261_184, q261_187, q261_188, q261_189, q261_190, q261_191, q261_192, q261_193, q261_196, q261_197, q261_198, q261_199, q261_200, q261_203, q261_204, q261_205, q261_208, q261_209, q261_210, q261_211, q261_212, q261_215, q261_216, q261_217, q261_218, q261_219, q261_220, mc_o, mg_s, ma_s, mb_s, mn_s, mg_valueOf, ma_valueOf, mb_valueOf, mn_valueOf, wx_ref]
      apply tm_worked (mE := (mE.1, mE.2.1, mE.2.2.1, mE.2.2.2.1, mE.2.2.2.2.1, mE.2.2.2.2.2.1, mE.2.2.2.2.2.2.1, mE.2.2.2.2.2.2.2.1, mE.2.2.2.2.2.2.2.2.1, (((((mE.2.2.2.2.2.2.2.2.2).set 1 (nI (c.2.2 w))).set 2 (nI a)).set 3 (nI c.1)).set 4 (nI f)))) (a := nI (c.2.2 w)) (b := nI a) (e := nI c.1) (f := nI f) hs hl
      · rw [h3, h4]
        intro z
        have := (nI_eq (show ff + n < 2 ^ 31 by omega) (show ff < 2 ^ 31 by omega)).mp (Option.some.inj z)
        omega
      · exact ⟨hE.1, by show (((((mE.2.2.2.2.2.2.2.2.2).set 1 (nI (c.2.2 w))).set 2 (nI a)).set 3 (nI c.1)).set 4 (nI f)).length = 20; rw [List.length_set, List.length_set, List.length_set, List.length_set]; exact hvl⟩
      · show (((((mE.2.2.2.2.2.2.2.2.2).set 1 (nI (c.2.2 w))).set 2 (nI a)).set 3 (nI c.1)).set 4 (nI f))[1]? = _
        rw [List.getElem?_set_ne (by omega), List.getElem?_set_ne (by omega), List.getElem?_set_ne (by omega), List.getElem?_set_self (by omega)]
      · show (((((mE.2.2.2.2.2.2.2.2.2).set 1 (nI (c.2.2 w))).set 2 (nI a)).set 3 (nI c.1)).set 4 (nI f))[2]? = _
        rw [List.getElem?_set_ne (by omega), List.getElem?_set_ne (by omega), List.getElem?_set_self (by rw [List.length_set]; omega)]
      · show (((((mE.2.2.2.2.2.2.2.2.2).set 1 (nI (c.2.2 w))).set 2 (nI a)).set 3 (nI c.1)).set 4 (nI f))[3]? = _
        rw [List.getElem?_set_ne (by omega), List.getElem?_set_self (by rw [List.length_set, List.length_set]; omega)]
      · show (((((mE.2.2.2.2.2.2.2.2.2).set 1 (nI (c.2.2 w))).set 2 (nI a)).set 3 (nI c.1)).set 4 (nI f))[4]? = _
        rw [List.getElem?_set_self (by rw [List.length_set, List.length_set, List.length_set]; omega)]
      intro mE' hE'
      have hqq := hq mE' hE'
      rw [hres] at hqq
      simp only [sl_i, b261_0, b261_1, bn_0 b261_0, bn_1 b261_1, q261_223, q261_226, q261_227, q261_230, q261_231]
      by_cases e : k_lw s (nI (c.2.2 w)) (nI a) (nI c.1) (nI f) = 0
      · rw [decide_eq_true e, Bool.not_true, if_neg Bool.false_ne_true] at hqq
        rw [if_pos e]
        exact hqq
      · rw [decide_eq_false e, Bool.not_false, if_pos rfl] at hqq
        rw [if_neg e]
        exact hqq
  have fin : ∀ (a f l : Nat) (l5 : Option Value), a = cn (at_ c (c.2.2 w)) (k_nW s) - 1 → f = (if cn (at_ c (c.2.2 w)) w = 0 then 1 else 0) → l = (if 0 < cn (fun i => lv_ s c (c.2.2 w) i && !decide (i = w)) (k_nW s) then 1 else 0) → ww (mp_P fx) (d + 3) 261 135 [some (.ref 149), some (.int (nI w)), some (.int (nI a)), some (.int (nI f)), some (.int (nI l)), l5] [] (pm_h z X Y (pm_l mV mT mQ mO mE mB mS mR mW)) Q := by
    intro a f l l5 ha hf hll
    simp only [b261_0, b261_1, bn_0 b261_0, bn_1 b261_1, q261_135, q261_136, q261_139, q261_140, q261_141, q261_142, q261_145, q261_147, q261_150, q261_151, mg_kind, ma_kind, mb_kind, mn_kind, wx_some, wx_ref, ag_G hkd (show (mQ.2.2.2.2.2.2.1).length < 2 ^ 31 by omega) hw]
    by_cases e2 : k_kd s w = 2
    · have hb := cn_but (p := lv_ s c (c.2.2 w)) hw (by unfold lv_; rw [decide_eq_true rfl, decide_eq_true e2]; rfl)
      rw [if_neg (by rw [e2]; exact fun z => z rfl)]
      by_cases el : 0 < cn (fun i => lv_ s c (c.2.2 w) i && !decide (i = w)) (k_nW s)
      · rw [if_pos el] at hll
        subst hll
        rw [if_neg (by decide)]
        apply hq0
        unfold sp_rd sp_able
        rw [decide_eq_true e2, decide_eq_true (show 1 < cn (lv_ s c (c.2.2 w)) (k_nW s) by omega), Bool.true_and, Bool.not_true, Bool.false_and, Bool.and_false, Bool.false_and]
      · rw [if_neg el] at hll
        subst hll
        rw [if_pos nI_0]
        exact fin2 a f _ l5 (by omega) ha hf
    · rw [if_pos (by have := hk4 w hw; rw [nl_2, nI_eq (by omega) (by omega)]; exact e2)]
      exact fin2 a f _ l5 (fun z => e2 z.1) ha hf
  have c1 : ∀ (p : Nat → Bool) (o : Nat), p o = true → cn p (o + 1) = cn p o + 1 := fun p o h => by rw [cn, if_pos h]
  have c0 : ∀ (p : Nat → Bool) (o : Nat), p o = false → cn p (o + 1) = cn p o := fun p o h => by rw [cn, if_neg (by rw [h]; exact Bool.false_ne_true)]; rfl
  have key : ∀ (m o a f l : Nat), o + m = k_nW s → a = cn (fun i => at_ c (c.2.2 w) i && !decide (i = w)) o → f = (if cn (fun i => at_ c (c.2.2 w) i && decide (i < w)) o = 0 then 1 else 0) → l = (if 0 < cn (fun i => lv_ s c (c.2.2 w) i && !decide (i = w)) o then 1 else 0) → ww (mp_P fx) (d + 3) 261 55 [some (.ref 149), some (.int (nI w)), some (.int (nI a)), some (.int (nI f)), some (.int (nI l)), some (.int (nI o))] [] (pm_h z X Y (pm_l mV mT mQ mO mE mB mS mR mW)) Q := by
    intro m
    induction m with
    | zero =>
      intro o a f l ho1 ha hf hll
      have ho2 : o = k_nW s := by omega
      subst ho2
      have e1 := cn_but (p := at_ c (c.2.2 w)) hw (decide_eq_true rfl)
      rw [cn_low (by omega)] at hf
      rw [q261_55]
      simp only [b261_0, b261_1, bn_0 b261_0, bn_1 b261_1, q261_57, q261_58, q261_61, q261_62, q261_63, mg_square, ma_square, mb_square, mn_square, wx_some, wx_ref, show aG (mQ.1) 3 = some (nI (k_nW s)) from aG_n hn (by omega)]
      rw [if_pos (by rw [nI_leI (by omega) (by omega)]; omega)]
      exact fin a f l _ (by omega) hf hll
    | succ m ih =>
      intro o a f l ho1 ha hf hll
      have how : o < k_nW s := by omega
      have hpo := hc.2.2 o how
      rw [q261_55]
      simp only [b261_0, b261_1, bn_0 b261_0, bn_1 b261_1, q261_57, q261_58, q261_61, q261_62, q261_63, q261_66, q261_68, q261_69, q261_72, q261_73, q261_76, q261_77, q261_79, q261_80, q261_81, q261_82, q261_85, q261_86, q261_87, q261_88, q261_89, q261_92, q261_95i, q261_98, q261_100, q261_101, q261_104, q261_105i, q261_106, q261_108, q261_111, q261_112, q261_115, q261_117, q261_118, q261_119, q261_122, q261_123, q261_126, q261_127i, q261_129i, q261_132, mg_square, ma_square, mb_square, mn_square, mg_s, ma_s, mb_s, mn_s, mg_kind, ma_kind, mb_kind, mn_kind, wx_some, wx_ref, isl_i, isl_r, isl_n, nl_0, nl_1, nl_2, nl_3, nI_add, aG_n hn (show (mQ.1).length < 2 ^ 31 by omega), aG_n (hat w hw) hs9, aG_n (hat o how) hs9, ag_G hkd (show (mQ.2.2.2.2.2.2.1).length < 2 ^ 31 by omega) how]
      rw [if_neg (by rw [nI_leI (by omega) (by omega)]; omega)]
      by_cases eo : o = w
      · rw [if_pos (by rw [eo])]
        refine ih (o + 1) a f l (by omega) ?_ ?_ ?_
        · rw [c0 _ o (by rw [decide_eq_true eo, Bool.not_true, Bool.and_false])]; exact ha
        · rw [c0 _ o (by rw [decide_eq_false (by omega), Bool.and_false])]; exact hf
        · rw [c0 _ o (by rw [decide_eq_true eo, Bool.not_true, Bool.and_false])]; exact hll
      rw [if_neg (by rw [nI_eq (by omega) (by omega)]; exact eo)]
      by_cases ep : c.2.2 o = c.2.2 w
      case neg =>
        have hat0 : at_ c (c.2.2 w) o = false := decide_eq_false ep
        have hlv0 : lv_ s c (c.2.2 w) o = false := by unfold lv_; rw [decide_eq_false ep, Bool.false_and]
        rw [if_neg (by rw [nI_eq (by omega) (by omega)]; exact ep)]
        refine ih (o + 1) a f l (by omega) ?_ ?_ ?_
        · rw [c0 _ o (by rw [hat0, Bool.false_and])]; exact ha
        · rw [c0 _ o (by rw [hat0, Bool.false_and])]; exact hf
        · rw [c0 _ o (by rw [hlv0, Bool.false_and])]; exact hll
      have hat1 : at_ c (c.2.2 w) o = true := decide_eq_true ep
      have hlv1 : lv_ s c (c.2.2 w) o = decide (k_kd s o = 2) := by unfold lv_; rw [decide_eq_true ep, Bool.true_and]
      rw [if_pos (by rw [ep])]
      have ha' : a + 1 = cn (fun i => at_ c (c.2.2 w) i && !decide (i = w)) (o + 1) := by
        rw [c1 _ o (by rw [hat1, decide_eq_false eo]; rfl), ha]
      have lst : ∀ f', f' = (if cn (fun i => at_ c (c.2.2 w) i && decide (i < w)) (o + 1) = 0 then 1 else 0) → (if ¬ nI l = nI 0 then ww (mp_P fx) (d + 3) 261 55 [some (.ref 149), some (.int (nI w)), some (.int (nI (a + 1))), some (.int (nI f')), some (.int (nI 1)), some (.int (nI (o + 1)))] [] (pm_h z X Y (pm_l mV mT mQ mO mE mB mS mR mW)) Q else if ¬ nI (k_kd s o) = nI 2 then ww (mp_P fx) (d + 3) 261 55 [some (.ref 149), some (.int (nI w)), some (.int (nI (a + 1))), some (.int (nI f')), some (.int (nI 0)), some (.int (nI (o + 1)))] [] (pm_h z X Y (pm_l mV mT mQ mO mE mB mS mR mW)) Q else ww (mp_P fx) (d + 3) 261 55 [some (.ref 149), some (.int (nI w)), some (.int (nI (a + 1))), some (.int (nI f')), some (.int (nI 1)), some (.int (nI (o + 1)))] [] (pm_h z X Y (pm_l mV mT mQ mO mE mB mS mR mW)) Q) := by
        intro f' hf'
        by_cases el : 0 < cn (fun i => lv_ s c (c.2.2 w) i && !decide (i = w)) o
        · rw [if_pos el] at hll
          subst hll
          rw [if_pos (by decide)]
          refine ih (o + 1) (a + 1) f' 1 (by omega) ha' hf' ?_
          rw [if_pos (Nat.lt_of_lt_of_le el (cn_mono (by omega)))]
        · rw [if_neg el] at hll
          subst hll
          rw [if_neg (by decide)]
          by_cases e2 : k_kd s o = 2
          · rw [if_neg (by rw [e2]; exact fun z => z rfl)]
            refine ih (o + 1) (a + 1) f' 1 (by omega) ha' hf' ?_
            rw [c1 _ o (by rw [hlv1, decide_eq_true e2, decide_eq_false eo]; rfl), if_pos (by omega)]
          · rw [if_pos (by have := hk4 o how; rw [nI_eq (by omega) (by omega)]; exact e2)]
            refine ih (o + 1) (a + 1) f' 0 (by omega) ha' hf' ?_
            rw [c0 _ o (by rw [hlv1, decide_eq_false e2, Bool.false_and]), if_neg el]
      by_cases eow : o < w
      · rw [if_neg (by rw [nI_leI (by omega) (by omega)]; omega)]
        apply lst 0
        rw [c1 _ o (by rw [hat1, decide_eq_true eow]; rfl), if_neg (by omega)]
      · rw [if_pos (by rw [nI_leI (by omega) (by omega)]; omega)]
        apply lst f
        rw [c0 _ o (by rw [decide_eq_false eow, Bool.and_false]), ← hf]
  have hloop : ww (mp_P fx) (d + 3) 261 45 [some (.ref 149), some (.int (nI w)), none, none, none, none] [] (pm_h z X Y (pm_l mV mT mQ mO mE mB mS mR mW)) Q := by
    simp only [b261_0, b261_1, bn_0 b261_0, bn_1 b261_1, q261_45, q261_46i, q261_47, q261_48i, q261_49, q261_50i, q261_52, q261_53i, isl_i, isl_r, isl_n, nl_0, nl_1]
    exact key (k_nW s) 0 0 1 0 (by omega) rfl rfl rfl
  simp only [e261, b261_0, b261_1, bn_0 b261_0, bn_1 b261_1, q261_0, q261_1, q261_2, mc_o, isl_i, isl_r, isl_n]
  apply tm_isOpen h7 hc hS hw
  simp only [sl_i, b261_0, b261_1, bn_0 b261_0, bn_1 b261_1, q261_5, q261_8, q261_9, q261_12, q261_13, q261_14, q261_15, q261_16, q261_17, q261_20, mc_o, mg_s, ma_s, mb_s, mn_s, mg_gustNow, mf_gustNow, wx_some, wx_ref, nl_2, nI_add, aG_n (hat w hw) hs9]
  rw [if_pos hop, if_neg (by decide)]
  rcases hg with ⟨e1, e2⟩ | ⟨e1, e2⟩
  · rw [e1, if_neg (by decide)]
    simp only [b261_0, b261_1, bn_0 b261_0, bn_1 b261_1, q261_23, q261_24, q261_25, q261_28, q261_29, q261_30, mc_o, mg_s, ma_s, mb_s, mn_s, mg_gustNow, mf_gustNow, wx_some, wx_ref, show aG (mS.1) 0 = some (nI c.1) from aG_n hp0 hs9]
    apply tm_gustOf hs ho hh
    simp only [sl_i, b261_0, b261_1, bn_0 b261_0, bn_1 b261_1, q261_33, b261_0, b261_1, bn_0 b261_0, bn_1 b261_1, q261_40]
    rw [← e2, if_pos (by rw [nI_eq (by omega) (by omega)]; exact hgw)]
    exact hloop
  · rw [e1, if_pos (by rw [nl_0, nI_leI (by omega) (by omega)]; omega)]
    simp only [b261_0, b261_1, bn_0 b261_0, bn_1 b261_1, q261_36, q261_37, q261_40, mc_o, mg_gustNow, mf_gustNow, e1, wx_some]
    rw [if_pos (by rw [nI_eq (by omega) (by omega)]; exact hgw)]
    exact hloop
end MR2
