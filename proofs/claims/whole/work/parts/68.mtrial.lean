/-! looking ahead, of the model -/
theorem cp9 {fs ts ts' : List Int32} (hf : fs.length = 9) (ht : ts.length = 9) (h : ∀ j, ts'[j]? = if 0 ≤ j ∧ j < 0 + 9 then fs[0 + (j - 0)]? else ts[j]?) : ts' = fs := by
  apply List.ext_getElem?
  intro j
  rw [h j]
  by_cases e : j < 9
  · rw [if_pos ⟨Nat.zero_le _, by omega⟩, Nat.zero_add, Nat.sub_zero]
  · rw [if_neg (by omega), List.getElem?_eq_none (by omega), List.getElem?_eq_none (by omega)]
section MT
variable {fx : List Value → mm_H → Option (List Value × mm_H)} {z : Nat} {X Y : Nat → mm_C} {mV : pm_V} {mT : pm_T} {mQ : pm_Q} {mO : pm_O} {mE : pm_E} {mB : pm_B} {mS : pm_S} {mR : pm_R} {mW : pm_W} {m_thrown : Int32} {m_given : Int32} {m_fresh : Int64} {m_code : Int32} {m_taped : Int32} {m_tape : List Int32} {m_size : Int32} {m_place : Int32} {m_begin : Int32} {m_token : Int32} {m_word : Int64} {m_told : Int32} {m_wrong : Int32} {m_square : List Int32} {m_sortName : List Int64} {m_colourName : List Int64} {m_walkerName : List Int64} {m_sortOf : List Int32} {m_rules : List Int32} {m_kind : List Int32} {m_colour : List Int32} {m_atTold : List Int32} {m_goesMany : List Int32} {m_goes : List Int32} {m_gusts : List Int32} {m_lineFrom : List Int32} {m_lineTo : List Int32} {m_codes : List Int32} {m_opened : List Int32} {m_compared : List Int32} {m_kept : List Int32} {m_keptBy : List Int32} {m_ahead : List Int32} {m_against : List Int32} {m_sum : List Int32} {m_sumBy : List Int32} {m_term : List Int32} {m_termBy : List Int32} {m_byNot : List Int32} {m_valueOf : List Int32} {m_lines : List Int32} {m_lineWhat : List Int32} {m_lineA : List Int32} {m_lineB : List Int32} {m_wishes : List Int32} {m_wishOf : List Int32} {m_seens : List Int32} {m_seenAt : List Int32} {m_seenIn : List Int32} {m_seenThere : List Int32} {m_s : List Int32} {m_aside : List Int32} {m_before : List Int32} {m_marked : List Int32} {m_undone : List Int32} {m_isLaid : List Int32} {m_done : Int32} {m_gustNow : Int32} {m_shown : List Int32} {m_shownMany : Int32} {m_from7 : List Int32} {m_long7 : List Int32} {m_sentences : Int32} {m_text7 : List Int32} {m_textMany : Int32} {m_waysOf : List Int32} {m_rowOf : List Int32} {m_row : List Int32} {m_bestRow : List Int32} {m_leastSteps : Int32} {m_steps10 : List Int32} {m_placeIn : List Int32} {m_g : Int64}
variable {d : Nat} {Q : Option Value → mm_H → Prop} {s : SQ} {c : SC} {nm : NMs}
theorem tm_in {h : mm_H} {v a b : Int32} (hq0 : (v < a ∨ b < v) → Q (some (.int 0)) h) (hq1 : a ≤ v → v ≤ b → Q (some (.int 1)) h) : wm (mp_P fx) d 242 [.int v, .int a, .int b] h Q := by
  apply tm_within
  by_cases e : a ≤ v ∧ v ≤ b
  · rw [if_pos e]; exact hq1 e.1 e.2
  · rw [if_neg e]
    apply hq0
    by_cases e1 : v < a
    · exact Or.inl e1
    · exact Or.inr (Int32.not_le.mp (fun z => e ⟨Int32.not_lt.mp e1, z⟩))
theorem tm_savebefore (hs9 : (mS.1).length = 9) (hb : (mS.2.2.1).length = 9) (hq : Q none (pm_h z X Y (pm_l mV mT mQ mO mE mB ((mS.1, mS.2.1, mS.1, mS.2.2.2.1, mS.2.2.2.2.1, mS.2.2.2.2.2.1, mS.2.2.2.2.2.2.1, mS.2.2.2.2.2.2.2)) mR mW))) : wm (mp_P fx) d 273 [.ref 188, .int 0, .ref 190, .int 0] (pm_h z X Y (pm_l mV mT mQ mO mE mB mS mR mW)) Q := by
  refine tm_copies (a := 0) (b := 0) (H := fun l => (pm_h z X Y (pm_l mV mT mQ mO mE mB ((mS.1, mS.2.1, l, mS.2.2.2.1, mS.2.2.2.2.1, mS.2.2.2.2.2.1, mS.2.2.2.2.2.2.1, mS.2.2.2.2.2.2.2)) mR mW))) (fs := mS.1) (ts := mS.2.2.1) (fun _ _ => ma_s) (fun _ _ _ => mb_before) (by omega) (by omega) (by omega) (by omega) (fun ts' _ h2 => ?_)
  rw [cp9 hs9 hb h2]
  exact hq
theorem tm_backbefore {r b : List Int32} (hr : r.length = 9) (hb : b.length = 9) (hq : Q none (pm_h z X Y (pm_l mV mT mQ mO mE mB ((b, mS.2.1, b, mS.2.2.2.1, mS.2.2.2.2.1, mS.2.2.2.2.2.1, mS.2.2.2.2.2.2.1, mS.2.2.2.2.2.2.2)) mR mW))) : wm (mp_P fx) d 273 [.ref 190, .int 0, .ref 188, .int 0] (pm_h z X Y (pm_l mV mT mQ mO mE mB ((r, mS.2.1, b, mS.2.2.2.1, mS.2.2.2.2.1, mS.2.2.2.2.2.1, mS.2.2.2.2.2.2.1, mS.2.2.2.2.2.2.2)) mR mW)) Q := by
  refine tm_copies (a := 0) (b := 0) (H := fun l => (pm_h z X Y (pm_l mV mT mQ mO mE mB ((l, mS.2.1, b, mS.2.2.2.1, mS.2.2.2.2.1, mS.2.2.2.2.2.1, mS.2.2.2.2.2.2.1, mS.2.2.2.2.2.2.2)) mR mW))) (fs := b) (ts := r) (fun _ _ => ma_before) (fun _ _ _ => mb_s) (by omega) (by omega) (by omega) (by omega) (fun ts' _ h2 => ?_)
  rw [cp9 hb hr h2]
  exact hq
theorem tm_saveaside (hs9 : (mS.1).length = 9) (hb : (mS.2.1).length = 9) (hq : Q none (pm_h z X Y (pm_l mV mT mQ mO mE mB ((mS.1, mS.1, mS.2.2.1, mS.2.2.2.1, mS.2.2.2.2.1, mS.2.2.2.2.2.1, mS.2.2.2.2.2.2.1, mS.2.2.2.2.2.2.2)) mR mW))) : wm (mp_P fx) d 273 [.ref 188, .int 0, .ref 189, .int 0] (pm_h z X Y (pm_l mV mT mQ mO mE mB mS mR mW)) Q := by
  refine tm_copies (a := 0) (b := 0) (H := fun l => (pm_h z X Y (pm_l mV mT mQ mO mE mB ((mS.1, l, mS.2.2.1, mS.2.2.2.1, mS.2.2.2.2.1, mS.2.2.2.2.2.1, mS.2.2.2.2.2.2.1, mS.2.2.2.2.2.2.2)) mR mW))) (fs := mS.1) (ts := mS.2.1) (fun _ _ => ma_s) (fun _ _ _ => mb_aside) (by omega) (by omega) (by omega) (by omega) (fun ts' _ h2 => ?_)
  rw [cp9 hs9 hb h2]
  exact hq
theorem tm_backaside {r b : List Int32} (hr : r.length = 9) (hb : b.length = 9) (hq : Q none (pm_h z X Y (pm_l mV mT mQ mO mE mB ((b, b, mS.2.2.1, mS.2.2.2.1, mS.2.2.2.2.1, mS.2.2.2.2.2.1, mS.2.2.2.2.2.2.1, mS.2.2.2.2.2.2.2)) mR mW))) : wm (mp_P fx) d 273 [.ref 189, .int 0, .ref 188, .int 0] (pm_h z X Y (pm_l mV mT mQ mO mE mB ((r, b, mS.2.2.1, mS.2.2.2.1, mS.2.2.2.2.1, mS.2.2.2.2.2.1, mS.2.2.2.2.2.2.1, mS.2.2.2.2.2.2.2)) mR mW)) Q := by
  refine tm_copies (a := 0) (b := 0) (H := fun l => (pm_h z X Y (pm_l mV mT mQ mO mE mB ((l, b, mS.2.2.1, mS.2.2.2.1, mS.2.2.2.2.1, mS.2.2.2.2.2.1, mS.2.2.2.2.2.2.1, mS.2.2.2.2.2.2.2)) mR mW))) (fs := b) (ts := r) (fun _ _ => ma_aside) (fun _ _ _ => mb_s) (by omega) (by omega) (by omega) (by omega) (fun ts' _ h2 => ?_)
  rw [cp9 hb hr h2]
  exact hq
theorem tm_when (hK : KM nm s mQ) (hE : KE mE mR) (hc : c_ok s c) (hh : c.1 + 100 < 2 ^ 20) (hS : SCm s mS.1 c) (hg : mS.2.2.2.2.2.2.2 = -1) (hb : (mS.2.2.1).length = 9) (hq : ∀ mE' mR', KE mE' mR' → Q (some (.int (sp_when s 61 0 c))) (pm_h z X Y (pm_l ((0, mV.2.1, mV.2.2.1, mV.2.2.2)) mT mQ mO (mE') mB ((mS.1, mS.2.1, mS.1, mS.2.2.2.1, mS.2.2.2.2.1, mS.2.2.2.2.2.1, mS.2.2.2.2.2.2.1, mS.2.2.2.2.2.2.2)) (mR') mW))) : wm (mp_P fx) (d + 6) 302 [.ref 149] (pm_h z X Y (pm_l mV mT mQ mO mE mB mS mR mW)) Q := by
  have hs9 := hS.1
  have fin : ∀ (t : Nat) (r : List Int32) (mE' : pm_E) (mR' : pm_R), t ≤ 61 → (if t = 61 then -1 else nI t) = sp_when s 61 0 c → r.length = 9 → KE mE' mR' → ww (mp_P fx) (d + 6) 302 43 [some (.ref 149), some (.int (nI t))] [] (pm_h z X Y (pm_l ((0, mV.2.1, mV.2.2.1, mV.2.2.2)) mT mQ mO (mE') mB ((r, mS.2.1, mS.1, mS.2.2.2.1, mS.2.2.2.2.1, mS.2.2.2.2.2.1, mS.2.2.2.2.2.2.1, mS.2.2.2.2.2.2.2)) (mR') mW)) Q := by
    intro t r mE' mR' ht he hr hE'
    have hqq := hq mE' mR' hE'
    rw [← he] at hqq
    simp only [q302_43, q302_44, q302_47, q302_48, q302_49, q302_52, q302_53, mc_o, mg_s, ma_s, mb_s, mn_s, mg_before, ma_before, mb_before, mn_before, wx_some, wx_ref]
    apply tm_backbefore hr hs9
    simp only [sl_n, q302_56, q302_57, q302_59, q302_62, q302_63, q302_66, q302_67]
    by_cases e : t = 61
    · rw [if_pos e] at hqq
      rw [show (60 : Int32) = nI 60 from rfl, if_neg (by rw [nI_leI (by omega) (by omega)]; omega)]
      exact hqq
    · rw [if_neg e] at hqq
      rw [show (60 : Int32) = nI 60 from rfl, if_pos (by rw [nI_leI (by omega) (by omega)]; omega)]
      exact hqq
  simp only [e302, q302_0, q302_1, q302_2, q302_5, q302_6, q302_9, q302_10, q302_11, q302_14, q302_15, mc_o, mg_thrown, mf_thrown, mg_s, ma_s, mb_s, mn_s, mg_before, ma_before, mb_before, mn_before, wx_some, wx_ref, isl_i, isl_r, isl_n]
  apply tm_savebefore hs9 hb
  simp only [sl_n, q302_18, q302_19r, isl_i, isl_r, isl_n]
  have key : ∀ (m t : Nat) (c1 : SC) (r : List Int32) (mE' : pm_E) (mR' : pm_R), t + m = 61 → c_ok s c1 → c1.1 + m < 2 ^ 20 → SCm s r c1 → KE mE' mR' → sp_when s m t c1 = sp_when s 61 0 c → ww (mp_P fx) (d + 6) 302 20 [some (.ref 149), some (.int (nI t))] [] (pm_h z X Y (pm_l ((0, mV.2.1, mV.2.2.1, mV.2.2.2)) mT mQ mO (mE') mB ((r, mS.2.1, mS.1, mS.2.2.2.1, mS.2.2.2.2.1, mS.2.2.2.2.2.1, mS.2.2.2.2.2.2.1, mS.2.2.2.2.2.2.2)) (mR') mW)) Q := by
    intro m
    induction m with
    | zero =>
      intro t c1 r mE' mR' ht hc1 hh1 hr hE' he
      have ht2 : t = 61 := by omega
      subst ht2
      rw [q302_20]
      simp only [q302_21, q302_23]
      rw [if_pos (by decide)]
      exact fin 61 r mE' mR' (by omega) he hr.1 hE'
    | succ m ih =>
      intro t c1 r mE' mR' ht hc1 hh1 hr hE' he
      rw [sp_when] at he
      have h7 := sp_sd_le hc1 hK.2.2.1
      rw [q302_20]
      simp only [q302_21, q302_23, q302_26, q302_27, mc_o]
      rw [show (60 : Int32) = nI 60 from rfl, if_neg (by rw [nI_ltI (by omega) (by omega)]; omega)]
      apply tm_sd (mS := (r, mS.2.1, mS.1, mS.2.2.2.1, mS.2.2.2.2.1, mS.2.2.2.2.2.1, mS.2.2.2.2.2.2.1, mS.2.2.2.2.2.2.2)) hK hE' hc1 hr hg
      intro mE2 mR2 hE2
      simp only [sl_i, q302_30, q302_33, q302_34, mc_o]
      by_cases e : 0 < sp_sd s c1
      · rw [if_pos e] at he
        rw [if_pos (show ¬ nI (sp_said s (sp_now s c1)) = 0 from nI_ne0 e (by unfold sp_sd at h7; omega))]
        exact fin t r mE2 mR2 (by omega) (by rw [if_neg (by omega)]; exact he) hr.1 hE2
      · rw [if_neg e] at he
        rw [if_neg (by rw [show sp_said s (sp_now s c1) = 0 from by unfold sp_sd at e; omega]; decide)]
        apply tm_passes (mS := (r, mS.2.1, mS.1, mS.2.2.2.1, mS.2.2.2.2.1, mS.2.2.2.2.2.1, mS.2.2.2.2.2.2.1, mS.2.2.2.2.2.2.2)) hK.1 hK.2.2.1 hc1 hr
        intro r2 hr2
        simp only [sl_n, q302_37r, q302_40, isl_i, isl_r, isl_n, nl_1, nI_add]
        exact ih (t + 1) (sp_on s c1) r2 mE2 mR2 (by omega) (c_on hc1 (by omega)) (by show c1.1 + 1 + m < _; omega) hr2 hE2 he
  exact key 61 0 c mS.1 mE mR (by omega) hc (by omega) hS hE rfl
theorem tm_most (hK : KM nm s mQ) (hE : KE mE mR) (hc : c_ok s c) (hh : c.1 + 100 < 2 ^ 20) (hS : SCm s mS.1 c) (hg : mS.2.2.2.2.2.2.2 = -1) (hb : (mS.2.2.1).length = 9) (hq : ∀ mE' mR', KE mE' mR' → Q (some (.int (nI (sp_most s 61 0 0 (-1) c)))) (pm_h z X Y (pm_l ((0, mV.2.1, mV.2.2.1, mV.2.2.2)) mT mQ mO (mE') mB ((mS.1, mS.2.1, mS.1, mS.2.2.2.1, mS.2.2.2.2.1, mS.2.2.2.2.2.1, mS.2.2.2.2.2.2.1, mS.2.2.2.2.2.2.2)) (mR') mW))) : wm (mp_P fx) (d + 6) 303 [.ref 149] (pm_h z X Y (pm_l mV mT mQ mO mE mB mS mR mW)) Q := by
  have hs9 := hS.1
  simp only [e303, q303_0, q303_1, q303_2, q303_5, q303_6, q303_9, q303_10, q303_11, q303_14, q303_15, mc_o, mg_thrown, mf_thrown, mg_s, ma_s, mb_s, mn_s, mg_before, ma_before, mb_before, mn_before, wx_some, wx_ref, isl_i, isl_r, isl_n]
  apply tm_savebefore hs9 hb
  simp only [sl_n, q303_18, q303_19r, q303_20, q303_21i, q303_22, q303_23i, isl_i, isl_r, isl_n]
  have key : ∀ (m t b : Nat) (h : Int32) (l4 : Option Value) (c1 : SC) (r : List Int32) (mE' : pm_E) (mR' : pm_R), t + m = 61 → c_ok s c1 → c1.1 + m < 2 ^ 20 → SCm s r c1 → KE mE' mR' → sp_most s m t b h c1 = sp_most s 61 0 0 (-1) c → ww (mp_P fx) (d + 6) 303 24 [some (.ref 149), some (.int (nI b)), some (.int h), some (.int (nI t)), l4] [] (pm_h z X Y (pm_l ((0, mV.2.1, mV.2.2.1, mV.2.2.2)) mT mQ mO (mE') mB ((r, mS.2.1, mS.1, mS.2.2.2.1, mS.2.2.2.2.1, mS.2.2.2.2.2.1, mS.2.2.2.2.2.2.1, mS.2.2.2.2.2.2.2)) (mR') mW)) Q := by
    intro m
    induction m with
    | zero =>
      intro t b h l4 c1 r mE' mR' ht hc1 hh1 hr hE' he
      have ht2 : t = 61 := by omega
      subst ht2
      rw [q303_24]
      simp only [q303_25, q303_27, q303_57, q303_58, q303_61, q303_62, q303_63, q303_66, q303_67, mc_o, mg_s, ma_s, mb_s, mn_s, mg_before, ma_before, mb_before, mn_before, wx_some, wx_ref]
      rw [if_pos (by decide)]
      apply tm_backbefore hr.1 hs9
      simp only [sl_n, q303_70, q303_71]
      have := hq mE' mR' hE'
      rw [← he] at this
      exact this
    | succ m ih =>
      intro t b h l4 c1 r mE' mR' ht hc1 hh1 hr hE' he
      rw [sp_most] at he
      rw [q303_24]
      simp only [q303_25, q303_27, q303_30, q303_31, mc_o]
      rw [show (60 : Int32) = nI 60 from rfl, if_neg (by rw [nI_ltI (by omega) (by omega)]; omega)]
      apply tm_sd (mS := (r, mS.2.1, mS.1, mS.2.2.2.1, mS.2.2.2.2.1, mS.2.2.2.2.2.1, mS.2.2.2.2.2.2.1, mS.2.2.2.2.2.2.2)) hK hE' hc1 hr hg
      intro mE2 mR2 hE2
      have hgo : ∀ (b' : Nat) (h' : Int32) (l4 : Option Value), sp_most s m (t + 1) b' h' (sp_on s c1) = sp_most s 61 0 0 (-1) c → ww (mp_P fx) (d + 6) 303 47 [some (.ref 149), some (.int (nI b')), some (.int h'), some (.int (nI t)), l4] [] (pm_h z X Y (pm_l ((0, mV.2.1, mV.2.2.1, mV.2.2.2)) mT mQ mO (mE2) mB ((r, mS.2.1, mS.1, mS.2.2.2.1, mS.2.2.2.2.1, mS.2.2.2.2.2.1, mS.2.2.2.2.2.2.1, mS.2.2.2.2.2.2.2)) (mR2) mW)) Q := by
        intro b' h' l4 he'
        simp only [q303_47, q303_48, mc_o]
        apply tm_passes (mS := (r, mS.2.1, mS.1, mS.2.2.2.1, mS.2.2.2.2.1, mS.2.2.2.2.2.1, mS.2.2.2.2.2.2.1, mS.2.2.2.2.2.2.2)) hK.1 hK.2.2.1 hc1 hr
        intro r2 hr2
        simp only [sl_n, q303_51i, q303_54, isl_i, isl_r, isl_n, nl_1, nI_add]
        exact ih (t + 1) b' h' _ (sp_on s c1) r2 mE2 mR2 (by omega) (c_on hc1 (by omega)) (by show c1.1 + 1 + m < _; omega) hr2 hE2 he'
      simp only [sl_i, q303_34i, q303_36, q303_38, q303_39, q303_42, q303_44i, q303_45, q303_46r, isl_i, isl_r, isl_n]
      by_cases e : nI (sp_sd s c1) ≤ h
      · rw [if_pos e] at he
        rw [if_pos (show nI (sp_said s (sp_now s c1)) ≤ h from e)]
        exact hgo b h _ he
      · rw [if_neg e] at he
        rw [if_neg (show ¬ nI (sp_said s (sp_now s c1)) ≤ h from e)]
        exact hgo t _ _ he
  exact key 61 0 0 (-1) none c mS.1 mE mR (by omega) hc (by omega) hS hE rfl
theorem tm_talk {v : Int32} (hK : KM nm s mQ) (hE : KE mE mR) (hc : c_ok s c) (hh : c.1 + 100 < 2 ^ 20) (hS : SCm s mS.1 c) (hg : mS.2.2.2.2.2.2.2 = -1) (hb : (mS.2.2.1).length = 9) (hq : ∀ mE' mR' b', KE mE' mR' → b'.length = 9 → Q (some (.int (if v < 1 ∨ 60 < v then -1 else nI (sp_talk s v.toNatClampNeg 0 c)))) (pm_h z X Y (pm_l ((0, mV.2.1, mV.2.2.1, mV.2.2.2)) mT mQ mO (mE') mB ((mS.1, mS.2.1, b', mS.2.2.2.1, mS.2.2.2.2.1, mS.2.2.2.2.2.1, mS.2.2.2.2.2.2.1, mS.2.2.2.2.2.2.2)) (mR') mW))) : wm (mp_P fx) (d + 6) 304 [.ref 149, .int v] (pm_h z X Y (pm_l mV mT mQ mO mE mB mS mR mW)) Q := by
  have hs9 := hS.1
  simp only [e304, q304_0, q304_1, q304_2, q304_5, q304_6, q304_7, q304_9, mc_o, mg_thrown, mf_thrown, wx_some, wx_ref, isl_i, isl_r, isl_n]
  apply tm_in
  · intro h0
    simp only [sl_i, q304_12, q304_15, q304_16]
    rw [if_neg (by decide)]
    have := hq mE mR mS.2.2.1 hE hb
    rw [if_pos h0] at this
    exact this
  intro h1 h2
  have h1 := Int32.not_lt.mpr h1
  have h2 := Int32.not_lt.mpr h2
  simp only [sl_i, q304_12, q304_15, q304_16, q304_17, q304_18, q304_21, q304_22, q304_23, q304_26, q304_27, mc_o, mg_s, ma_s, mb_s, mn_s, mg_before, ma_before, mb_before, mn_before, wx_some, wx_ref]
  rw [if_pos (by decide)]
  rcases iv v with hv | ⟨n, hn, rfl⟩
  · exact absurd (Int32.lt_of_lt_of_le hv (by decide : (0 : Int32) ≤ 1)) h1
  have hn60 : n ≤ 60 := by
    have := Int32.not_lt.mp h2
    rw [show (60 : Int32) = nI 60 from rfl, nI_leI (by omega) (by omega)] at this
    exact this
  have hq2 : ∀ mE' mR', KE mE' mR' → Q (some (.int (nI (sp_talk s n 0 c)))) (pm_h z X Y (pm_l ((0, mV.2.1, mV.2.2.1, mV.2.2.2)) mT mQ mO (mE') mB ((mS.1, mS.2.1, mS.1, mS.2.2.2.1, mS.2.2.2.2.1, mS.2.2.2.2.2.1, mS.2.2.2.2.2.2.1, mS.2.2.2.2.2.2.2)) (mR') mW)) := by
    intro mE' mR' h3
    have := hq mE' mR' mS.1 h3 hs9
    rw [if_neg (fun z => z.elim h1 h2), nI_clamp (by omega)] at this
    exact this
  apply tm_savebefore hs9 hb
  simp only [sl_n, q304_30, q304_31i, q304_32, q304_33i, isl_i, isl_r, isl_n]
  have key : ∀ (m t a : Nat) (c1 : SC) (r : List Int32) (mE' : pm_E) (mR' : pm_R), t + m = n → c_ok s c1 → c1.1 + m < 2 ^ 20 → SCm s r c1 → KE mE' mR' → sp_talk s m a c1 = sp_talk s n 0 c → ww (mp_P fx) (d + 6) 304 34 [some (.ref 149), some (.int (nI n)), some (.int (nI a)), some (.int (nI t))] [] (pm_h z X Y (pm_l ((0, mV.2.1, mV.2.2.1, mV.2.2.2)) mT mQ mO (mE') mB ((r, mS.2.1, mS.1, mS.2.2.2.1, mS.2.2.2.2.1, mS.2.2.2.2.2.1, mS.2.2.2.2.2.2.1, mS.2.2.2.2.2.2.2)) (mR') mW)) Q := by
    intro m
    induction m with
    | zero =>
      intro t a c1 r mE' mR' ht hc1 hh1 hr hE' he
      rw [q304_34]
      simp only [q304_35, q304_36, q304_56, q304_57, q304_60, q304_61, q304_62, q304_65, q304_66, mc_o, mg_s, ma_s, mb_s, mn_s, mg_before, ma_before, mb_before, mn_before, wx_some, wx_ref]
      rw [if_pos (by rw [nI_leI (by omega) (by omega)]; omega)]
      apply tm_backbefore hr.1 hs9
      simp only [sl_n, q304_69, q304_70]
      have := hq2 mE' mR' hE'
      rw [← he] at this
      exact this
    | succ m ih =>
      intro t a c1 r mE' mR' ht hc1 hh1 hr hE' he
      rw [sp_talk] at he
      have hc2 := c_on hc1 (by omega)
      rw [q304_34]
      simp only [q304_35, q304_36, q304_39, q304_40, mc_o]
      rw [if_neg (by rw [nI_leI (by omega) (by omega)]; omega)]
      apply tm_passes (mS := (r, mS.2.1, mS.1, mS.2.2.2.1, mS.2.2.2.2.1, mS.2.2.2.2.2.1, mS.2.2.2.2.2.2.1, mS.2.2.2.2.2.2.2)) hK.1 hK.2.2.1 hc1 hr
      intro r2 hr2
      simp only [sl_n, q304_43, q304_44, q304_45, mc_o]
      apply tm_sd (mS := (r2, mS.2.1, mS.1, mS.2.2.2.1, mS.2.2.2.2.1, mS.2.2.2.2.2.1, mS.2.2.2.2.2.2.1, mS.2.2.2.2.2.2.2)) hK hE' hc2 hr2 hg
      intro mE2 mR2 hE2
      simp only [sl_i, q304_48, q304_49i, q304_50i, q304_53, isl_i, isl_r, isl_n, nl_1, nI_add]
      exact ih (t + 1) (a + sp_sd s (sp_on s c1)) (sp_on s c1) r2 mE2 mR2 (by omega) hc2 (by show c1.1 + 1 + m < _; omega) hr2 hE2 he
  exact key n 0 0 c mS.1 mE mR (by omega) hc (by omega) hS hE rfl
theorem tm_isWalker {v : Int32} (hs : SQm mQ s) (ho : k_ok s) (hq0 : sx (k_nW s) v = none → Q (some (.int 0)) (pm_h z X Y (pm_l mV mT mQ mO mE mB mS mR mW))) (hq1 : ∀ w, w < k_nW s → v = nI w → sx (k_nW s) v = some w → Q (some (.int 1)) (pm_h z X Y (pm_l mV mT mQ mO mE mB mS mR mW))) : wm (mp_P fx) d 259 [.ref 149, .int v] (pm_h z X Y (pm_l mV mT mQ mO mE mB mS mR mW)) Q := by
  have h7 := ho.1.2.2.2.1
  have hsl := hs.1.1
  simp only [e259, b259_0, b259_1, bn_0 b259_0, bn_1 b259_1, q259_0, q259_1, q259_4, q259_5, q259_6, q259_9, q259_10, q259_11, q259_14, q259_15, q259_18, q259_19, mg_square, ma_square, mb_square, mn_square, wx_some, wx_ref, show aG (mQ.1) 3 = some (nI (k_nW s)) from aG_n hs.2.1.2.2.2.1 (by omega)]
  rcases sx_c (k_nW s) v (by omega) with ⟨e, h1⟩ | ⟨k, hk, rfl, e⟩
  · rcases h1 with h1 | ⟨h1, h2⟩
    · rw [if_pos h1]; exact hq0 e
    · rw [if_neg h1, if_pos h2]; exact hq0 e
  · rw [if_neg (by rw [nl_0, nI_ltI (by omega) (by omega)]; omega), if_neg (by rw [nI_leI (by omega) (by omega)]; omega)]
    exact hq1 k hk rfl e
theorem tm_later {u v : Int32} (hK : KM nm s mQ) (hc : c_ok s c) (hh : c.1 + 100 < 2 ^ 20) (hS : SCm s mS.1 c) (hb : (mS.2.2.1).length = 9) (hq : ∀ b', b'.length = 9 → Q (some (.int (match sx (k_nW s) u, sx 61 v with
    | some w, some n => nI ((sp_onk s n c).2.2 w)
    | _, _ => -1))) (pm_h z X Y (pm_l ((0, mV.2.1, mV.2.2.1, mV.2.2.2)) mT mQ mO mE mB ((mS.1, mS.2.1, b', mS.2.2.2.1, mS.2.2.2.2.1, mS.2.2.2.2.2.1, mS.2.2.2.2.2.2.1, mS.2.2.2.2.2.2.2)) mR mW))) : wm (mp_P fx) (d + 3) 301 [.ref 149, .int u, .int v] (pm_h z X Y (pm_l mV mT mQ mO mE mB mS mR mW)) Q := by
  have h7 := hK.2.2.1.1.2.2.2.1
  have hs9 := hS.1
  simp only [e301, q301_0, q301_1, q301_2, q301_5, q301_6, q301_7, mc_o, mg_thrown, mf_thrown, wx_some, wx_ref, isl_i, isl_r, isl_n]
  apply tm_isWalker hK.1 hK.2.2.1
  · intro e
    simp only [sl_i, q301_10, q301_13, q301_14, q301_15, q301_17, q301_20, q301_23, q301_24]
    have hq := hq mS.2.2.1 hb
    rw [e] at hq
    rw [if_pos (by decide)]; exact hq
  intro w hw hu e
  subst hu
  simp only [sl_i, q301_10, q301_13, q301_14, q301_15, q301_17]
  rw [e] at hq
  rw [if_neg (by decide)]
  apply tm_in
  · intro h0
    have hq := hq mS.2.2.1 hb
    rcases sx_c 61 v (by omega) with ⟨e2, -⟩ | ⟨n, hn, rfl, e2⟩
    · rw [e2] at hq
      simp only [sl_i, q301_20, q301_23, q301_24]
      rw [if_neg (by decide)]
      exact hq
    · rw [nl_0, show (60 : Int32) = nI 60 from rfl, nI_ltI (by omega) (by omega), nI_ltI (by omega) (by omega)] at h0
      omega
  intro h1 h2
  simp only [sl_i, q301_20, q301_23, q301_24, q301_25, q301_26, q301_29, q301_30, q301_31, q301_34, q301_35, mc_o, mg_s, ma_s, mb_s, mn_s, mg_before, ma_before, mb_before, mn_before, wx_some, wx_ref]
  rcases sx_c 61 v (by omega) with ⟨e2, h3⟩ | ⟨n, hn, rfl, e2⟩
  · rcases h3 with h3 | ⟨h3, h4⟩
    · exact absurd h1 (Int32.not_le.mpr h3)
    · exact absurd h2 (Int32.not_le.mpr (Int32.lt_of_lt_of_le (by decide : (60 : Int32) < nI 61) h4))
  · have hq := hq mS.1 hs9
    rw [e2] at hq
    rw [if_pos (by decide)]
    apply tm_savebefore hs9 hb
    simp only [sl_n, q301_38, q301_39i, isl_i, isl_r, isl_n]
    have key : ∀ (m t : Nat) (r : List Int32), t + m = n → SCm s r (sp_onk s t c) → ww (mp_P fx) (d + 3) 301 40 [some (.ref 149), some (.int (nI w)), some (.int (nI n)), some (.int (nI t))] [] (pm_h z X Y (pm_l ((0, mV.2.1, mV.2.2.1, mV.2.2.2)) mT mQ mO mE mB ((r, mS.2.1, mS.1, mS.2.2.2.1, mS.2.2.2.2.1, mS.2.2.2.2.2.1, mS.2.2.2.2.2.2.1, mS.2.2.2.2.2.2.2)) mR mW)) Q := by
      intro m
      induction m with
      | zero =>
        intro t r ht hr
        have ht2 : t = n := by omega
        subst ht2
        have hpw := hr.2.2.2 w (by omega)
        rw [if_pos hw] at hpw
        have hr9 := hr.1
        rw [q301_40]
        simp only [q301_41, q301_42, q301_55, q301_56, q301_59, q301_60, q301_61, q301_62, q301_63i, q301_64, q301_65, q301_68, q301_69, q301_70, q301_73, q301_74, mc_o, mg_s, ma_s, mb_s, mn_s, mg_before, ma_before, mb_before, mn_before, wx_some, wx_ref, isl_i, isl_r, isl_n, nl_2, nI_add, aG_n hpw (show r.length < 2 ^ 31 by omega)]
        rw [if_pos (by rw [nI_leI (by omega) (by omega)]; omega)]
        apply tm_backbefore hr.1 hs9
        simp only [sl_n, q301_77, q301_78]
        exact hq
      | succ m ih =>
        intro t r ht hr
        obtain ⟨hct, hht⟩ := c_onk hc t (by omega)
        rw [q301_40]
        simp only [q301_41, q301_42, q301_45, q301_46, mc_o]
        rw [if_neg (by rw [nI_leI (by omega) (by omega)]; omega)]
        apply tm_passes (mS := (r, mS.2.1, mS.1, mS.2.2.2.1, mS.2.2.2.2.1, mS.2.2.2.2.2.1, mS.2.2.2.2.2.2.1, mS.2.2.2.2.2.2.2)) hK.1 hK.2.2.1 hct hr
        intro r2 hr2
        simp only [sl_n, q301_49i, q301_52, isl_i, isl_r, isl_n, nl_1, nI_add]
        exact ih (t + 1) r2 (by omega) hr2
    exact key n 0 mS.1 (by omega) hS
end MT
