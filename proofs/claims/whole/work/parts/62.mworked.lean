/-! the law's value, of the model: the run -/
section MK
variable {fx : List Value → mm_H → Option (List Value × mm_H)} {z : Nat} {X Y : Nat → mm_C} {mV : pm_V} {mT : pm_T} {mQ : pm_Q} {mO : pm_O} {mE : pm_E} {mB : pm_B} {mS : pm_S} {mR : pm_R} {mW : pm_W} {m_thrown : Int32} {m_given : Int32} {m_fresh : Int64} {m_code : Int32} {m_taped : Int32} {m_tape : List Int32} {m_size : Int32} {m_place : Int32} {m_begin : Int32} {m_token : Int32} {m_word : Int64} {m_told : Int32} {m_wrong : Int32} {m_square : List Int32} {m_sortName : List Int64} {m_colourName : List Int64} {m_walkerName : List Int64} {m_sortOf : List Int32} {m_rules : List Int32} {m_kind : List Int32} {m_colour : List Int32} {m_atTold : List Int32} {m_goesMany : List Int32} {m_goes : List Int32} {m_gusts : List Int32} {m_lineFrom : List Int32} {m_lineTo : List Int32} {m_codes : List Int32} {m_opened : List Int32} {m_compared : List Int32} {m_kept : List Int32} {m_keptBy : List Int32} {m_ahead : List Int32} {m_against : List Int32} {m_sum : List Int32} {m_sumBy : List Int32} {m_term : List Int32} {m_termBy : List Int32} {m_byNot : List Int32} {m_valueOf : List Int32} {m_lines : List Int32} {m_lineWhat : List Int32} {m_lineA : List Int32} {m_lineB : List Int32} {m_wishes : List Int32} {m_wishOf : List Int32} {m_seens : List Int32} {m_seenAt : List Int32} {m_seenIn : List Int32} {m_seenThere : List Int32} {m_s : List Int32} {m_aside : List Int32} {m_before : List Int32} {m_marked : List Int32} {m_undone : List Int32} {m_isLaid : List Int32} {m_done : Int32} {m_gustNow : Int32} {m_shown : List Int32} {m_shownMany : Int32} {m_from7 : List Int32} {m_long7 : List Int32} {m_sentences : Int32} {m_text7 : List Int32} {m_textMany : Int32} {m_waysOf : List Int32} {m_rowOf : List Int32} {m_row : List Int32} {m_bestRow : List Int32} {m_leastSteps : Int32} {m_steps10 : List Int32} {m_placeIn : List Int32} {m_g : Int64}
variable {d : Nat} {Q : Option Value → mm_H → Prop}
/-- the model's rows for levels have their lengths -/
def ELl (mE : pm_E) : Prop := (∃ bn L, EL mE bn L) ∧ (mE.2.2.2.2.2.2.2.2.2).length = 20
theorem EL_bn {mE : pm_E} {bn : Nat → Int32} {L : Nat → LV} {k : Nat} {v : Int32} (h : EL mE bn L) (hk : k < 7) : EL (mE.1, mE.2.1, mE.2.2.1, mE.2.2.2.1, mE.2.2.2.2.1, mE.2.2.2.2.2.1, mE.2.2.2.2.2.2.1, mE.2.2.2.2.2.2.2.1, (mE.2.2.2.2.2.2.2.2.1).set k v, mE.2.2.2.2.2.2.2.2.2) (uL bn k v) L := by
  obtain ⟨a1, a2, a3, a4, a5, a6, a7, a8, a9⟩ := h
  exact ⟨a1, a2, a3, a4, a5, a6, a7, a8, af_set a9 hk (fun i => rfl)⟩
/-- from a value up through nots to its term -/
theorem tm_put (li l3 l4 : Int32) :
    ∀ (k : Nat) (v : Int32) (mE1 : pm_E) (bn : Nat → Int32) (L : Nat → LV), k < 7 → EL mE1 bn L → (∀ mE2, EL mE2 bn (uL L (lv_dv bn k v).1 (lv_val (L (lv_dv bn k v).1) (lv_dv bn k v).2)) → mE2.2.2.2.2.2.2.2.2.2 = mE1.2.2.2.2.2.2.2.2.2 → (lv_dv bn k v).1 < 7 → ww (mp_P fx) (d + 2) 264 329 [some (.ref 149), some (.int li), some (.int (nI (lv_dv bn k v).1)), some (.int l3), some (.int l4), some (.int (lv_dv bn k v).2)] [] (pm_h z X Y (pm_l mV mT mQ mO (mE2) mB mS mR mW)) Q) →
      ww (mp_P fx) (d + 2) 264 268 [some (.ref 149), some (.int li), some (.int (nI k)), some (.int l3), some (.int l4), some (.int v)] [] (pm_h z X Y (pm_l mV mT mQ mO (mE1) mB mS mR mW)) Q := by
  have h7 : 7 < 2 ^ 31 := by omega
  have fin : ∀ (k : Nat) (v : Int32) (mE1 : pm_E) (bn : Nat → Int32) (L : Nat → LV), k < 7 → EL mE1 bn L → (∀ mE2, EL mE2 bn (uL L k (lv_val (L k) v)) → mE2.2.2.2.2.2.2.2.2.2 = mE1.2.2.2.2.2.2.2.2.2 → ww (mp_P fx) (d + 2) 264 329 [some (.ref 149), some (.int li), some (.int (nI k)), some (.int l3), some (.int l4), some (.int v)] [] (pm_h z X Y (pm_l mV mT mQ mO (mE2) mB mS mR mW)) Q) → ww (mp_P fx) (d + 2) 264 300 [some (.ref 149), some (.int li), some (.int (nI k)), some (.int l3), some (.int l4), some (.int v)] [] (pm_h z X Y (pm_l mV mT mQ mO (mE1) mB mS mR mW)) Q := by
    intro k v mE1 bn L hk hE hgo
    obtain ⟨a1, a2, a3, a4, a5, a6, a7, a8, a9⟩ := id hE
    simp only [q264_300, q264_301, q264_304, q264_305, q264_306, q264_309, q264_310, q264_311, q264_314, q264_316, q264_319, q264_320, q264_323, q264_324, q264_325, q264_327, q264_328, mg_term, ma_term, mb_term, mn_term, mg_termBy, ma_termBy, mb_termBy, mn_termBy, wx_some, wx_ref, af_G a7 h7 hk, af_G a8 h7 hk, af_S a7 h7 hk]
    have hup : ∀ x, x = (lv_val (L k) v).2.2.2.2.2.2.1 → EL (mE1.1, mE1.2.1, mE1.2.2.1, mE1.2.2.2.1, mE1.2.2.2.2.1, mE1.2.2.2.2.2.1, (mE1.2.2.2.2.2.2.1).set k x, mE1.2.2.2.2.2.2.2.1, mE1.2.2.2.2.2.2.2.2.1, mE1.2.2.2.2.2.2.2.2.2) bn (uL L k (lv_val (L k) v)) := by
      intro x hx
      exact EL_up hE hk (Or.inr ⟨rfl, rfl⟩) (Or.inr ⟨rfl, rfl⟩) (Or.inr ⟨rfl, rfl⟩) (Or.inr ⟨rfl, rfl⟩) (Or.inr ⟨rfl, rfl⟩) (Or.inr ⟨rfl, rfl⟩) (Or.inl (by rw [hx])) (Or.inr ⟨rfl, rfl⟩) rfl
    by_cases e : (L k).2.2.2.2.2.2.2 = 0
    · rw [if_neg (fun z => z e)]
      exact hgo _ (hup _ (by unfold lv_val; simp only []; rw [if_pos e])) rfl
    · rw [if_pos e]
      exact hgo _ (hup _ (by unfold lv_val; simp only []; rw [if_neg e])) rfl
  intro k
  induction k with
  | zero =>
    intro v mE1 bn L hk hE hgo
    rw [q264_268, q264_269]
    rw [if_pos (by decide)]
    exact fin 0 v mE1 bn L hk hE (fun mE2 h1 h2 => hgo mE2 h1 h2 hk)
  | succ k ih =>
    intro v mE1 bn L hk hE hgo
    have a9 := hE.2.2.2.2.2.2.2.2
    have hdv : lv_dv bn (k + 1) v = if bn (k + 1) = 1 then lv_dv bn k (if v = 0 then 1 else 0) else (k + 1, v) := rfl
    rw [hdv] at hgo
    rw [q264_268, q264_269]
    rw [if_neg (nI_nle (by omega) (by omega))]
    simp only [q264_272, q264_273, q264_276, q264_277, q264_278, q264_279, q264_282, q264_284, q264_287, q264_288, q264_291, q264_292i, q264_294i, q264_297, mg_byNot, ma_byNot, mb_byNot, mn_byNot, wx_some, wx_ref, isl_i, isl_r, isl_n, af_G a9 h7 hk]
    by_cases e : bn (k + 1) = 1
    · rw [if_pos e] at hgo
      rw [if_neg (fun z => z e), i_m1, nI_pred]
      by_cases ev : v = 0
      · rw [if_pos ev] at hgo
        rw [if_neg (fun z => z ev)]
        exact ih 1 mE1 bn L (by omega) hE hgo
      · rw [if_neg ev] at hgo
        rw [if_pos ev]
        exact ih 0 mE1 bn L (by omega) hE hgo
    · rw [if_neg e] at hgo
      rw [if_pos e]
      exact fin (k + 1) v mE1 bn L hk hE (fun mE2 h1 h2 => hgo mE2 h1 h2 hk)
/-- one run of the codes -/
theorem tm_worked_l {vl : Nat → Int32} {f n : Nat} {cs : List Nat} {bn' : Nat → Int32} {L' : Nat → LV} (hn : cs.length = n) (hf : f + n ≤ 1000) (hcl : (mQ.2.2.2.2.2.2.2.2.2.2.2.2.2.2).length = 2000) (hlt : (mQ.2.2.2.2.2.2.2.2.2.2.2.2.2.1).length = 2) (ht : (mQ.2.2.2.2.2.2.2.2.2.2.2.2.2.1)[0]? = some (nI (f + n))) (hcs : ∀ j, j < n → (mQ.2.2.2.2.2.2.2.2.2.2.2.2.2.2)[f + j]? = some (nI (cs.getD j 0)) ∧ cs.getD j 0 < 2 ^ 20)
    (hq : ∀ mE', EL mE' bn' (uL L' 0 (lv_tests (L' 0))) → mE'.2.2.2.2.2.2.2.2.2 = mE.2.2.2.2.2.2.2.2.2 → Q (some (.int (lv_t (L' 0)))) (pm_h z X Y (pm_l mV mT mQ mO (mE') mB mS mR mW))) (hvl : (mE.2.2.2.2.2.2.2.2.2).length = 20) (hv : ∀ i, 1 ≤ i → i ≤ 4 → (mE.2.2.2.2.2.2.2.2.2)[i]? = some (vl i)) :
    ∀ (m j k : Nat) (l4 l5 : Option Value) (mE1 : pm_E) (bn : Nat → Int32) (L : Nat → LV), j + m = n → k < 7 → EL mE1 bn L → mE1.2.2.2.2.2.2.2.2.2 = mE.2.2.2.2.2.2.2.2.2 → lm_run vl (cs.drop j) (k, bn, L) = some (0, bn', L') → ww (mp_P fx) (d + 2) 264 14 [some (.ref 149), some (.int (nI 0)), some (.int (nI k)), some (.int (nI (f + j))), l4, l5] [] (pm_h z X Y (pm_l mV mT mQ mO (mE1) mB mS mR mW)) Q := by
  have h7 : 7 < 2 ^ 31 := by omega
  intro m
  induction m with
  | zero =>
    intro j k l4 l5 mE1 bn L hj hk hE hvo hr
    rw [List.drop_of_length_le (by omega)] at hr
    cases hr
    rw [q264_14]
    simp only [q264_15, q264_16, q264_19, q264_20, q264_21, q264_335, q264_336, q264_337, mc_o, mg_lineTo, ma_lineTo, mb_lineTo, mn_lineTo, wx_some, wx_ref, aG_n ht (show (mQ.2.2.2.2.2.2.2.2.2.2.2.2.2.1).length < 2 ^ 31 by omega)]
    rw [if_pos (by rw [nI_leI (by omega) (by omega)]; omega), nl_0]
    apply tm_tests hE (by omega)
    intro mE2 hE2 hv2
    have a1 := hE2.1
    simp only [sl_n, q264_340, q264_341, q264_344, q264_345, q264_346, mg_kept, ma_kept, mb_kept, mn_kept, wx_some, wx_ref, nl_0, af_G a1 h7 (show 0 < 7 by omega), uL_eq]
    exact hq mE2 hE2 (hv2.trans hvo)
  | succ m ih =>
    intro j k l4 l5 mE1 bn L hj hk hE hvo hr
    have hjl : j < cs.length := by omega
    obtain ⟨hc1, hc2⟩ := hcs j (by omega)
    have hgd : cs.getD j 0 = cs[j] := by rw [List.getD, List.getElem?_eq_getElem hjl]; rfl
    rw [hgd] at hc1 hc2
    rw [List.drop_eq_getElem_cons hjl] at hr
    generalize cs[j] = c at hr hc1 hc2
    rw [lm_run] at hr
    obtain ⟨a1, a2, a3, a4, a5, a6, a7, a8, a9⟩ := id hE
    have ne : ∀ i : Nat, i < 2 ^ 31 → ¬ c = i → ¬ nI c = nI i := fun i hi h z => h ((nI_eq (by omega) hi).mp z)
    have hgo : ∀ (k' : Nat) (l5 : Option Value) (mE2 : pm_E) (bn2 : Nat → Int32) (L2 : Nat → LV), k' < 7 → EL mE2 bn2 L2 → mE2.2.2.2.2.2.2.2.2.2 = mE.2.2.2.2.2.2.2.2.2 → lm_run vl (cs.drop (j + 1)) (k', bn2, L2) = some (0, bn', L') → ww (mp_P fx) (d + 2) 264 329 [some (.ref 149), some (.int (nI 0)), some (.int (nI k')), some (.int (nI (f + j))), some (.int (nI c)), l5] [] (pm_h z X Y (pm_l mV mT mQ mO (mE2) mB mS mR mW)) Q := by
      intro k' l5 mE2 bn2 L2 h1 h2 h3 h4
      simp only [q264_329i, q264_332, isl_i, isl_r, isl_n, nl_1, nI_add]
      exact ih (j + 1) k' _ _ mE2 bn2 L2 (by omega) h1 h2 h3 h4
    have hput : ∀ (k' : Nat) (v : Int32) (mE2 : pm_E) (L2 : Nat → LV), k' < 7 → EL mE2 bn L2 → mE2.2.2.2.2.2.2.2.2.2 = mE.2.2.2.2.2.2.2.2.2 → lm_run vl (cs.drop (j + 1)) (lv_put (k', bn, L2) v) = some (0, bn', L') → ww (mp_P fx) (d + 2) 264 268 [some (.ref 149), some (.int (nI 0)), some (.int (nI k')), some (.int (nI (f + j))), some (.int (nI c)), some (.int v)] [] (pm_h z X Y (pm_l mV mT mQ mO (mE2) mB mS mR mW)) Q := by
      intro k' v mE2 L2 h1 h2 h3 h4
      exact tm_put _ _ _ k' v mE2 bn L2 h1 h2 (fun mE3 g1 g2 g3 => hgo _ _ mE3 bn _ g3 g1 (g2.trans h3) h4)
    rw [q264_14]
    simp only [q264_15, q264_16, q264_19, q264_20, q264_21, q264_24, q264_25, q264_28, q264_29, q264_30i, mc_o, mg_lineTo, ma_lineTo, mb_lineTo, mn_lineTo, mg_codes, ma_codes, mb_codes, mn_codes, wx_some, wx_ref, isl_i, isl_r, isl_n, aG_n ht (show (mQ.2.2.2.2.2.2.2.2.2.2.2.2.2.1).length < 2 ^ 31 by omega), aG_n hc1 (show (mQ.2.2.2.2.2.2.2.2.2.2.2.2.2.2).length < 2 ^ 31 by omega)]
    rw [if_neg (by rw [nI_leI (by omega) (by omega)]; omega)]
    split at hr
    · cases hr
    rename_i t' he
    unfold lm_1 at he
    by_cases c1 : c = 28 ∨ c = 30
    · rw [if_pos c1] at he
      simp only [] at he
      split at he
      · rename_i hk6
        cases he
        have fin : ∀ v : Int32, v = (if c = 30 then 1 else 0) → wm (mp_P fx) (d + 1) 265 [.ref 149, .int (nI (k + 1))] (pm_h z X Y (pm_l mV mT mQ mO ((mE1.1, mE1.2.1, mE1.2.2.1, mE1.2.2.2.1, mE1.2.2.2.2.1, mE1.2.2.2.2.2.1, mE1.2.2.2.2.2.2.1, mE1.2.2.2.2.2.2.2.1, (mE1.2.2.2.2.2.2.2.2.1).set (k + 1) v, mE1.2.2.2.2.2.2.2.2.2)) mB mS mR mW)) (fun r h' => ww (mp_P fx) (d + 2) 264 72 [some (.ref 149), some (.int (nI 0)), some (.int (nI (k + 1))), some (.int (nI (f + j))), some (.int (nI c)), l5] (r.toList ++ []) h' Q) := by
          intro v hvv
          apply tm_opens (mE := (mE1.1, mE1.2.1, mE1.2.2.1, mE1.2.2.2.1, mE1.2.2.2.2.1, mE1.2.2.2.2.2.1, mE1.2.2.2.2.2.2.1, mE1.2.2.2.2.2.2.2.1, (mE1.2.2.2.2.2.2.2.2.1).set (k + 1) v, mE1.2.2.2.2.2.2.2.2.2)) (EL_bn hE (by omega)) (by omega)
          intro mE2 hE2 hv2
          simp only [sl_n, q264_72]
          rw [hvv] at hE2
          exact hgo (k + 1) _ mE2 _ _ (by omega) hE2 (hv2.trans hvo) hr
        rcases c1 with c1 | c1
        · subst c1
          simp only [q264_32, q264_34, q264_36, q264_39, q264_41, q264_43, q264_46i, q264_49, q264_50, q264_53, q264_54, q264_56, q264_58, q264_61, q264_62, q264_65, q264_66, q264_67, q264_68, q264_69, mc_o, mg_byNot, ma_byNot, mb_byNot, mn_byNot, wx_some, wx_ref, isl_i, isl_r, isl_n, nl_1, nI_add, af_S a9 h7 (show k + 1 < 7 by omega)]
          rw [if_pos (by decide), if_pos (by decide)]
          exact fin _ (by rw [if_neg (by omega)])
        · subst c1
          simp only [q264_32, q264_34, q264_36, q264_39, q264_41, q264_43, q264_46i, q264_49, q264_50, q264_53, q264_54, q264_56, q264_58, q264_61, q264_62, q264_65, q264_66, q264_67, q264_68, q264_69, mc_o, mg_byNot, ma_byNot, mb_byNot, mn_byNot, wx_some, wx_ref, isl_i, isl_r, isl_n, nl_1, nI_add, af_S a9 h7 (show k + 1 < 7 by omega)]
          rw [if_neg (by decide), if_neg (by decide), if_neg (by decide)]
          exact fin _ (by rw [if_pos rfl]; rfl)
      · cases he
    rw [if_neg c1] at he
    simp only [q264_32, q264_34, q264_36, q264_39, q264_41, q264_43]
    rw [if_neg (show ¬ nI c = 28 from ne 28 (by omega) (fun z => c1 (Or.inl z))), if_pos (show ¬ nI c = 30 from ne 30 (by omega) (fun z => c1 (Or.inr z)))]
    by_cases c2 : c = 20 ∨ c = 21
    · rw [if_pos c2] at he
      cases he
      have fin : wm (mp_P fx) (d + 1) 266 [.ref 149, .int (nI k)] (pm_h z X Y (pm_l mV mT mQ mO (mE1) mB mS mR mW)) (fun r h' => ww (mp_P fx) (d + 2) 264 94 [some (.ref 149), some (.int (nI 0)), some (.int (nI k)), some (.int (nI (f + j))), some (.int (nI c)), l5] (r.toList ++ []) h' Q) := by
        apply tm_sums hE hk
        intro mE2 hE2 hv2
        have b6 := hE2.2.2.2.2.2.1
        simp only [sl_n, q264_94, q264_95, q264_98, q264_99, q264_101, q264_102, mg_sumBy, ma_sumBy, mb_sumBy, mn_sumBy, wx_some, wx_ref, af_S b6 h7 hk]
        have := EL_up (l := ((L k).1, (L k).2.1, (L k).2.2.1, (L k).2.2.2.1, lv_s (L k), nI c, (L k).2.2.2.2.2.2.1, 0)) (mE' := (mE2.1, mE2.2.1, mE2.2.2.1, mE2.2.2.2.1, mE2.2.2.2.2.1, (mE2.2.2.2.2.2.1).set k (nI c), mE2.2.2.2.2.2.2.1, mE2.2.2.2.2.2.2.2.1, mE2.2.2.2.2.2.2.2.2.1, mE2.2.2.2.2.2.2.2.2.2)) hE2 hk (Or.inr ⟨rfl, by rw [uL_eq]; rfl⟩) (Or.inr ⟨rfl, by rw [uL_eq]; rfl⟩) (Or.inr ⟨rfl, by rw [uL_eq]; rfl⟩) (Or.inr ⟨rfl, by rw [uL_eq]; rfl⟩) (Or.inr ⟨rfl, by rw [uL_eq]; rfl⟩) (Or.inl rfl) (Or.inr ⟨rfl, by rw [uL_eq]; rfl⟩) (Or.inr ⟨rfl, by rw [uL_eq]; rfl⟩) rfl
        rw [uL_uL] at this
        exact hgo k _ _ _ _ hk this (hv2.trans hvo) hr
      rcases c2 with c2 | c2
      · subst c2
        simp only [q264_75, q264_77, q264_79, q264_82, q264_84, q264_86, q264_89, q264_90, q264_91, mc_o]
        rw [if_pos (by decide)]
        exact fin
      · subst c2
        simp only [q264_75, q264_77, q264_79, q264_82, q264_84, q264_86, q264_89, q264_90, q264_91, mc_o]
        rw [if_neg (by decide), if_neg (by decide)]
        exact fin
    rw [if_neg c2] at he
    simp only [q264_75, q264_77, q264_79, q264_82, q264_84, q264_86]
    rw [if_neg (show ¬ nI c = 20 from ne 20 (by omega) (fun z => c2 (Or.inl z))), if_pos (show ¬ nI c = 21 from ne 21 (by omega) (fun z => c2 (Or.inr z)))]
    by_cases c3 : c = 22
    · rw [if_pos c3] at he
      cases he
      subst c3
      simp only [q264_105, q264_107, q264_109, q264_112, q264_113, q264_116, q264_117, q264_119, q264_120, mg_termBy, ma_termBy, mb_termBy, mn_termBy, wx_some, wx_ref, af_S a8 h7 hk]
      rw [if_neg (by decide)]
      have this := EL_up (l := ((L k).1, (L k).2.1, (L k).2.2.1, (L k).2.2.2.1, (L k).2.2.2.2.1, (L k).2.2.2.2.2.1, (L k).2.2.2.2.2.2.1, nI 22)) (mE' := (mE1.1, mE1.2.1, mE1.2.2.1, mE1.2.2.2.1, mE1.2.2.2.2.1, mE1.2.2.2.2.2.1, mE1.2.2.2.2.2.2.1, (mE1.2.2.2.2.2.2.2.1).set k (nI 22), mE1.2.2.2.2.2.2.2.2.1, mE1.2.2.2.2.2.2.2.2.2)) hE hk (Or.inr ⟨rfl, rfl⟩) (Or.inr ⟨rfl, rfl⟩) (Or.inr ⟨rfl, rfl⟩) (Or.inr ⟨rfl, rfl⟩) (Or.inr ⟨rfl, rfl⟩) (Or.inr ⟨rfl, rfl⟩) (Or.inr ⟨rfl, rfl⟩) (Or.inl rfl) rfl
      exact hgo k _ _ _ _ hk this hvo hr
    rw [if_neg c3] at he
    simp only [q264_105, q264_107, q264_109]
    rw [if_pos (show ¬ nI c = 22 from ne 22 (by omega) c3)]
    by_cases c4 : c = 24 ∨ c = 25
    · rw [if_pos c4] at he
      cases he
      have fin : wm (mp_P fx) (d + 1) 266 [.ref 149, .int (nI k)] (pm_h z X Y (pm_l mV mT mQ mO (mE1) mB mS mR mW)) (fun r h' => ww (mp_P fx) (d + 2) 264 142 [some (.ref 149), some (.int (nI 0)), some (.int (nI k)), some (.int (nI (f + j))), some (.int (nI c)), l5] (r.toList ++ []) h' Q) := by
        apply tm_sums hE hk
        intro mE2 hE2 hv2
        obtain ⟨b1, b2, b3, b4, b5, b6, b7, b8, b9⟩ := id hE2
        simp only [sl_n, q264_142, q264_143, q264_146, q264_147, q264_148, q264_151, q264_152, q264_153, q264_154, q264_155, q264_158, q264_159, q264_161, q264_162, q264_163, q264_166, q264_167, q264_168, q264_169, q264_170, q264_173, q264_174, q264_176, q264_177, mg_ahead, ma_ahead, mb_ahead, mn_ahead, mg_sum, ma_sum, mb_sum, mn_sum, mg_against, ma_against, mb_against, mn_against, mg_sumBy, ma_sumBy, mb_sumBy, mn_sumBy, wx_some, wx_ref, af_G b5 h7 hk, af_S b3 h7 hk, af_S b4 h7 hk, af_S b5 h7 hk, af_S b6 h7 hk]
        have := EL_up (l := ((L k).1, (L k).2.1, lv_s (L k), nI c, 0, 20, (L k).2.2.2.2.2.2.1, 0)) (mE' := (mE2.1, mE2.2.1, (mE2.2.2.1).set k ((uL L k (lv_sums (L k)) k).2.2.2.2.1), (mE2.2.2.2.1).set k (nI c), (mE2.2.2.2.2.1).set k 0, (mE2.2.2.2.2.2.1).set k 20, mE2.2.2.2.2.2.2.1, mE2.2.2.2.2.2.2.2.1, mE2.2.2.2.2.2.2.2.2.1, mE2.2.2.2.2.2.2.2.2.2)) hE2 hk (Or.inr ⟨rfl, by rw [uL_eq]; rfl⟩) (Or.inr ⟨rfl, by rw [uL_eq]; rfl⟩) (Or.inl (by rw [uL_eq]; rfl)) (Or.inl rfl) (Or.inl rfl) (Or.inl rfl) (Or.inr ⟨rfl, by rw [uL_eq]; rfl⟩) (Or.inr ⟨rfl, by rw [uL_eq]; rfl⟩) rfl
        rw [uL_uL] at this
        exact hgo k _ _ _ _ hk this (hv2.trans hvo) hr
      rcases c4 with c4 | c4
      · subst c4
        simp only [q264_123, q264_125, q264_127, q264_130, q264_132, q264_134, q264_137, q264_138, q264_139, mc_o]
        rw [if_pos (by decide)]
        exact fin
      · subst c4
        simp only [q264_123, q264_125, q264_127, q264_130, q264_132, q264_134, q264_137, q264_138, q264_139, mc_o]
        rw [if_neg (by decide), if_neg (by decide)]
        exact fin
    rw [if_neg c4] at he
    simp only [q264_123, q264_125, q264_127, q264_130, q264_132, q264_134]
    rw [if_neg (show ¬ nI c = 24 from ne 24 (by omega) (fun z => c4 (Or.inl z))), if_pos (show ¬ nI c = 25 from ne 25 (by omega) (fun z => c4 (Or.inr z)))]
    by_cases c5 : c = 26 ∨ c = 27
    · rw [if_pos c5] at he
      cases he
      have fin : wm (mp_P fx) (d + 1) 267 [.ref 149, .int (nI k)] (pm_h z X Y (pm_l mV mT mQ mO (mE1) mB mS mR mW)) (fun r h' => ww (mp_P fx) (d + 2) 264 199 [some (.ref 149), some (.int (nI 0)), some (.int (nI k)), some (.int (nI (f + j))), some (.int (nI c)), l5] (r.toList ++ []) h' Q) := by
        apply tm_tests hE hk
        intro mE2 hE2 hv2
        obtain ⟨b1, b2, b3, b4, b5, b6, b7, b8, b9⟩ := id hE2
        simp only [sl_n, q264_199, q264_200, q264_203, q264_204, q264_206, q264_207, mg_keptBy, ma_keptBy, mb_keptBy, mn_keptBy, wx_some, wx_ref, af_S b2 h7 hk]
        have := EL_up (l := (lv_t (L k), nI c, (L k).2.2.1, 0, 0, 20, (L k).2.2.2.2.2.2.1, 0)) (mE' := (mE2.1, (mE2.2.1).set k (nI c), mE2.2.2.1, mE2.2.2.2.1, mE2.2.2.2.2.1, mE2.2.2.2.2.2.1, mE2.2.2.2.2.2.2.1, mE2.2.2.2.2.2.2.2.1, mE2.2.2.2.2.2.2.2.2.1, mE2.2.2.2.2.2.2.2.2.2)) hE2 hk (Or.inr ⟨rfl, by rw [uL_eq]; rfl⟩) (Or.inl rfl) (Or.inr ⟨rfl, by rw [uL_eq]; rfl⟩) (Or.inr ⟨rfl, by rw [uL_eq]; rfl⟩) (Or.inr ⟨rfl, by rw [uL_eq]; rfl⟩) (Or.inr ⟨rfl, by rw [uL_eq]; rfl⟩) (Or.inr ⟨rfl, by rw [uL_eq]; rfl⟩) (Or.inr ⟨rfl, by rw [uL_eq]; rfl⟩) rfl
        rw [uL_uL] at this
        exact hgo k _ _ _ _ hk this (hv2.trans hvo) hr
      rcases c5 with c5 | c5
      · subst c5
        simp only [q264_180, q264_182, q264_184, q264_187, q264_189, q264_191, q264_194, q264_195, q264_196, mc_o]
        rw [if_pos (by decide)]
        exact fin
      · subst c5
        simp only [q264_180, q264_182, q264_184, q264_187, q264_189, q264_191, q264_194, q264_195, q264_196, mc_o]
        rw [if_neg (by decide), if_neg (by decide)]
        exact fin
    rw [if_neg c5] at he
    simp only [q264_180, q264_182, q264_184, q264_187, q264_189, q264_191]
    rw [if_neg (show ¬ nI c = 26 from ne 26 (by omega) (fun z => c5 (Or.inl z))), if_pos (show ¬ nI c = 27 from ne 27 (by omega) (fun z => c5 (Or.inr z)))]
    by_cases c6 : c = 29
    · rw [if_pos c6] at he
      simp only [] at he
      split at he
      · rename_i hk0
        cases he
        subst c6
        simp only [q264_210, q264_212, q264_214, q264_217, q264_219, q264_221, q264_222, q264_225, q264_227, q264_229, q264_232, q264_233, q264_236, q264_238, q264_239, q264_242, q264_243i, q264_245, q264_247, q264_249, q264_252, q264_253, q264_254, mc_o, isl_i, isl_r, isl_n]
        rw [if_pos (by decide), if_pos (by decide), if_neg (by decide)]
        apply tm_tests hE hk
        intro mE2 hE2 hv2
        have b1 := hE2.1
        simp only [sl_n, q264_257, q264_258, q264_261, q264_262, q264_263i, q264_265i, mc_o, mg_kept, ma_kept, mb_kept, mn_kept, wx_some, wx_ref, isl_i, isl_r, isl_n, af_G b1 h7 hk, uL_eq]
        obtain ⟨k', rfl⟩ : ∃ k', k = k' + 1 := ⟨k - 1, by omega⟩
        rw [i_m1, nI_pred]
        exact hput k' _ mE2 _ (by omega) hE2 (hv2.trans hvo) hr
      · cases he
    rw [if_neg c6] at he
    by_cases c7 : 100 ≤ c
    · rw [if_pos c7] at he
      cases he
      simp only [q264_210, q264_212, q264_214, q264_217, q264_219, q264_221, q264_222, q264_225, q264_227, q264_229, q264_232, q264_233, q264_236, q264_238, q264_239, q264_242, q264_243i, q264_245, q264_247, q264_249, isl_i, isl_r, isl_n]
      rw [show (100 : Int32) = nI 100 from rfl, if_neg (by rw [nI_ltI (by omega) (by omega)]; omega), if_pos (show ¬ nI c = 29 from ne 29 (by omega) c6), nI_sub c7]
      exact hput k _ mE1 L hk hE hvo hr
    · rw [if_neg c7] at he
      by_cases c8 : 1 ≤ c ∧ c ≤ 4
      · rw [if_pos c8] at he
        cases he
        have hvc := hv c c8.1 c8.2
        simp only [q264_210, q264_212, q264_214, q264_217, q264_219, q264_221, q264_222, q264_225, q264_227, q264_229, q264_232, q264_233, q264_236, q264_238, q264_239, q264_242, q264_243i, q264_245, q264_247, q264_249, mg_valueOf, ma_valueOf, mb_valueOf, mn_valueOf, wx_some, wx_ref, isl_i, isl_r, isl_n, hvo, aG_n hvc (show (mE.2.2.2.2.2.2.2.2.2).length < 2 ^ 31 by omega)]
        rw [show (100 : Int32) = nI 100 from rfl, if_pos (by rw [nI_ltI (by omega) (by omega)]; omega), show (20 : Int32) = nI 20 from rfl, if_neg (by rw [nI_leI (by omega) (by omega)]; omega), if_pos (show ¬ nI c = 29 from ne 29 (by omega) c6)]
        exact hput k _ mE1 L hk hE hvo hr
      · rw [if_neg c8] at he; cases he
end MK
