/-! the model reads a square -/
theorem l_sort_ge {tp : List Nat} {i : Nat} {o : PS} : i ≤ (l_sort tp i o).2.1 := by
  unfold l_sort; repeat' split
  all_goals first | exact Nat.le_refl _ | exact Nat.le_add_right _ _
theorem l_col_ge {tp : List Nat} {i : Nat} {o : PS} : i ≤ (l_col tp i o).2.1 := by
  unfold l_col; repeat' split
  all_goals first | exact Nat.le_refl _ | exact Nat.le_add_right _ _
theorem l_says_ge {tp : List Nat} {i : Nat} {o : PS} : i ≤ (l_says tp i o).2.1 := by
  unfold l_says; repeat' split
  all_goals first | exact Nat.le_refl _ | exact Nat.le_add_right _ _
theorem l_rule_ge {tp : List Nat} {i : Nat} {o : PS} : i ≤ (l_rule tp i o).2.1 := by
  unfold l_rule; repeat' split
  all_goals first | exact Nat.le_refl _ | exact Nat.le_add_right _ _
theorem l_walk_ge {tp : List Nat} {i : Nat} {o : PS} : i ≤ (l_walk tp i o).2.1 := by
  unfold l_walk; repeat' split
  all_goals first | exact Nat.le_refl _ | exact Nat.le_trans (Nat.le_add_right i 7) (Nat.le_add_right _ _)
theorem l_gust_ge {tp : List Nat} {i : Nat} {o : PS} : i ≤ (l_gust tp i o).2.1 := by
  unfold l_gust; repeat' split
  all_goals first | exact Nat.le_refl _ | exact Nat.le_trans (Nat.le_add_right i 1) (Nat.le_add_right _ _)
theorem l_reads_ge {tp : List Nat} {i : Nat} {o : PS} : i ≤ (l_reads tp i o).2.1 := by
  unfold l_reads
  split
  · exact Nat.le_refl _
  · split
    · rename_i h
      have := (GLn_E (tp := tp) (GLn_part 5) (i + 1) h).1
      show i ≤ (g_E tp (g_part tp 5) (i + 1)).2.1
      omega
    · exact Nat.le_refl _
theorem sp_line_ge {tp : List Nat} {i : Nat} {o : PS} : i ≤ (sp_line tp i o).2.1 := by
  unfold sp_line
  split
  · exact l_sort_ge
  split
  · exact l_col_ge
  split
  · exact l_rule_ge
  split
  · exact l_says_ge
  split
  · exact l_walk_ge
  split
  · exact l_gust_ge
  split
  · exact l_reads_ge
  exact Nat.le_refl _
theorem sp_cl_gt {tp : List Nat} {i j : Nat} {o o' : PS} (h : sp_cl tp (sp_line tp i o) = (0, j, o')) : i < j := by
  have hg := sp_line_ge (tp := tp) (i := i) (o := o)
  unfold sp_cl at h
  by_cases e : (sp_line tp i o).1 = 0
  · rw [if_pos e] at h
    by_cases e2 : snB tp (sp_line tp i o).2.1 59 = true
    · rw [if_pos e2] at h
      have h1 : (sp_line tp i o).2.1 + 1 = j := congrArg (fun r : PR => r.2.1) h
      omega
    · rw [if_neg e2] at h
      have h1 : flt tp 1 (sp_line tp i o).2.1 = 0 := congrArg (fun r : PR => r.1) h
      exact absurd h1 (flt_ne (by omega))
  · rw [if_neg e] at h
    have h1 : (sp_line tp i o).1 = 0 := congrArg (fun r : PR => r.1) h
    exact absurd h1 e
section GZB
variable {fx : List Value → mm_H → Option (List Value × mm_H)} {z : Nat} {X Y : Nat → mm_C} {mV : pm_V} {mT : pm_T} {mQ : pm_Q} {mO : pm_O} {mE : pm_E} {mB : pm_B} {mS : pm_S} {mR : pm_R} {mW : pm_W} {m_thrown : Int32} {m_given : Int32} {m_fresh : Int64} {m_code : Int32} {m_taped : Int32} {m_tape : List Int32} {m_size : Int32} {m_place : Int32} {m_begin : Int32} {m_token : Int32} {m_word : Int64} {m_told : Int32} {m_wrong : Int32} {m_square : List Int32} {m_sortName : List Int64} {m_colourName : List Int64} {m_walkerName : List Int64} {m_sortOf : List Int32} {m_rules : List Int32} {m_kind : List Int32} {m_colour : List Int32} {m_atTold : List Int32} {m_goesMany : List Int32} {m_goes : List Int32} {m_gusts : List Int32} {m_lineFrom : List Int32} {m_lineTo : List Int32} {m_codes : List Int32} {m_opened : List Int32} {m_compared : List Int32} {m_kept : List Int32} {m_keptBy : List Int32} {m_ahead : List Int32} {m_against : List Int32} {m_sum : List Int32} {m_sumBy : List Int32} {m_term : List Int32} {m_termBy : List Int32} {m_byNot : List Int32} {m_valueOf : List Int32} {m_lines : List Int32} {m_lineWhat : List Int32} {m_lineA : List Int32} {m_lineB : List Int32} {m_wishes : List Int32} {m_wishOf : List Int32} {m_seens : List Int32} {m_seenAt : List Int32} {m_seenIn : List Int32} {m_seenThere : List Int32} {m_s : List Int32} {m_aside : List Int32} {m_before : List Int32} {m_marked : List Int32} {m_undone : List Int32} {m_isLaid : List Int32} {m_done : Int32} {m_gustNow : Int32} {m_shown : List Int32} {m_shownMany : Int32} {m_from7 : List Int32} {m_long7 : List Int32} {m_sentences : Int32} {m_text7 : List Int32} {m_textMany : Int32} {m_waysOf : List Int32} {m_rowOf : List Int32} {m_row : List Int32} {m_bestRow : List Int32} {m_leastSteps : Int32} {m_steps10 : List Int32} {m_placeIn : List Int32} {m_g : Int64}
variable {d : Nat} {Q : Option Value → mm_H → Prop} {tp : List Nat} {i k dep : Nat} {op cm : Nat → Int32} {o : PS} {a : pm_Q}
theorem tm_usual1 (h12 : (mQ.1).length = 12) (hq : ∀ xs : List Int32, xs.length = 12 → (∀ i : Nat, i < 6 → xs[i]? = (mQ.1)[i]?) → (∀ i : Nat, i < 6 → ¬ i = 4 → xs[6 + i]? = some (0 : Int32)) → xs[10]? = some (-1 : Int32) → Q none (pm_h z X Y (pm_l mV mT ((xs, mQ.2.1, mQ.2.2.1, mQ.2.2.2.1, mQ.2.2.2.2.1, mQ.2.2.2.2.2.1, mQ.2.2.2.2.2.2.1, mQ.2.2.2.2.2.2.2.1, mQ.2.2.2.2.2.2.2.2.1, mQ.2.2.2.2.2.2.2.2.2.1, mQ.2.2.2.2.2.2.2.2.2.2.1, mQ.2.2.2.2.2.2.2.2.2.2.2.1, mQ.2.2.2.2.2.2.2.2.2.2.2.2.1, mQ.2.2.2.2.2.2.2.2.2.2.2.2.2.1, mQ.2.2.2.2.2.2.2.2.2.2.2.2.2.2)) mO mE mB mS mR mW))) : wm (mp_P fx) d 215 [.ref 149, .int 1] (pm_h z X Y (pm_l mV mT mQ mO mE mB mS mR mW)) Q := by
  have key : ∀ (r j : Nat) (xs : List Int32), j + r = 6 → xs.length = 12 → (∀ i : Nat, i < 6 → xs[i]? = (mQ.1)[i]?) → (∀ i : Nat, i < j → xs[6 + i]? = some (0 : Int32)) → ww (mp_P fx) d 215 2 [some (.ref 149), some (.int 1), some (.int (nI j))] [] (pm_h z X Y (pm_l mV mT ((xs, mQ.2.1, mQ.2.2.1, mQ.2.2.2.1, mQ.2.2.2.2.1, mQ.2.2.2.2.2.1, mQ.2.2.2.2.2.2.1, mQ.2.2.2.2.2.2.2.1, mQ.2.2.2.2.2.2.2.2.1, mQ.2.2.2.2.2.2.2.2.2.1, mQ.2.2.2.2.2.2.2.2.2.2.1, mQ.2.2.2.2.2.2.2.2.2.2.2.1, mQ.2.2.2.2.2.2.2.2.2.2.2.2.1, mQ.2.2.2.2.2.2.2.2.2.2.2.2.2.1, mQ.2.2.2.2.2.2.2.2.2.2.2.2.2.2)) mO mE mB mS mR mW)) Q := by
    intro r
    induction r with
    | zero =>
      intro j xs hj hl h1 h2
      rw [q215_2]
      simp only [q215_3, q215_5]
      rw [if_pos (by rw [show (6 : Int32) = nI 6 from rfl, nI_leI (by omega) (by omega)]; omega)]
      simp only [q215_26, q215_27, q215_30, q215_32, q215_33, q215_34, q215_35, q215_36, q215_37, q215_38, mc_o, mg_square, ma_square, mb_square, mn_square, wx_some, wx_ref, show (6 : Int32) * 1 + 4 = 10 from rfl, show ∀ (x : Int32) (f : List Int32 → mm_H), aS xs 10 x f = some (f (xs.set 10 x)) from fun x f => aS_n (j := 10) (by omega) (by omega)]
      refine hq (xs.set 10 (-1)) (by rw [List.length_set]; exact hl) (fun i hi => (List.getElem?_set_ne (by omega)).trans (h1 i hi)) (fun i hi hn => (List.getElem?_set_ne (by omega)).trans (h2 i (by omega))) (List.getElem?_set_self (by omega))
    | succ r ih =>
      intro j xs hj hl h1 h2
      rw [q215_2]
      simp only [q215_3, q215_5]
      rw [if_neg (by rw [show (6 : Int32) = nI 6 from rfl, nI_leI (by omega) (by omega)]; omega)]
      simp only [q215_8, q215_9, q215_12, q215_14, q215_15, q215_16, q215_17, q215_18, q215_19, q215_20i, q215_23, mc_o, mg_square, ma_square, mb_square, mn_square, wx_some, wx_ref, isl_i, isl_r, isl_n, nI_1, show (6 : Int32) * 1 = 6 from rfl, show (6 : Int32) + nI j = nI (6 + j) from nI_add 6 _, show ∀ (x : Int32) (f : List Int32 → mm_H), aS xs (nI (6 + j)) x f = some (f (xs.set (6 + j) x)) from fun x f => aS_n (by omega) (by omega)]
      refine ih (j + 1) (xs.set (6 + j) 0) (by omega) (by rw [List.length_set]; exact hl) (fun i hi => (List.getElem?_set_ne (by omega)).trans (h1 i hi)) (fun i hi => ?_)
      by_cases e : i = j
      · rw [e]; exact List.getElem?_set_self (by omega)
      · exact (List.getElem?_set_ne (by omega)).trans (h2 i (by omega))
  simp only [e215, q215_0, q215_1i, isl_i, isl_r, isl_n]
  exact key 6 0 (mQ.1) rfl h12 (fun _ _ => rfl) (fun i hi => absurd hi (Nat.not_lt_zero _))
theorem tm_readsAll (ht : tp_ok tp) (hT0 : TPm tp mT) (hl : QLm mQ) (hO0 : OPm op cm mO) (hq1 : ∀ o' mV' mT' mQ' mO' op' cm', sp_sq tp 1000 0 ps0 = (0, o') → (∃ j, TKm tp j mT') → DRm o' mQ' → PSok o' → R0m mQ mQ' → OPm op' cm' mO' → Q (some (.int 1)) (pm_h z X Y (pm_l (mV') (mT') (mQ') (mO') mE mB mS mR mW))) (hq0 : ∀ f mV' mT' mQ' mO' op' cm', (sp_sq tp 1000 0 ps0).1 = f → BDm tp f mQ mT' mQ' → OPm op' cm' mO' → Q (some (.int 0)) (pm_h z X Y (pm_l (mV') (mT') (mQ') (mO') mE mB mS mR mW))) : wm (mp_P fx) (dep + 5) 220 [.ref 149] (pm_h z X Y (pm_l mV mT mQ mO mE mB mS mR mW)) Q := by
  have key : ∀ (m t k : Nat) (o : PS) (mV : pm_V) (mT : pm_T) (mQ2 : pm_Q) (mO : pm_O) (op cm : Nat → Int32) (l1 : Option Value), t + m = 1000 → t ≤ k → OKm tp k o mQ mV mT mQ2 → OPm op cm mO → mm_isL l1 = false → sp_sq tp 1000 0 ps0 = sp_sq tp m k o → ww (mp_P fx) (dep + 5) 220 34 [some (.ref 149), l1] [] (pm_h z X Y (pm_l (mV) (mT) (mQ2) (mO) mE mB mS mR mW)) Q := by
    intro m
    induction m with
    | zero =>
      intro t k o mV mT mQ2 mO op cm l1 hm hk h hO i1 hsp
      have y : TY tp k = 0 := by
        by_cases e : TY tp k = 0
        · exact e
        · have := TY_1000 ht e; omega
      have hty := TKm_ty h.1
      rw [y] at hty
      rw [sp_sq] at hsp
      rw [q220_34]
      simp only [b220_0, b220_1, bn_0 b220_0, bn_1 b220_1, q220_35, q220_38, mc_o, mg_token, mf_token, wx_some, wx_ref, hty]
      rw [if_pos (show nI 0 = 0 from rfl)]
      simp only [b220_0, b220_1, bn_0 b220_0, bn_1 b220_1, q220_175, q220_176]
      exact hq1 o mV mT mQ2 mO op cm hsp ⟨k, h.1⟩ h.2.1 h.2.2.1 h.2.2.2.1 hO
    | succ m ih =>
      intro t k o mV mT mQ2 mO op cm l1 hm hk h hO i1 hsp
      have hT := h.1
      have hty := TKm_ty hT
      have htl := TY_le (tp := tp) (i := k)
      rw [sp_sq_s (m := m)] at hsp
      rw [q220_34]
      simp only [b220_0, b220_1, bn_0 b220_0, bn_1 b220_1, q220_35, q220_38, mc_o, mg_token, mf_token, wx_some, wx_ref, hty]
      by_cases y : TY tp k = 0
      · rw [if_pos y] at hsp
        rw [if_pos (by rw [y]; rfl)]
        simp only [b220_0, b220_1, bn_0 b220_0, bn_1 b220_1, q220_175, q220_176]
        exact hq1 o mV mT mQ2 mO op cm hsp ⟨k, h.1⟩ h.2.1 h.2.2.1 h.2.2.2.1 hO
      rw [if_neg y] at hsp
      rw [if_neg (by rw [nl_0, nI_eq (by omega) (by omega)]; exact y)]
      have good : ∀ j o' mV' mT' mQ' mO' op' cm', sp_cl tp (sp_line tp k o) = (0, j, o') → OKm tp j o' mQ mV' mT' mQ' → OPm op' cm' mO' → ww (mp_P fx) (dep + 5) 220 165 [some (.ref 149), l1] [.int 1] (pm_h z X Y (pm_l (mV') (mT') (mQ') (mO') mE mB mS mR mW)) Q := by
        intro j o' mV' mT' mQ' mO' op' cm' b1 b2 b3
        have hgt := sp_cl_gt b1
        rw [b1, if_pos rfl] at hsp
        simp only [b220_0, b220_1, bn_0 b220_0, bn_1 b220_1, q220_165r, q220_166, q220_167, i1, isl_i, isl_r, isl_n]
        rw [if_pos (by decide)]
        simp only [b220_0, b220_1, bn_0 b220_0, bn_1 b220_1, q220_172]
        exact ih (t + 1) j o' mV' mT' mQ' mO' op' cm' _ (by omega) (by omega) b2 b3 rfl hsp
      have bad : ∀ f mV' mT' mQ' mO' op' cm', (sp_cl tp (sp_line tp k o)).1 = f → BDm tp f mQ mT' mQ' → OPm op' cm' mO' → ww (mp_P fx) (dep + 5) 220 165 [some (.ref 149), l1] [.int 0] (pm_h z X Y (pm_l (mV') (mT') (mQ') (mO') mE mB mS mR mW)) Q := by
        intro f mV' mT' mQ' mO' op' cm' b1 b2 b3
        rw [if_neg (by rw [b1]; exact b2.1)] at hsp
        simp only [b220_0, b220_1, bn_0 b220_0, bn_1 b220_1, q220_165r, q220_166, q220_167, q220_170, q220_171, i1, isl_i, isl_r, isl_n]
        rw [if_neg (by decide)]
        exact hq0 f mV' mT' mQ' mO' op' cm' (by rw [hsp]; exact b1) b2 b3
      unfold sp_line at good bad
      simp only [b220_0, b220_1, bn_0 b220_0, bn_1 b220_1, q220_41, q220_42, q220_45, mc_o]
      apply tm_isWord (w := 0) (by omega) (by decide) hT
      · intro yw
        rw [if_pos (wdB_t.mpr yw)] at good bad
        simp only [sl_i, b220_0, b220_1, bn_0 b220_0, bn_1 b220_1, q220_48]
        rw [if_neg (by decide)]
        simp only [b220_0, b220_1, bn_0 b220_0, bn_1 b220_1, q220_51, q220_52, mc_o]
        apply tm_readsSort h
        · intro j o' mV' mT' mQ' b1 b2
          simp only [sl_i, b220_0, b220_1, bn_0 b220_0, bn_1 b220_1, q220_55]
          exact good j o' mV' mT' mQ' mO op cm b1 b2 hO
        · intro f mV' mT' mQ' b1 b2
          simp only [sl_i, b220_0, b220_1, bn_0 b220_0, bn_1 b220_1, q220_55]
          exact bad f mV' mT' mQ' mO op cm b1 b2 hO
      intro yw
      rw [if_neg (fun e => yw (wdB_t.mp e))] at good bad
      simp only [sl_i, b220_0, b220_1, bn_0 b220_0, bn_1 b220_1, q220_48]
      rw [if_pos (by decide)]
      simp only [b220_0, b220_1, bn_0 b220_0, bn_1 b220_1, q220_58, q220_59, q220_62, mc_o]
      apply tm_isWord (w := 1) (by omega) (by decide) hT
      · intro yw
        rw [if_pos (wdB_t.mpr yw)] at good bad
        simp only [sl_i, b220_0, b220_1, bn_0 b220_0, bn_1 b220_1, q220_65]
        rw [if_neg (by decide)]
        simp only [b220_0, b220_1, bn_0 b220_0, bn_1 b220_1, q220_68, q220_69, mc_o]
        apply tm_readsColour h
        · intro j o' mV' mT' mQ' b1 b2
          simp only [sl_i, b220_0, b220_1, bn_0 b220_0, bn_1 b220_1, q220_72]
          exact good j o' mV' mT' mQ' mO op cm b1 b2 hO
        · intro f mV' mT' mQ' b1 b2
          simp only [sl_i, b220_0, b220_1, bn_0 b220_0, bn_1 b220_1, q220_72]
          exact bad f mV' mT' mQ' mO op cm b1 b2 hO
      intro yw
      rw [if_neg (fun e => yw (wdB_t.mp e))] at good bad
      simp only [sl_i, b220_0, b220_1, bn_0 b220_0, bn_1 b220_1, q220_65]
      rw [if_pos (by decide)]
      simp only [b220_0, b220_1, bn_0 b220_0, bn_1 b220_1, q220_75, q220_76, q220_79, mc_o]
      apply tm_isWord (w := 3) (by omega) (by decide) hT
      · intro yw
        rw [if_pos (wdB_t.mpr yw)] at good bad
        simp only [sl_i, b220_0, b220_1, bn_0 b220_0, bn_1 b220_1, q220_82]
        rw [if_neg (by decide)]
        simp only [b220_0, b220_1, bn_0 b220_0, bn_1 b220_1, q220_85, q220_86, mc_o]
        apply tm_readsRule h
        · intro j o' mV' mT' mQ' b1 b2
          simp only [sl_i, b220_0, b220_1, bn_0 b220_0, bn_1 b220_1, q220_89]
          exact good j o' mV' mT' mQ' mO op cm b1 b2 hO
        · intro f mV' mT' mQ' b1 b2
          simp only [sl_i, b220_0, b220_1, bn_0 b220_0, bn_1 b220_1, q220_89]
          exact bad f mV' mT' mQ' mO op cm b1 b2 hO
      intro yw
      rw [if_neg (fun e => yw (wdB_t.mp e))] at good bad
      simp only [sl_i, b220_0, b220_1, bn_0 b220_0, bn_1 b220_1, q220_82]
      rw [if_pos (by decide)]
      simp only [b220_0, b220_1, bn_0 b220_0, bn_1 b220_1, q220_92, q220_93, q220_96, mc_o]
      apply tm_isWord (w := 5) (by omega) (by decide) hT
      · intro yw
        rw [if_pos (wdB_t.mpr yw)] at good bad
        simp only [sl_i, b220_0, b220_1, bn_0 b220_0, bn_1 b220_1, q220_99]
        rw [if_neg (by decide)]
        simp only [b220_0, b220_1, bn_0 b220_0, bn_1 b220_1, q220_102, q220_103, mc_o]
        apply tm_readsSays h
        · intro j o' mV' mT' mQ' b1 b2
          simp only [sl_i, b220_0, b220_1, bn_0 b220_0, bn_1 b220_1, q220_106]
          exact good j o' mV' mT' mQ' mO op cm b1 b2 hO
        · intro f mV' mT' mQ' b1 b2
          simp only [sl_i, b220_0, b220_1, bn_0 b220_0, bn_1 b220_1, q220_106]
          exact bad f mV' mT' mQ' mO op cm b1 b2 hO
      intro yw
      rw [if_neg (fun e => yw (wdB_t.mp e))] at good bad
      simp only [sl_i, b220_0, b220_1, bn_0 b220_0, bn_1 b220_1, q220_99]
      rw [if_pos (by decide)]
      simp only [b220_0, b220_1, bn_0 b220_0, bn_1 b220_1, q220_109, q220_110, q220_113, mc_o]
      apply tm_isWord (w := 6) (by omega) (by decide) hT
      · intro yw
        rw [if_pos (wdB_t.mpr yw)] at good bad
        simp only [sl_i, b220_0, b220_1, bn_0 b220_0, bn_1 b220_1, q220_116]
        rw [if_neg (by decide)]
        simp only [b220_0, b220_1, bn_0 b220_0, bn_1 b220_1, q220_119, q220_120, mc_o]
        apply tm_readsWalker h
        · intro j o' mV' mT' mQ' b1 b2
          simp only [sl_i, b220_0, b220_1, bn_0 b220_0, bn_1 b220_1, q220_123]
          exact good j o' mV' mT' mQ' mO op cm b1 b2 hO
        · intro f mV' mT' mQ' b1 b2
          simp only [sl_i, b220_0, b220_1, bn_0 b220_0, bn_1 b220_1, q220_123]
          exact bad f mV' mT' mQ' mO op cm b1 b2 hO
      intro yw
      rw [if_neg (fun e => yw (wdB_t.mp e))] at good bad
      simp only [sl_i, b220_0, b220_1, bn_0 b220_0, bn_1 b220_1, q220_116]
      rw [if_pos (by decide)]
      simp only [b220_0, b220_1, bn_0 b220_0, bn_1 b220_1, q220_126, q220_127, q220_130, mc_o]
      apply tm_isWord (w := 9) (by omega) (by decide) hT
      · intro yw
        rw [if_pos (wdB_t.mpr yw)] at good bad
        simp only [sl_i, b220_0, b220_1, bn_0 b220_0, bn_1 b220_1, q220_133]
        rw [if_neg (by decide)]
        simp only [b220_0, b220_1, bn_0 b220_0, bn_1 b220_1, q220_136, q220_137, mc_o]
        apply tm_readsGusts h
        · intro j o' mV' mT' mQ' b1 b2
          simp only [sl_i, b220_0, b220_1, bn_0 b220_0, bn_1 b220_1, q220_140]
          exact good j o' mV' mT' mQ' mO op cm b1 b2 hO
        · intro f mV' mT' mQ' b1 b2
          simp only [sl_i, b220_0, b220_1, bn_0 b220_0, bn_1 b220_1, q220_140]
          exact bad f mV' mT' mQ' mO op cm b1 b2 hO
      intro yw
      rw [if_neg (fun e => yw (wdB_t.mp e))] at good bad
      simp only [sl_i, b220_0, b220_1, bn_0 b220_0, bn_1 b220_1, q220_133]
      rw [if_pos (by decide)]
      simp only [b220_0, b220_1, bn_0 b220_0, bn_1 b220_1, q220_143, q220_144, q220_147, mc_o]
      apply tm_isWord (w := 10) (by omega) (by decide) hT
      · intro yw
        rw [if_pos (wdB_t.mpr yw)] at good bad
        simp only [sl_i, b220_0, b220_1, bn_0 b220_0, bn_1 b220_1, q220_150]
        rw [if_neg (by decide)]
        simp only [b220_0, b220_1, bn_0 b220_0, bn_1 b220_1, q220_153, q220_154, mc_o]
        apply tm_readsReads h hO
        · intro j o' mV' mT' mQ' mO' op' cm' b1 b2 b3
          simp only [sl_i, b220_0, b220_1, bn_0 b220_0, bn_1 b220_1, q220_157]
          exact good j o' mV' mT' mQ' mO' op' cm' b1 b2 b3
        · intro f mV' mT' mQ' mO' op' cm' b1 b2 b3
          simp only [sl_i, b220_0, b220_1, bn_0 b220_0, bn_1 b220_1, q220_157]
          exact bad f mV' mT' mQ' mO' op' cm' b1 b2 b3
      intro yw
      rw [if_neg (fun e => yw (wdB_t.mp e))] at good bad
      simp only [sl_i, b220_0, b220_1, bn_0 b220_0, bn_1 b220_1, q220_150]
      rw [if_pos (by decide)]
      simp only [b220_0, b220_1, bn_0 b220_0, bn_1 b220_1, q220_160, q220_161, q220_162, mc_o]
      apply tm_fails (kd := 1) hT
      intro mT' h1 h2
      simp only [sl_i]
      exact bad _ mV mT' mQ2 mO op cm (sp_cl_bad rfl (flt_ne (by omega))) ⟨flt_ne (by omega), h2, h.2.1.1, h.2.2.2.1, k, h1⟩ hO
  obtain ⟨q1, q2, q3, q4, q5, q6, q7, q8, q9, q10, q11, q12, q13, q14, q15⟩ := id hl
  simp only [e220, b220_0, b220_1, bn_0 b220_0, bn_1 b220_1, q220_0, q220_1, q220_2, mc_o]
  apply tm_usual1 q1
  intro xs x1 x2 x3 x4
  simp only [sl_n, b220_0, b220_1, bn_0 b220_0, bn_1 b220_1, q220_5, q220_6, q220_9, q220_10, q220_13, q220_14, q220_15, q220_18, q220_19, q220_22, q220_23, q220_24, q220_27, q220_30, q220_31, mc_o, mg_lineFrom, ma_lineFrom, mb_lineFrom, mn_lineFrom, mg_lineTo, ma_lineTo, mb_lineTo, mn_lineTo, mg_code, mf_code, wx_some, wx_ref, isl_i, isl_r, isl_n, show ∀ (x : Int32) (f : List Int32 → mm_H), aS (mQ.2.2.2.2.2.2.2.2.2.2.2.2.1) 1 x f = some (f ((mQ.2.2.2.2.2.2.2.2.2.2.2.2.1).set 1 x)) from fun x f => aS_n (j := 1) (by omega) (by omega), show ∀ (x : Int32) (f : List Int32 → mm_H), aS (mQ.2.2.2.2.2.2.2.2.2.2.2.2.2.1) 1 x f = some (f ((mQ.2.2.2.2.2.2.2.2.2.2.2.2.2.1).set 1 x)) from fun x f => aS_n (j := 1) (by omega) (by omega)]
  apply tm_begins ht hT0
  intro mT1 hT1
  simp only [sl_n]
  refine key 1000 0 0 ps0 _ mT1 _ mO op cm none rfl (Nat.le_refl _) ⟨hT1, ⟨⟨x1, q2, q3, q4, q5, q6, q7, q8, q9, q10, q11, q12, ?_, ?_, q15⟩, ⟨⟨x3 0 (by omega) (by omega), x3 1 (by omega) (by omega), x3 2 (by omega) (by omega), x3 3 (by omega) (by omega), x3 5 (by omega) (by omega)⟩, fun i hi => absurd hi (Nat.not_lt_zero _), fun i hi => absurd hi (Nat.not_lt_zero _), fun i hi => absurd hi (Nat.not_lt_zero _), fun i hi => absurd hi (Nat.not_lt_zero _)⟩, ⟨fun i hi => absurd hi (Nat.not_lt_zero _), fun i hi => absurd hi (Nat.not_lt_zero _), fun i hi => absurd hi (Nat.not_lt_zero _)⟩, x4, ⟨0, [], rfl, Nat.zero_le _, ?_, ?_, ⟨fun _ => rfl, fun _ => rfl⟩, fun j hj => absurd hj (Nat.not_lt_zero _), fun _ a b e f => rfl, fun hj => absurd hj (Nat.not_lt_zero _)⟩⟩, ps0_ok, ?_, fun _ => rfl⟩ hO0 rfl rfl
  · show (List.set _ _ _).length = 2; rw [List.length_set]; exact q13
  · show (List.set _ _ _).length = 2; rw [List.length_set]; exact q14
  · exact List.getElem?_set_self (by omega)
  · exact List.getElem?_set_self (by omega)
  · exact ⟨x2, fun _ _ => rfl, fun _ _ => rfl, fun _ _ => rfl, fun _ _ => rfl, fun _ _ => rfl, fun _ _ => rfl, fun _ _ => rfl, fun _ _ => rfl, fun _ _ => rfl, fun _ _ => rfl, fun _ _ => rfl, List.getElem?_set_ne (by omega), List.getElem?_set_ne (by omega), fun _ _ => rfl⟩
end GZB
