/-! the model reads a line of a day: whole -/
section GZJ
variable {fx : List Value → mm_H → Option (List Value × mm_H)} {z : Nat} {X Y : Nat → mm_C} {mV : pm_V} {mT : pm_T} {mQ : pm_Q} {mO : pm_O} {mE : pm_E} {mB : pm_B} {mS : pm_S} {mR : pm_R} {mW : pm_W} {m_thrown : Int32} {m_given : Int32} {m_fresh : Int64} {m_code : Int32} {m_taped : Int32} {m_tape : List Int32} {m_size : Int32} {m_place : Int32} {m_begin : Int32} {m_token : Int32} {m_word : Int64} {m_told : Int32} {m_wrong : Int32} {m_square : List Int32} {m_sortName : List Int64} {m_colourName : List Int64} {m_walkerName : List Int64} {m_sortOf : List Int32} {m_rules : List Int32} {m_kind : List Int32} {m_colour : List Int32} {m_atTold : List Int32} {m_goesMany : List Int32} {m_goes : List Int32} {m_gusts : List Int32} {m_lineFrom : List Int32} {m_lineTo : List Int32} {m_codes : List Int32} {m_opened : List Int32} {m_compared : List Int32} {m_kept : List Int32} {m_keptBy : List Int32} {m_ahead : List Int32} {m_against : List Int32} {m_sum : List Int32} {m_sumBy : List Int32} {m_term : List Int32} {m_termBy : List Int32} {m_byNot : List Int32} {m_valueOf : List Int32} {m_lines : List Int32} {m_lineWhat : List Int32} {m_lineA : List Int32} {m_lineB : List Int32} {m_wishes : List Int32} {m_wishOf : List Int32} {m_seens : List Int32} {m_seenAt : List Int32} {m_seenIn : List Int32} {m_seenThere : List Int32} {m_s : List Int32} {m_aside : List Int32} {m_before : List Int32} {m_marked : List Int32} {m_undone : List Int32} {m_isLaid : List Int32} {m_done : Int32} {m_gustNow : Int32} {m_shown : List Int32} {m_shownMany : Int32} {m_from7 : List Int32} {m_long7 : List Int32} {m_sentences : Int32} {m_text7 : List Int32} {m_textMany : Int32} {m_waysOf : List Int32} {m_rowOf : List Int32} {m_row : List Int32} {m_bestRow : List Int32} {m_leastSteps : Int32} {m_steps10 : List Int32} {m_placeIn : List Int32} {m_g : Int64}
variable {d : Nat} {Q : Option Value → mm_H → Prop} {tp : List Nat} {nm : NMs} {s : SQ} {k c : Nat} {fl : Nat → Nat × Nat × Nat}
theorem dlc_bad {r : Nat × Nat × (Nat × Nat × Nat)} {f : Nat} (h : r.1 = f) (hf : ¬ f = 0) : (dlc tp r).1 = f := by
  unfold dlc; rw [if_neg (by rw [h]; exact hf)]; exact h
theorem tm_readsLine (hT : TKm tp k mT) (hK : KM nm s mQ) (hw : nmok nm s) (hB : BLm mB) (hL : BL1 (c, fl) mB 5) (hc : c ≤ 40) (hq1 : ∀ (j : Nat) (ln : Nat × Nat × Nat) (mV' : pm_V) (mT' : pm_T) (mB' : pm_B), dlc tp (dl tp nm s k c) = (0, j, ln) → c < 40 → TKm tp j mT' → PBm mB mB' → BL1 (c + 1, fun i => if i = c then ln else fl i) mB' 5 → Q (some (.int 1)) (pm_h z X Y (pm_l (mV') (mT') mQ mO mE (mB') mS mR mW))) (hq0 : ∀ (f : Nat) (mV' : pm_V) (mT' : pm_T) (mB' : pm_B), (dlc tp (dl tp nm s k c)).1 = f → ¬ f = 0 → (∃ j, TKm tp j mT') → mT'.2.2.2.2.2.2.2.2 = nI f → PBm mB mB' → Q (some (.int 0)) (pm_h z X Y (pm_l (mV') (mT') mQ mO mE (mB') mS mR mW))) : wm (mp_P fx) (d + 3) 253 [.ref 149] (pm_h z X Y (pm_l mV mT mQ mO mE mB mS mR mW)) Q := by
  obtain ⟨p1, p2, p3, p4, p5, p6, p7, p8, p9, p10⟩ := id hB
  have h7 := hK.2.2.1.1.2.2.2.1
  have g5 : aG (mB.1) 5 = some (nI c) := aG_n hL.1 (by omega)
  have hPr : PBm mB mB := ⟨hB, fun l r _ _ h => h, fun l r h => h, fun l r h => h⟩
  have at57 : ∀ v : Int32, v = io (kdD tp k) → ww (mp_P fx) (d + 3) 253 57 [some (.ref 149), none, none] [.int v] (pm_h z X Y (pm_l mV mT mQ mO mE mB mS mR mW)) Q := by
    intro v hv
    subst hv
    simp only [b253_0, b253_1, bn_0 b253_0, bn_1 b253_1, q253_57r, q253_58, q253_59, isl_i, isl_r, isl_n]
    cases ek : kdD tp k with
    | none =>
      have hb : (dl tp nm s k c).1 = flt tp 1 k := by unfold dl; rw [ek]
      rw [if_neg (by decide)]
      simp only [b253_0, b253_1, bn_0 b253_0, bn_1 b253_1, q253_62, q253_63, q253_64, mc_o]
      apply tm_fails (kd := 1) hT
      intro mT' h1 h2
      simp only [sl_i, b253_0, b253_1, bn_0 b253_0, bn_1 b253_1, q253_67]
      exact hq0 _ mV mT' mB (dlc_bad hb (flt_ne (by omega))) (flt_ne (by omega)) ⟨k, h1⟩ h2 hPr
    | some kd =>
    have hkd : kd < 4 := by
      unfold kdD at ek
      repeat' split at ek
      all_goals first | (cases ek; omega) | cases ek
    rw [if_pos (io_ge (by omega))]
    simp only [b253_0, b253_1, bn_0 b253_0, bn_1 b253_1, q253_68, q253_69, q253_72, q253_73, q253_74, q253_76, mc_o, mg_lines, ma_lines, mb_lines, mn_lines, wx_some, wx_ref, g5]
    by_cases e40 : c = 40
    · have hb : (dl tp nm s k c).1 = flt tp 5 k := by unfold dl; rw [ek]; simp only []; rw [if_pos e40]
      rw [if_neg (by rw [e40]; exact fun w => w rfl)]
      simp only [b253_0, b253_1, bn_0 b253_0, bn_1 b253_1, q253_79, q253_80, q253_81, mc_o]
      apply tm_fails (kd := 5) hT
      intro mT' h1 h2
      simp only [sl_i, b253_0, b253_1, bn_0 b253_0, bn_1 b253_1, q253_84]
      exact hq0 _ mV mT' mB (dlc_bad hb (flt_ne (by omega))) (flt_ne (by omega)) ⟨k, h1⟩ h2 hPr
    have hdl : dl tp nm s k c = dl0 tp nm s k kd := by unfold dl; rw [ek]; simp only []; rw [if_neg e40]
    rw [if_pos (by rw [show (40 : Int32) = nI 40 from rfl]; exact fun w => absurd ((nI_eq (by omega) (by omega)).mp w) e40)]
    simp only [b253_0, b253_1, bn_0 b253_0, bn_1 b253_1, q253_85, q253_86, mc_o]
    apply tm_nx hT
    intro mT1 hT1 _
    simp only [sl_n, b253_0, b253_1, bn_0 b253_0, bn_1 b253_1, q253_89, q253_92, q253_93, q253_96, q253_97, q253_98, q253_99i, q253_100, q253_101, q253_104, q253_105, q253_106, q253_107, q253_108, mc_o, mg_lines, ma_lines, mb_lines, mn_lines, mg_lineWhat, ma_lineWhat, mb_lineWhat, mn_lineWhat, wx_some, wx_ref, isl_i, isl_r, isl_n, g5, show (200 : Int32) + nI c = nI (200 + c) from nI_add 200 _, aS_n (show 200 + c < (mB.2.1).length by omega) (show (mB.2.1).length < 2 ^ 31 by omega)]
    have hP1 : ∀ la : List Int32, la.length = 240 → (∀ i : Nat, i < 200 + c → la[i]? = (mB.2.2.1)[i]?) → PBm mB (mB.1, (mB.2.1).set (200 + c) (io (some kd)), la, mB.2.2.2.1, mB.2.2.2.2.1, mB.2.2.2.2.2.1, mB.2.2.2.2.2.2.1, mB.2.2.2.2.2.2.2.1, mB.2.2.2.2.2.2.2.2.1, mB.2.2.2.2.2.2.2.2.2) := fun la a1 a2 => PBm_of hB p1 (by rw [List.length_set]; exact p2) a1 p4 (fun i hi => rfl) (fun i hi => List.getElem?_set_ne (by omega)) (fun i hi => a2 i (by omega)) (fun i hi => rfl)
    have fin : ∀ (mV' : pm_V) (mT' : pm_T) (la lb : List Int32) (j : Nat) (ln : Nat × Nat × Nat) (l1 l2 : Option Value), dl0 tp nm s k kd = (0, j, ln) → ln.1 = kd → TKm tp j mT' → la.length = 240 → lb.length = 240 → (∀ i : Nat, i < 200 + c → la[i]? = (mB.2.2.1)[i]?) → (∀ i : Nat, i < 200 + c → lb[i]? = (mB.2.2.2.1)[i]?) → (¬ kd = 0 → la[200 + c]? = some (nI ln.2.1)) → (kd = 1 → lb[200 + c]? = some (nI ln.2.2)) → ww (mp_P fx) (d + 3) 253 180 [some (.ref 149), l1, l2] [] (pm_h z X Y (pm_l (mV') (mT') mQ mO mE ((mB.1, (mB.2.1).set (200 + c) (io (some kd)), la, lb, mB.2.2.2.2.1, mB.2.2.2.2.2.1, mB.2.2.2.2.2.2.1, mB.2.2.2.2.2.2.2.1, mB.2.2.2.2.2.2.2.2.1, mB.2.2.2.2.2.2.2.2.2)) mS mR mW)) Q := by
      intro mV' mT' la lb j ln l1 l2 a1 a2 a3 a4 a5 a6 a7 a8 a9
      apply dl_end (nm := nm) (s := s) (k := k) (c := c) (fl := fl) (j := j) (ln := ln) hB hL (hdl.trans a1) (by omega) a3 (by rw [List.length_set]; exact p2) a4 a5 (fun i hi => List.getElem?_set_ne (by omega)) a6 a7 (by rw [a2]; exact List.getElem?_set_self (by omega)) (by rw [a2]; exact a8) (by rw [a2]; exact a9)
      · intro mT2 mB2 b1 b2 b3 b4
        exact hq1 (j + 1) ln mV' mT2 mB2 b1 (by omega) b2 b3 b4
      · intro mT2 mB2 b1 b2 b3 b4
        exact hq0 _ mV' mT2 mB2 b1 (flt_ne (by omega)) ⟨j, b2⟩ b3 b4
    by_cases ek0 : kd = 0
    · subst ek0
      rw [if_pos (show io (some 0) = 0 from rfl)]
      simp only [b253_0, b253_1, bn_0 b253_0, bn_1 b253_1, q253_154, q253_155, q253_156]
      rw [if_pos (by decide)]
      exact fin mV mT1 (mB.2.2.1) (mB.2.2.2.1) (k + 1) (0, 0, 0) _ _ rfl rfl hT1 p3 p4 (fun _ _ => rfl) (fun _ _ => rfl) (fun e => absurd rfl e) (fun e => by cases e)
    rw [if_neg (show ¬ io (some kd) = 0 from (show ¬ nI kd = 0 by rw [nl_0, nI_eq (by omega) (by omega)]; exact ek0))]
    unfold dl0 at hdl fin
    rw [if_neg ek0] at hdl fin
    simp only [b253_0, b253_1, bn_0 b253_0, bn_1 b253_1, q253_111, q253_112, mc_o]
    apply tm_isKept hT1
    · intro y
      have hn : (c_named tp nm 2 (k_nW s) (k + 1)).1 = flt tp 1 (k + 1) := by unfold c_named; rw [if_neg (fun e => y (nmB_t.mp e))]
      have hb : (dl tp nm s k c).1 = flt tp 1 (k + 1) := by rw [hdl, if_neg (by rw [hn]; exact flt_ne (by omega))]; exact hn
      simp only [sl_i, b253_0, b253_1, bn_0 b253_0, bn_1 b253_1, q253_115, q253_118, q253_119, q253_120, mc_o]
      rw [if_neg (by decide)]
      apply tm_fails (kd := 1) hT1
      intro mT' h1 h2
      simp only [sl_i, b253_0, b253_1, bn_0 b253_0, bn_1 b253_1, q253_123]
      exact hq0 _ mV mT' _ (dlc_bad hb (flt_ne (by omega))) (flt_ne (by omega)) ⟨_, h1⟩ h2 (hP1 (mB.2.2.1) p3 (fun _ _ => rfl))
    intro y
    simp only [sl_i, b253_0, b253_1, bn_0 b253_0, bn_1 b253_1, q253_115, b253_0, b253_1, bn_0 b253_0, bn_1 b253_1, q253_124, q253_125, q253_128, q253_129, q253_130, q253_131, mc_o, mg_lineA, ma_lineA, mb_lineA, mn_lineA, wx_some, wx_ref]
    rw [if_pos (by decide)]
    apply tm_walkerNamed (r := 0) (m := k_nW s) (f := nm 2) (l := LT tp (k + 1)) (by omega) h7 hK.1.1.1 hK.1.1.2.2.2.1 hK.1.2.1.2.2.2.1 (fun i hi => by rw [show 7 * 0 + i = i by omega]; exact hK.2.2.2.2.2 i hi) (TKm_word hT1 y.1) (isNm_wf y) hw.2.2
    have gA : ∀ x : Int32, aG (((mB.2.2.1)).set (200 + c) x) (nI (200 + c)) = some x := fun x => aG_n (List.getElem?_set_self (by omega)) (by rw [List.length_set]; omega)
    simp only [sl_i, b253_0, b253_1, bn_0 b253_0, bn_1 b253_1, q253_134, q253_135, q253_136, q253_139, q253_140, q253_141, mc_o, mg_lineA, ma_lineA, mb_lineA, mn_lineA, wx_some, wx_ref, aS_n (show 200 + c < (mB.2.2.1).length by omega) (show (mB.2.2.1).length < 2 ^ 31 by omega), gA]
    cases ev : ffl (fun i => decide (nm 2 i = LT tp (k + 1))) (k_nW s) with
    | none =>
      have hn : (c_named tp nm 2 (k_nW s) (k + 1)).1 = flt tp 2 (k + 1) := by unfold c_named fnd; rw [if_pos (nmB_t.mpr y), ev]
      have hb : (dl tp nm s k c).1 = flt tp 2 (k + 1) := by rw [hdl, if_neg (by rw [hn]; exact flt_ne (by omega))]; exact hn
      rw [if_neg (by decide)]
      simp only [b253_0, b253_1, bn_0 b253_0, bn_1 b253_1, q253_144, q253_145, q253_146, mc_o]
      apply tm_fails (kd := 2) hT1
      intro mT' h1 h2
      simp only [sl_i, b253_0, b253_1, bn_0 b253_0, bn_1 b253_1, q253_149]
      exact hq0 _ mV mT' _ (dlc_bad hb (flt_ne (by omega))) (flt_ne (by omega)) ⟨_, h1⟩ h2 (hP1 _ (by rw [List.length_set]; exact p3) (fun i hi => List.getElem?_set_ne (by omega)))
    | some v =>
    have hv := ffl_lt _ _ ev
    have hn : c_named tp nm 2 (k_nW s) (k + 1) = (0, v) := by unfold c_named fnd; rw [if_pos (nmB_t.mpr y), ev]
    rw [hn, if_pos rfl] at hdl fin
    rw [if_pos (io_ge (by omega))]
    simp only [b253_0, b253_1, bn_0 b253_0, bn_1 b253_1, q253_150, q253_151, mc_o]
    apply tm_nx hT1
    intro mT2 hT2 _
    simp only [sl_n, b253_0, b253_1, bn_0 b253_0, bn_1 b253_1, q253_154, q253_155, q253_156]
    by_cases ek1 : kd = 1
    rotate_left
    · rw [if_neg ek1] at hdl fin
      rw [if_pos (by rw [show (1 : Int32) = nI 1 from rfl]; exact fun w => absurd ((nI_eq (show kd < 2 ^ 31 by omega) (by omega)).mp w) ek1)]
      exact fin mV mT2 _ (mB.2.2.2.1) (k + 2) (kd, v, 0) _ _ rfl rfl hT2 (by rw [List.length_set]; exact p3) p4 (fun i hi => List.getElem?_set_ne (by omega)) (fun _ _ => rfl) (fun _ => List.getElem?_set_self (by omega)) (fun e => absurd e ek1)
    rw [if_pos ek1] at hdl fin
    rw [if_neg (by rw [ek1]; exact fun w => w rfl)]
    simp only [b253_0, b253_1, bn_0 b253_0, bn_1 b253_1, q253_159, q253_160, q253_161, q253_162, mc_o]
    apply tm_needsNumber (a := 1) (b := 2) (by omega) (by omega) hT2
    · intro y2 y3 mT3 hT3
      rw [if_pos y2, if_pos y3] at hdl fin
      simp only [sl_i, b253_0, b253_1, bn_0 b253_0, bn_1 b253_1, q253_165, b253_0, b253_1, bn_0 b253_0, bn_1 b253_1, q253_170, q253_171, q253_174, q253_175, q253_176, q253_179, mc_o, mg_lineB, ma_lineB, mb_lineB, mn_lineB, mg_given, mf_given, wx_some, wx_ref, aS_n (show 200 + c < (mB.2.2.2.1).length by omega) (show (mB.2.2.2.1).length < 2 ^ 31 by omega)]
      rw [if_pos (by decide)]
      exact fin _ mT3 _ _ (k + 3) (1, v, VL tp (k + 2)) _ _ rfl ek1.symm hT3 (by rw [List.length_set]; exact p3) (by rw [List.length_set]; exact p4) (fun i hi => List.getElem?_set_ne (by omega)) (fun i hi => List.getElem?_set_ne (by omega)) (fun _ => List.getElem?_set_self (by omega)) (fun _ => List.getElem?_set_self (by omega))
    · intro y2 y3 mT3 h1 h2
      rw [if_pos y2, if_neg y3] at hdl
      simp only [sl_i, b253_0, b253_1, bn_0 b253_0, bn_1 b253_1, q253_165, q253_168, q253_169]
      rw [if_neg (by decide)]
      exact hq0 _ mV mT3 _ (dlc_bad (by rw [hdl]) (flt_ne (by omega))) (flt_ne (by omega)) ⟨_, h1⟩ h2 (hP1 _ (by rw [List.length_set]; exact p3) (fun i hi => List.getElem?_set_ne (by omega)))
    · intro y2 mT3 h1 h2
      rw [if_neg y2] at hdl
      simp only [sl_i, b253_0, b253_1, bn_0 b253_0, bn_1 b253_1, q253_165, q253_168, q253_169]
      rw [if_neg (by decide)]
      exact hq0 _ mV mT3 _ (dlc_bad (by rw [hdl]) (flt_ne (by omega))) (flt_ne (by omega)) ⟨_, h1⟩ h2 (hP1 _ (by rw [List.length_set]; exact p3) (fun i hi => List.getElem?_set_ne (by omega)))
  unfold kdD at at57
  simp only [e253, b253_0, b253_1, bn_0 b253_0, bn_1 b253_1, q253_0, q253_1, q253_4, mc_o]
  apply tm_isWord (w := 11) (by omega) (by decide) hT
  · intro y
    rw [if_pos (wdB_t.mpr y)] at at57
    simp only [sl_i, b253_0, b253_1, bn_0 b253_0, bn_1 b253_1, q253_7, q253_10, q253_11]
    rw [if_neg (by decide)]
    exact at57 _ rfl
  intro y11
  rw [if_neg (fun e => y11 (wdB_t.mp e))] at at57
  simp only [sl_i, b253_0, b253_1, bn_0 b253_0, bn_1 b253_1, q253_7, b253_0, b253_1, bn_0 b253_0, bn_1 b253_1, q253_14, q253_15, q253_18, mc_o]
  rw [if_pos (by decide)]
  apply tm_isWord (w := 12) (by omega) (by decide) hT
  · intro y
    rw [if_pos (wdB_t.mpr y)] at at57
    simp only [sl_i, b253_0, b253_1, bn_0 b253_0, bn_1 b253_1, q253_21, q253_24, q253_25]
    rw [if_neg (by decide)]
    exact at57 _ rfl
  intro y12
  rw [if_neg (fun e => y12 (wdB_t.mp e))] at at57
  simp only [sl_i, b253_0, b253_1, bn_0 b253_0, bn_1 b253_1, q253_21, b253_0, b253_1, bn_0 b253_0, bn_1 b253_1, q253_28, q253_29, q253_32, mc_o]
  rw [if_pos (by decide)]
  apply tm_isWord (w := 13) (by omega) (by decide) hT
  · intro y
    rw [if_pos (wdB_t.mpr y)] at at57
    simp only [sl_i, b253_0, b253_1, bn_0 b253_0, bn_1 b253_1, q253_35, q253_38, q253_39]
    rw [if_neg (by decide)]
    exact at57 _ rfl
  intro y13
  rw [if_neg (fun e => y13 (wdB_t.mp e))] at at57
  simp only [sl_i, b253_0, b253_1, bn_0 b253_0, bn_1 b253_1, q253_35, b253_0, b253_1, bn_0 b253_0, bn_1 b253_1, q253_42, q253_43, q253_46, mc_o]
  rw [if_pos (by decide)]
  apply tm_isWord (w := 14) (by omega) (by decide) hT
  · intro y
    rw [if_pos (wdB_t.mpr y)] at at57
    simp only [sl_i, b253_0, b253_1, bn_0 b253_0, bn_1 b253_1, q253_49, q253_52, q253_53]
    rw [if_neg (by decide)]
    exact at57 _ rfl
  intro y14
  rw [if_neg (fun e => y14 (wdB_t.mp e))] at at57
  simp only [sl_i, b253_0, b253_1, bn_0 b253_0, bn_1 b253_1, q253_49, b253_0, b253_1, bn_0 b253_0, bn_1 b253_1, q253_56]
  rw [if_pos (by decide)]
  exact at57 _ rfl
end GZJ
