/-! the call square, of the model -/
section GZE
variable {fx : List Value → mm_H → Option (List Value × mm_H)} {z : Nat} {X Y : Nat → mm_C} {mV : pm_V} {mT : pm_T} {mQ : pm_Q} {mO : pm_O} {mE : pm_E} {mB : pm_B} {mS : pm_S} {mR : pm_R} {mW : pm_W} {m_thrown : Int32} {m_given : Int32} {m_fresh : Int64} {m_code : Int32} {m_taped : Int32} {m_tape : List Int32} {m_size : Int32} {m_place : Int32} {m_begin : Int32} {m_token : Int32} {m_word : Int64} {m_told : Int32} {m_wrong : Int32} {m_square : List Int32} {m_sortName : List Int64} {m_colourName : List Int64} {m_walkerName : List Int64} {m_sortOf : List Int32} {m_rules : List Int32} {m_kind : List Int32} {m_colour : List Int32} {m_atTold : List Int32} {m_goesMany : List Int32} {m_goes : List Int32} {m_gusts : List Int32} {m_lineFrom : List Int32} {m_lineTo : List Int32} {m_codes : List Int32} {m_opened : List Int32} {m_compared : List Int32} {m_kept : List Int32} {m_keptBy : List Int32} {m_ahead : List Int32} {m_against : List Int32} {m_sum : List Int32} {m_sumBy : List Int32} {m_term : List Int32} {m_termBy : List Int32} {m_byNot : List Int32} {m_valueOf : List Int32} {m_lines : List Int32} {m_lineWhat : List Int32} {m_lineA : List Int32} {m_lineB : List Int32} {m_wishes : List Int32} {m_wishOf : List Int32} {m_seens : List Int32} {m_seenAt : List Int32} {m_seenIn : List Int32} {m_seenThere : List Int32} {m_s : List Int32} {m_aside : List Int32} {m_before : List Int32} {m_marked : List Int32} {m_undone : List Int32} {m_isLaid : List Int32} {m_done : Int32} {m_gustNow : Int32} {m_shown : List Int32} {m_shownMany : Int32} {m_from7 : List Int32} {m_long7 : List Int32} {m_sentences : Int32} {m_text7 : List Int32} {m_textMany : Int32} {m_waysOf : List Int32} {m_rowOf : List Int32} {m_row : List Int32} {m_bestRow : List Int32} {m_leastSteps : Int32} {m_steps10 : List Int32} {m_placeIn : List Int32} {m_g : Int64}
variable {d : Nat} {Q : Option Value → mm_H → Prop} {tp : List Nat} {op cm : Nat → Int32} {o : PS}
theorem KM_lays {mQ' : pm_Q} {n : Nat} {cs : List Nat} {xs : List Int32} {y : Int32} (hD : DRm o mQ) (hP : PSok o) (hl : QLm mQ') (hR : RWm mQ mQ') (c1 : cs.length = n) (c2 : n ≤ 1000) (hF : (mQ'.2.2.2.2.2.2.2.2.2.2.2.2.1)[0]? = some (nI 0)) (hT : (mQ'.2.2.2.2.2.2.2.2.2.2.2.2.2.1)[0]? = some (nI n)) (c6 : ∀ j, j < n → (mQ.2.2.2.2.2.2.2.2.2.2.2.2.2.2)[1000 + j]? = some (nI (cs.getD j 0)) ∧ cs.getD j 0 < 2 ^ 20) (c7 : n = 0 → ∀ a b e f, k_lw o.1 a b e f = f) (c8 : 0 < n → ∀ a b e f bn L, ∃ bn' L', lm_run (vl4 a b e f) cs (0, bn, uL L 0 (lv_opens (L 0))) = some (0, bn', L') ∧ lv_t (L' 0) = k_lw o.1 a b e f) (x1 : xs.length = 12) (x2 : ∀ i : Nat, i < 6 → ¬ i = 4 → xs[i]? = (mQ'.1)[i]?) (x3 : xs[4]? = some y) (x4 : (y = -1 ∧ k_nS o.1 = 0) ∨ (y = nI (k_sy o.1) ∧ k_sy o.1 < k_nS o.1)) : KM o.2.1 o.1 (xs, mQ'.2.1, mQ'.2.2.1, mQ'.2.2.2.1, mQ'.2.2.2.2.1, mQ'.2.2.2.2.2.1, mQ'.2.2.2.2.2.2.1, mQ'.2.2.2.2.2.2.2.1, mQ'.2.2.2.2.2.2.2.2.1, mQ'.2.2.2.2.2.2.2.2.2.1, mQ'.2.2.2.2.2.2.2.2.2.2.1, mQ'.2.2.2.2.2.2.2.2.2.2.2.1, mQ'.2.2.2.2.2.2.2.2.2.2.2.2.1, mQ'.2.2.2.2.2.2.2.2.2.2.2.2.2.1, mQ'.2.2.2.2.2.2.2.2.2.2.2.2.2.2) := by
  obtain ⟨-, ⟨⟨s1, s2, s3, s4, s5⟩, t1, t2, t3, t4⟩, ⟨n1, n2, n3⟩, -, -⟩ := hD
  obtain ⟨r1, r2, r3, r4, r5, r6, r7, r8, r9, r10, r11, r12, r13⟩ := hR
  obtain ⟨q1, q2, q3, q4, q5, q6, q7, q8, q9, q10, q11, q12, q13, q14, q15⟩ := hl
  obtain ⟨ho, -⟩ := hP
  obtain ⟨h1, h2, h3, h4, h5⟩ := ho.1
  refine ⟨⟨⟨x1, q2, q3, q4, q5, q6, q7, q8, q9, q10, q11, q12, q13, q14, q15⟩, ⟨(x2 0 (by omega) (by omega)).trans ((r1 0 (by omega)).trans s1), (x2 1 (by omega) (by omega)).trans ((r1 1 (by omega)).trans s2), (x2 2 (by omega) (by omega)).trans ((r1 2 (by omega)).trans s3), (x2 3 (by omega) (by omega)).trans ((r1 3 (by omega)).trans s4), (x2 5 (by omega) (by omega)).trans ((r1 5 (by omega)).trans s5)⟩, ⟨y, x3, x4⟩, ⟨fun i hi => (r5 i (by omega)).trans (t1 i hi), fun i hi => (r6 i (by omega)).trans (t2 i hi), fun i hi => (r7 i (by omega)).trans (t3 i hi).1, fun i hi => (r8 i (by omega)).trans (t3 i hi).2.1, fun i hi => (r9 i (by omega)).trans (t3 i hi).2.2.1, fun i hi => (r10 i (by omega)).trans (t3 i hi).2.2.2.1, fun i hi => (r12 i (by omega)).trans (t4 i hi)⟩, fun w hw i hi => ?_⟩, ⟨0, n, cs, c1, by omega, hF, by rw [Nat.zero_add]; exact hT, fun j hj => ⟨by rw [Nat.zero_add]; exact (r13 j (by omega)).trans (c6 j hj).1, (c6 j hj).2⟩, c7, c8⟩, ho, fun i hi => (r2 i (by omega)).trans (n1 i hi), fun i hi => (r3 i (by omega)).trans (n2 i hi), fun i hi => (r4 i (by omega)).trans (n3 i hi)⟩
  have := (ho.2.2.2.1 w hw).2.2.2.1.2
  refine (r11 (6 * w + i) (by omega)).trans ?_
  rw [← Nat.add_assoc]
  exact (t3 w hw).2.2.2.2 i hi
theorem TPm_0 {k : Nat} {mT' : pm_T} (h : TKm tp k mT') : TPm [] mT' := ⟨⟨h.1.1.1, fun i x hx => by cases hx⟩, h.2.2⟩
theorem tm_square (ht : tp_ok tp) (hT0 : TPm tp mT) (hl : QLm mQ) (hO : OPm op cm mO) (h9 : (mS.1).length = 9) (h36 : (mS.2.2.2.1).length = 36) (h144 : (mS.2.2.2.2.1).length = 144) (h4 : (mS.2.2.2.2.2.1).length = 4) (hB : BLm mB) (hq1 : ∀ o' mV' mT' mQ' mO' op' cm' r ld mB', sp_sq tp 1000 0 ps0 = (0, o') → TPm [] mT' → KM o'.2.1 o'.1 mQ' → PSok o' → OPm op' cm' mO' → SCm o'.1 r (sp_fresh o'.1) → BLm mB' → BKm bk0 mB' 0 → UNm o'.1 [] (r, mS.2.1, mS.2.2.1, mS.2.2.2.1, mS.2.2.2.2.1, ld, 0, mS.2.2.2.2.2.2.2) → MKm o'.1 (fun _ => none) (r, mS.2.1, mS.2.2.1, mS.2.2.2.1, mS.2.2.2.2.1, ld, 0, mS.2.2.2.2.2.2.2) mB' → Q (some (.int 0)) (pm_h z X Y (pm_l (mV') (mT') (mQ') (mO') mE (mB') ((r, mS.2.1, mS.2.2.1, mS.2.2.2.1, mS.2.2.2.2.1, ld, 0, mS.2.2.2.2.2.2.2)) mR mW))) (hq0 : ∀ f mV' mT' mQ' mO' op' cm', (sp_sq tp 1000 0 ps0).1 = f → ¬ f = 0 → TPm [] mT' → QLm mQ' → R0m mQ mQ' → OPm op' cm' mO' → Q (some (.int (nI f))) (pm_h z X Y (pm_l (mV') (mT') (mQ') (mO') mE mB mS mR mW))) : wm (mp_P fx) (d + 6) 219 [.ref 149] (pm_h z X Y (pm_l mV mT mQ mO mE mB mS mR mW)) Q := by
  simp only [e219, q219_0, q219_1, q219_2, q219_5, q219_6, mc_o, mg_thrown, mf_thrown, wx_some, wx_ref]
  apply tm_readsAll (dep := d) (mV := (0, mV.2.1, mV.2.2.1, mV.2.2.2)) ht hT0 hl hO
  rotate_left
  · intro f mV' mT' mQ' mO' op' cm' b1 b2 b3
    obtain ⟨c1, c2, c3, c4, k, c5⟩ := b2
    simp only [sl_i, q219_9, q219_12, q219_13, q219_16, mc_o, mg_wrong, mf_wrong, wx_some, wx_ref, c2]
    rw [if_neg (by decide)]
    exact hq0 f mV' mT' mQ' mO' op' cm' b1 c1 (TPm_0 c5) c3 c4 b3
  intro o' mV' mT' mQ1 mO' op' cm' b1 ⟨k, b2⟩ hD hP hR0 b3
  simp only [sl_i, q219_9]
  rw [if_pos (by decide)]
  obtain ⟨n, cs, c1, c2, c3, c4, c5, c6, c7, c8⟩ := id hD.2.2.2.2
  simp only [q219_17, q219_18, mc_o]
  apply tm_layAll (n := n) hD.1 c3 c4 c2
  intro mQ2 hl2 hR2 hF2 hT2
  have hk6 := hP.1.1.1
  have e4 : (mQ2.1)[4]? = some (io o'.2.2.1) := (hR2.1 4 (by omega)).trans hD.2.2.2.1
  have e0 : (mQ2.1)[0]? = some (nI (k_nS o'.1)) := (hR2.1 0 (by omega)).trans hD.2.1.1.1
  have l12 := hl2.1
  have at46 : ∀ (xs : List Int32) (y : Int32), xs.length = 12 → (∀ i : Nat, i < 6 → ¬ i = 4 → xs[i]? = (mQ2.1)[i]?) → xs[4]? = some y → ((y = -1 ∧ k_nS o'.1 = 0) ∨ (y = nI (k_sy o'.1) ∧ k_sy o'.1 < k_nS o'.1)) → ww (mp_P fx) (d + 6) 219 46 [some (.ref 149), none] [] (pm_h z X Y (pm_l (mV') (mT') ((xs, mQ2.2.1, mQ2.2.2.1, mQ2.2.2.2.1, mQ2.2.2.2.2.1, mQ2.2.2.2.2.2.1, mQ2.2.2.2.2.2.2.1, mQ2.2.2.2.2.2.2.2.1, mQ2.2.2.2.2.2.2.2.2.1, mQ2.2.2.2.2.2.2.2.2.2.1, mQ2.2.2.2.2.2.2.2.2.2.2.1, mQ2.2.2.2.2.2.2.2.2.2.2.2.1, mQ2.2.2.2.2.2.2.2.2.2.2.2.2.1, mQ2.2.2.2.2.2.2.2.2.2.2.2.2.2.1, mQ2.2.2.2.2.2.2.2.2.2.2.2.2.2.2)) (mO') mE mB mS mR mW)) Q := by
    intro xs y x1 x2 x3 x4
    have hKM := KM_lays hD hP hl2 hR2 c1 c2 hF2 hT2 c6 c7 c8 x1 x2 x3 x4
    generalize ((xs, mQ2.2.1, mQ2.2.2.1, mQ2.2.2.2.1, mQ2.2.2.2.2.1, mQ2.2.2.2.2.2.1, mQ2.2.2.2.2.2.2.1, mQ2.2.2.2.2.2.2.2.1, mQ2.2.2.2.2.2.2.2.2.1, mQ2.2.2.2.2.2.2.2.2.2.1, mQ2.2.2.2.2.2.2.2.2.2.2.1, mQ2.2.2.2.2.2.2.2.2.2.2.2.1, mQ2.2.2.2.2.2.2.2.2.2.2.2.2.1, mQ2.2.2.2.2.2.2.2.2.2.2.2.2.2.1, mQ2.2.2.2.2.2.2.2.2.2.2.2.2.2.2) : pm_Q) = mQ3 at hKM ⊢
    obtain ⟨p1, p2, p3, p4, p5, p6, p7, p8, p9, p10⟩ := id hB
    simp only [q219_46, q219_47, mc_o]
    apply tm_fresh hKM.1 hP.1 h9
    intro r hr
    simp only [sl_n, q219_50, q219_51, q219_54, q219_55, q219_56, q219_57, q219_58, q219_61, q219_62, q219_63, q219_64, q219_65, q219_68, q219_69, q219_70, q219_71, q219_72, q219_73, q219_76, q219_77r, mc_o, mg_lines, ma_lines, mb_lines, mn_lines, mg_wishes, ma_wishes, mb_wishes, mn_wishes, mg_seens, ma_seens, mb_seens, mn_seens, mg_done, mf_done, wx_some, wx_ref, isl_i, isl_r, isl_n, show ∀ (x : Int32) (f : List Int32 → mm_H), aS (mB.1) 0 x f = some (f ((mB.1).set 0 x)) from fun x f => aS_n (j := 0) (by omega) (by omega), show ∀ (x : Int32) (f : List Int32 → mm_H), aS (mB.2.2.2.2.1) 0 x f = some (f ((mB.2.2.2.2.1).set 0 x)) from fun x f => aS_n (j := 0) (by omega) (by omega), show ∀ (x : Int32) (f : List Int32 → mm_H), aS (mB.2.2.2.2.2.2.1) 0 x f = some (f ((mB.2.2.2.2.2.2.1).set 0 x)) from fun x f => aS_n (j := 0) (by omega) (by omega)]
    have hB2 : BLm ((mB.1).set 0 0, mB.2.1, mB.2.2.1, mB.2.2.2.1, (mB.2.2.2.2.1).set 0 0, mB.2.2.2.2.2.1, (mB.2.2.2.2.2.2.1).set 0 0, mB.2.2.2.2.2.2.2.1, mB.2.2.2.2.2.2.2.2.1, mB.2.2.2.2.2.2.2.2.2) := ⟨by show (List.set _ _ _).length = 6; rw [List.length_set]; exact p1, p2, p3, p4, by show (List.set _ _ _).length = 6; rw [List.length_set]; exact p5, p6, by show (List.set _ _ _).length = 5; rw [List.length_set]; exact p7, p8, p9, p10⟩
    have hB3 : BKm bk0 ((mB.1).set 0 0, mB.2.1, mB.2.2.1, mB.2.2.2.1, (mB.2.2.2.2.1).set 0 0, mB.2.2.2.2.2.1, (mB.2.2.2.2.2.2.1).set 0 0, mB.2.2.2.2.2.2.2.1, mB.2.2.2.2.2.2.2.2.1, mB.2.2.2.2.2.2.2.2.2) 0 := ⟨⟨List.getElem?_set_self (by omega), fun i hi => absurd hi (Nat.not_lt_zero _)⟩, ⟨List.getElem?_set_self (by omega), fun i hi => absurd hi (Nat.not_lt_zero _)⟩, ⟨List.getElem?_set_self (by omega), fun i hi => absurd hi (Nat.not_lt_zero _)⟩⟩
    generalize (((mB.1).set 0 0, mB.2.1, mB.2.2.1, mB.2.2.2.1, (mB.2.2.2.2.1).set 0 0, mB.2.2.2.2.2.1, (mB.2.2.2.2.2.2.1).set 0 0, mB.2.2.2.2.2.2.2.1, mB.2.2.2.2.2.2.2.2.1, mB.2.2.2.2.2.2.2.2.2) : pm_B) = mB2 at hB2 hB3 ⊢
    have lp : ∀ (m j : Nat) (ld : List Int32), j + m = 4 → ld.length = 4 → (∀ i : Nat, i < j → ld[i]? = some (0 : Int32)) → ww (mp_P fx) (d + 6) 219 78 [some (.ref 149), some (.int (nI j))] [] (pm_h z X Y (pm_l (mV') (mT') (mQ3) (mO') mE (mB2) ((r, mS.2.1, mS.2.2.1, mS.2.2.2.1, mS.2.2.2.2.1, ld, 0, mS.2.2.2.2.2.2.2)) mR mW)) Q := by
      intro m
      induction m with
      | zero =>
        intro j ld hj hld hi
        rw [q219_78]
        simp only [q219_79, q219_80]
        rw [if_pos (by rw [show (4 : Int32) = nI 4 from rfl, nI_leI (by omega) (by omega)]; omega)]
        simp only [q219_96, q219_97]
        exact hq1 o' mV' mT' mQ3 mO' op' cm' r ld mB2 b1 (TPm_0 b2) hKM hP b3 hr hB2 hB3 ⟨Nat.zero_le _, h144, rfl, fun i c hc => by cases hc⟩ ⟨h36, hld, fun k hk => ⟨hi k (by omega), fun c b hc => by cases hc⟩⟩
      | succ m ih =>
        intro j ld hj hld hi
        rw [q219_78]
        simp only [q219_79, q219_80]
        rw [if_neg (by rw [show (4 : Int32) = nI 4 from rfl, nI_leI (by omega) (by omega)]; omega)]
        simp only [q219_83, q219_84, q219_87, q219_88, q219_89, q219_90r, q219_93, mc_o, mg_isLaid, ma_isLaid, mb_isLaid, mn_isLaid, wx_some, wx_ref, isl_i, isl_r, isl_n, nI_1, nar_0, aS_n (show j < ld.length by omega) (show ld.length < 2 ^ 31 by omega)]
        refine ih (j + 1) (ld.set j 0) (by omega) (by rw [List.length_set]; exact hld) (fun i hi2 => ?_)
        by_cases e : i = j
        · rw [e]; exact List.getElem?_set_self (by omega)
        · exact (List.getElem?_set_ne (by omega)).trans (hi i (by omega))
    exact lp 4 0 (mS.2.2.2.2.2.1) rfl h4 (fun i hi => absurd hi (Nat.not_lt_zero _))
  have g4 : aG (mQ2.1) 4 = some (io o'.2.2.1) := aG_n e4 (by omega)
  have g0 : aG (mQ2.1) 0 = some (nI (k_nS o'.1)) := aG_n e0 (by omega)
  simp only [sl_n, q219_21, q219_22, q219_25, q219_26, q219_27, mc_o, mg_square, ma_square, mb_square, mn_square, wx_some, wx_ref, g4]
  cases eY : o'.2.2.1 with
  | some v =>
    have hv := hP.2.2.2 v eY
    rw [eY] at e4
    rw [if_pos (io_ge (by omega))]
    exact at46 (mQ2.1) _ l12 (fun _ _ _ => rfl) e4 (Or.inr ⟨by rw [hP.2.2.1, eY]; rfl, by rw [hP.2.2.1, eY]; exact hv⟩)
  | none =>
    rw [eY] at e4
    have hy0 : k_sy o'.1 = 0 := by rw [hP.2.2.1, eY]; rfl
    rw [if_neg (by decide)]
    simp only [q219_30, q219_31, q219_34, q219_35, q219_36, mc_o, mg_square, ma_square, mb_square, mn_square, wx_some, wx_ref, g0]
    by_cases e6 : k_nS o'.1 = 0
    · rw [if_pos (by rw [nl_0, nI_leI (by omega) (by omega)]; omega)]
      exact at46 (mQ2.1) _ l12 (fun _ _ _ => rfl) e4 (Or.inl ⟨rfl, e6⟩)
    · rw [if_neg (by rw [nl_0, nI_leI (by omega) (by omega)]; omega)]
      simp only [q219_39, q219_40, q219_43, q219_44, q219_45, mc_o, mg_square, ma_square, mb_square, mn_square, wx_some, wx_ref, show ∀ (x : Int32) (f : List Int32 → mm_H), aS (mQ2.1) 4 x f = some (f ((mQ2.1).set 4 x)) from fun x f => aS_n (j := 4) (by omega) (by omega)]
      exact at46 ((mQ2.1).set 4 0) 0 (by rw [List.length_set]; exact l12) (fun i hi hn => List.getElem?_set_ne (by omega)) (List.getElem?_set_self (by omega)) (Or.inr ⟨by rw [hy0]; rfl, by omega⟩)
end GZE
