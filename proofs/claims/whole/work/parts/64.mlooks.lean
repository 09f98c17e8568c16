/-! what is read, of the model -/
def fmp (pl : Nat → Nat) (n a w : Nat) : List Nat := (List.range a).flatMap (fun x => (List.range n).filter (fun i => decide (pl i = x))) ++ (List.range w).filter (fun i => decide (pl i = a))
theorem fmp_s {pl : Nat → Nat} {n a w : Nat} : fmp pl n a (w + 1) = fmp pl n a w ++ (if pl w = a then [w] else []) := by
  unfold fmp
  rw [List.range_succ, List.filter_append, ← List.append_assoc]
  congr 1
  by_cases e : pl w = a
  · rw [if_pos e, List.filter_cons_of_pos (by rw [decide_eq_true e])]; rfl
  · rw [if_neg e, List.filter_cons_of_neg (by rw [decide_eq_false e]; exact Bool.false_ne_true)]; rfl
theorem fmp_n {pl : Nat → Nat} {n a : Nat} : fmp pl n a n = fmp pl n (a + 1) 0 := by
  unfold fmp
  rw [List.range_succ, List.flatMap_append, List.flatMap_cons, List.flatMap_nil, List.append_nil, List.range_zero, List.filter_nil, List.append_nil]
theorem fmp_10 {pl : Nat → Nat} {n : Nat} : fmp pl n 10 0 = fm pl n := by
  unfold fmp fm
  rw [List.range_zero, List.filter_nil, List.append_nil]
theorem fmp_le {pl : Nat → Nat} {n a w : Nat} (hw : w ≤ n) : (fmp pl n a w).length ≤ (fmp pl n (a + 1) 0).length := by
  rw [← fmp_n]
  unfold fmp
  rw [List.length_append, List.length_append]
  exact Nat.add_le_add_left ((List.range_sublist.mpr hw).filter _).length_le _
theorem fmp_len {pl : Nat → Nat} {n : Nat} (h : ∀ i, i < n → pl i < 10) : ∀ j a, a + j = 10 → (fmp pl n a 0).length ≤ n := by
  intro j
  induction j with
  | zero => intro a ha; rw [show a = 10 by omega, fmp_10]; exact Nat.le_of_eq (fm_len h)
  | succ j ih => intro a ha; exact Nat.le_trans (fmp_le (Nat.zero_le _)) (ih (a + 1) (by omega))
theorem fmp_len2 {pl : Nat → Nat} {n a w : Nat} (h : ∀ i, i < n → pl i < 10) (hw : w ≤ n) (ha : a < 10) : (fmp pl n a w).length ≤ n := Nat.le_trans (fmp_le hw) (fmp_len h (9 - a) (a + 1) (by omega))
section MO
variable {fx : List Value → mm_H → Option (List Value × mm_H)} {z : Nat} {X Y : Nat → mm_C} {mV : pm_V} {mT : pm_T} {mQ : pm_Q} {mO : pm_O} {mE : pm_E} {mB : pm_B} {mS : pm_S} {mR : pm_R} {mW : pm_W} {m_thrown : Int32} {m_given : Int32} {m_fresh : Int64} {m_code : Int32} {m_taped : Int32} {m_tape : List Int32} {m_size : Int32} {m_place : Int32} {m_begin : Int32} {m_token : Int32} {m_word : Int64} {m_told : Int32} {m_wrong : Int32} {m_square : List Int32} {m_sortName : List Int64} {m_colourName : List Int64} {m_walkerName : List Int64} {m_sortOf : List Int32} {m_rules : List Int32} {m_kind : List Int32} {m_colour : List Int32} {m_atTold : List Int32} {m_goesMany : List Int32} {m_goes : List Int32} {m_gusts : List Int32} {m_lineFrom : List Int32} {m_lineTo : List Int32} {m_codes : List Int32} {m_opened : List Int32} {m_compared : List Int32} {m_kept : List Int32} {m_keptBy : List Int32} {m_ahead : List Int32} {m_against : List Int32} {m_sum : List Int32} {m_sumBy : List Int32} {m_term : List Int32} {m_termBy : List Int32} {m_byNot : List Int32} {m_valueOf : List Int32} {m_lines : List Int32} {m_lineWhat : List Int32} {m_lineA : List Int32} {m_lineB : List Int32} {m_wishes : List Int32} {m_wishOf : List Int32} {m_seens : List Int32} {m_seenAt : List Int32} {m_seenIn : List Int32} {m_seenThere : List Int32} {m_s : List Int32} {m_aside : List Int32} {m_before : List Int32} {m_marked : List Int32} {m_undone : List Int32} {m_isLaid : List Int32} {m_done : Int32} {m_gustNow : Int32} {m_shown : List Int32} {m_shownMany : Int32} {m_from7 : List Int32} {m_long7 : List Int32} {m_sentences : Int32} {m_text7 : List Int32} {m_textMany : Int32} {m_waysOf : List Int32} {m_rowOf : List Int32} {m_row : List Int32} {m_bestRow : List Int32} {m_leastSteps : Int32} {m_steps10 : List Int32} {m_placeIn : List Int32} {m_g : Int64}
variable {d : Nat} {Q : Option Value → mm_H → Prop} {s : SQ} {c : SC}
/-- the rows of the model's reading have their lengths -/
def RLm (mR : pm_R) : Prop := (mR.1).length = 7 ∧ (mR.2.2.1).length = 7 ∧ (mR.2.2.2.1).length = 7 ∧ (mR.2.2.2.2.2.1).length = 7 ∧ (mR.2.2.2.2.2.2.2.1).length = 294 ∧ (mR.2.2.2.2.2.2.2.2).length = 2058
/-- the model's reading up to k, of the row L -/
def RDm (L : List Nat) (k : Nat) (mR : pm_R) : Prop := RLm mR ∧ mR.2.1 = nI L.length ∧ ag mR.1 L.length (fun i => L.getD i 0) ∧ mR.2.2.2.2.1 = nI (snk L k).1 ∧ ag mR.2.2.1 (snk L k).1 (snk L k).2.1 ∧ ag mR.2.2.2.1 (snk L k).1 (snk L k).2.2.1
theorem tm_colourRead {w : Nat} (hs : SQm mQ s) (ho : k_ok s) (hw : w < k_nW s) (h1 : ¬ k_kd s w = 1) (hq : Q (some (.int (nI (sp_show s w)))) (pm_h z X Y (pm_l mV mT mQ mO mE mB mS mR mW))) : wm (mp_P fx) d 270 [.ref 149, .int (nI w)] (pm_h z X Y (pm_l mV mT mQ mO mE mB mS mR mW)) Q := by
  have h7 := ho.1.2.2.2.1
  have h6 := ho.1.2.1
  have hsl := hs.1.1
  have hn := hs.2.1.2.1
  have hkl := hs.1.2.2.2.2.2.2.1
  have hkd := hs.2.2.2.1.2.2.1
  have hcl := hs.1.2.2.2.2.2.2.2.1
  have hcd := hs.2.2.2.1.2.2.2.1
  have hk := ho.2.2.2.1 w hw
  unfold sp_show at hq
  rw [if_neg h1] at hq
  simp only [e270, q270_0, q270_1, q270_4, q270_5, q270_6, q270_7, q270_10, q270_11, q270_14, q270_15, q270_16, q270_17, q270_18, q270_19, q270_22, q270_23, q270_24, q270_25, q270_28, q270_29, q270_32, q270_33, q270_34, mg_square, ma_square, mb_square, mn_square, mg_kind, ma_kind, mb_kind, mn_kind, mg_colour, ma_colour, mb_colour, mn_colour, wx_some, wx_ref, nl_1, nI_add, nl_3, aG_n hn (show (mQ.1).length < 2 ^ 31 by omega), ag_G hkd (show (mQ.2.2.2.2.2.2.1).length < 2 ^ 31 by omega) hw, ag_G hcd (show (mQ.2.2.2.2.2.2.2.1).length < 2 ^ 31 by omega) hw]
  by_cases e : k_kd s w = 3
  · rw [if_pos e] at hq
    rw [if_neg (by rw [e]; exact fun z => z rfl), if_neg (by rw [nl_0, nI_eq (by omega) (by omega)]; omega), nI_mod (by omega) (by omega) (by omega)]
    by_cases e2 : k_wc s w + 1 < k_nC s
    · rw [if_pos e2] at hq; rw [Nat.mod_eq_of_lt e2]; exact hq
    · rw [if_neg e2] at hq; rw [show k_wc s w + 1 = k_nC s by omega, Nat.mod_self]; exact hq
  · rw [if_neg e] at hq
    rw [if_pos (by rw [nI_eq (by omega) (by omega)]; exact e)]
    exact hq
def PPl (s : SQ) (c : SC) (g a w : Nat) : List Nat := ((fmp c.2.2 (k_nW s) a w).filter (sp_rd s c 0 g)).map (sp_show s)
def IVm (L : List Nat) (mR0 mR : pm_R) : Prop := RLm mR ∧ mR.2.1 = nI L.length ∧ ag mR.1 L.length (fun i => L.getD i 0) ∧ mR.2.2.2.2.2.2.1 = mR0.2.2.2.2.2.2.1 ∧ mR.2.2.2.2.2.1 = mR0.2.2.2.2.2.1
theorem PPl_s {g a w : Nat} : PPl s c g a (w + 1) = PPl s c g a w ++ (if c.2.2 w = a ∧ sp_rd s c 0 g w = true then [sp_show s w] else []) := by
  unfold PPl
  rw [fmp_s, List.filter_append, List.map_append]
  congr 1
  by_cases e : c.2.2 w = a
  · rw [if_pos e]
    by_cases e2 : sp_rd s c 0 g w = true
    · rw [if_pos ⟨e, e2⟩, List.filter_cons_of_pos e2]; rfl
    · rw [if_neg (fun z => e2 z.2), List.filter_cons_of_neg e2]; rfl
  · rw [if_neg e, if_neg (fun z => e z.1)]; rfl
theorem PPl_len {g a w : Nat} (hc : c_ok s c) (hw : w ≤ k_nW s) (ha : a < 10) : (PPl s c g a w).length ≤ k_nW s := by
  unfold PPl
  rw [List.length_map]
  exact Nat.le_trans (List.length_filter_le _ _) (fmp_len2 hc.2.2 hw ha)
theorem tm_looks {g : Nat} (hs : SQm mQ s) (hl : LWm mQ s) (ho : k_ok s) (hc : c_ok s c) (hS : SCm s mS.1 c) (hE : ELl mE) (hg : GN mS s c g) (hR : RLm mR) (hq : ∀ mE' mR', ELl mE' → RDm (sp_list s c 0 g) (sp_list s c 0 g).length mR' → mR'.2.2.2.2.2.2.1 = mR.2.2.2.2.2.2.1 → mR'.2.2.2.2.2.1 = mR.2.2.2.2.2.1 → Q none (pm_h z X Y (pm_l mV mT mQ mO (mE') mB mS (mR') mW))) : wm (mp_P fx) (d + 4) 269 [.ref 149] (pm_h z X Y (pm_l mV mT mQ mO mE mB mS mR mW)) Q := by
  have h7 := ho.1.2.2.2.1
  obtain ⟨h9, hp0, hp1, hp⟩ := id hS
  have hat : ∀ i, i < k_nW s → (mS.1)[2 + i]? = some (nI (c.2.2 i)) := fun i hi => by rw [hp i (by omega), if_pos hi]
  have hsl := hs.1.1
  have hn := hs.2.1.2.2.2.1
  have hkl := hs.1.2.2.2.2.2.2.1
  have hkd := hs.2.2.2.1.2.2.1
  have hs9 : (mS.1).length < 2 ^ 31 := by omega
  have hLl := Nat.le_trans (sp_list_len (sh := 0) (g := g) hc) h7
  obtain ⟨r1, r2, r3, r4, r5, r6⟩ := hR
  -- the sentences
  have key3 : ∀ (m k : Nat) (mE1 : pm_E) (mR1 : pm_R), k + m = (sp_list s c 0 g).length → ELl mE1 → RDm (sp_list s c 0 g) k mR1 → mR1.2.2.2.2.2.2.1 = mR.2.2.2.2.2.2.1 → mR1.2.2.2.2.2.1 = mR.2.2.2.2.2.1 → ww (mp_P fx) (d + 4) 269 108 [some (.ref 149), some (.int (if (snk (sp_list s c 0 g) k).2.2.2 = true then 1 else 0)), some (.int (nI k))] [] (pm_h z X Y (pm_l mV mT mQ mO (mE1) mB mS (mR1) mW)) Q := by
    intro m
    induction m with
    | zero =>
      intro k mE1 mR1 hk hE1 hR1 ht1 ht2
      rw [q269_108]
      simp only [q269_109, q269_110, q269_113, q269_203, mg_shownMany, mf_shownMany, wx_some, wx_ref, hR1.2.1]
      rw [if_pos (by rw [nI_leI (by omega) (by omega)]; omega)]
      rw [show k = (sp_list s c 0 g).length by omega] at hR1
      exact hq mE1 mR1 hE1 hR1 ht1 ht2
    | succ m ih =>
      intro k mE1 mR1 hk hE1 hR1 ht1 ht2
      obtain ⟨⟨p1, p2, p3, p4, p5, p6⟩, b1, b2, b3, b4, b5⟩ := id hR1
      have hx6 := sp_list_le (c := c) (sh := 0) (g := g) (j := k) ho
      have hsh := ag_G b2 (show (mR1.1).length < 2 ^ 31 by omega) (show k < (sp_list s c 0 g).length by omega)
      obtain ⟨k1, k2, -⟩ := snk_ok (sp_list s c 0 g) k
      have hih := ih (k + 1) mE1
      unfold RDm at hih
      rw [snk] at hih
      generalize (sp_list s c 0 g).getD k 0 = x at hih hx6 hsh
      generalize snk (sp_list s c 0 g) k = t at *
      unfold sn1 at hih
      rw [q269_108]
      simp only [q269_109, q269_110, q269_113, q269_116, q269_117, q269_120, q269_121, q269_122, q269_124, q269_127, q269_128, q269_131, q269_132, q269_135, q269_136, q269_139, q269_140, q269_141, q269_142, q269_145, q269_146, q269_149, q269_150, q269_151, q269_152, q269_153, q269_156, q269_157, q269_158, q269_161, q269_162, q269_165, q269_166, q269_167, q269_169, q269_172, q269_173, q269_176, q269_177r, q269_178, q269_179, q269_182, q269_183, q269_186, q269_187, q269_190, q269_191, q269_192, q269_193, q269_194, q269_195, q269_196, q269_197i, mg_shownMany, mf_shownMany, mg_shown, ma_shown, mb_shown, mn_shown, wx_some, wx_ref, isl_i, isl_r, isl_n, b1, hsh]
      rw [if_neg (by rw [nI_leI (by omega) (by omega)]; omega)]
      by_cases e6 : x = 6
      · rw [if_pos e6] at hih
        rw [if_pos (by rw [e6]; rfl), if_pos (by rw [e6]; rfl)]
        simp only [q269_178, q269_179, q269_182, q269_183, q269_186, q269_187, q269_190, q269_191, q269_192, q269_193, q269_194, q269_195, q269_196, q269_197i, q269_200, nl_1, nI_add]
        rw [if_pos trivial]
        exact hih mR1 (by omega) hE1 ⟨⟨p1, p2, p3, p4, p5, p6⟩, b1, b2, b3, b4, b5⟩ ht1 ht2
      rw [if_neg e6] at hih
      rw [if_neg (by rw [show (6 : Int32) = nI 6 from rfl, nI_eq (by omega) (by omega)]; exact e6)]
      by_cases eb : t.2.2.2 = true
      · rw [if_pos eb] at hih
        obtain ⟨q1, q2⟩ := k2 eb
        have g1 := b5 (t.1 - 1) (by omega)
        rw [if_pos eb, if_pos (by decide)]
        simp only [q269_161, q269_162, q269_165, q269_166, q269_167, q269_169, q269_172, q269_173, q269_176, q269_177r, q269_178, q269_179, q269_182, q269_183, q269_186, q269_187, q269_190, q269_191, q269_192, q269_193, q269_194, q269_195, q269_196, q269_197i, q269_200, mg_shown, ma_shown, mb_shown, mn_shown, mg_long7, ma_long7, mb_long7, mn_long7, mg_sentences, mf_sentences, wx_some, wx_ref, isl_i, isl_r, isl_n, hsh, b3, nl_1, nI_sub (show 1 ≤ t.1 by omega), nI_add, aG_n g1 (show (mR1.2.2.2.1).length < 2 ^ 31 by omega), aS_n (show t.1 - 1 < (mR1.2.2.2.1).length by omega) (show (mR1.2.2.2.1).length < 2 ^ 31 by omega)]
        rw [if_neg (by rw [show (6 : Int32) = nI 6 from rfl, nI_eq (by omega) (by omega)]; exact e6), if_neg (by decide)]
        have hup := ag_up (v := t.2.2.1 (t.1 - 1) + 1) b5 (show t.1 - 1 < (mR1.2.2.2.1).length by omega) (by omega)
        rw [if_neg (by omega)] at hup
        exact hih (mR1.1, mR1.2.1, mR1.2.2.1, (mR1.2.2.2.1).set (t.1 - 1) (nI (t.2.2.1 (t.1 - 1) + 1)), nI t.1, mR1.2.2.2.2.2.1, mR1.2.2.2.2.2.2.1, mR1.2.2.2.2.2.2.2.1, mR1.2.2.2.2.2.2.2.2) (by omega) hE1 ⟨⟨p1, p2, by show ((mR1.2.2.2.1).set (t.1 - 1) (nI (t.2.2.1 (t.1 - 1) + 1))).length = 7; rw [List.length_set]; exact p3, p4, p5, p6⟩, b1, b2, rfl, b4, hup⟩ ht1 ht2
      · rw [if_neg eb] at hih
        rw [if_neg eb, if_neg (by decide)]
        simp only [q269_131, q269_132, q269_135, q269_136, q269_139, q269_140, q269_141, q269_142, q269_145, q269_146, q269_149, q269_150, q269_151, q269_152, q269_153, q269_156, q269_157, q269_158, q269_161, q269_162, q269_165, q269_166, q269_167, q269_169, q269_172, q269_173, q269_176, q269_177r, q269_178, q269_179, q269_182, q269_183, q269_186, q269_187, q269_190, q269_191, q269_192, q269_193, q269_194, q269_195, q269_196, q269_197i, q269_200, mg_shown, ma_shown, mb_shown, mn_shown, mg_long7, ma_long7, mb_long7, mn_long7, mg_from7, ma_from7, mb_from7, mn_from7, mg_sentences, mf_sentences, wx_some, wx_ref, isl_i, isl_r, isl_n, hsh, b3, aS_n (show t.1 < (mR1.2.2.1).length by omega) (show (mR1.2.2.1).length < 2 ^ 31 by omega), aS_n (show t.1 < (mR1.2.2.2.1).length by omega) (show (mR1.2.2.2.1).length < 2 ^ 31 by omega), nl_1, nI_add, nI_sub (show 1 ≤ t.1 + 1 by omega), Nat.add_sub_cancel, aG_n (show ((mR1.2.2.2.1).set t.1 0)[t.1]? = some (nI 0) by rw [List.getElem?_set_self (by omega)]; rfl) (show ((mR1.2.2.2.1).set t.1 0).length < 2 ^ 31 by rw [List.length_set]; omega), aS_n (show t.1 < ((mR1.2.2.2.1).set t.1 0).length by rw [List.length_set]; omega) (show ((mR1.2.2.2.1).set t.1 0).length < 2 ^ 31 by rw [List.length_set]; omega)]
        rw [if_neg (by rw [show (6 : Int32) = nI 6 from rfl, nI_eq (by omega) (by omega)]; exact e6), if_neg (by decide)]
        have hu1 := ag_up (v := k) b4 (show t.1 < (mR1.2.2.1).length by omega) (Nat.le_refl _)
        rw [if_pos rfl] at hu1
        have hu2 := ag_up (v := 1) b5 (show t.1 < (mR1.2.2.2.1).length by omega) (Nat.le_refl _)
        rw [if_pos rfl] at hu2
        simp only [List.set_set]
        exact hih (mR1.1, mR1.2.1, (mR1.2.2.1).set t.1 (nI k), (mR1.2.2.2.1).set t.1 (nI 1), nI (t.1 + 1), mR1.2.2.2.2.2.1, mR1.2.2.2.2.2.2.1, mR1.2.2.2.2.2.2.2.1, mR1.2.2.2.2.2.2.2.2) (by omega) hE1 ⟨⟨p1, by show ((mR1.2.2.1).set t.1 (nI k)).length = 7; rw [List.length_set]; exact p2, by show ((mR1.2.2.2.1).set t.1 (nI 1)).length = 7; rw [List.length_set]; exact p3, p4, p5, p6⟩, b1, b2, rfl, hu1, hu2⟩ ht1 ht2
  have key1 : ∀ (a : Nat), a < 10 → (∀ mE1 mR1 l2, ELl mE1 → IVm (PPl s c g (a + 1) 0) mR mR1 → ww (mp_P fx) (d + 4) 269 7 [some (.ref 149), some (.int (nI (a + 1))), l2] [] (pm_h z X Y (pm_l mV mT mQ mO (mE1) mB mS (mR1) mW)) Q) → ∀ (m w : Nat) (mE1 : pm_E) (mR1 : pm_R), w + m = k_nW s → ELl mE1 → IVm (PPl s c g a w) mR mR1 → ww (mp_P fx) (d + 4) 269 15 [some (.ref 149), some (.int (nI a)), some (.int (nI w))] [] (pm_h z X Y (pm_l mV mT mQ mO (mE1) mB mS (mR1) mW)) Q := by
    intro a ha hgo m
    induction m with
    | zero =>
      intro w mE1 mR1 hw hE1 hI
      have hw2 : w = k_nW s := by omega
      subst hw2
      rw [q269_15]
      simp only [q269_16, q269_17, q269_20, q269_21, q269_22, q269_93r, q269_96, mg_square, ma_square, mb_square, mn_square, wx_some, wx_ref, isl_i, isl_r, isl_n, nl_1, nl_3, nI_add, aG_n hn (show (mQ.1).length < 2 ^ 31 by omega)]
      rw [if_pos (by rw [nI_leI (by omega) (by omega)]; omega)]
      apply hgo mE1 mR1 _ hE1
      have : PPl s c g a (k_nW s) = PPl s c g (a + 1) 0 := by unfold PPl; rw [fmp_n]
      rw [← this]; exact hI
    | succ m ih =>
      intro w mE1 mR1 hw hE1 hI
      have hw' : w < k_nW s := by omega
      have hpw := hc.2.2 w hw'
      have hk4 := (ho.2.2.2.1 w hw').1
      have hskip : ¬ (c.2.2 w = a ∧ sp_rd s c 0 g w = true) → ∀ mE2, ELl mE2 → ww (mp_P fx) (d + 4) 269 87 [some (.ref 149), some (.int (nI a)), some (.int (nI w))] [] (pm_h z X Y (pm_l mV mT mQ mO (mE2) mB mS (mR1) mW)) Q := by
        intro hno mE2 hE2
        simp only [q269_87i, q269_90, isl_i, isl_r, isl_n, nl_1, nI_add]
        apply ih (w + 1) mE2 mR1 (by omega) hE2
        rw [PPl_s, if_neg hno, List.append_nil]; exact hI
      rw [q269_15]
      simp only [q269_16, q269_17, q269_20, q269_21, q269_22, q269_25, q269_26, q269_29, q269_30, q269_31, q269_32, q269_33, q269_34, q269_37, q269_38, q269_39, mc_o, mg_square, ma_square, mb_square, mn_square, mg_s, ma_s, mb_s, mn_s, wx_some, wx_ref, nl_2, nl_3, nI_add, aG_n hn (show (mQ.1).length < 2 ^ 31 by omega), aG_n (hat w hw') hs9]
      rw [if_neg (by rw [nI_leI (by omega) (by omega)]; omega)]
      by_cases ea : c.2.2 w = a
      · rw [if_neg (by rw [ea]; exact fun z => z rfl)]
        apply tm_isRead hs hl ho hc hS hE1 hg hw'
        intro mE2 hE2
        simp only [sl_i, q269_42, q269_45]
        by_cases er : sp_rd s c 0 g w = true
        · rw [if_pos er, if_pos (by decide)]
          obtain ⟨⟨p1, p2, p3, p4, p5, p6⟩, b1, b2, b3, b4⟩ := id hI
          have hlen := PPl_len (g := g) hc (show w + 1 ≤ k_nW s by omega) ha
          rw [PPl_s, if_pos ⟨ea, er⟩, List.length_append, List.length_cons, List.length_nil] at hlen
          have hput : ww (mp_P fx) (d + 4) 269 76 [some (.ref 149), some (.int (nI a)), some (.int (nI w))] [.int (nI (sp_show s w)), .int (nI (PPl s c g a w).length), .ref 194] (pm_h z X Y (pm_l mV mT mQ mO (mE2) mB mS (mR1) mW)) Q := by
            simp only [q269_76, q269_77, q269_78, q269_79, q269_82, q269_83, q269_84, q269_87i, q269_90, mg_shown, ma_shown, mb_shown, mn_shown, mg_shownMany, mf_shownMany, wx_some, wx_ref, isl_i, isl_r, isl_n, b1, nl_1, nI_add, aS_n (show (PPl s c g a w).length < (mR1.1).length by omega) (show (mR1.1).length < 2 ^ 31 by omega)]
            refine ih (w + 1) mE2 ((mR1.1).set (PPl s c g a w).length (nI (sp_show s w)), nI ((PPl s c g a w).length + 1), mR1.2.2.1, mR1.2.2.2.1, mR1.2.2.2.2.1, mR1.2.2.2.2.2.1, mR1.2.2.2.2.2.2.1, mR1.2.2.2.2.2.2.2.1, mR1.2.2.2.2.2.2.2.2) (by omega) hE2 ⟨⟨by show ((mR1.1).set (PPl s c g a w).length (nI (sp_show s w))).length = 7; rw [List.length_set]; exact p1, p2, p3, p4, p5, p6⟩, ?_, ?_, b3, b4⟩
            · rw [PPl_s, if_pos ⟨ea, er⟩, List.length_append]; rfl
            · rw [PPl_s, if_pos ⟨ea, er⟩]
              intro j hj
              rw [List.length_append, List.length_cons, List.length_nil] at hj
              show ((mR1.1).set (PPl s c g a w).length (nI (sp_show s w)))[j]? = _
              rw [List.getElem?_set]
              by_cases ej : (PPl s c g a w).length = j
              · rw [if_pos ej, if_pos (by omega)]; simp only []; rw [List.getD, List.getElem?_append_right (by omega), ← ej, Nat.sub_self]; rfl
              · rw [if_neg ej, b2 j (by omega)]; simp only []; rw [List.getD, List.getD, List.getElem?_append_left (by omega)]
          simp only [q269_48, q269_49, q269_52, q269_53, q269_56, q269_57, q269_60, q269_61, q269_62, q269_63, q269_66, q269_68, q269_71, q269_72, q269_73, mc_o, mg_shown, ma_shown, mb_shown, mn_shown, mg_shownMany, mf_shownMany, mg_kind, ma_kind, mb_kind, mn_kind, wx_some, wx_ref, b1, ag_G hkd (show (mQ.2.2.2.2.2.2.1).length < 2 ^ 31 by omega) hw']
          by_cases ek : k_kd s w = 1
          · rw [if_neg (by rw [ek]; exact fun z => z rfl)]
            have hsw : sp_show s w = 6 := by unfold sp_show; rw [if_pos ek]
            rw [hsw] at hput
            exact hput
          · rw [if_pos (by rw [nl_1, nI_eq (by omega) (by omega)]; exact ek)]
            apply tm_colourRead hs ho hw' ek
            simp only [sl_i]
            exact hput
        · rw [if_neg er, if_neg (by decide)]
          exact hskip (fun z => er z.2) mE2 hE2
      · rw [if_pos (by rw [nI_eq (by omega) (by omega)]; exact ea)]
        exact hskip (fun z => ea z.1) mE1 hE1
  have key2 : ∀ (m a : Nat) (l2 : Option Value) (mE1 : pm_E) (mR1 : pm_R), a + m = 10 → ELl mE1 → IVm (PPl s c g a 0) mR mR1 → ww (mp_P fx) (d + 4) 269 7 [some (.ref 149), some (.int (nI a)), l2] [] (pm_h z X Y (pm_l mV mT mQ mO (mE1) mB mS (mR1) mW)) Q := by
    intro m
    induction m with
    | zero =>
      intro a l2 mE1 mR1 ha hE1 hI
      have ha2 : a = 10 := by omega
      subst ha2
      have hpl : PPl s c g 10 0 = sp_list s c 0 g := by unfold PPl sp_list; rw [fmp_10]
      rw [hpl] at hI
      obtain ⟨hr, b1, b2, b3, b4⟩ := hI
      rw [q269_7]
      simp only [q269_8, q269_10, q269_99, q269_100, q269_101, q269_104, q269_105r, q269_106, q269_107i, mg_sentences, mf_sentences, wx_some, wx_ref, isl_i, isl_r, isl_n]
      rw [if_pos (by decide)]
      exact key3 (sp_list s c 0 g).length 0 mE1 (mR1.1, mR1.2.1, mR1.2.2.1, mR1.2.2.2.1, 0, mR1.2.2.2.2.2.1, mR1.2.2.2.2.2.2.1, mR1.2.2.2.2.2.2.2.1, mR1.2.2.2.2.2.2.2.2) (by omega) hE1 ⟨hr, b1, b2, rfl, fun i hi => absurd hi (Nat.not_lt_zero _), fun i hi => absurd hi (Nat.not_lt_zero _)⟩ b3 b4
    | succ m ih =>
      intro a l2 mE1 mR1 ha hE1 hI
      rw [q269_7]
      simp only [q269_8, q269_10, q269_13, q269_14i, isl_i, isl_r, isl_n]
      rw [nl_10, if_neg (by rw [nI_leI (by omega) (by omega)]; omega)]
      exact key1 a (by omega) (fun mE1 mR1 l2 h1 h2 => ih (a + 1) l2 mE1 mR1 (by omega) h1 h2) (k_nW s) 0 mE1 mR1 (by omega) hE1 hI
  simp only [e269, q269_0, q269_1, q269_2, q269_5, q269_6r, mg_shownMany, mf_shownMany, wx_some, wx_ref, isl_i, isl_r, isl_n]
  exact key2 10 0 _ mE (mR.1, 0, mR.2.2.1, mR.2.2.2.1, mR.2.2.2.2.1, mR.2.2.2.2.2.1, mR.2.2.2.2.2.2.1, mR.2.2.2.2.2.2.2.1, mR.2.2.2.2.2.2.2.2) (by omega) hE ⟨⟨r1, r2, r3, r4, r5, r6⟩, rfl, fun i hi => absurd hi (Nat.not_lt_zero _), rfl, rfl⟩
end MO
