/-! names, of the model -/
section MN
variable {fx : List Value → mm_H → Option (List Value × mm_H)} {z : Nat} {X Y : Nat → mm_C} {mV : pm_V} {mT : pm_T} {mQ : pm_Q} {mO : pm_O} {mE : pm_E} {mB : pm_B} {mS : pm_S} {mR : pm_R} {mW : pm_W} {m_thrown : Int32} {m_given : Int32} {m_fresh : Int64} {m_code : Int32} {m_taped : Int32} {m_tape : List Int32} {m_size : Int32} {m_place : Int32} {m_begin : Int32} {m_token : Int32} {m_word : Int64} {m_told : Int32} {m_wrong : Int32} {m_square : List Int32} {m_sortName : List Int64} {m_colourName : List Int64} {m_walkerName : List Int64} {m_sortOf : List Int32} {m_rules : List Int32} {m_kind : List Int32} {m_colour : List Int32} {m_atTold : List Int32} {m_goesMany : List Int32} {m_goes : List Int32} {m_gusts : List Int32} {m_lineFrom : List Int32} {m_lineTo : List Int32} {m_codes : List Int32} {m_opened : List Int32} {m_compared : List Int32} {m_kept : List Int32} {m_keptBy : List Int32} {m_ahead : List Int32} {m_against : List Int32} {m_sum : List Int32} {m_sumBy : List Int32} {m_term : List Int32} {m_termBy : List Int32} {m_byNot : List Int32} {m_valueOf : List Int32} {m_lines : List Int32} {m_lineWhat : List Int32} {m_lineA : List Int32} {m_lineB : List Int32} {m_wishes : List Int32} {m_wishOf : List Int32} {m_seens : List Int32} {m_seenAt : List Int32} {m_seenIn : List Int32} {m_seenThere : List Int32} {m_s : List Int32} {m_aside : List Int32} {m_before : List Int32} {m_marked : List Int32} {m_undone : List Int32} {m_isLaid : List Int32} {m_done : Int32} {m_gustNow : Int32} {m_shown : List Int32} {m_shownMany : Int32} {m_from7 : List Int32} {m_long7 : List Int32} {m_sentences : Int32} {m_text7 : List Int32} {m_textMany : Int32} {m_waysOf : List Int32} {m_rowOf : List Int32} {m_row : List Int32} {m_bestRow : List Int32} {m_leastSteps : Int32} {m_steps10 : List Int32} {m_placeIn : List Int32} {m_g : Int64}
variable {d : Nat} {Q : Option Value → mm_H → Prop} {tp : List Nat} {k : Nat} {nm : NMs} {s : SQ}
theorem tm_sortNamed {r m : Nat} {f : Nat → List Nat} {l : List Nat} (hr : r < 2) (hm : m ≤ 6) (hql : (mQ.1).length = 12) (hnl : (mQ.2.1).length = 12) (hsq : (mQ.1)[6 * r + 0]? = some (nI m)) (hx : ∀ i, i < m → (mQ.2.1)[6 * r + i]? = some (w_m (f i))) (hwd : mT.2.2.2.2.2.2.1 = w_m l) (hl : wfl l) (hf : ∀ i, i < m → wfl (f i)) (hq : Q (some (.int (io (ffl (fun i => decide (f i = l)) m)))) (pm_h z X Y (pm_l mV mT mQ mO mE mB mS mR mW))) : wm (mp_P fx) d 229 [.ref 149, .int (nI r)] (pm_h z X Y (pm_l mV mT mQ mO mE mB mS mR mW)) Q := by
  have key : ∀ (t i : Nat), i + t = m → (∀ j, j < i → ¬ f j = l) → ww (mp_P fx) d 229 5 [some (.ref 149), some (.int (nI r)), some (.int (nI (6 * r + i)))] [] (pm_h z X Y (pm_l mV mT mQ mO mE mB mS mR mW)) Q := by
    intro t
    induction t with
    | zero =>
      intro i hi hno
      rw [q229_5]
      simp only [q229_6, q229_8, q229_9, q229_10, q229_11, q229_14, q229_16, q229_17, q229_18, q229_19, q229_20, q229_21, q229_22, q229_52, q229_53, mc_o, mg_square, ma_square, mb_square, mn_square, wx_some, wx_ref, show (6 : Int32) = nI 6 from rfl, show (7 : Int32) = nI 7 from rfl, pk_mul, show (0 : Int32) = nI 0 from rfl, nI_add, aG_n hsq (show (mQ.1).length < 2 ^ 31 by omega)]
      rw [if_pos (by rw [nI_leI (by omega) (by omega)]; omega)]
      rw [ffl_none _ (fun j hj => decide_eq_false (hno j (by omega)))] at hq
      exact hq
    | succ t ih =>
      intro i hi hno
      have hfi := hf i (by omega)
      rw [q229_5]
      simp only [q229_6, q229_8, q229_9, q229_10, q229_11, q229_14, q229_16, q229_17, q229_18, q229_19, q229_20, q229_21, q229_22, q229_25, q229_26, q229_29, q229_30, q229_31, q229_32, q229_35, q229_36, q229_46i, q229_49, mc_o, mg_square, ma_square, mb_square, mn_square, mg_sortName, ma_sortName, mb_sortName, mn_sortName, mg_word, mf_word, wx_some, wx_ref, isl_i, isl_r, isl_n, show (6 : Int32) = nI 6 from rfl, show (7 : Int32) = nI 7 from rfl, pk_mul, show (0 : Int32) = nI 0 from rfl, nI_add, aG_n hsq (show (mQ.1).length < 2 ^ 31 by omega), aG_n (hx i (by omega)) (show (mQ.2.1).length < 2 ^ 31 by omega), hwd, nI_1]
      rw [if_neg (by rw [nI_leI (by omega) (by omega)]; omega)]
      by_cases e : f i = l
      · rw [if_neg (fun y => y ((lg_cmp_eq _ _).mpr (by rw [e])))]
        rw [ffl_at (fun j hj => decide_eq_false (hno j hj)) (decide_eq_true e) m (by omega)] at hq
        simp only [q229_39, q229_40, q229_42, q229_43, q229_44, q229_45, show (6 : Int32) = nI 6 from rfl, show (7 : Int32) = nI 7 from rfl, pk_mul, nI_sub (show 6 * r ≤ 6 * r + i by omega), show 6 * r + i - 6 * r = i by omega]
        exact hq
      · have hne : ¬ lg_cmp (w_m (f i)) (w_m l) = 0 := fun y => e ((w_m_inj hfi.2 hl.2 hfi.1 hl.1).mp ((lg_cmp_eq _ _).mp y))
        first | rw [if_pos hne] | rw [if_pos (show ¬ lg_cmp (w_m (f i)) (w_m l) = nI 0 from hne)]
        have := ih (i + 1) (by omega) (fun j hj => by
          by_cases ej : j = i
          · subst ej; exact e
          · exact hno j (by omega))
        exact this
  simp only [e229, q229_0, q229_2, q229_3, q229_4i, isl_i, isl_r, isl_n, show (6 : Int32) = nI 6 from rfl, show (7 : Int32) = nI 7 from rfl, pk_mul]
  exact key m 0 (by omega) (fun j hj => by omega)
theorem tm_colourNamed {r m : Nat} {f : Nat → List Nat} {l : List Nat} (hr : r < 2) (hm : m ≤ 6) (hql : (mQ.1).length = 12) (hnl : (mQ.2.2.1).length = 12) (hsq : (mQ.1)[6 * r + 1]? = some (nI m)) (hx : ∀ i, i < m → (mQ.2.2.1)[6 * r + i]? = some (w_m (f i))) (hwd : mT.2.2.2.2.2.2.1 = w_m l) (hl : wfl l) (hf : ∀ i, i < m → wfl (f i)) (hq : Q (some (.int (io (ffl (fun i => decide (f i = l)) m)))) (pm_h z X Y (pm_l mV mT mQ mO mE mB mS mR mW))) : wm (mp_P fx) d 230 [.ref 149, .int (nI r)] (pm_h z X Y (pm_l mV mT mQ mO mE mB mS mR mW)) Q := by
  have key : ∀ (t i : Nat), i + t = m → (∀ j, j < i → ¬ f j = l) → ww (mp_P fx) d 230 5 [some (.ref 149), some (.int (nI r)), some (.int (nI (6 * r + i)))] [] (pm_h z X Y (pm_l mV mT mQ mO mE mB mS mR mW)) Q := by
    intro t
    induction t with
    | zero =>
      intro i hi hno
      rw [q230_5]
      simp only [q230_6, q230_8, q230_9, q230_10, q230_11, q230_14, q230_16, q230_17, q230_18, q230_19, q230_20, q230_21, q230_22, q230_52, q230_53, mc_o, mg_square, ma_square, mb_square, mn_square, wx_some, wx_ref, show (6 : Int32) = nI 6 from rfl, show (7 : Int32) = nI 7 from rfl, pk_mul, show (1 : Int32) = nI 1 from rfl, nI_add, aG_n hsq (show (mQ.1).length < 2 ^ 31 by omega)]
      rw [if_pos (by rw [nI_leI (by omega) (by omega)]; omega)]
      rw [ffl_none _ (fun j hj => decide_eq_false (hno j (by omega)))] at hq
      exact hq
    | succ t ih =>
      intro i hi hno
      have hfi := hf i (by omega)
      rw [q230_5]
      simp only [q230_6, q230_8, q230_9, q230_10, q230_11, q230_14, q230_16, q230_17, q230_18, q230_19, q230_20, q230_21, q230_22, q230_25, q230_26, q230_29, q230_30, q230_31, q230_32, q230_35, q230_36, q230_46i, q230_49, mc_o, mg_square, ma_square, mb_square, mn_square, mg_colourName, ma_colourName, mb_colourName, mn_colourName, mg_word, mf_word, wx_some, wx_ref, isl_i, isl_r, isl_n, show (6 : Int32) = nI 6 from rfl, show (7 : Int32) = nI 7 from rfl, pk_mul, show (1 : Int32) = nI 1 from rfl, nI_add, aG_n hsq (show (mQ.1).length < 2 ^ 31 by omega), aG_n (hx i (by omega)) (show (mQ.2.2.1).length < 2 ^ 31 by omega), hwd, nI_1]
      rw [if_neg (by rw [nI_leI (by omega) (by omega)]; omega)]
      by_cases e : f i = l
      · rw [if_neg (fun y => y ((lg_cmp_eq _ _).mpr (by rw [e])))]
        rw [ffl_at (fun j hj => decide_eq_false (hno j hj)) (decide_eq_true e) m (by omega)] at hq
        simp only [q230_39, q230_40, q230_42, q230_43, q230_44, q230_45, show (6 : Int32) = nI 6 from rfl, show (7 : Int32) = nI 7 from rfl, pk_mul, nI_sub (show 6 * r ≤ 6 * r + i by omega), show 6 * r + i - 6 * r = i by omega]
        exact hq
      · have hne : ¬ lg_cmp (w_m (f i)) (w_m l) = 0 := fun y => e ((w_m_inj hfi.2 hl.2 hfi.1 hl.1).mp ((lg_cmp_eq _ _).mp y))
        first | rw [if_pos hne] | rw [if_pos (show ¬ lg_cmp (w_m (f i)) (w_m l) = nI 0 from hne)]
        have := ih (i + 1) (by omega) (fun j hj => by
          by_cases ej : j = i
          · subst ej; exact e
          · exact hno j (by omega))
        exact this
  simp only [e230, q230_0, q230_2, q230_3, q230_4i, isl_i, isl_r, isl_n, show (6 : Int32) = nI 6 from rfl, show (7 : Int32) = nI 7 from rfl, pk_mul]
  exact key m 0 (by omega) (fun j hj => by omega)
theorem tm_walkerNamed {r m : Nat} {f : Nat → List Nat} {l : List Nat} (hr : r < 2) (hm : m ≤ 7) (hql : (mQ.1).length = 12) (hnl : (mQ.2.2.2.1).length = 14) (hsq : (mQ.1)[6 * r + 3]? = some (nI m)) (hx : ∀ i, i < m → (mQ.2.2.2.1)[7 * r + i]? = some (w_m (f i))) (hwd : mT.2.2.2.2.2.2.1 = w_m l) (hl : wfl l) (hf : ∀ i, i < m → wfl (f i)) (hq : Q (some (.int (io (ffl (fun i => decide (f i = l)) m)))) (pm_h z X Y (pm_l mV mT mQ mO mE mB mS mR mW))) : wm (mp_P fx) d 231 [.ref 149, .int (nI r)] (pm_h z X Y (pm_l mV mT mQ mO mE mB mS mR mW)) Q := by
  have key : ∀ (t i : Nat), i + t = m → (∀ j, j < i → ¬ f j = l) → ww (mp_P fx) d 231 5 [some (.ref 149), some (.int (nI r)), some (.int (nI (7 * r + i)))] [] (pm_h z X Y (pm_l mV mT mQ mO mE mB mS mR mW)) Q := by
    intro t
    induction t with
    | zero =>
      intro i hi hno
      rw [q231_5]
      simp only [q231_6, q231_8, q231_9, q231_10, q231_11, q231_14, q231_16, q231_17, q231_18, q231_19, q231_20, q231_21, q231_22, q231_52, q231_53, mc_o, mg_square, ma_square, mb_square, mn_square, wx_some, wx_ref, show (6 : Int32) = nI 6 from rfl, show (7 : Int32) = nI 7 from rfl, pk_mul, show (3 : Int32) = nI 3 from rfl, nI_add, aG_n hsq (show (mQ.1).length < 2 ^ 31 by omega)]
      rw [if_pos (by rw [nI_leI (by omega) (by omega)]; omega)]
      rw [ffl_none _ (fun j hj => decide_eq_false (hno j (by omega)))] at hq
      exact hq
    | succ t ih =>
      intro i hi hno
      have hfi := hf i (by omega)
      rw [q231_5]
      simp only [q231_6, q231_8, q231_9, q231_10, q231_11, q231_14, q231_16, q231_17, q231_18, q231_19, q231_20, q231_21, q231_22, q231_25, q231_26, q231_29, q231_30, q231_31, q231_32, q231_35, q231_36, q231_46i, q231_49, mc_o, mg_square, ma_square, mb_square, mn_square, mg_walkerName, ma_walkerName, mb_walkerName, mn_walkerName, mg_word, mf_word, wx_some, wx_ref, isl_i, isl_r, isl_n, show (6 : Int32) = nI 6 from rfl, show (7 : Int32) = nI 7 from rfl, pk_mul, show (3 : Int32) = nI 3 from rfl, nI_add, aG_n hsq (show (mQ.1).length < 2 ^ 31 by omega), aG_n (hx i (by omega)) (show (mQ.2.2.2.1).length < 2 ^ 31 by omega), hwd, nI_1]
      rw [if_neg (by rw [nI_leI (by omega) (by omega)]; omega)]
      by_cases e : f i = l
      · rw [if_neg (fun y => y ((lg_cmp_eq _ _).mpr (by rw [e])))]
        rw [ffl_at (fun j hj => decide_eq_false (hno j hj)) (decide_eq_true e) m (by omega)] at hq
        simp only [q231_39, q231_40, q231_42, q231_43, q231_44, q231_45, show (6 : Int32) = nI 6 from rfl, show (7 : Int32) = nI 7 from rfl, pk_mul, nI_sub (show 7 * r ≤ 7 * r + i by omega), show 7 * r + i - 7 * r = i by omega]
        exact hq
      · have hne : ¬ lg_cmp (w_m (f i)) (w_m l) = 0 := fun y => e ((w_m_inj hfi.2 hl.2 hfi.1 hl.1).mp ((lg_cmp_eq _ _).mp y))
        first | rw [if_pos hne] | rw [if_pos (show ¬ lg_cmp (w_m (f i)) (w_m l) = nI 0 from hne)]
        have := ih (i + 1) (by omega) (fun j hj => by
          by_cases ej : j = i
          · subst ej; exact e
          · exact hno j (by omega))
        exact this
  simp only [e231, q231_0, q231_2, q231_3, q231_4i, isl_i, isl_r, isl_n, show (6 : Int32) = nI 6 from rfl, show (7 : Int32) = nI 7 from rfl, pk_mul]
  exact key m 0 (by omega) (fun j hj => by omega)
def QLm (mQ : pm_Q) : Prop := (mQ.1).length = 12 ∧ (mQ.2.1).length = 12 ∧ (mQ.2.2.1).length = 12 ∧ (mQ.2.2.2.1).length = 14 ∧ (mQ.2.2.2.2.1).length = 12 ∧ (mQ.2.2.2.2.2.1).length = 24 ∧ (mQ.2.2.2.2.2.2.1).length = 14 ∧ (mQ.2.2.2.2.2.2.2.1).length = 14 ∧ (mQ.2.2.2.2.2.2.2.2.1).length = 14 ∧ (mQ.2.2.2.2.2.2.2.2.2.1).length = 14 ∧ (mQ.2.2.2.2.2.2.2.2.2.2.1).length = 84 ∧ (mQ.2.2.2.2.2.2.2.2.2.2.2.1).length = 16 ∧ (mQ.2.2.2.2.2.2.2.2.2.2.2.2.1).length = 2 ∧ (mQ.2.2.2.2.2.2.2.2.2.2.2.2.2.1).length = 2 ∧ (mQ.2.2.2.2.2.2.2.2.2.2.2.2.2.2).length = 2000
/-- the row told stays -/
def R0m (a mQ : pm_Q) : Prop := (∀ i, i < 6 → (mQ.1)[i]? = (a.1)[i]?) ∧ (∀ i, i < 6 → (mQ.2.1)[i]? = (a.2.1)[i]?) ∧ (∀ i, i < 6 → (mQ.2.2.1)[i]? = (a.2.2.1)[i]?) ∧ (∀ i, i < 7 → (mQ.2.2.2.1)[i]? = (a.2.2.2.1)[i]?) ∧ (∀ i, i < 6 → (mQ.2.2.2.2.1)[i]? = (a.2.2.2.2.1)[i]?) ∧ (∀ i, i < 12 → (mQ.2.2.2.2.2.1)[i]? = (a.2.2.2.2.2.1)[i]?) ∧ (∀ i, i < 7 → (mQ.2.2.2.2.2.2.1)[i]? = (a.2.2.2.2.2.2.1)[i]?) ∧ (∀ i, i < 7 → (mQ.2.2.2.2.2.2.2.1)[i]? = (a.2.2.2.2.2.2.2.1)[i]?) ∧ (∀ i, i < 7 → (mQ.2.2.2.2.2.2.2.2.1)[i]? = (a.2.2.2.2.2.2.2.2.1)[i]?) ∧ (∀ i, i < 7 → (mQ.2.2.2.2.2.2.2.2.2.1)[i]? = (a.2.2.2.2.2.2.2.2.2.1)[i]?) ∧ (∀ i, i < 42 → (mQ.2.2.2.2.2.2.2.2.2.2.1)[i]? = (a.2.2.2.2.2.2.2.2.2.2.1)[i]?) ∧ (∀ i, i < 8 → (mQ.2.2.2.2.2.2.2.2.2.2.2.1)[i]? = (a.2.2.2.2.2.2.2.2.2.2.2.1)[i]?) ∧ ((mQ.2.2.2.2.2.2.2.2.2.2.2.2.1)[0]? = (a.2.2.2.2.2.2.2.2.2.2.2.2.1)[0]? ∧ (mQ.2.2.2.2.2.2.2.2.2.2.2.2.2.1)[0]? = (a.2.2.2.2.2.2.2.2.2.2.2.2.2.1)[0]? ∧ ∀ i, i < 1000 → (mQ.2.2.2.2.2.2.2.2.2.2.2.2.2.2)[i]? = (a.2.2.2.2.2.2.2.2.2.2.2.2.2.2)[i]?)
theorem KM_R0 {a : pm_Q} (h : KM nm s a) (hR : R0m a mQ) (hl : QLm mQ) : KM nm s mQ := by
  obtain ⟨⟨-, ⟨b1, b2, b3, b4, b5⟩, ⟨y, b6, b7⟩, ⟨c1, c2, c3, c4, c5, c6, c7⟩, c8⟩, ⟨ff, n, cs, e1, e2, e3, e4, e5, e6, e7⟩, ho, n1, n2, n3⟩ := h
  obtain ⟨r1, r2, r3, r4, r5, r6, r7, r8, r9, r10, r11, r12, r13, r14, r15⟩ := hR
  obtain ⟨h1, h2, h3, h4, h5⟩ := ho.1
  refine ⟨⟨hl, ⟨(r1 0 (by omega)).trans b1, (r1 1 (by omega)).trans b2, (r1 2 (by omega)).trans b3, (r1 3 (by omega)).trans b4, (r1 5 (by omega)).trans b5⟩, ⟨y, (r1 4 (by omega)).trans b6, b7⟩, ⟨fun i hi => (r5 i (by omega)).trans (c1 i hi), fun i hi => (r6 i (by omega)).trans (c2 i hi), fun i hi => (r7 i (by omega)).trans (c3 i hi), fun i hi => (r8 i (by omega)).trans (c4 i hi), fun i hi => (r9 i (by omega)).trans (c5 i hi), fun i hi => (r10 i (by omega)).trans (c6 i hi), fun i hi => (r12 i (by omega)).trans (c7 i hi)⟩, fun w hw i hi => ?_⟩, ⟨ff, n, cs, e1, e2, r13.trans e3, r14.trans e4, fun j hj => ⟨(r15 _ (by omega)).trans (e5 j hj).1, (e5 j hj).2⟩, e6, e7⟩, ho, fun i hi => (r2 i (by omega)).trans (n1 i hi), fun i hi => (r3 i (by omega)).trans (n2 i hi), fun i hi => (r4 i (by omega)).trans (n3 i hi)⟩
  have := (ho.2.2.2.1 w hw).2.2.2.1.2
  exact (r11 _ (by omega)).trans (c8 w hw i hi)
theorem R0m_rfl {a : pm_Q} : R0m a a := ⟨fun _ _ => rfl, fun _ _ => rfl, fun _ _ => rfl, fun _ _ => rfl, fun _ _ => rfl, fun _ _ => rfl, fun _ _ => rfl, fun _ _ => rfl, fun _ _ => rfl, fun _ _ => rfl, fun _ _ => rfl, fun _ _ => rfl, rfl, rfl, fun _ _ => rfl⟩
/-- the draft, of the model -/
def S1m (s : SQ) (mQ : pm_Q) : Prop := ((mQ.1)[6]? = some (nI (k_nS s)) ∧ (mQ.1)[7]? = some (nI (k_nC s)) ∧ (mQ.1)[8]? = some (nI (k_nR s)) ∧ (mQ.1)[9]? = some (nI (k_nW s)) ∧ (mQ.1)[11]? = some (nI (k_nG s))) ∧ (∀ i, i < k_nC s → (mQ.2.2.2.2.1)[6 + i]? = some (nI (k_cs s i))) ∧ (∀ i, i < k_nR s → (mQ.2.2.2.2.2.1)[12 + i]? = some (nI (36 * k_rm s i + 6 * k_rf s i + k_rs s i))) ∧ (∀ w, w < k_nW s → (mQ.2.2.2.2.2.2.1)[7 + w]? = some (nI (k_kd s w)) ∧ (mQ.2.2.2.2.2.2.2.1)[7 + w]? = some (nI (k_wc s w)) ∧ (mQ.2.2.2.2.2.2.2.2.1)[7 + w]? = some (nI (k_st s w)) ∧ (mQ.2.2.2.2.2.2.2.2.2.1)[7 + w]? = some (nI (k_sc s w)) ∧ ∀ i, i < k_sc s w → (mQ.2.2.2.2.2.2.2.2.2.2.1)[42 + 6 * w + i]? = some (nI (k_sr s w i))) ∧ (∀ i, i < k_nG s → (mQ.2.2.2.2.2.2.2.2.2.2.2.1)[8 + i]? = some (nI (k_gu s i)))
def N1m (nm : NMs) (s : SQ) (mQ : pm_Q) : Prop := (∀ i, i < k_nS s → (mQ.2.1)[6 + i]? = some (w_m (nm 0 i))) ∧ (∀ i, i < k_nC s → (mQ.2.2.1)[6 + i]? = some (w_m (nm 1 i))) ∧ (∀ i, i < k_nW s → (mQ.2.2.2.1)[7 + i]? = some (w_m (nm 2 i)))
def L1m (o : PS) (mQ : pm_Q) : Prop := ∃ (n : Nat) (cs : List Nat), cs.length = n ∧ n ≤ 1000 ∧ (mQ.2.2.2.2.2.2.2.2.2.2.2.2.1)[1]? = some (nI 1000) ∧ (mQ.2.2.2.2.2.2.2.2.2.2.2.2.2.1)[1]? = some (nI (1000 + n)) ∧ (o.2.2.2 = false ↔ n = 0) ∧ (∀ j, j < n → (mQ.2.2.2.2.2.2.2.2.2.2.2.2.2.2)[1000 + j]? = some (nI (cs.getD j 0)) ∧ cs.getD j 0 < 2 ^ 20) ∧ (n = 0 → ∀ a b e f, k_lw o.1 a b e f = f) ∧ (0 < n → ∀ a b e f bn L, ∃ bn' L', lm_run (vl4 a b e f) cs (0, bn, uL L 0 (lv_opens (L 0))) = some (0, bn', L') ∧ lv_t (L' 0) = k_lw o.1 a b e f)
def DRm (o : PS) (mQ : pm_Q) : Prop := QLm mQ ∧ S1m o.1 mQ ∧ N1m o.2.1 o.1 mQ ∧ (mQ.1)[10]? = some (io o.2.2.1) ∧ L1m o mQ
def OKm (tp : List Nat) (j : Nat) (o : PS) (a : pm_Q) (mV : pm_V) (mT : pm_T) (mQ : pm_Q) : Prop := TKm tp j mT ∧ DRm o mQ ∧ PSok o ∧ R0m a mQ ∧ (o.2.2.2 = false → mV.2.2.2 = nI 1000)
def BDm (tp : List Nat) (f : Nat) (a : pm_Q) (mT : pm_T) (mQ : pm_Q) : Prop := ¬ f = 0 ∧ mT.2.2.2.2.2.2.2.2 = nI f ∧ QLm mQ ∧ R0m a mQ ∧ ∃ k, TKm tp k mT
theorem tm_sortN {l : List Nat} (hl : QLm mQ) (hs : S1m s mQ) (ho : k_ok s) (hN : N1m nm s mQ) (hw : nmok nm s) (hwd : mT.2.2.2.2.2.2.1 = w_m l) (hwl : wfl l) (hq : Q (some (.int (io (fnd nm 0 (k_nS s) l)))) (pm_h z X Y (pm_l mV mT mQ mO mE mB mS mR mW))) : wm (mp_P fx) d 229 [.ref 149, .int 1] (pm_h z X Y (pm_l mV mT mQ mO mE mB mS mR mW)) Q :=
  tm_sortNamed (r := 1) (f := nm 0) (by omega) ho.1.1 hl.1 hl.2.1 hs.1.1 hN.1 hwd hwl hw.1 hq
theorem tm_colourN {l : List Nat} (hl : QLm mQ) (hs : S1m s mQ) (ho : k_ok s) (hN : N1m nm s mQ) (hw : nmok nm s) (hwd : mT.2.2.2.2.2.2.1 = w_m l) (hwl : wfl l) (hq : Q (some (.int (io (fnd nm 1 (k_nC s) l)))) (pm_h z X Y (pm_l mV mT mQ mO mE mB mS mR mW))) : wm (mp_P fx) d 230 [.ref 149, .int 1] (pm_h z X Y (pm_l mV mT mQ mO mE mB mS mR mW)) Q :=
  tm_colourNamed (r := 1) (f := nm 1) (by omega) ho.1.2.1 hl.1 hl.2.2.1 hs.1.2.1 hN.2.1 hwd hwl hw.2.1 hq
theorem tm_walkerN {l : List Nat} (hl : QLm mQ) (hs : S1m s mQ) (ho : k_ok s) (hN : N1m nm s mQ) (hw : nmok nm s) (hwd : mT.2.2.2.2.2.2.1 = w_m l) (hwl : wfl l) (hq : Q (some (.int (io (fnd nm 2 (k_nW s) l)))) (pm_h z X Y (pm_l mV mT mQ mO mE mB mS mR mW))) : wm (mp_P fx) d 231 [.ref 149, .int 1] (pm_h z X Y (pm_l mV mT mQ mO mE mB mS mR mW)) Q :=
  tm_walkerNamed (r := 1) (f := nm 2) (by omega) ho.1.2.2.2.1 hl.1 hl.2.2.2.1 hs.1.2.2.2.1 hN.2.2 hwd hwl hw.2.2 hq
theorem TKm_word (h : TKm tp k mT) (h1 : TY tp k = 1) : mT.2.2.2.2.2.2.1 = w_m (LT tp k) := h.1.2.2.2.2.2.1 h1
theorem io_ge {v : Nat} (hv : v < 2 ^ 31) : 0 ≤ io (some v) := by show (0 : Int32) ≤ nI v; rw [nl_0, nI_leI (by omega) hv]; omega
theorem tm_needsNew (h : TKm tp k mT) (hl : QLm mQ) (hs : S1m s mQ) (ho : k_ok s) (hN : N1m nm s mQ) (hw : nmok nm s) (hq1 : isNm tp k → c_new tp nm s k = 0 → ∀ mT', TKm tp (k + 1) mT' → Q (some (.int 1)) (pm_h z X Y (pm_l ((mV.1, mV.2.1, w_m (LT tp k), mV.2.2.2)) (mT') mQ mO mE mB mS mR mW))) (hq0 : ∀ mT' f, c_new tp nm s k = f → ¬ f = 0 → TKm tp k mT' → mT'.2.2.2.2.2.2.2.2 = nI f → Q (some (.int 0)) (pm_h z X Y (pm_l mV (mT') mQ mO mE mB mS mR mW))) : wm (mp_P fx) (d + 2) 227 [.ref 149] (pm_h z X Y (pm_l mV mT mQ mO mE mB mS mR mW)) Q := by
  have h6 := ho.1
  simp only [e227, b227_0, b227_1, bn_0 b227_0, bn_1 b227_1, q227_0, q227_1, mc_o]
  apply tm_isKept h
  · intro y
    unfold c_new at hq0
    rw [if_neg (fun e => y (nmB_t.mp e))] at hq0
    simp only [sl_i, b227_0, b227_1, bn_0 b227_0, bn_1 b227_1, q227_4, q227_7, q227_8]
    rw [if_neg (by decide)]
    simp only [b227_0, b227_1, bn_0 b227_0, bn_1 b227_1, q227_9, mc_o]
    apply tm_fails (kd := 1) h
    intro mT' h1 h2
    simp only [sl_i, b227_0, b227_1, bn_0 b227_0, bn_1 b227_1, q227_12]
    exact hq0 mT' _ rfl (flt_ne (by omega)) h1 h2
  intro y
  have hwd := TKm_word h y.1
  have hwf := isNm_wf y
  unfold c_new at hq1 hq0
  rw [if_pos (nmB_t.mpr y)] at hq1 hq0
  unfold tldB at hq1 hq0
  have bad : ∀ (hh : ((fnd nm 0 (k_nS s) (LT tp k)).isSome || ((fnd nm 1 (k_nC s) (LT tp k)).isSome || (fnd nm 2 (k_nW s) (LT tp k)).isSome)) = true), ww (mp_P fx) (d + 2) 227 37 [some (.ref 149)] [] (pm_h z X Y (pm_l mV mT mQ mO mE mB mS mR mW)) Q := by
    intro hh
    rw [if_pos hh] at hq0
    simp only [b227_0, b227_1, bn_0 b227_0, bn_1 b227_1, q227_37, q227_38, q227_39, mc_o]
    apply tm_fails (kd := 3) h
    intro mT' h1 h2
    simp only [sl_i, b227_0, b227_1, bn_0 b227_0, bn_1 b227_1, q227_42]
    exact hq0 mT' _ rfl (flt_ne (by omega)) h1 h2
  simp only [sl_i, b227_0, b227_1, bn_0 b227_0, bn_1 b227_1, q227_4, b227_0, b227_1, bn_0 b227_0, bn_1 b227_1, q227_13, q227_14, q227_15, mc_o]
  rw [if_pos (by decide)]
  apply tm_sortN hl hs ho hN hw hwd hwf
  simp only [sl_i, b227_0, b227_1, bn_0 b227_0, bn_1 b227_1, q227_18, q227_21, q227_22, q227_23, mc_o]
  cases e : fnd nm 0 (k_nS s) (LT tp k) with
  | some v =>
    have hv := fnd_lt e
    rw [if_pos (io_ge (by omega))]
    exact bad (by rw [e]; rfl)
  | none =>
  rw [if_neg (by decide)]
  apply tm_colourN hl hs ho hN hw hwd hwf
  simp only [sl_i, b227_0, b227_1, bn_0 b227_0, bn_1 b227_1, q227_26, q227_29, q227_30, q227_31, mc_o]
  cases e2 : fnd nm 1 (k_nC s) (LT tp k) with
  | some v =>
    have hv := fnd_lt e2
    rw [if_pos (io_ge (by omega))]
    exact bad (by rw [e, e2]; rfl)
  | none =>
  rw [if_neg (by decide)]
  apply tm_walkerN hl hs ho hN hw hwd hwf
  simp only [sl_i, b227_0, b227_1, bn_0 b227_0, bn_1 b227_1, q227_34, b227_0, b227_1, bn_0 b227_0, bn_1 b227_1, q227_43, q227_44, q227_45, q227_48, q227_51, mc_o, mg_word, mf_word, mg_fresh, mf_fresh, wx_some, wx_ref, hwd]
  cases e3 : fnd nm 2 (k_nW s) (LT tp k) with
  | some v =>
    have hv := fnd_lt e3
    rw [if_neg (Int32.not_lt.mpr (io_ge (by omega)))]
    exact bad (by rw [e, e2, e3]; rfl)
  | none =>
  rw [if_pos (by decide)]
  rw [e, e2, e3, if_neg (fun z => by cases z)] at hq1
  simp only [b227_0, b227_1, bn_0 b227_0, bn_1 b227_1, q227_52, mc_o]
  apply tm_nx h
  intro mT' h1 h2
  simp only [sl_n, b227_0, b227_1, bn_0 b227_0, bn_1 b227_1, q227_55, q227_56]
  exact hq1 y rfl mT' h1
theorem tm_needsSort (h : TKm tp k mT) (hl : QLm mQ) (hs : S1m s mQ) (ho : k_ok s) (hN : N1m nm s mQ) (hw : nmok nm s) (hq1 : isNm tp k → ∀ v, c_named tp nm 0 (k_nS s) k = (0, v) → v < k_nS s → Q (some (.int 1)) (pm_h z X Y (pm_l ((mV.1, nI v, mV.2.2.1, mV.2.2.2)) mT mQ mO mE mB mS mR mW))) (hq0 : ∀ mT' g f, (c_named tp nm 0 (k_nS s) k).1 = f → ¬ f = 0 → TKm tp k mT' → mT'.2.2.2.2.2.2.2.2 = nI f → Q (some (.int 0)) (pm_h z X Y (pm_l ((mV.1, g, mV.2.2.1, mV.2.2.2)) (mT') mQ mO mE mB mS mR mW))) : wm (mp_P fx) (d + 1) 237 [.ref 149] (pm_h z X Y (pm_l mV mT mQ mO mE mB mS mR mW)) Q := by
  have h6 := ho.1
  simp only [e237, b237_0, b237_1, bn_0 b237_0, bn_1 b237_1, q237_0, q237_1, mc_o]
  apply tm_isKept h
  · intro y
    unfold c_named at hq0
    rw [if_neg (fun e => y (nmB_t.mp e))] at hq0
    simp only [sl_i, b237_0, b237_1, bn_0 b237_0, bn_1 b237_1, q237_4, q237_7, q237_8]
    rw [if_neg (by decide)]
    simp only [b237_0, b237_1, bn_0 b237_0, bn_1 b237_1, q237_9, mc_o]
    apply tm_fails (kd := 1) h
    intro mT' h1 h2
    simp only [sl_i, b237_0, b237_1, bn_0 b237_0, bn_1 b237_1, q237_12]
    exact hq0 mT' mV.2.1 _ rfl (flt_ne (by omega)) h1 h2
  intro y
  have hwd := TKm_word h y.1
  have hwf := isNm_wf y
  unfold c_named at hq1 hq0
  rw [if_pos (nmB_t.mpr y)] at hq1 hq0
  simp only [sl_i, b237_0, b237_1, bn_0 b237_0, bn_1 b237_1, q237_4, b237_0, b237_1, bn_0 b237_0, bn_1 b237_1, q237_13, q237_14, q237_15, q237_16, mc_o]
  rw [if_pos (by decide)]
  apply tm_sortN hl hs ho hN hw hwd hwf
  simp only [sl_i, b237_0, b237_1, bn_0 b237_0, bn_1 b237_1, q237_19, q237_22, q237_23, q237_26, q237_29, q237_30, b237_0, b237_1, bn_0 b237_0, bn_1 b237_1, q237_37, q237_38, q237_41, q237_42, b237_0, b237_1, mc_o, mg_given, mf_given, wx_some, wx_ref]
  cases e : fnd nm 0 (k_nS s) (LT tp k) with
  | some v =>
    have hv := fnd_lt e
    rw [e] at hq1
    rw [if_pos (io_ge (by omega))]
    exact hq1 y v rfl hv
  | none =>
    rw [e] at hq0
    rw [if_neg (by decide)]
    simp only [b237_0, b237_1, bn_0 b237_0, bn_1 b237_1, q237_31, mc_o]
    apply tm_fails (kd := 2) h
    intro mT' h1 h2
    simp only [sl_i, b237_0, b237_1, bn_0 b237_0, bn_1 b237_1, q237_34, b237_0, b237_1, bn_0 b237_0, bn_1 b237_1, q237_41, q237_42, b237_0, b237_1]
    rw [if_pos (by decide)]
    exact hq0 mT' _ _ rfl (flt_ne (by omega)) h1 h2
theorem tm_passesSort (h : TKm tp k mT) (hl : QLm mQ) (hs : S1m s mQ) (ho : k_ok s) (hN : N1m nm s mQ) (hw : nmok nm s) (hq1 : isNm tp k → ∀ v mT', c_named tp nm 0 (k_nS s) k = (0, v) → v < k_nS s → TKm tp (k + 1) mT' → Q (some (.int 1)) (pm_h z X Y (pm_l ((mV.1, nI v, mV.2.2.1, mV.2.2.2)) (mT') mQ mO mE mB mS mR mW))) (hq0 : ∀ mT' g f, (c_named tp nm 0 (k_nS s) k).1 = f → ¬ f = 0 → TKm tp k mT' → mT'.2.2.2.2.2.2.2.2 = nI f → Q (some (.int 0)) (pm_h z X Y (pm_l ((mV.1, g, mV.2.2.1, mV.2.2.2)) (mT') mQ mO mE mB mS mR mW))) : wm (mp_P fx) (d + 2) 236 [.ref 149] (pm_h z X Y (pm_l mV mT mQ mO mE mB mS mR mW)) Q := by
  simp only [e236, b236_0, b236_1, bn_0 b236_0, bn_1 b236_1, q236_0, q236_1, mc_o]
  apply tm_needsSort h hl hs ho hN hw
  · intro y v a1 a2
    simp only [sl_i, b236_0, b236_1, bn_0 b236_0, bn_1 b236_1, q236_4, b236_0, b236_1, bn_0 b236_0, bn_1 b236_1, q236_9, q236_10, mc_o]
    rw [if_pos (by decide)]
    apply tm_nx h
    intro mT' h1 h2
    simp only [sl_n, b236_0, b236_1, bn_0 b236_0, bn_1 b236_1, q236_13, q236_14]
    exact hq1 y v mT' a1 a2 h1
  · intro mT' g f a1 a2 a3 a4
    simp only [sl_i, b236_0, b236_1, bn_0 b236_0, bn_1 b236_1, q236_4, q236_7, q236_8]
    rw [if_neg (by decide)]
    exact hq0 mT' g f a1 a2 a3 a4
end MN
