/-! in how many ways, of the model -/
def cm_ (y i k : Nat) : Nat := 49 * y + 7 * i + k
theorem d7 (a b k l : Nat) (h1 : k < 7) (h2 : l < 7) (h : 7 * a + k = 7 * b + l) : a = b ∧ k = l := by omega
theorem cm_inj {y i k y' i' k' : Nat} (h1 : i < 7) (h2 : k < 7) (h3 : i' < 7) (h4 : k' < 7) (h : cm_ y i k = cm_ y' i' k') : y = y' ∧ i = i' ∧ k = k' := by
  unfold cm_ at h
  obtain ⟨a, b⟩ := d7 (7 * y + i) (7 * y' + i') k k' h2 h4 (by omega)
  obtain ⟨c, e⟩ := d7 y y' i i' h1 h3 a
  exact ⟨c, e, b⟩
def WTm (s : SQ) (t : Nat → Nat) (xs : List Int32) (i k : Nat) : Prop := ∀ y, y < 6 → xs[cm_ y i k]? = some (nI (wy s t (k - i) i y))
def wyI (s : SQ) (t : Nat → Nat) (i k y r e : Nat) : Nat := if k_rm s r = y then wy s t e i (k_rf s r) * wy s t (k - i - 1 - e) (i + e + 1) (k_rs s r) else 0
def wJ (s : SQ) (t : Nat → Nat) (i k y r : Nat) : Nat := sm (fun r' => sm (wyI s t i k y r') (k - i)) r
theorem wJ_all {s : SQ} {t : Nat → Nat} {i k y : Nat} (h : i < k) : wJ s t i k y (k_nR s) = wy s t (k - i) i y := by
  unfold wJ wyI
  obtain ⟨n, hn⟩ : ∃ n, k - i = n + 1 := ⟨k - i - 1, by omega⟩
  rw [hn, wy_s, sm_comm, show n + 1 - 1 = n by omega]
def CVm (s : SQ) (t : Nat → Nat) (n : Nat) (dn : Nat → Nat → Prop) (ws : List Int32) : Prop := ws.length = 294 ∧ ∀ i k, i ≤ k → k < n → (dn i k → WTm s t ws i k) ∧ (¬ dn i k → ∀ y, y < 6 → ws[cm_ y i k]? = some (nI 0))
section MW
variable {fx : List Value → mm_H → Option (List Value × mm_H)} {z : Nat} {X Y : Nat → mm_C} {mV : pm_V} {mT : pm_T} {mQ : pm_Q} {mO : pm_O} {mE : pm_E} {mB : pm_B} {mS : pm_S} {mR : pm_R} {mW : pm_W} {m_thrown : Int32} {m_given : Int32} {m_fresh : Int64} {m_code : Int32} {m_taped : Int32} {m_tape : List Int32} {m_size : Int32} {m_place : Int32} {m_begin : Int32} {m_token : Int32} {m_word : Int64} {m_told : Int32} {m_wrong : Int32} {m_square : List Int32} {m_sortName : List Int64} {m_colourName : List Int64} {m_walkerName : List Int64} {m_sortOf : List Int32} {m_rules : List Int32} {m_kind : List Int32} {m_colour : List Int32} {m_atTold : List Int32} {m_goesMany : List Int32} {m_goes : List Int32} {m_gusts : List Int32} {m_lineFrom : List Int32} {m_lineTo : List Int32} {m_codes : List Int32} {m_opened : List Int32} {m_compared : List Int32} {m_kept : List Int32} {m_keptBy : List Int32} {m_ahead : List Int32} {m_against : List Int32} {m_sum : List Int32} {m_sumBy : List Int32} {m_term : List Int32} {m_termBy : List Int32} {m_byNot : List Int32} {m_valueOf : List Int32} {m_lines : List Int32} {m_lineWhat : List Int32} {m_lineA : List Int32} {m_lineB : List Int32} {m_wishes : List Int32} {m_wishOf : List Int32} {m_seens : List Int32} {m_seenAt : List Int32} {m_seenIn : List Int32} {m_seenThere : List Int32} {m_s : List Int32} {m_aside : List Int32} {m_before : List Int32} {m_marked : List Int32} {m_undone : List Int32} {m_isLaid : List Int32} {m_done : Int32} {m_gustNow : Int32} {m_shown : List Int32} {m_shownMany : Int32} {m_from7 : List Int32} {m_long7 : List Int32} {m_sentences : Int32} {m_text7 : List Int32} {m_textMany : Int32} {m_waysOf : List Int32} {m_rowOf : List Int32} {m_row : List Int32} {m_bestRow : List Int32} {m_leastSteps : Int32} {m_steps10 : List Int32} {m_placeIn : List Int32} {m_g : Int64}
variable {d : Nat} {Q : Option Value → mm_H → Prop} {s : SQ} {t : Nat → Nat}
theorem tm_joins {r i k : Nat} {ws : List Int32} (ho : k_ok s) (hr : r < k_nR s) (hik : i < k) (hk : k < 7) (hwl : ws.length = 294) (hin : ∀ i' k', i ≤ i' → i' ≤ k' → k' ≤ k → k' - i' < k - i → WTm s t ws i' k') (hc : ∀ y, y < 6 → ws[cm_ y i k]? = some (nI (wJ s t i k y r)))
    (hq : ∀ ws', ws'.length = 294 → (∀ y, y < 6 → ws'[cm_ y i k]? = some (nI (wJ s t i k y (r + 1)))) → (∀ j, (∀ y, y < 6 → ¬ j = cm_ y i k) → ws'[j]? = ws[j]?) → Q none (pm_h z X Y (pm_l mV mT mQ mO mE mB mS ((mR.1, mR.2.1, mR.2.2.1, mR.2.2.2.1, mR.2.2.2.2.1, mR.2.2.2.2.2.1, mR.2.2.2.2.2.2.1, ws', mR.2.2.2.2.2.2.2.2)) mW))) :
    wm (mp_P fx) d 280 [.ref 149, .int (nI (36 * k_rm s r + 6 * k_rf s r + k_rs s r)), .int (nI i), .int (nI k)] (pm_h z X Y (pm_l mV mT mQ mO mE mB mS ((mR.1, mR.2.1, mR.2.2.1, mR.2.2.2.1, mR.2.2.2.2.1, mR.2.2.2.2.2.1, mR.2.2.2.2.2.2.1, ws, mR.2.2.2.2.2.2.2.2)) mW)) Q := by
  have hS6 := ho.1.1
  obtain ⟨r1, r2, r3⟩ := ho.2.2.1 r hr
  have j1 : nI (36 * k_rm s r + 6 * k_rf s r + k_rs s r) / 36 = nI (k_rm s r) := by
    rw [show (36 : Int32) = nI 36 from rfl, pk_div (by omega) (by omega) (by omega)]; congr 1; omega
  have j2 : nI (36 * k_rm s r + 6 * k_rf s r + k_rs s r) / 6 - nI (36 * k_rm s r + 6 * k_rf s r + k_rs s r) / 6 / 6 * 6 = nI (k_rf s r) := by
    rw [show (6 : Int32) = nI 6 from rfl, pk_div (by omega) (by omega) (by omega), nI_mod (by omega) (by omega) (by omega)]; congr 1; omega
  have j3 : nI (36 * k_rm s r + 6 * k_rf s r + k_rs s r) - nI (36 * k_rm s r + 6 * k_rf s r + k_rs s r) / 6 * 6 = nI (k_rs s r) := by
    rw [show (6 : Int32) = nI 6 from rfl, nI_mod (by omega) (by omega) (by omega)]; congr 1; omega
  simp only [e280, q280_0, q280_2, q280_3, q280_5, q280_6, q280_7i, q280_9, q280_11, q280_12, q280_14, q280_15, q280_17, q280_18, q280_19i, q280_21, q280_23, q280_24, q280_26, q280_27, q280_28i, q280_30, q280_31i, isl_i, isl_r, isl_n, if_neg (show ¬ (36 : Int32) = 0 by decide), if_neg (show ¬ (6 : Int32) = 0 by decide), j1, j2, j3, show (49 : Int32) = nI 49 from rfl, pk_mul]
  have key : ∀ (m e : Nat) (ws1 : List Int32), e + m = k - i → ws1.length = 294 → (∀ y, y < 6 → ws1[cm_ y i k]? = some (nI (wJ s t i k y r + sm (wyI s t i k y r) e))) → (∀ j, (∀ y, y < 6 → ¬ j = cm_ y i k) → ws1[j]? = ws[j]?) → ww (mp_P fx) d 280 33 [some (.ref 149), some (.int (nI (36 * k_rm s r + 6 * k_rf s r + k_rs s r))), some (.int (nI i)), some (.int (nI k)), some (.int (nI (49 * k_rm s r))), some (.int (nI (49 * k_rf s r))), some (.int (nI (49 * k_rs s r))), some (.int (nI (i + e)))] [] (pm_h z X Y (pm_l mV mT mQ mO mE mB mS ((mR.1, mR.2.1, mR.2.2.1, mR.2.2.2.1, mR.2.2.2.2.1, mR.2.2.2.2.2.1, mR.2.2.2.2.2.2.1, ws1, mR.2.2.2.2.2.2.2.2)) mW)) Q := by
    intro m
    induction m with
    | zero =>
      intro e ws1 he h1 h2 h3
      rw [q280_33]
      simp only [q280_35, q280_36, q280_95]
      rw [if_pos (by rw [nI_leI (by omega) (by omega)]; omega)]
      refine hq ws1 h1 (fun y hy => ?_) h3
      rw [h2 y hy, show e = k - i by omega]; rfl
    | succ m ih =>
      intro e ws1 he h1 h2 h3
      have hws1 : ws1.length < 2 ^ 31 := by omega
      have v3 := h2 (k_rm s r) (by omega)
      have v1 := hin i (i + e) (Nat.le_refl _) (by omega) (by omega) (by omega) (k_rf s r) (by omega)
      have v2 := hin (i + e + 1) k (by omega) (by omega) (Nat.le_refl _) (by omega) (k_rs s r) (by omega)
      rw [← h3 _ (fun y hy => by unfold cm_; omega)] at v1
      rw [← h3 _ (fun y hy => by unfold cm_; omega)] at v2
      rw [show i + e - i = e by omega] at v1
      rw [show k - (i + e + 1) = k - i - 1 - e by omega] at v2
      rw [q280_33]
      simp only [q280_35, q280_36, q280_39, q280_40, q280_43, q280_45, q280_47, q280_48, q280_49, q280_50, q280_51, q280_52, q280_53, q280_54, q280_55, q280_58, q280_60, q280_62, q280_63, q280_64, q280_65, q280_67, q280_68, q280_69, q280_70, q280_73, q280_75, q280_77, q280_79, q280_80, q280_81, q280_82, q280_83, q280_84, q280_85, q280_86, q280_87, q280_88, q280_89i, q280_92, mg_waysOf, ma_waysOf, mb_waysOf, mn_waysOf, wx_some, wx_ref, isl_i, isl_r, isl_n, nl_1, nl_7, nI_add, pk_mul, aG_n (show ws1[49 * k_rm s r + 7 * i + k]? = _ from v3) hws1, aG_n (show ws1[49 * k_rf s r + 7 * i + (i + e)]? = _ from v1) hws1, aG_n (show ws1[49 * k_rs s r + 7 * (i + e + 1) + k]? = _ from v2) hws1, aS_n (show 49 * k_rm s r + 7 * i + k < ws1.length by omega) hws1]
      rw [if_neg (by rw [nI_leI (by omega) (by omega)]; omega)]
      refine ih (e + 1) _ (by omega) (by rw [List.length_set]; exact h1) (fun y hy => ?_) (fun j hj => ?_)
      · rw [List.getElem?_set]
        by_cases ey : k_rm s r = y
        · subst ey
          rw [if_pos (show 49 * k_rm s r + 7 * i + k = cm_ (k_rm s r) i k from rfl), if_pos (by omega), sm, show wyI s t i k (k_rm s r) r e = _ from if_pos rfl, Nat.add_assoc]
        · rw [if_neg (by unfold cm_; omega), h2 y hy, sm, show wyI s t i k y r e = 0 from if_neg ey]; rfl
      · rw [List.getElem?_set_ne (show ¬ 49 * k_rm s r + 7 * i + k = j from fun z => hj (k_rm s r) (by omega) z.symm)]
        exact h3 j hj
  exact key (k - i) 0 ws (by omega) hwl hc (fun j _ => rfl)
theorem tm_works {n : Nat} (hs : SQm mQ s) (ho : k_ok s) (hn7 : n ≤ 7) (hR : RLm mR) (htm : mR.2.2.2.2.2.2.1 = nI n) (ht : ∀ j, j < n → (mR.2.2.2.2.2.1)[j]? = some (nI (t j)) ∧ t j < k_nC s)
    (hq : ∀ ws, ws.length = 294 → (∀ i k, i ≤ k → k < n → WTm s t ws i k) → Q none (pm_h z X Y (pm_l mV mT mQ mO mE mB mS ((mR.1, mR.2.1, mR.2.2.1, mR.2.2.2.1, mR.2.2.2.2.1, mR.2.2.2.2.2.1, mR.2.2.2.2.2.2.1, ws, mR.2.2.2.2.2.2.2.2)) mW))) : wm (mp_P fx) (d + 1) 279 [.ref 149] (pm_h z X Y (pm_l mV mT mQ mO mE mB mS mR mW)) Q := by
  have hS6 := ho.1.1
  have hR12 := ho.1.2.2.1
  have hC6 := ho.1.2.1
  have hsl := hs.1.1
  have hnr := hs.2.1.2.2.1
  have hso := hs.2.2.2.1.1
  have hsol := hs.1.2.2.2.2.1
  have hru := hs.2.2.2.1.2.1
  have hrul := hs.1.2.2.2.2.2.1
  obtain ⟨r1, r2, r3, r4, r5, r6⟩ := hR
  -- the rules of a part
  have key5 : ∀ (p i : Nat), 1 ≤ p → i + p < n → (∀ ws, CVm s t n (fun i' k' => k' - i' < p ∨ (k' - i' = p ∧ i' < i + 1)) ws → ∀ l3, ww (mp_P fx) (d + 1) 279 75 [some (.ref 149), some (.int (nI p)), some (.int (nI (i + 1))), l3] [] (pm_h z X Y (pm_l mV mT mQ mO mE mB mS ((mR.1, mR.2.1, mR.2.2.1, mR.2.2.2.1, mR.2.2.2.2.1, mR.2.2.2.2.2.1, mR.2.2.2.2.2.2.1, ws, mR.2.2.2.2.2.2.2.2)) mW)) Q) →
      ∀ (m r : Nat) (ws : List Int32), r + m = k_nR s → ws.length = 294 → (∀ i' k', i' ≤ k' → k' < n → ¬ (i' = i ∧ k' = i + p) → ((k' - i' < p ∨ (k' - i' = p ∧ i' < i)) → WTm s t ws i' k') ∧ (¬ (k' - i' < p ∨ (k' - i' = p ∧ i' < i)) → ∀ y, y < 6 → ws[cm_ y i' k']? = some (nI 0))) → (∀ y, y < 6 → ws[cm_ y i (i + p)]? = some (nI (wJ s t i (i + p) y r))) → ww (mp_P fx) (d + 1) 279 87 [some (.ref 149), some (.int (nI p)), some (.int (nI i)), some (.int (nI r))] [] (pm_h z X Y (pm_l mV mT mQ mO mE mB mS ((mR.1, mR.2.1, mR.2.2.1, mR.2.2.2.1, mR.2.2.2.2.1, mR.2.2.2.2.2.1, mR.2.2.2.2.2.2.1, ws, mR.2.2.2.2.2.2.2.2)) mW)) Q := by
    intro p i hp hip hgo m
    induction m with
    | zero =>
      intro r ws hr hw hI hc
      have hr2 : r = k_nR s := by omega
      subst hr2
      rw [q279_87]
      simp only [q279_88, q279_89, q279_92, q279_93, q279_94, q279_117i, q279_120, mg_square, ma_square, mb_square, mn_square, wx_some, wx_ref, isl_i, isl_r, isl_n, nl_1, nl_2, nI_add, aG_n hnr (show (mQ.1).length < 2 ^ 31 by omega)]
      rw [if_pos (by rw [nI_leI (by omega) (by omega)]; omega)]
      refine hgo ws ⟨hw, fun i' k' h1 h2 => ?_⟩ _
      by_cases e : i' = i ∧ k' = i + p
      · obtain ⟨e1, e2⟩ := e
        subst e1; subst e2
        refine ⟨fun _ y hy => ?_, fun z => absurd (Or.inr ⟨by omega, by omega⟩) z⟩
        rw [hc y hy, wJ_all (by omega)]
      · obtain ⟨q1, q2⟩ := hI i' k' h1 h2 e
        refine ⟨fun z => q1 (by omega), fun z => q2 (by omega)⟩
    | succ m ih =>
      intro r ws hr hw hI hc
      rw [q279_87]
      simp only [q279_88, q279_89, q279_92, q279_93, q279_94, q279_97, q279_98, q279_99, q279_102, q279_103, q279_104, q279_105, q279_106, q279_107, q279_108, mc_o, mg_square, ma_square, mb_square, mn_square, mg_rules, ma_rules, mb_rules, mn_rules, wx_some, wx_ref, nl_2, nI_add, aG_n hnr (show (mQ.1).length < 2 ^ 31 by omega), ag_G hru (show (mQ.2.2.2.2.2.1).length < 2 ^ 31 by omega) (show r < k_nR s by omega)]
      rw [if_neg (by rw [nI_leI (by omega) (by omega)]; omega)]
      apply tm_joins (t := t) (ws := ws) ho (show r < k_nR s by omega) (show i < i + p by omega) (by omega) hw (fun i' k' h1 h2 h3 h4 => (hI i' k' h2 (by omega) (by omega)).1 (by omega)) hc
      intro ws' h1 h2 h3
      simp only [sl_n, q279_111i, q279_114, isl_i, isl_r, isl_n, nl_1, nI_add]
      refine ih (r + 1) ws' (by omega) h1 (fun i' k' g1 g2 g3 => ?_) h2
      have hsame : ∀ y, y < 6 → ws'[cm_ y i' k']? = ws[cm_ y i' k']? := fun y hy => h3 _ (fun y' hy' z => g3 (cm_inj (by omega) (by omega) (by omega) (by omega) z).2)
      obtain ⟨q1, q2⟩ := hI i' k' g1 g2 g3
      exact ⟨fun z y hy => by rw [hsame y hy]; exact q1 z y hy, fun z y hy => by rw [hsame y hy]; exact q2 z y hy⟩
  have key4 : ∀ (p : Nat), 1 ≤ p → p < n → (∀ ws, CVm s t n (fun i' k' => k' - i' < p + 1) ws → ∀ l2 l3, ww (mp_P fx) (d + 1) 279 65 [some (.ref 149), some (.int (nI (p + 1))), l2, l3] [] (pm_h z X Y (pm_l mV mT mQ mO mE mB mS ((mR.1, mR.2.1, mR.2.2.1, mR.2.2.2.1, mR.2.2.2.2.1, mR.2.2.2.2.2.1, mR.2.2.2.2.2.2.1, ws, mR.2.2.2.2.2.2.2.2)) mW)) Q) →
      ∀ (m i : Nat) (ws : List Int32) (l3 : Option Value), i + m = n - p → CVm s t n (fun i' k' => k' - i' < p ∨ (k' - i' = p ∧ i' < i)) ws → ww (mp_P fx) (d + 1) 279 75 [some (.ref 149), some (.int (nI p)), some (.int (nI i)), l3] [] (pm_h z X Y (pm_l mV mT mQ mO mE mB mS ((mR.1, mR.2.1, mR.2.2.1, mR.2.2.2.1, mR.2.2.2.2.1, mR.2.2.2.2.2.1, mR.2.2.2.2.2.2.1, ws, mR.2.2.2.2.2.2.2.2)) mW)) Q := by
    intro p hp hpn hgo m
    induction m with
    | zero =>
      intro i ws l3 hi hI
      rw [q279_75]
      simp only [q279_76, q279_77, q279_78, q279_79, q279_82, q279_123r, q279_126, mg_textMany, mf_textMany, wx_some, wx_ref, isl_i, isl_r, isl_n, nl_1, nI_add]
      rw [if_pos (by rw [htm, nI_leI (by omega) (by omega)]; omega)]
      refine hgo ws ⟨hI.1, fun i' k' h1 h2 => ?_⟩ _ _
      obtain ⟨q1, q2⟩ := hI.2 i' k' h1 h2
      exact ⟨fun z => q1 (by omega), fun z => q2 (by omega)⟩
    | succ m ih =>
      intro i ws l3 hi hI
      rw [q279_75]
      simp only [q279_76, q279_77, q279_78, q279_79, q279_82, q279_85, q279_86i, mg_textMany, mf_textMany, wx_some, wx_ref, isl_i, isl_r, isl_n, nl_0, nI_add]
      rw [if_neg (by rw [htm, nI_leI (by omega) (by omega)]; omega)]
      refine key5 p i hp (by omega) (fun ws h l3 => ih (i + 1) ws l3 (by omega) h) (k_nR s) 0 ws (by omega) hI.1 (fun i' k' h1 h2 _ => hI.2 i' k' h1 h2) (fun y hy => ?_)
      rw [(hI.2 i (i + p) (by omega) (by omega)).2 (by omega) y hy]; rfl
  have key3 : ∀ (m p : Nat) (ws : List Int32) (l2 l3 : Option Value), 1 ≤ p → p + m = n → CVm s t n (fun i' k' => k' - i' < p) ws → ww (mp_P fx) (d + 1) 279 65 [some (.ref 149), some (.int (nI p)), l2, l3] [] (pm_h z X Y (pm_l mV mT mQ mO mE mB mS ((mR.1, mR.2.1, mR.2.2.1, mR.2.2.2.1, mR.2.2.2.2.1, mR.2.2.2.2.2.1, mR.2.2.2.2.2.2.1, ws, mR.2.2.2.2.2.2.2.2)) mW)) Q := by
    intro m
    induction m with
    | zero =>
      intro p ws l2 l3 hp hpn hI
      rw [q279_65]
      simp only [q279_66, q279_67, q279_70, q279_129, mg_textMany, mf_textMany, wx_some, wx_ref]
      rw [if_pos (by rw [htm, nI_leI (by omega) (by omega)]; omega)]
      exact hq ws hI.1 (fun i k h1 h2 => (hI.2 i k h1 h2).1 (by omega))
    | succ m ih =>
      intro p ws l2 l3 hp hpn hI
      rw [q279_65]
      simp only [q279_66, q279_67, q279_70, q279_73, q279_74i, mg_textMany, mf_textMany, wx_some, wx_ref, isl_i, isl_r, isl_n]
      rw [if_neg (by rw [htm, nI_leI (by omega) (by omega)]; omega)]
      refine key4 p hp (by omega) (fun ws h l2 l3 => ih (p + 1) ws l2 l3 (by omega) (by omega) h) (n - p) 0 ws _ (by omega) ⟨hI.1, fun i' k' h1 h2 => ?_⟩
      obtain ⟨q1, q2⟩ := hI.2 i' k' h1 h2
      exact ⟨fun z => q1 (by omega), fun z => q2 (by omega)⟩
  have key2 : ∀ (m i : Nat) (ws : List Int32), i + m = n → ws.length = 294 → (∀ i' k' y, y < 6 → i' < 7 → k' < 7 → ws[cm_ y i' k']? = some (nI (if i' = k' ∧ i' < i ∧ k_cs s (t i') = y then 1 else 0))) → ww (mp_P fx) (d + 1) 279 24 [some (.ref 149), some (.int (nI i)), none, none] [] (pm_h z X Y (pm_l mV mT mQ mO mE mB mS ((mR.1, mR.2.1, mR.2.2.1, mR.2.2.2.1, mR.2.2.2.2.1, mR.2.2.2.2.2.1, mR.2.2.2.2.2.2.1, ws, mR.2.2.2.2.2.2.2.2)) mW)) Q := by
    intro m
    induction m with
    | zero =>
      intro i ws hi hw hI
      rw [q279_24]
      simp only [q279_25, q279_26, q279_29, q279_63, q279_64r, mg_textMany, mf_textMany, wx_some, wx_ref, isl_i, isl_r, isl_n, nl_1]
      rw [if_pos (by rw [htm, nI_leI (by omega) (by omega)]; omega)]
      rcases Nat.eq_zero_or_pos n with hn0 | hn0
      · rw [q279_65]
        simp only [q279_66, q279_67, q279_70, q279_129, mg_textMany, mf_textMany, wx_some, wx_ref]
        rw [if_pos (by rw [htm, nI_leI (by omega) (by omega)]; omega)]
        exact hq ws hw (fun i k h1 h2 => by omega)
      · refine key3 (n - 1) 1 ws _ _ (Nat.le_refl _) (by omega) ⟨hw, fun i' k' h1 h2 => ⟨fun z y hy => ?_, fun z y hy => ?_⟩⟩
        · have e : k' = i' := by omega
          subst e
          rw [hI k' k' y hy (by omega) (by omega), Nat.sub_self, wy_0]
          by_cases ey : k_cs s (t k') = y
          · rw [if_pos ⟨rfl, by omega, ey⟩, if_pos ey]
          · rw [if_neg (fun z => ey z.2.2), if_neg ey]
        · rw [hI i' k' y hy (by omega) (by omega), if_neg (by omega)]
    | succ m ih =>
      intro i ws hi hw hI
      obtain ⟨t1, t2⟩ := ht i (by omega)
      have hcs := ho.2.1 (t i) t2
      rw [q279_24]
      simp only [q279_25, q279_26, q279_29, q279_32, q279_33, q279_36, q279_38, q279_39, q279_42, q279_43, q279_46, q279_47, q279_48, q279_49, q279_50, q279_52, q279_53, q279_54, q279_55, q279_56, q279_57r, q279_60, mg_textMany, mf_textMany, mg_text7, ma_text7, mb_text7, mn_text7, mg_sortOf, ma_sortOf, mb_sortOf, mn_sortOf, mg_waysOf, ma_waysOf, mb_waysOf, mn_waysOf, wx_some, wx_ref, isl_i, isl_r, isl_n, nl_1, nl_8, show (49 : Int32) = nI 49 from rfl, pk_mul, nI_add, aG_n t1 (show (mR.2.2.2.2.2.1).length < 2 ^ 31 by omega), ag_G hso (show (mQ.2.2.2.2.1).length < 2 ^ 31 by omega) t2, aS_n (show 49 * k_cs s (t i) + 8 * i < ws.length by omega) (show ws.length < 2 ^ 31 by omega)]
      rw [if_neg (by rw [htm, nI_leI (by omega) (by omega)]; omega)]
      refine ih (i + 1) _ (by omega) (by rw [List.length_set]; exact hw) (fun i' k' y hy h1 h2 => ?_)
      rw [List.getElem?_set]
      by_cases e : i' = i ∧ k' = i ∧ k_cs s (t i) = y
      · obtain ⟨e1, e2, e3⟩ := e
        subst e1; subst e2; subst e3
        rw [if_pos (by unfold cm_; omega), if_pos (by omega), if_pos ⟨rfl, by omega, rfl⟩]
      · rw [if_neg (fun z => by
          have hz := cm_inj (y := k_cs s (t i)) (i := i) (k := i) (by omega) (by omega) h1 h2 (by rw [← z]; unfold cm_; omega)
          exact e ⟨hz.2.1.symm, hz.2.2.symm, hz.1⟩), hI i' k' y hy h1 h2]
        by_cases e5 : i' = k' ∧ i' < i ∧ k_cs s (t i') = y
        · rw [if_pos e5, if_pos ⟨e5.1, by omega, e5.2.2⟩]
        · rw [if_neg e5, if_neg (fun z => by
            have h5 : i' = i := by
              by_cases h6 : i' < i
              · exact absurd ⟨z.1, h6, z.2.2⟩ e5
              · omega
            exact e ⟨h5, by omega, by rw [← h5]; exact z.2.2⟩)]
  have key1 : ∀ (m k : Nat) (ws : List Int32), k + m = 294 → ws.length = 294 → (∀ j, j < k → ws[j]? = some (nI 0)) → ww (mp_P fx) (d + 1) 279 2 [some (.ref 149), some (.int (nI k)), none, none] [] (pm_h z X Y (pm_l mV mT mQ mO mE mB mS ((mR.1, mR.2.1, mR.2.2.1, mR.2.2.2.1, mR.2.2.2.2.1, mR.2.2.2.2.2.1, mR.2.2.2.2.2.2.1, ws, mR.2.2.2.2.2.2.2.2)) mW)) Q := by
    intro m
    induction m with
    | zero =>
      intro k ws hk hw hI
      rw [q279_2]
      simp only [q279_3, q279_6, q279_22, q279_23r, isl_i, isl_r, isl_n, show (294 : Int32) = nI 294 from rfl, nl_0]
      rw [if_pos (by rw [nI_leI (by omega) (by omega)]; omega)]
      refine key2 n 0 ws (by omega) hw (fun i' k' y hy h1 h2 => ?_)
      rw [hI _ (by unfold cm_; omega), if_neg (by omega)]
    | succ m ih =>
      intro k ws hk hw hI
      rw [q279_2]
      simp only [q279_3, q279_6, q279_9, q279_10, q279_13, q279_14, q279_15, q279_16r, q279_19, mg_waysOf, ma_waysOf, mb_waysOf, mn_waysOf, wx_some, wx_ref, isl_i, isl_r, isl_n, show (294 : Int32) = nI 294 from rfl, nl_1, nI_add, aS_n (show k < ws.length by omega) (show ws.length < 2 ^ 31 by omega)]
      rw [if_neg (by rw [nI_leI (by omega) (by omega)]; omega)]
      refine ih (k + 1) _ (by omega) (by rw [List.length_set]; exact hw) (fun j hj => ?_)
      rw [List.getElem?_set]
      by_cases e : k = j
      · rw [if_pos e, if_pos (by omega)]; rfl
      · rw [if_neg e]; exact hI j (by omega)
  simp only [e279, q279_0, q279_1r, isl_i, isl_r, isl_n, nl_0]
  exact key1 294 0 mR.2.2.2.2.2.2.2.1 (by omega) r5 (fun j hj => by omega)
theorem tm_whole {n : Nat} (hs : SQm mQ s) (ho : k_ok s) (hn1 : 1 ≤ n) (hn7 : n ≤ 7) (hR : RLm mR) (htm : mR.2.2.2.2.2.2.1 = nI n) (h0 : 0 < k_nS s) (hw : WTm s t mR.2.2.2.2.2.2.2.1 0 (n - 1)) (hq : Q (some (.int (nI (wy s t (n - 1) 0 (k_sy s))))) (pm_h z X Y (pm_l mV mT mQ mO mE mB mS mR mW))) : wm (mp_P fx) d 281 [.ref 149] (pm_h z X Y (pm_l mV mT mQ mO mE mB mS mR mW)) Q := by
  obtain ⟨r1, r2, r3, r4, r5, r6⟩ := hR
  have hsl := hs.1.1
  have hS6 := ho.1.1
  obtain ⟨y, h1, h2⟩ := hs.2.2.1
  rcases h2 with h2 | h2
  · omega
  obtain ⟨h2, h3⟩ := h2
  subst h2
  have hv := hw (k_sy s) (by omega)
  rw [Nat.sub_zero] at hv
  simp only [e281, q281_0, q281_1, q281_4, q281_5, q281_6, q281_9, q281_10, q281_13, q281_16, q281_17, q281_20, q281_21, q281_24, q281_26, q281_27, q281_30, q281_31, q281_32, q281_33, q281_34, q281_37, q281_38, q281_39, q281_40, q281_41, mg_square, ma_square, mb_square, mn_square, mg_textMany, mf_textMany, mg_waysOf, ma_waysOf, mb_waysOf, mn_waysOf, wx_some, wx_ref, show aG (mQ.1) 4 = some (nI (k_sy s)) from aG_n h1 (by omega), htm, show (49 : Int32) = nI 49 from rfl, pk_mul, nI_add, nl_1, nI_sub (show 1 ≤ 49 * k_sy s + n by omega)]
  rw [if_neg (by rw [nl_0, nI_ltI (by omega) (by omega)]; omega), if_pos (nI_ne0 (by omega) (by omega))]
  rw [aG_n (show (mR.2.2.2.2.2.2.2.1)[49 * k_sy s + n - 1]? = _ by rw [show 49 * k_sy s + n - 1 = cm_ (k_sy s) 0 (n - 1) by unfold cm_; omega]; exact hv) (by omega), wx_some]
  exact hq
end MW
