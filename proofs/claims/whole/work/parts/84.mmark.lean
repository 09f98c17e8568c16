/-! marks, of the model -/
def cpd (g : Int32 → Int32) (w f t k : Nat) (xs ys : List Int32) : Prop := ys.length = xs.length ∧ ∀ j, ys[j]? = if w * t ≤ j ∧ j < w * t + k then (xs[w * f + (j - w * t)]?).map g else xs[j]?
theorem cpd_0 {g : Int32 → Int32} {w f t : Nat} {xs : List Int32} : cpd g w f t 0 xs xs := ⟨rfl, fun j => by rw [if_neg (by omega)]⟩
theorem dw {w a b k l : Nat} (h1 : k < w) (h2 : l < w) (h : w * a + k = w * b + l) : a = b := by
  have h3 : (w * a + k) / w = (w * b + l) / w := congrArg (· / w) h
  rw [Nat.mul_add_div (by omega), Nat.mul_add_div (by omega), Nat.div_eq_of_lt h1, Nat.div_eq_of_lt h2] at h3
  omega
theorem cpd_r {g : Int32 → Int32} {w f t k : Nat} {xs ys : List Int32} (h : cpd g w f t k xs ys) (hk : k ≤ w) {r i : Nat} (hi : i < w) (hr : ¬ r = t) : ys[w * r + i]? = xs[w * r + i]? := by
  rw [h.2, if_neg]
  intro z
  exact hr (dw hi (show w * r + i - w * t < w by omega) (show w * r + i = w * t + (w * r + i - w * t) by omega))
theorem cpd_t {g : Int32 → Int32} {w f t : Nat} {xs ys : List Int32} (h : cpd g w f t w xs ys) {i : Nat} (hi : i < w) : ys[w * t + i]? = (xs[w * f + i]?).map g := by
  rw [h.2, if_pos (by omega), show w * t + i - w * t = i by omega]
theorem cpd_s {g : Int32 → Int32} {w f t k : Nat} {xs ys : List Int32} {x : Int32} (h : cpd g w f t k xs ys) (hk : k < w) (hx : xs[w * f + k]? = some x) (hl : w * t + k < xs.length) : cpd g w f t (k + 1) xs (ys.set (w * t + k) (g x)) := by
  refine ⟨by rw [List.length_set]; exact h.1, fun j => ?_⟩
  rw [List.getElem?_set]
  by_cases e : w * t + k = j
  · subst e
    rw [if_pos rfl, if_pos (by rw [h.1]; exact hl), if_pos (by omega), show w * t + k - w * t = k by omega, hx]; rfl
  · rw [if_neg e, h.2 j]
    by_cases e2 : w * t ≤ j ∧ j < w * t + k
    · rw [if_pos e2, if_pos (by omega)]
    · rw [if_neg e2, if_neg (by omega)]
theorem cpd_g {g : Int32 → Int32} {w f t k : Nat} {xs ys : List Int32} (h : cpd g w f t k xs ys) (hk : k < w) (hft : ¬ f = t) (hl : w * f + k < xs.length) : ∃ x, xs[w * f + k]? = some x ∧ ys[w * f + k]? = some x :=
  ⟨_, List.getElem?_eq_getElem hl, by rw [cpd_r h (by omega) hk hft]; exact List.getElem?_eq_getElem hl⟩
def BL1 (l : Nat × (Nat → Nat × Nat × Nat)) (mB : pm_B) (r : Nat) : Prop := (mB.1)[r]? = some (nI l.1) ∧ ∀ i, i < l.1 → (mB.2.1)[40 * r + i]? = some (nI (l.2 i).1) ∧ (¬ (l.2 i).1 = 0 → (mB.2.2.1)[40 * r + i]? = some (nI (l.2 i).2.1)) ∧ ((l.2 i).1 = 1 → (mB.2.2.2.1)[40 * r + i]? = some (nI (l.2 i).2.2))
def BL2 (l : Nat × (Nat → Nat)) (mB : pm_B) (r : Nat) : Prop := (mB.2.2.2.2.1)[r]? = some (nI l.1) ∧ ∀ i, i < l.1 → (mB.2.2.2.2.2.1)[7 * r + i]? = some (nI (l.2 i))
def BL3 (l : Nat × (Nat → Nat × Nat × Bool)) (mB : pm_B) (r : Nat) : Prop := (mB.2.2.2.2.2.2.1)[r]? = some (nI l.1) ∧ ∀ i, i < l.1 → (mB.2.2.2.2.2.2.2.1)[8 * r + i]? = some (nI (l.2 i).1) ∧ (mB.2.2.2.2.2.2.2.2.1)[8 * r + i]? = some (nI (l.2 i).2.1) ∧ (mB.2.2.2.2.2.2.2.2.2)[8 * r + i]? = some (if (l.2 i).2.2 = true then 1 else 0)
theorem nar_b (t : Bool) : vp_nar .boolean (if t = true then 1 else 0) = if t = true then 1 else 0 := by cases t <;> decide
theorem map_id' (o : Option Int32) : o.map (fun x => x) = o := by cases o <;> rfl
section MK2
variable {fx : List Value → mm_H → Option (List Value × mm_H)} {z : Nat} {X Y : Nat → mm_C} {mV : pm_V} {mT : pm_T} {mQ : pm_Q} {mO : pm_O} {mE : pm_E} {mB : pm_B} {mS : pm_S} {mR : pm_R} {mW : pm_W} {m_thrown : Int32} {m_given : Int32} {m_fresh : Int64} {m_code : Int32} {m_taped : Int32} {m_tape : List Int32} {m_size : Int32} {m_place : Int32} {m_begin : Int32} {m_token : Int32} {m_word : Int64} {m_told : Int32} {m_wrong : Int32} {m_square : List Int32} {m_sortName : List Int64} {m_colourName : List Int64} {m_walkerName : List Int64} {m_sortOf : List Int32} {m_rules : List Int32} {m_kind : List Int32} {m_colour : List Int32} {m_atTold : List Int32} {m_goesMany : List Int32} {m_goes : List Int32} {m_gusts : List Int32} {m_lineFrom : List Int32} {m_lineTo : List Int32} {m_codes : List Int32} {m_opened : List Int32} {m_compared : List Int32} {m_kept : List Int32} {m_keptBy : List Int32} {m_ahead : List Int32} {m_against : List Int32} {m_sum : List Int32} {m_sumBy : List Int32} {m_term : List Int32} {m_termBy : List Int32} {m_byNot : List Int32} {m_valueOf : List Int32} {m_lines : List Int32} {m_lineWhat : List Int32} {m_lineA : List Int32} {m_lineB : List Int32} {m_wishes : List Int32} {m_wishOf : List Int32} {m_seens : List Int32} {m_seenAt : List Int32} {m_seenIn : List Int32} {m_seenThere : List Int32} {m_s : List Int32} {m_aside : List Int32} {m_before : List Int32} {m_marked : List Int32} {m_undone : List Int32} {m_isLaid : List Int32} {m_done : Int32} {m_gustNow : Int32} {m_shown : List Int32} {m_shownMany : Int32} {m_from7 : List Int32} {m_long7 : List Int32} {m_sentences : Int32} {m_text7 : List Int32} {m_textMany : Int32} {m_waysOf : List Int32} {m_rowOf : List Int32} {m_row : List Int32} {m_bestRow : List Int32} {m_leastSteps : Int32} {m_steps10 : List Int32} {m_placeIn : List Int32} {m_g : Int64}
variable {d : Nat} {Q : Option Value → mm_H → Prop} {s : SQ} {c : SC} {nm : NMs} {b : BK} {us : List SC} {mk : Nat → Option (SC × BK)}
theorem tm_laysLines {f t : Nat} (hf : f < 6) (ht : t < 6) (hft : ¬ f = t) (hL : BLm mB) (hq : ∀ mB', BLm mB' → (∀ l r, l.1 ≤ 40 → BL1 l mB (if r = t then f else r) → BL1 l mB' r) → (∀ l r, BL2 l mB r → BL2 l mB' r) → (∀ l r, BL3 l mB r → BL3 l mB' r) → Q none (pm_h z X Y (pm_l mV mT mQ mO mE (mB') mS mR mW))) : wm (mp_P fx) d 254 [.ref 149, .int (nI f), .int (nI t)] (pm_h z X Y (pm_l mV mT mQ mO mE mB mS mR mW)) Q := by
  obtain ⟨l1, l2, l3, l4, l5, l6, l7, l8, l9, l10⟩ := id hL
  have hv : (mB.1)[f]? = some ((mB.1)[f]'(by omega)) := List.getElem?_eq_getElem (by omega)
  generalize hlf : (mB.1)[f]'(by omega) = lf' at hv
  simp only [e254, q254_0, q254_1, q254_4, q254_5, q254_6, q254_9, q254_10, q254_11, q254_12, q254_13i, mc_o, mg_lines, ma_lines, mb_lines, mn_lines, wx_some, wx_ref, isl_i, isl_r, isl_n, aG_n hv (show (mB.1).length < 2 ^ 31 by omega), aS_n (show t < (mB.1).length by omega) (show (mB.1).length < 2 ^ 31 by omega)]
  have key : ∀ (m k : Nat) (x1 x2 x3 : List Int32), k + m = 40 → cpd id 40 f t k mB.2.1 x1 → cpd id 40 f t k mB.2.2.1 x2 → cpd id 40 f t k mB.2.2.2.1 x3 → ww (mp_P fx) d 254 14 [some (.ref 149), some (.int (nI f)), some (.int (nI t)), some (.int (nI k))] [] (pm_h z X Y (pm_l mV mT mQ mO mE (((mB.1).set t lf', x1, x2, x3, mB.2.2.2.2.1, mB.2.2.2.2.2.1, mB.2.2.2.2.2.2.1, mB.2.2.2.2.2.2.2.1, mB.2.2.2.2.2.2.2.2.1, mB.2.2.2.2.2.2.2.2.2)) mS mR mW)) Q := by
    intro m
    induction m with
    | zero =>
      intro k x1 x2 x3 hk h1 h2 h3
      have hk2 : k = 40 := by omega
      subst hk2
      rw [q254_14]
      simp only [q254_15, q254_17, q254_92]
      rw [if_pos (by decide)]
      refine hq ((mB.1).set t lf', x1, x2, x3, mB.2.2.2.2.1, mB.2.2.2.2.2.1, mB.2.2.2.2.2.2.1, mB.2.2.2.2.2.2.2.1, mB.2.2.2.2.2.2.2.2.1, mB.2.2.2.2.2.2.2.2.2) ⟨by show ((mB.1).set t lf').length = 6; rw [List.length_set]; exact l1, by show x1.length = 240; rw [h1.1]; exact l2, by show x2.length = 240; rw [h2.1]; exact l3, by show x3.length = 240; rw [h3.1]; exact l4, l5, l6, l7, l8, l9, l10⟩ (fun l r hl hb => ?_) (fun l r hb => hb) (fun l r hb => hb)
      by_cases e : r = t
      · rw [if_pos e] at hb
        subst e
        obtain ⟨g1, g2⟩ := hb
        refine ⟨?_, fun i hi => ?_⟩
        · show ((mB.1).set r lf')[r]? = _
          rw [List.getElem?_set_self (by omega), ← hv]; exact g1
        · obtain ⟨a1, a2, a3⟩ := g2 i hi
          refine ⟨?_, fun h => ?_, fun h => ?_⟩
          · show x1[40 * r + i]? = _
            rw [cpd_t h1 (by omega), a1]; rfl
          · show x2[40 * r + i]? = _
            rw [cpd_t h2 (by omega), a2 h]; rfl
          · show x3[40 * r + i]? = _
            rw [cpd_t h3 (by omega), a3 h]; rfl
      · rw [if_neg e] at hb
        obtain ⟨g1, g2⟩ := hb
        refine ⟨?_, fun i hi => ?_⟩
        · show ((mB.1).set t lf')[r]? = _
          rw [List.getElem?_set_ne (fun z => e z.symm)]; exact g1
        · obtain ⟨a1, a2, a3⟩ := g2 i hi
          refine ⟨?_, fun h => ?_, fun h => ?_⟩
          · show x1[40 * r + i]? = _
            rw [cpd_r h1 (by omega) (by omega) e, a1]
          · show x2[40 * r + i]? = _
            rw [cpd_r h2 (by omega) (by omega) e, a2 h]
          · show x3[40 * r + i]? = _
            rw [cpd_r h3 (by omega) (by omega) e, a3 h]
    | succ m ih =>
      intro k x1 x2 x3 hk h1 h2 h3
      obtain ⟨y1, a1, b1⟩ := cpd_g h1 (by omega) hft (show 40 * f + k < (mB.2.1).length by omega)
      obtain ⟨y2, a2, b2⟩ := cpd_g h2 (by omega) hft (show 40 * f + k < (mB.2.2.1).length by omega)
      obtain ⟨y3, a3, b3⟩ := cpd_g h3 (by omega) hft (show 40 * f + k < (mB.2.2.2.1).length by omega)
      have e1 := h1.1
      have e2 := h2.1
      have e3 := h3.1
      rw [q254_14]
      simp only [q254_15, q254_17, q254_20, q254_21, q254_24, q254_26, q254_27, q254_28, q254_29, q254_30, q254_31, q254_34, q254_36, q254_37, q254_38, q254_39, q254_40, q254_41, q254_42, q254_43, q254_46, q254_48, q254_49, q254_50, q254_51, q254_52, q254_53, q254_56, q254_58, q254_59, q254_60, q254_61, q254_62, q254_63, q254_64, q254_65, q254_68, q254_70, q254_71, q254_72, q254_73, q254_74, q254_75, q254_78, q254_80, q254_81, q254_82, q254_83, q254_84, q254_85, q254_86i, q254_89, mc_o, mg_lineWhat, ma_lineWhat, mb_lineWhat, mn_lineWhat, mg_lineA, ma_lineA, mb_lineA, mn_lineA, mg_lineB, ma_lineB, mb_lineB, mn_lineB, wx_some, wx_ref, isl_i, isl_r, isl_n, show (40 : Int32) = nI 40 from rfl, pk_mul, nI_add, nI_1, aG_n b1 (show x1.length < 2 ^ 31 by omega), aG_n b2 (show x2.length < 2 ^ 31 by omega), aG_n b3 (show x3.length < 2 ^ 31 by omega), aS_n (show 40 * t + k < x1.length by omega) (show x1.length < 2 ^ 31 by omega), aS_n (show 40 * t + k < x2.length by omega) (show x2.length < 2 ^ 31 by omega), aS_n (show 40 * t + k < x3.length by omega) (show x3.length < 2 ^ 31 by omega)]
      rw [if_neg (by rw [nI_leI (by omega) (by omega)]; omega)]
      exact ih (k + 1) _ _ _ (by omega) (cpd_s h1 (by omega) a1 (by omega)) (cpd_s h2 (by omega) a2 (by omega)) (cpd_s h3 (by omega) a3 (by omega))
  exact key 40 0 _ _ _ (by omega) cpd_0 cpd_0 cpd_0
theorem tm_laysWish {f t : Nat} (hf : f < 6) (ht : t < 6) (hft : ¬ f = t) (hL : BLm mB) (hq : ∀ mB', BLm mB' → (∀ l r, BL1 l mB r → BL1 l mB' r) → (∀ l r, l.1 ≤ 7 → BL2 l mB (if r = t then f else r) → BL2 l mB' r) → (∀ l r, BL3 l mB r → BL3 l mB' r) → Q none (pm_h z X Y (pm_l mV mT mQ mO mE (mB') mS mR mW))) : wm (mp_P fx) d 257 [.ref 149, .int (nI f), .int (nI t)] (pm_h z X Y (pm_l mV mT mQ mO mE mB mS mR mW)) Q := by
  obtain ⟨l1, l2, l3, l4, l5, l6, l7, l8, l9, l10⟩ := id hL
  have hv : (mB.2.2.2.2.1)[f]? = some ((mB.2.2.2.2.1)[f]'(by omega)) := List.getElem?_eq_getElem (by omega)
  generalize hlf : (mB.2.2.2.2.1)[f]'(by omega) = lf' at hv
  simp only [e257, q257_0, q257_1, q257_4, q257_5, q257_6, q257_9, q257_10, q257_11, q257_12, q257_13i, mc_o, mg_wishes, ma_wishes, mb_wishes, mn_wishes, wx_some, wx_ref, isl_i, isl_r, isl_n, aG_n hv (show (mB.2.2.2.2.1).length < 2 ^ 31 by omega), aS_n (show t < (mB.2.2.2.2.1).length by omega) (show (mB.2.2.2.2.1).length < 2 ^ 31 by omega)]
  have key : ∀ (m k : Nat) (x1 : List Int32), k + m = 7 → cpd id 7 f t k mB.2.2.2.2.2.1 x1 → ww (mp_P fx) d 257 14 [some (.ref 149), some (.int (nI f)), some (.int (nI t)), some (.int (nI k))] [] (pm_h z X Y (pm_l mV mT mQ mO mE ((mB.1, mB.2.1, mB.2.2.1, mB.2.2.2.1, (mB.2.2.2.2.1).set t lf', x1, mB.2.2.2.2.2.2.1, mB.2.2.2.2.2.2.2.1, mB.2.2.2.2.2.2.2.2.1, mB.2.2.2.2.2.2.2.2.2)) mS mR mW)) Q := by
    intro m
    induction m with
    | zero =>
      intro k x1 hk h1
      have hk2 : k = 7 := by omega
      subst hk2
      rw [q257_14]
      simp only [q257_15, q257_17, q257_48]
      rw [if_pos (by decide)]
      refine hq (mB.1, mB.2.1, mB.2.2.1, mB.2.2.2.1, (mB.2.2.2.2.1).set t lf', x1, mB.2.2.2.2.2.2.1, mB.2.2.2.2.2.2.2.1, mB.2.2.2.2.2.2.2.2.1, mB.2.2.2.2.2.2.2.2.2) ⟨l1, l2, l3, l4, by show ((mB.2.2.2.2.1).set t lf').length = 6; rw [List.length_set]; exact l5, by show x1.length = 42; rw [h1.1]; exact l6, l7, l8, l9, l10⟩ (fun l r hb => hb) (fun l r hl hb => ?_) (fun l r hb => hb)
      by_cases e : r = t
      · rw [if_pos e] at hb
        subst e
        obtain ⟨g1, g2⟩ := hb
        refine ⟨?_, fun i hi => ?_⟩
        · show ((mB.2.2.2.2.1).set r lf')[r]? = _
          rw [List.getElem?_set_self (by omega), ← hv]; exact g1
        · show x1[7 * r + i]? = _
          rw [cpd_t h1 (by omega), g2 i hi]; rfl
      · rw [if_neg e] at hb
        obtain ⟨g1, g2⟩ := hb
        refine ⟨?_, fun i hi => ?_⟩
        · show ((mB.2.2.2.2.1).set t lf')[r]? = _
          rw [List.getElem?_set_ne (fun z => e z.symm)]; exact g1
        · show x1[7 * r + i]? = _
          rw [cpd_r h1 (by omega) (by omega) e, g2 i hi]
    | succ m ih =>
      intro k x1 hk h1
      obtain ⟨y1, a1, b1⟩ := cpd_g h1 (by omega) hft (show 7 * f + k < (mB.2.2.2.2.2.1).length by omega)
      have e1 := h1.1
      rw [q257_14]
      simp only [q257_15, q257_17, q257_20, q257_21, q257_24, q257_26, q257_27, q257_28, q257_29, q257_30, q257_31, q257_34, q257_36, q257_37, q257_38, q257_39, q257_40, q257_41, q257_42i, q257_45, mc_o, mg_wishOf, ma_wishOf, mb_wishOf, mn_wishOf, wx_some, wx_ref, isl_i, isl_r, isl_n, nl_7, pk_mul, nI_add, nI_1, aG_n b1 (show x1.length < 2 ^ 31 by omega), aS_n (show 7 * t + k < x1.length by omega) (show x1.length < 2 ^ 31 by omega)]
      rw [if_neg (by rw [nI_leI (by omega) (by omega)]; omega)]
      exact ih (k + 1) _ (by omega) (cpd_s h1 (by omega) a1 (by omega))
  exact key 7 0 _ (by omega) cpd_0
theorem tm_laysSeen {f t : Nat} (hf : f < 5) (ht : t < 5) (hft : ¬ f = t) (hL : BLm mB) (hq : ∀ mB', BLm mB' → (∀ l r, BL1 l mB r → BL1 l mB' r) → (∀ l r, BL2 l mB r → BL2 l mB' r) → (∀ l r, l.1 ≤ 8 → BL3 l mB (if r = t then f else r) → BL3 l mB' r) → Q none (pm_h z X Y (pm_l mV mT mQ mO mE (mB') mS mR mW))) : wm (mp_P fx) d 328 [.ref 149, .int (nI f), .int (nI t)] (pm_h z X Y (pm_l mV mT mQ mO mE mB mS mR mW)) Q := by
  obtain ⟨l1, l2, l3, l4, l5, l6, l7, l8, l9, l10⟩ := id hL
  have hv : (mB.2.2.2.2.2.2.1)[f]? = some ((mB.2.2.2.2.2.2.1)[f]'(by omega)) := List.getElem?_eq_getElem (by omega)
  generalize hlf : (mB.2.2.2.2.2.2.1)[f]'(by omega) = lf' at hv
  simp only [e328, q328_0, q328_1, q328_4, q328_5, q328_6, q328_9, q328_10, q328_11, q328_12, q328_13i, mc_o, mg_seens, ma_seens, mb_seens, mn_seens, wx_some, wx_ref, isl_i, isl_r, isl_n, aG_n hv (show (mB.2.2.2.2.2.2.1).length < 2 ^ 31 by omega), aS_n (show t < (mB.2.2.2.2.2.2.1).length by omega) (show (mB.2.2.2.2.2.2.1).length < 2 ^ 31 by omega)]
  have key : ∀ (m k : Nat) (x1 x2 x3 : List Int32), k + m = 8 → cpd id 8 f t k mB.2.2.2.2.2.2.2.1 x1 → cpd id 8 f t k mB.2.2.2.2.2.2.2.2.1 x2 → cpd (vp_nar .boolean) 8 f t k mB.2.2.2.2.2.2.2.2.2 x3 → ww (mp_P fx) d 328 14 [some (.ref 149), some (.int (nI f)), some (.int (nI t)), some (.int (nI k))] [] (pm_h z X Y (pm_l mV mT mQ mO mE ((mB.1, mB.2.1, mB.2.2.1, mB.2.2.2.1, mB.2.2.2.2.1, mB.2.2.2.2.2.1, (mB.2.2.2.2.2.2.1).set t lf', x1, x2, x3)) mS mR mW)) Q := by
    intro m
    induction m with
    | zero =>
      intro k x1 x2 x3 hk h1 h2 h3
      have hk2 : k = 8 := by omega
      subst hk2
      rw [q328_14]
      simp only [q328_15, q328_17, q328_92]
      rw [if_pos (by decide)]
      refine hq (mB.1, mB.2.1, mB.2.2.1, mB.2.2.2.1, mB.2.2.2.2.1, mB.2.2.2.2.2.1, (mB.2.2.2.2.2.2.1).set t lf', x1, x2, x3) ⟨l1, l2, l3, l4, l5, l6, by show ((mB.2.2.2.2.2.2.1).set t lf').length = 5; rw [List.length_set]; exact l7, by show x1.length = 40; rw [h1.1]; exact l8, by show x2.length = 40; rw [h2.1]; exact l9, by show x3.length = 40; rw [h3.1]; exact l10⟩ (fun l r hb => hb) (fun l r hb => hb) (fun l r hl hb => ?_)
      by_cases e : r = t
      · rw [if_pos e] at hb
        subst e
        obtain ⟨g1, g2⟩ := hb
        refine ⟨?_, fun i hi => ?_⟩
        · show ((mB.2.2.2.2.2.2.1).set r lf')[r]? = _
          rw [List.getElem?_set_self (by omega), ← hv]; exact g1
        · obtain ⟨a1, a2, a3⟩ := g2 i hi
          refine ⟨?_, ?_, ?_⟩
          · show x1[8 * r + i]? = _
            rw [cpd_t h1 (by omega), a1]; rfl
          · show x2[8 * r + i]? = _
            rw [cpd_t h2 (by omega), a2]; rfl
          · show x3[8 * r + i]? = _
            rw [cpd_t h3 (by omega), a3]
            show some (vp_nar .boolean _) = _
            rw [nar_b]
      · rw [if_neg e] at hb
        obtain ⟨g1, g2⟩ := hb
        refine ⟨?_, fun i hi => ?_⟩
        · show ((mB.2.2.2.2.2.2.1).set t lf')[r]? = _
          rw [List.getElem?_set_ne (fun z => e z.symm)]; exact g1
        · obtain ⟨a1, a2, a3⟩ := g2 i hi
          refine ⟨?_, ?_, ?_⟩
          · show x1[8 * r + i]? = _
            rw [cpd_r h1 (by omega) (by omega) e, a1]
          · show x2[8 * r + i]? = _
            rw [cpd_r h2 (by omega) (by omega) e, a2]
          · show x3[8 * r + i]? = _
            rw [cpd_r h3 (by omega) (by omega) e, a3]
    | succ m ih =>
      intro k x1 x2 x3 hk h1 h2 h3
      obtain ⟨y1, a1, b1⟩ := cpd_g h1 (by omega) hft (show 8 * f + k < (mB.2.2.2.2.2.2.2.1).length by omega)
      obtain ⟨y2, a2, b2⟩ := cpd_g h2 (by omega) hft (show 8 * f + k < (mB.2.2.2.2.2.2.2.2.1).length by omega)
      obtain ⟨y3, a3, b3⟩ := cpd_g h3 (by omega) hft (show 8 * f + k < (mB.2.2.2.2.2.2.2.2.2).length by omega)
      have e1 := h1.1
      have e2 := h2.1
      have e3 := h3.1
      rw [q328_14]
      simp only [q328_15, q328_17, q328_20, q328_21, q328_24, q328_26, q328_27, q328_28, q328_29, q328_30, q328_31, q328_34, q328_36, q328_37, q328_38, q328_39, q328_40, q328_41, q328_42, q328_43, q328_46, q328_48, q328_49, q328_50, q328_51, q328_52, q328_53, q328_56, q328_58, q328_59, q328_60, q328_61, q328_62, q328_63, q328_64, q328_65, q328_68, q328_70, q328_71, q328_72, q328_73, q328_74, q328_75, q328_78, q328_80, q328_81, q328_82, q328_83, q328_84, q328_85, q328_86i, q328_89, mc_o, mg_seenAt, ma_seenAt, mb_seenAt, mn_seenAt, mg_seenIn, ma_seenIn, mb_seenIn, mn_seenIn, mg_seenThere, ma_seenThere, mb_seenThere, mn_seenThere, wx_some, wx_ref, isl_i, isl_r, isl_n, nl_8, pk_mul, nI_add, nI_1, aG_n b1 (show x1.length < 2 ^ 31 by omega), aG_n b2 (show x2.length < 2 ^ 31 by omega), aG_n b3 (show x3.length < 2 ^ 31 by omega), aS_n (show 8 * t + k < x1.length by omega) (show x1.length < 2 ^ 31 by omega), aS_n (show 8 * t + k < x2.length by omega) (show x2.length < 2 ^ 31 by omega), aS_n (show 8 * t + k < x3.length by omega) (show x3.length < 2 ^ 31 by omega)]
      rw [if_neg (by rw [nI_leI (by omega) (by omega)]; omega)]
      exact ih (k + 1) _ _ _ (by omega) (cpd_s h1 (by omega) a1 (by omega)) (cpd_s h2 (by omega) a2 (by omega)) (cpd_s h3 (by omega) a3 (by omega))
  exact key 8 0 _ _ _ (by omega) cpd_0 cpd_0 cpd_0
/-- the model's marks -/
def MKm (s : SQ) (mk : Nat → Option (SC × BK)) (mS : pm_S) (mB : pm_B) : Prop := (mS.2.2.2.1).length = 36 ∧ (mS.2.2.2.2.2.1).length = 4 ∧ ∀ k, k < 4 → (mS.2.2.2.2.2.1)[k]? = some (if (mk k).isSome = true then 1 else 0) ∧ ∀ c b, mk k = some (c, b) → b_ok s b ∧ SCr s mS.2.2.2.1 (9 * k) c ∧ BKm b mB (1 + k)
theorem tm_mark {v t : Int32} (ht : t = 0 ∨ t = 1) (hS : SCm s mS.1 c) (hb : b_ok s b) (hL : BLm mB) (hB : BKm b mB 0) (hU : UNm s us mS) (hM : MKm s mk mS mB) (hq0 : (sx 4 v = none ∨ (t = 1 ∧ ∃ k, sx 4 v = some k ∧ mk k = none)) → Q (some (.int 0)) (pm_h z X Y (pm_l ((0, mV.2.1, mV.2.2.1, mV.2.2.2)) mT mQ mO mE mB mS mR mW)))
    (hq1 : ∀ k c1 b1 r ld mB', sx 4 v = some k → t = 1 → mk k = some (c1, b1) → SCm s r c1 → BLm mB' → BKm b1 mB' 0 → UNm s [] (r, mS.2.1, mS.2.2.1, mS.2.2.2.1, mS.2.2.2.2.1, ld, 0, mS.2.2.2.2.2.2.2) → MKm s mk (r, mS.2.1, mS.2.2.1, mS.2.2.2.1, mS.2.2.2.2.1, ld, 0, mS.2.2.2.2.2.2.2) mB' → Q (some (.int 1)) (pm_h z X Y (pm_l ((0, mV.2.1, mV.2.2.1, mV.2.2.2)) mT mQ mO mE (mB') ((r, mS.2.1, mS.2.2.1, mS.2.2.2.1, mS.2.2.2.2.1, ld, 0, mS.2.2.2.2.2.2.2)) mR mW)))
    (hq2 : ∀ k md ld mB', sx 4 v = some k → t = 0 → BLm mB' → BKm b mB' 0 → UNm s us (mS.1, mS.2.1, mS.2.2.1, md, mS.2.2.2.2.1, ld, mS.2.2.2.2.2.2.1, mS.2.2.2.2.2.2.2) → MKm s (fun i => if i = k then some (c, b) else mk i) (mS.1, mS.2.1, mS.2.2.1, md, mS.2.2.2.2.1, ld, mS.2.2.2.2.2.2.1, mS.2.2.2.2.2.2.2) mB' → Q (some (.int 1)) (pm_h z X Y (pm_l ((0, mV.2.1, mV.2.2.1, mV.2.2.2)) mT mQ mO mE (mB') ((mS.1, mS.2.1, mS.2.2.1, md, mS.2.2.2.2.1, ld, mS.2.2.2.2.2.2.1, mS.2.2.2.2.2.2.2)) mR mW))) : wm (mp_P fx) (d + 1) 327 [.ref 149, .int v, .int t] (pm_h z X Y (pm_l mV mT mQ mO mE mB mS mR mW)) Q := by
  obtain ⟨h1, h2, h3⟩ := id hM
  have hs9 := hS.1
  simp only [e327, b327_0, b327_1, bn_0 b327_0, bn_1 b327_1, q327_0, q327_1, q327_2, q327_5, q327_6, q327_7, q327_8, mc_o, mg_thrown, mf_thrown, wx_some, isl_i, isl_r, isl_n]
  rcases sx_c 4 v (by omega) with ⟨e, hv⟩ | ⟨k, hk, rfl, e⟩
  · apply tm_in
    · intro _
      simp only [sl_i, b327_0, b327_1, bn_0 b327_0, bn_1 b327_1, q327_11, b327_0, b327_1, bn_0 b327_0, bn_1 b327_1, q327_27, q327_28]
      rw [if_pos (by decide)]
      exact hq0 (Or.inl e)
    · intro g1 g2
      rcases hv with hv | ⟨hv, hv2⟩
      · exact absurd g1 (Int32.not_le.mpr hv)
      · exact absurd g2 (Int32.not_le.mpr (Int32.lt_of_lt_of_le (by decide : (3 : Int32) < nI 4) hv2))
  apply tm_in
  · intro h0
    rw [nl_0, nl_3, nI_ltI (by omega) (by omega), nI_ltI (by omega) (by omega)] at h0
    omega
  intro _ _
  obtain ⟨m1, m2⟩ := h3 k hk
  have hml : aG (mS.2.2.2.2.2.1) (nI k) = some (if (mk k).isSome = true then 1 else 0) := aG_n m1 (by omega)
  simp only [sl_i, b327_0, b327_1, bn_0 b327_0, bn_1 b327_1, q327_11, q327_14, q327_15, q327_18, q327_19, q327_22, q327_23, q327_24, q327_27, q327_28, mc_o, mg_isLaid, ma_isLaid, mb_isLaid, mn_isLaid, wx_some, wx_ref, hml]
  rw [if_neg (by decide)]
  have hld : ∀ (mk' : Nat → Option (SC × BK)), (mk' k).isSome = true → (∀ i, ¬ i = k → mk' i = mk i) → ∀ i, i < 4 → ((mS.2.2.2.2.2.1).set k 1)[i]? = some (if (mk' i).isSome = true then 1 else 0) := by
    intro mk' h4 h5 i hi
    rw [List.getElem?_set]
    by_cases ei : k = i
    · subst ei; rw [if_pos rfl, if_pos (by omega), if_pos h4]
    · rw [if_neg ei, h5 i (fun z => ei z.symm)]; exact (h3 i hi).1
  rcases ht with ht | ht
  · subst ht
    rw [if_pos (by decide)]
    simp only [b327_0, b327_1, bn_0 b327_0, bn_1 b327_1, q327_29, q327_30, q327_33, q327_34, q327_35, q327_36, q327_37, q327_40, q327_41, q327_42, q327_43, q327_46, q327_47i, q327_48, q327_49, q327_52, q327_53, q327_56, q327_57, q327_58, q327_59i, q327_61, q327_62, q327_63, mc_o, mg_isLaid, ma_isLaid, mb_isLaid, mn_isLaid, wx_some, wx_ref, isl_i, isl_r, isl_n, nar_1, aS_n (show k < (mS.2.2.2.2.2.1).length by omega) (show (mS.2.2.2.2.2.1).length < 2 ^ 31 by omega), nl_0, nl_1, nI_add]
    rw [if_pos (by decide), if_pos (by decide)]
    simp only [b327_0, b327_1, bn_0 b327_0, bn_1 b327_1, q327_65, mc_o]
    apply tm_laysLines (f := 0) (t := 1 + k) (by omega) (by omega) (by omega) hL
    intro mB1 hL1 a1 a2 a3
    simp only [sl_n, b327_0, b327_1, bn_0 b327_0, bn_1 b327_1, q327_68, q327_69, q327_70, q327_72, mc_o]
    apply tm_laysWish (f := 0) (t := 1 + k) (by omega) (by omega) (by omega) hL1
    intro mB2 hL2 b1 b2 b3
    simp only [sl_n, b327_0, b327_1, bn_0 b327_0, bn_1 b327_1, q327_75, q327_76, q327_77, q327_79, mc_o]
    apply tm_laysSeen (f := 0) (t := 1 + k) (by omega) (by omega) (by omega) hL2
    intro mB3 hL3 d1 d2 d3
    have hrow : ∀ b' r, b_ok s b' → BKm b' mB (if r = 1 + k then 0 else r) → BKm b' mB3 r := by
      intro b' r hb' hB'
      refine ⟨d1 _ _ (b1 _ _ (a1 _ _ hb'.1.1 hB'.1)), d2 _ _ (b2 _ _ hb'.2.1.1 ?_), d3 _ _ hb'.2.2.1 ?_⟩
      · exact a2 _ _ hB'.2.1
      · exact b3 _ _ (a3 _ _ hB'.2.2)
    simp only [sl_n, b327_0, b327_1, bn_0 b327_0, bn_1 b327_1, q327_82, q327_83, b327_0, b327_1, bn_0 b327_0, bn_1 b327_1, q327_110, q327_111, q327_114, q327_115, q327_116, q327_119, q327_121, q327_122, mc_o, mg_s, ma_s, mb_s, mn_s, mg_marked, ma_marked, mb_marked, mn_marked, wx_some, wx_ref, nl_9, pk_mul]
    rw [if_pos (by decide)]
    simp only [b327_0, b327_1, bn_0 b327_0, bn_1 b327_1, q327_123]
    refine tm_copies (a := 0) (b := 9 * k) (H := fun l => (pm_h z X Y (pm_l ((0, mV.2.1, mV.2.2.1, mV.2.2.2)) mT mQ mO mE (mB3) ((mS.1, mS.2.1, mS.2.2.1, l, mS.2.2.2.2.1, (mS.2.2.2.2.2.1).set k 1, mS.2.2.2.2.2.2.1, mS.2.2.2.2.2.2.2)) mR mW))) (fs := mS.1) (ts := mS.2.2.2.1) (fun _ _ => ma_s) (fun _ _ _ => mb_marked) (by omega) (by omega) (by omega) (by omega) (fun ts' g1 g2 => ?_)
    simp only [sl_n, b327_0, b327_1, bn_0 b327_0, bn_1 b327_1, q327_126, q327_127]
    refine hq2 k ts' ((mS.2.2.2.2.2.1).set k 1) mB3 e rfl hL3 (hrow b 0 hb (by rw [if_neg (by omega)]; exact hB)) hU ⟨by show ts'.length = 36; omega, by show ((mS.2.2.2.2.2.1).set k 1).length = 4; rw [List.length_set]; exact h2, fun i hi => ⟨hld _ (by rw [if_pos rfl]; rfl) (fun j hj => if_neg hj) i hi, fun c' b' ho => ?_⟩⟩
    by_cases ei : i = k
    · subst ei
      simp only [] at ho
      rw [if_pos trivial] at ho
      cases ho
      refine ⟨hb, SCr_cp (SCm_r hS) (fun j hj => ?_), hrow b _ hb (by rw [if_pos rfl]; exact hB)⟩
      show ts'[9 * i + j]? = _
      rw [g2, if_pos (by omega), show 9 * i + j - 9 * i = j by omega]
    · simp only [] at ho
      rw [if_neg ei] at ho
      obtain ⟨j1, j2, j3⟩ := (h3 i hi).2 c' b' ho
      refine ⟨j1, SCr_cp j2 (fun j hj => ?_), hrow b' _ j1 (by rw [if_neg (by omega)]; exact j3)⟩
      show ts'[9 * i + j]? = _
      rw [g2, if_neg (fun z => ei (dw hj (show 9 * i + j - 9 * k < 9 by omega) (show 9 * i + j = 9 * k + (9 * i + j - 9 * k) by omega)))]
  · subst ht
    rw [if_neg (by decide)]
    cases em : mk k with
    | none =>
      rw [if_neg (by decide)]
      exact hq0 (Or.inr ⟨rfl, k, e, em⟩)
    | some cb =>
      obtain ⟨c1, b1'⟩ := cb
      obtain ⟨j1, j2, j3⟩ := m2 c1 b1' em
      rw [if_pos (by simp)]
      simp only [b327_0, b327_1, bn_0 b327_0, bn_1 b327_1, q327_29, q327_30, q327_33, q327_34, q327_35, q327_36, q327_37, q327_40, q327_41, q327_42, q327_43, q327_46, q327_47i, q327_48, q327_49, q327_52, q327_53, q327_56, q327_57, q327_58, q327_59i, q327_61, q327_62, q327_63, mc_o, mg_isLaid, ma_isLaid, mb_isLaid, mn_isLaid, wx_some, wx_ref, isl_i, isl_r, isl_n, nar_1, aS_n (show k < (mS.2.2.2.2.2.1).length by omega) (show (mS.2.2.2.2.2.1).length < 2 ^ 31 by omega), nl_0, nl_1, nI_add]
      rw [if_neg (by decide), if_neg (by decide)]
      simp only [b327_0, b327_1, bn_0 b327_0, bn_1 b327_1, q327_65, mc_o]
      apply tm_laysLines (f := 1 + k) (t := 0) (by omega) (by omega) (by omega) hL
      intro mB1 hL1 a1 a2 a3
      simp only [sl_n, b327_0, b327_1, bn_0 b327_0, bn_1 b327_1, q327_68, q327_69, q327_70, q327_72, mc_o]
      apply tm_laysWish (f := 1 + k) (t := 0) (by omega) (by omega) (by omega) hL1
      intro mB2 hL2 b1 b2 b3
      simp only [sl_n, b327_0, b327_1, bn_0 b327_0, bn_1 b327_1, q327_75, q327_76, q327_77, q327_79, mc_o]
      apply tm_laysSeen (f := 1 + k) (t := 0) (by omega) (by omega) (by omega) hL2
      intro mB3 hL3 d1 d2 d3
      have hrow : ∀ b' r, b_ok s b' → BKm b' mB (if r = 0 then 1 + k else r) → BKm b' mB3 r := by
        intro b' r hb' hB'
        refine ⟨d1 _ _ (b1 _ _ (a1 _ _ hb'.1.1 hB'.1)), d2 _ _ (b2 _ _ hb'.2.1.1 ?_), d3 _ _ hb'.2.2.1 ?_⟩
        · exact a2 _ _ hB'.2.1
        · exact b3 _ _ (a3 _ _ hB'.2.2)
      simp only [sl_n, b327_0, b327_1, bn_0 b327_0, bn_1 b327_1, q327_82, q327_83, q327_86, q327_87, q327_90, q327_92, q327_93, q327_94, q327_95, q327_98, mc_o, mg_s, ma_s, mb_s, mn_s, mg_marked, ma_marked, mb_marked, mn_marked, wx_some, wx_ref, nl_9, pk_mul]
      rw [if_neg (by decide)]
      simp only [b327_0, b327_1, bn_0 b327_0, bn_1 b327_1, q327_99]
      refine tm_copies (a := 9 * k) (b := 0) (H := fun l => (pm_h z X Y (pm_l ((0, mV.2.1, mV.2.2.1, mV.2.2.2)) mT mQ mO mE (mB3) ((l, mS.2.1, mS.2.2.1, mS.2.2.2.1, mS.2.2.2.2.1, (mS.2.2.2.2.2.1).set k 1, mS.2.2.2.2.2.2.1, mS.2.2.2.2.2.2.2)) mR mW))) (fs := mS.2.2.2.1) (ts := mS.1) (fun _ _ => ma_marked) (fun _ _ _ => mb_s) (by omega) (by omega) (by omega) (by omega) (fun ts' g1 g2 => ?_)
      simp only [sl_n, b327_0, b327_1, bn_0 b327_0, bn_1 b327_1, q327_102, q327_103, q327_104, q327_107, b327_0, b327_1, bn_0 b327_0, bn_1 b327_1, q327_126, q327_127, mc_o, mg_done, mf_done, wx_some, wx_ref]
      refine hq1 k c1 b1' ts' ((mS.2.2.2.2.2.1).set k 1) mB3 e rfl em (SCr_m (by omega) (SCr_cp j2 (fun j hj => ?_))) hL3 (hrow b1' 0 j1 (by rw [if_pos rfl]; exact j3)) ⟨Nat.zero_le _, hU.2.1, rfl, fun i c' h' => by cases h'⟩ ⟨h1, by show ((mS.2.2.2.2.2.1).set k 1).length = 4; rw [List.length_set]; exact h2, fun i hi => ⟨hld mk (by rw [em]; rfl) (fun j hj => rfl) i hi, fun c' b' ho => ?_⟩⟩
      · rw [g2, if_pos (by omega), show 0 + j - 0 = j by omega]
      · obtain ⟨i1, i2, i3⟩ := (h3 i hi).2 c' b' ho
        exact ⟨i1, i2, hrow b' _ i1 (by rw [if_neg (by omega)]; exact i3)⟩
end MK2
