/-! what was done, undone, of the model -/
def SCr (s : SQ) (xs : List Int32) (o : Nat) (c : SC) : Prop := xs[o]? = some (nI c.1) ∧ xs[o + 1]? = some (nI c.2.1) ∧ ∀ i, i < 7 → xs[o + 2 + i]? = some (nI (if i < k_nW s then c.2.2 i else 0))
theorem SCr_m {s : SQ} {r : List Int32} {c : SC} (hl : r.length = 9) (h : SCr s r 0 c) : SCm s r c := ⟨hl, h.1, h.2.1, fun i hi => by have := h.2.2 i hi; rw [Nat.zero_add] at this; exact this⟩
theorem SCm_r {s : SQ} {r : List Int32} {c : SC} (h : SCm s r c) : SCr s r 0 c := ⟨h.2.1, h.2.2.1, fun i hi => by rw [Nat.zero_add]; exact h.2.2.2 i hi⟩
/-- a row of nine moved -/
theorem SCr_cp {s : SQ} {xs ys : List Int32} {a b : Nat} {c : SC} (h : SCr s xs a c) (hc : ∀ j, j < 9 → ys[b + j]? = xs[a + j]?) : SCr s ys b c := ⟨by have := hc 0 (by omega); rw [Nat.add_zero, Nat.add_zero] at this; rw [this]; exact h.1, by rw [hc 1 (by omega)]; exact h.2.1, fun i hi => by rw [Nat.add_assoc, hc (2 + i) (by omega), ← Nat.add_assoc]; exact h.2.2 i hi⟩
def UNm (s : SQ) (us : List SC) (mS : pm_S) : Prop := us.length ≤ 16 ∧ (mS.2.2.2.2.1).length = 144 ∧ mS.2.2.2.2.2.2.1 = nI us.length ∧ ∀ i c, us[i]? = some c → SCr s mS.2.2.2.2.1 (9 * (us.length - 1 - i)) c
theorem k7_xor : ∀ a, a < 128 → ∀ w, w < 7 → nI a ^^^ ((1 : Int32) <<< (nI w &&& 31)) = nI (a ^^^ 2 ^ w) := by decide +kernel
theorem k7_x1 : ∀ a, a < 128 → ∀ w, w < 7 → a.testBit w = true → a ^^^ 2 ^ w = a &&& (127 ^^^ 2 ^ w) := by decide +kernel
theorem k7_x0 : ∀ a, a < 128 → ∀ w, w < 7 → a.testBit w = false → a ^^^ 2 ^ w = a ||| 2 ^ w := by decide +kernel
theorem k_canb : ∀ p, p < 10 → ∀ st, st < 3 → 0 < st → (sp_can p st = true ↔ ¬ sp_behind p st = p) := by decide +kernel
section MU
variable {fx : List Value → mm_H → Option (List Value × mm_H)} {z : Nat} {X Y : Nat → mm_C} {mV : pm_V} {mT : pm_T} {mQ : pm_Q} {mO : pm_O} {mE : pm_E} {mB : pm_B} {mS : pm_S} {mR : pm_R} {mW : pm_W} {m_thrown : Int32} {m_given : Int32} {m_fresh : Int64} {m_code : Int32} {m_taped : Int32} {m_tape : List Int32} {m_size : Int32} {m_place : Int32} {m_begin : Int32} {m_token : Int32} {m_word : Int64} {m_told : Int32} {m_wrong : Int32} {m_square : List Int32} {m_sortName : List Int64} {m_colourName : List Int64} {m_walkerName : List Int64} {m_sortOf : List Int32} {m_rules : List Int32} {m_kind : List Int32} {m_colour : List Int32} {m_atTold : List Int32} {m_goesMany : List Int32} {m_goes : List Int32} {m_gusts : List Int32} {m_lineFrom : List Int32} {m_lineTo : List Int32} {m_codes : List Int32} {m_opened : List Int32} {m_compared : List Int32} {m_kept : List Int32} {m_keptBy : List Int32} {m_ahead : List Int32} {m_against : List Int32} {m_sum : List Int32} {m_sumBy : List Int32} {m_term : List Int32} {m_termBy : List Int32} {m_byNot : List Int32} {m_valueOf : List Int32} {m_lines : List Int32} {m_lineWhat : List Int32} {m_lineA : List Int32} {m_lineB : List Int32} {m_wishes : List Int32} {m_wishOf : List Int32} {m_seens : List Int32} {m_seenAt : List Int32} {m_seenIn : List Int32} {m_seenThere : List Int32} {m_s : List Int32} {m_aside : List Int32} {m_before : List Int32} {m_marked : List Int32} {m_undone : List Int32} {m_isLaid : List Int32} {m_done : Int32} {m_gustNow : Int32} {m_shown : List Int32} {m_shownMany : Int32} {m_from7 : List Int32} {m_long7 : List Int32} {m_sentences : Int32} {m_text7 : List Int32} {m_textMany : Int32} {m_waysOf : List Int32} {m_rowOf : List Int32} {m_row : List Int32} {m_bestRow : List Int32} {m_leastSteps : Int32} {m_steps10 : List Int32} {m_placeIn : List Int32} {m_g : Int64}
variable {d : Nat} {Q : Option Value → mm_H → Prop} {s : SQ} {c : SC} {nm : NMs} {us : List SC}
theorem tm_keeps (hS : SCm s mS.1 c) (hU : UNm s us mS) (hq : ∀ u' dn', UNm s (sp_keep c us) (mS.1, mS.2.1, mS.2.2.1, mS.2.2.2.1, u', mS.2.2.2.2.2.1, dn', mS.2.2.2.2.2.2.2) → Q none (pm_h z X Y (pm_l mV mT mQ mO mE mB ((mS.1, mS.2.1, mS.2.2.1, mS.2.2.2.1, u', mS.2.2.2.2.2.1, dn', mS.2.2.2.2.2.2.2)) mR mW))) : wm (mp_P fx) (d + 1) 272 [.ref 149] (pm_h z X Y (pm_l mV mT mQ mO mE mB mS mR mW)) Q := by
  obtain ⟨h16, hl, hdn, hrow⟩ := id hU
  have hs9 := hS.1
  have fin : ∀ (n : Nat) (ud : List Int32) (l1 : Option Value), n ≤ 15 → ud.length = 144 → (∀ i c', i < n → us[i]? = some c' → SCr s ud (9 * (n - 1 - i)) c') → n + 1 = (sp_keep c us).length → ww (mp_P fx) (d + 1) 272 49 [some (.ref 149), l1] [] (pm_h z X Y (pm_l mV mT mQ mO mE mB ((mS.1, mS.2.1, mS.2.2.1, mS.2.2.2.1, ud, mS.2.2.2.2.2.1, nI n, mS.2.2.2.2.2.2.2)) mR mW)) Q := by
    intro n ud l1 hn hud hro hkl
    simp only [q272_49, q272_50, q272_53, q272_54, q272_55, q272_58, q272_60, q272_61, q272_64, q272_65, mc_o, mg_s, ma_s, mb_s, mn_s, mg_undone, ma_undone, mb_undone, mn_undone, mg_done, mf_done, wx_some, wx_ref, nl_9, pk_mul]
    refine tm_copies (a := 0) (b := 9 * n) (H := fun l => (pm_h z X Y (pm_l mV mT mQ mO mE mB ((mS.1, mS.2.1, mS.2.2.1, mS.2.2.2.1, l, mS.2.2.2.2.2.1, nI n, mS.2.2.2.2.2.2.2)) mR mW))) (fs := mS.1) (ts := ud) (fun _ _ => ma_s) (fun _ _ _ => mb_undone) (by omega) (by omega) (by omega) (by omega) (fun ts' h1 h2 => ?_)
    simp only [sl_n, q272_68, q272_69, q272_70, q272_73, q272_74, q272_75, q272_78, mc_o, mg_done, mf_done, wx_some, wx_ref, nl_1, nI_add]
    refine hq _ _ ⟨by omega, by show ts'.length = 144; omega, by show nI (n + 1) = _; rw [hkl], fun i c' h' => ?_⟩
    have hi : i < n + 1 := by
      rcases Nat.lt_or_ge i (n + 1) with h | h
      · exact h
      · rw [List.getElem?_eq_none (by omega)] at h'; cases h'
    unfold sp_keep at h'
    rw [List.getElem?_take_of_lt (by omega)] at h'
    show SCr s ts' (9 * ((sp_keep c us).length - 1 - i)) c'
    rw [← hkl]
    cases i with
    | zero =>
      cases h'
      apply SCr_cp (SCm_r hS)
      intro j hj
      rw [h2, if_pos (by omega), show 9 * (n + 1 - 1 - 0) + j - 9 * n = j by omega]
    | succ i =>
      rw [List.getElem?_cons_succ] at h'
      apply SCr_cp (hro i c' (by omega) h')
      intro j hj
      rw [h2, if_neg (by omega), show n + 1 - 1 - (i + 1) = n - 1 - i by omega]
  have hkl : (sp_keep c us).length = min 16 (us.length + 1) := by unfold sp_keep; rw [List.length_take, List.length_cons]
  simp only [e272, q272_0, q272_1, q272_4, q272_6, q272_9, q272_10r, mc_o, mg_done, mf_done, wx_some, wx_ref, isl_i, isl_r, isl_n, hdn]
  by_cases e : us.length = 16
  · rw [if_neg (by rw [e]; exact fun z => z rfl)]
    have key : ∀ (m k : Nat) (ud : List Int32), k + m = 135 → ud.length = 144 → (∀ j, ud[j]? = if j < k then (mS.2.2.2.2.1)[j + 9]? else (mS.2.2.2.2.1)[j]?) → ww (mp_P fx) (d + 1) 272 11 [some (.ref 149), some (.int (nI k))] [] (pm_h z X Y (pm_l mV mT mQ mO mE mB ((mS.1, mS.2.1, mS.2.2.1, mS.2.2.2.1, ud, mS.2.2.2.2.2.1, mS.2.2.2.2.2.2.1, mS.2.2.2.2.2.2.2)) mR mW)) Q := by
      intro m
      induction m with
      | zero =>
        intro k ud hk hud hI
        have hk2 : k = 135 := by omega
        subst hk2
        rw [q272_11]
        simp only [q272_12, q272_15, q272_39, q272_40, q272_41, q272_44, q272_45, q272_46, mc_o, mg_done, mf_done, wx_some, wx_ref, nl_1]
        rw [if_pos (by decide)]
        have hv : mS.2.2.2.2.2.2.1 - nI 1 = nI 15 := by rw [hdn, e]; rfl
        rw [hv]
        refine fin 15 ud _ (by omega) hud (fun i c' hi h' => ?_) (by omega)
        apply SCr_cp (hrow i c' h')
        intro j hj
        rw [hI, if_pos (by omega), e, show 9 * (15 - 1 - i) + j + 9 = 9 * (16 - 1 - i) + j by omega]
      | succ m ih =>
        intro k ud hk hud hI
        have hv : ud[k + 9]? = some (ud[k + 9]'(by omega)) := List.getElem?_eq_getElem (by omega)
        rw [q272_11]
        simp only [q272_12, q272_15, q272_18, q272_19, q272_22, q272_23, q272_24, q272_27, q272_28, q272_30, q272_31, q272_32, q272_33r, q272_36, mc_o, mg_undone, ma_undone, mb_undone, mn_undone, wx_some, wx_ref, isl_i, isl_r, isl_n, nl_1, nl_9, nI_add, aG_n hv (show ud.length < 2 ^ 31 by omega), aS_n (show k < ud.length by omega) (show ud.length < 2 ^ 31 by omega)]
        rw [show (135 : Int32) = nI 135 from rfl, if_neg (by rw [nI_leI (by omega) (by omega)]; omega)]
        refine ih (k + 1) _ (by omega) (by rw [List.length_set]; exact hud) (fun j => ?_)
        rw [List.getElem?_set]
        by_cases ej : k = j
        · subst ej
          rw [if_pos rfl, if_pos (by omega), if_pos (by omega), ← hv, hI, if_neg (by omega)]
        · rw [if_neg ej, hI j]
          by_cases e2 : j < k
          · rw [if_pos e2, if_pos (by omega)]
          · rw [if_neg e2, if_neg (by omega)]
    exact key 135 0 mS.2.2.2.2.1 (by omega) hl (fun j => by rw [if_neg (by omega)])
  · rw [if_pos (by rw [show (16 : Int32) = nI 16 from rfl, nI_eq (by omega) (by omega)]; exact e)]
    have := fin us.length mS.2.2.2.2.1 none (by omega) hl (fun i c' hi h' => hrow i c' h') (by omega)
    rw [← hdn] at this
    exact this
theorem tm_undo (hs9 : (mS.1).length = 9) (hU : UNm s us mS) (hq0 : us = [] → Q (some (.int 0)) (pm_h z X Y (pm_l ((0, mV.2.1, mV.2.2.1, mV.2.2.2)) mT mQ mO mE mB mS mR mW))) (hq1 : ∀ c1 u1 r dn', us = c1 :: u1 → SCm s r c1 → UNm s u1 (r, mS.2.1, mS.2.2.1, mS.2.2.2.1, mS.2.2.2.2.1, mS.2.2.2.2.2.1, dn', mS.2.2.2.2.2.2.2) → Q (some (.int 1)) (pm_h z X Y (pm_l ((0, mV.2.1, mV.2.2.1, mV.2.2.2)) mT mQ mO mE mB ((r, mS.2.1, mS.2.2.1, mS.2.2.2.1, mS.2.2.2.2.1, mS.2.2.2.2.2.1, dn', mS.2.2.2.2.2.2.2)) mR mW))) : wm (mp_P fx) (d + 1) 285 [.ref 149] (pm_h z X Y (pm_l mV mT mQ mO mE mB mS mR mW)) Q := by
  obtain ⟨h16, hl, hdn, hrow⟩ := id hU
  simp only [e285, b285_0, b285_1, bn_0 b285_0, bn_1 b285_1, q285_0, q285_1, q285_2, q285_5, q285_6, q285_9, q285_12, q285_13, q285_14, q285_15, q285_16, q285_19, q285_20, q285_21, q285_24, q285_25, q285_28, q285_30, q285_31, q285_34, q285_35, q285_36, q285_39, q285_40, q285_43, q285_44, mc_o, mg_thrown, mf_thrown, mg_s, ma_s, mb_s, mn_s, mg_undone, ma_undone, mb_undone, mn_undone, mg_done, mf_done, wx_some, wx_ref]
  cases us with
  | nil =>
    rw [if_neg (by rw [hdn]; decide)]
    exact hq0 rfl
  | cons c1 u1 =>
    rw [List.length_cons] at h16 hdn
    rw [if_pos (by rw [hdn]; exact nI_ne0 (by omega) (by omega))]
    have hv : mS.2.2.2.2.2.2.1 - 1 = nI u1.length := by rw [hdn, nl_1, nI_sub (by omega), Nat.add_sub_cancel]
    rw [hv, nl_9, pk_mul]
    refine tm_copies (a := 9 * u1.length) (b := 0) (H := fun l => (pm_h z X Y (pm_l ((0, mV.2.1, mV.2.2.1, mV.2.2.2)) mT mQ mO mE mB ((l, mS.2.1, mS.2.2.1, mS.2.2.2.1, mS.2.2.2.2.1, mS.2.2.2.2.2.1, nI u1.length, mS.2.2.2.2.2.2.2)) mR mW))) (fs := mS.2.2.2.2.1) (ts := mS.1) (fun _ _ => ma_undone) (fun _ _ _ => mb_s) (by omega) (by omega) (by omega) (by omega) (fun ts' h1 h2 => ?_)
    simp only [sl_n, e285, b285_0, b285_1, bn_0 b285_0, bn_1 b285_1, q285_0, q285_1, q285_2, q285_5, q285_6, q285_9, q285_12, q285_13, q285_14, q285_15, q285_16, q285_19, q285_20, q285_21, q285_24, q285_25, q285_28, q285_30, q285_31, q285_34, q285_35, q285_36, q285_39, q285_40, q285_43, q285_44]
    refine hq1 c1 u1 ts' _ rfl (SCr_m (by omega) (SCr_cp (hrow 0 c1 rfl) (fun j hj => ?_))) ⟨by omega, hl, rfl, fun i c' h' => ?_⟩
    · rw [h2, if_pos (by omega), List.length_cons, show u1.length + 1 - 1 - 0 = u1.length by omega, show 0 + j - 0 = j by omega]
    · have hi : i < u1.length := by
        rcases Nat.lt_or_ge i u1.length with h | h
        · exact h
        · rw [List.getElem?_eq_none h] at h'; cases h'
      have := hrow (i + 1) c' (by rw [List.getElem?_cons_succ]; exact h')
      rw [List.length_cons, show u1.length + 1 - 1 - (i + 1) = u1.length - 1 - i by omega] at this
      exact this
theorem tm_tick (hK : KM nm s mQ) (hE : KE mE mR) (hc : c_ok s c) (hh : c.1 + 1 < 2 ^ 20) (hS : SCm s mS.1 c) (hg : mS.2.2.2.2.2.2.2 = -1) (hU : UNm s us mS) (hq : ∀ mE' mR' r u' dn', KE mE' mR' → SCm s r (sp_on s c) → UNm s (sp_keep c us) (r, mS.2.1, mS.2.2.1, mS.2.2.2.1, u', mS.2.2.2.2.2.1, dn', mS.2.2.2.2.2.2.2) → Q (some (.int (nI (sp_sd s (sp_on s c))))) (pm_h z X Y (pm_l ((0, mV.2.1, mV.2.2.1, mV.2.2.2)) mT mQ mO (mE') mB ((r, mS.2.1, mS.2.2.1, mS.2.2.2.1, u', mS.2.2.2.2.2.1, dn', mS.2.2.2.2.2.2.2)) (mR') mW))) : wm (mp_P fx) (d + 6) 271 [.ref 149] (pm_h z X Y (pm_l mV mT mQ mO mE mB mS mR mW)) Q := by
  simp only [e271, q271_0, q271_1, q271_2, q271_5, q271_6, q271_9, q271_10, q271_13, q271_14, q271_17, mc_o, mg_thrown, mf_thrown, wx_some]
  apply tm_keeps hS hU
  intro u' dn' hU'
  simp only [sl_n, e271, q271_0, q271_1, q271_2, q271_5, q271_6, q271_9, q271_10, q271_13, q271_14, q271_17, mc_o]
  apply tm_passes (mS := (mS.1, mS.2.1, mS.2.2.1, mS.2.2.2.1, u', mS.2.2.2.2.2.1, dn', mS.2.2.2.2.2.2.2)) hK.1 hK.2.2.1 hc hS
  intro r hr
  simp only [sl_n, e271, q271_0, q271_1, q271_2, q271_5, q271_6, q271_9, q271_10, q271_13, q271_14, q271_17, mc_o]
  apply tm_sd (mS := (r, mS.2.1, mS.2.2.1, mS.2.2.2.1, u', mS.2.2.2.2.2.1, dn', mS.2.2.2.2.2.2.2)) hK hE (c_on hc hh) hr hg
  intro mE' mR' hE'
  simp only [sl_i, e271, q271_0, q271_1, q271_2, q271_5, q271_6, q271_9, q271_10, q271_13, q271_14, q271_17]
  exact hq mE' mR' r u' dn' hE' hr hU'
theorem SCm_put {w p : Nat} {r : List Int32} (hw : w < k_nW s) (h7 : k_nW s ≤ 7) (h : SCm s r c) : SCm s (r.set (2 + w) (nI p)) (sp_put c w p) := by
  obtain ⟨h9, h0, h1, hp⟩ := h
  refine ⟨by rw [List.length_set]; exact h9, by rw [List.getElem?_set_ne (by omega)]; exact h0, by rw [List.getElem?_set_ne (by omega)]; exact h1, fun i hi => ?_⟩
  rw [List.getElem?_set]
  by_cases e : w = i
  · subst e
    rw [if_pos rfl, if_pos (by omega), if_pos hw]
    show some (nI p) = some (nI (up c.2.2 w p w))
    rw [up_eq]
  · rw [if_neg (by omega), hp i hi]
    by_cases e2 : i < k_nW s
    · rw [if_pos e2, if_pos e2]
      show some (nI (c.2.2 i)) = some (nI (up c.2.2 w p i))
      rw [up_ne (fun z => e z.symm)]
    · rw [if_neg e2, if_neg e2]
theorem SCm_open {o : Nat} {r : List Int32} (h : SCm s r c) : SCm s (r.set 1 (nI o)) (c.1, o, c.2.2) := by
  obtain ⟨h9, h0, h1, hp⟩ := h
  exact ⟨by rw [List.length_set]; exact h9, by rw [List.getElem?_set_ne (by omega)]; exact h0, by rw [List.getElem?_set_self (by omega)], fun i hi => by rw [List.getElem?_set_ne (by omega)]; exact hp i hi⟩
theorem tm_move {u v : Int32} (hK : KM nm s mQ) (hc : c_ok s c) (hS : SCm s mS.1 c) (hU : UNm s us mS) (hq0 : (∀ w, sx (k_nW s) u = some w → sp_beh (c.2.2 w) v = c.2.2 w) → Q (some (.int (-1))) (pm_h z X Y (pm_l ((0, mV.2.1, mV.2.2.1, mV.2.2.2)) mT mQ mO mE mB mS mR mW))) (hq1 : ∀ w r u' dn', w < k_nW s → sx (k_nW s) u = some w → ¬ sp_beh (c.2.2 w) v = c.2.2 w → SCm s r (sp_put c w (sp_beh (c.2.2 w) v)) → UNm s (sp_keep c us) (r, mS.2.1, mS.2.2.1, mS.2.2.2.1, u', mS.2.2.2.2.2.1, dn', mS.2.2.2.2.2.2.2) → Q (some (.int (nI (sp_beh (c.2.2 w) v)))) (pm_h z X Y (pm_l ((0, mV.2.1, mV.2.2.1, mV.2.2.2)) mT mQ mO mE mB ((r, mS.2.1, mS.2.2.1, mS.2.2.2.1, u', mS.2.2.2.2.2.1, dn', mS.2.2.2.2.2.2.2)) mR mW))) : wm (mp_P fx) (d + 2) 282 [.ref 149, .int u, .int v] (pm_h z X Y (pm_l mV mT mQ mO mE mB mS mR mW)) Q := by
  have h7 := hK.2.2.1.1.2.2.2.1
  have hs9 := hS.1
  simp only [e282, q282_0, q282_1, q282_2, q282_5, q282_6, q282_7, q282_10, q282_13, q282_14, q282_15, q282_16, q282_19, q282_22, q282_23, q282_24, q282_25, q282_28, q282_31, q282_32, q282_33, q282_34, q282_37, q282_38, q282_41, q282_42, q282_43, q282_44, q282_45, q282_48, q282_49, q282_50, q282_51, q282_52, q282_53, q282_56, q282_57, q282_58, q282_61, q282_62, q282_63, q282_64, q282_65, mc_o, mg_thrown, mf_thrown, wx_some]
  apply tm_isWalker hK.1 hK.2.2.1
  · intro e
    simp only [sl_i, e282, q282_0, q282_1, q282_2, q282_5, q282_6, q282_7, q282_10, q282_13, q282_14, q282_15, q282_16, q282_19, q282_22, q282_23, q282_24, q282_25, q282_28, q282_31, q282_32, q282_33, q282_34, q282_37, q282_38, q282_41, q282_42, q282_43, q282_44, q282_45, q282_48, q282_49, q282_50, q282_51, q282_52, q282_53, q282_56, q282_57, q282_58, q282_61, q282_62, q282_63, q282_64, q282_65]
    rw [if_pos (by decide)]
    exact hq0 (fun w hw => by rw [e] at hw; cases hw)
  intro w hw hu e
  subst hu
  have hp := hc.2.2 w hw
  simp only [sl_i, q282_10, q282_13, q282_14, q282_15, q282_16]
  rw [if_neg (by decide)]
  apply tm_in
  · intro h0
    simp only [sl_i, q282_19, q282_22, q282_23, q282_24, q282_25, q282_28, q282_31, q282_32]
    rw [if_pos (by decide)]
    apply hq0
    intro w' hw'
    rw [e] at hw'
    cases hw'
    unfold sp_beh
    rw [if_neg (fun z => by subst z; exact h0.elim (by decide) (by decide)), if_neg (fun z => by subst z; exact h0.elim (by decide) (by decide))]
  intro h1 h2
  have hst : ∃ st, st < 3 ∧ 0 < st ∧ v = nI st ∧ sp_beh (c.2.2 w) v = sp_behind (c.2.2 w) st := by
    rcases iv v with hv | ⟨n, hn, rfl⟩
    · exact absurd (Int32.lt_of_lt_of_le hv (by decide : (0 : Int32) ≤ 1)) (Int32.not_lt.mpr h1)
    · rw [nl_1, nI_leI (by omega) (by omega)] at h1
      rw [nl_2, nI_leI (by omega) (by omega)] at h2
      refine ⟨n, by omega, by omega, rfl, ?_⟩
      have hn2 : n = 1 ∨ n = 2 := by omega
      rcases hn2 with h | h
      · subst h; exact if_pos rfl
      · subst h; exact (if_neg (by decide)).trans (if_pos rfl)
  obtain ⟨st, hst3, hst0, rfl, hbeh⟩ := hst
  have hcb := k_canb _ hp st hst3 hst0
  have hq1 := hq1 w
  rw [hbeh] at hq1
  simp only [sl_i, q282_19, q282_22, q282_23, q282_24, q282_25, mc_o]
  rw [if_neg (by decide)]
  apply tm_can hc hS hw h7 hst3
  simp only [sl_i, q282_28, q282_31, q282_32, q282_33, q282_34, mc_o]
  by_cases ec : sp_can (c.2.2 w) st = true
  · rw [if_pos ec, if_pos (by decide)]
    apply tm_keeps hS hU
    intro u' dn' hU'
    have hpw := hS.2.2.2 w (by omega)
    rw [if_pos hw] at hpw
    simp only [sl_n, q282_37, q282_38, q282_41, q282_42, q282_43, q282_44, q282_45, q282_48, q282_49, q282_50, q282_51, q282_52, q282_53, mc_o, mg_s, ma_s, mb_s, mn_s, wx_some, wx_ref, nl_2, nI_add, aG_n hpw (show (mS.1).length < 2 ^ 31 by omega)]
    apply tm_stepped hst3
    rw [k_stI _ hp st hst3 ec]
    have hset : ((mS.1).set (2 + w) (nI (sp_behind (c.2.2 w) st)))[2 + w]? = some (nI (sp_behind (c.2.2 w) st)) := List.getElem?_set_self (by omega)
    simp only [sl_i, q282_56, q282_57, q282_58, q282_61, q282_62, q282_63, q282_64, q282_65, mc_o, mg_s, ma_s, mb_s, mn_s, wx_some, wx_ref, nl_2, nI_add, aS_n (show 2 + w < (mS.1).length by omega) (show (mS.1).length < 2 ^ 31 by omega), aG_n hset (show ((mS.1).set (2 + w) (nI (sp_behind (c.2.2 w) st))).length < 2 ^ 31 by rw [List.length_set]; omega)]
    exact hq1 _ u' dn' hw e (hcb.mp ec) (SCm_put hw h7 hS) hU'
  · rw [if_neg ec, if_neg (by decide)]
    apply hq0
    intro w' hw'
    rw [e] at hw'
    cases hw'
    rw [hbeh]
    exact Decidable.not_not.mp (fun z => ec (hcb.mpr z))
theorem tm_shut {u : Int32} (hK : KM nm s mQ) (hc : c_ok s c) (hS : SCm s mS.1 c) (hU : UNm s us mS) (hq0 : (∀ w, sx (k_nW s) u = some w → c.2.1.testBit w = !true) → Q (some (.int 0)) (pm_h z X Y (pm_l ((0, mV.2.1, mV.2.2.1, mV.2.2.2)) mT mQ mO mE mB mS mR mW))) (hq1 : ∀ w r u' dn', w < k_nW s → sx (k_nW s) u = some w → c.2.1.testBit w = true → SCm s r (c.1, c.2.1 &&& (127 ^^^ 2 ^ w), c.2.2) → UNm s (sp_keep c us) (r, mS.2.1, mS.2.2.1, mS.2.2.2.1, u', mS.2.2.2.2.2.1, dn', mS.2.2.2.2.2.2.2) → Q (some (.int 1)) (pm_h z X Y (pm_l ((0, mV.2.1, mV.2.2.1, mV.2.2.2)) mT mQ mO mE mB ((r, mS.2.1, mS.2.2.1, mS.2.2.2.1, u', mS.2.2.2.2.2.1, dn', mS.2.2.2.2.2.2.2)) mR mW))) : wm (mp_P fx) (d + 2) 283 [.ref 149, .int u] (pm_h z X Y (pm_l mV mT mQ mO mE mB mS mR mW)) Q := by
  have h7 := hK.2.2.1.1.2.2.2.1
  have hs9 := hS.1
  have h128 : c.2.1 < 128 := Nat.lt_of_lt_of_le hc.2.1 (p27 h7)
  simp only [e283, b283_0, b283_1, bn_0 b283_0, bn_1 b283_1, q283_0, q283_1, q283_2, q283_5, q283_6, q283_7, q283_10, q283_13, q283_14, q283_15, q283_18, q283_21, q283_22, q283_23, q283_24, q283_27, q283_28, q283_31, q283_32, q283_33, q283_34, q283_35, q283_36, q283_37, q283_38, q283_39, q283_40, mc_o, mg_thrown, mf_thrown, wx_some]
  apply tm_isWalker hK.1 hK.2.2.1
  · intro e
    simp only [sl_i, e283, b283_0, b283_1, bn_0 b283_0, bn_1 b283_1, q283_0, q283_1, q283_2, q283_5, q283_6, q283_7, q283_10, q283_13, q283_14, q283_15, q283_18, q283_21, q283_22, q283_23, q283_24, q283_27, q283_28, q283_31, q283_32, q283_33, q283_34, q283_35, q283_36, q283_37, q283_38, q283_39, q283_40]
    rw [if_pos (by decide)]
    exact hq0 (fun w hw => by rw [e] at hw; cases hw)
  intro w hw hu e
  subst hu
  simp only [sl_i, b283_0, b283_1, bn_0 b283_0, bn_1 b283_1, q283_10, q283_13, q283_14, q283_15, mc_o]
  rw [if_neg (by decide)]
  apply tm_isOpen h7 hc hS hw
  simp only [sl_i, b283_0, b283_1, bn_0 b283_0, bn_1 b283_1, q283_18, q283_21, q283_22, q283_23, q283_24, mc_o]
  have hno : c.2.1.testBit w = !true → Q (some (.int 0)) (pm_h z X Y (pm_l ((0, mV.2.1, mV.2.2.1, mV.2.2.2)) mT mQ mO mE mB mS mR mW)) := fun h => hq0 (fun w' hw' => by rw [e] at hw'; cases hw'; exact h)
  have hyes : c.2.1.testBit w = true → wm (mp_P fx) (d + 1) 272 [.ref 149] (pm_h z X Y (pm_l ((0, mV.2.1, mV.2.2.1, mV.2.2.2)) mT mQ mO mE mB mS mR mW)) (fun r h' => ww (mp_P fx) (d + 2) 283 27 [some (.ref 149), some (.int (nI w))] (r.toList ++ []) h' Q) := by
    intro hb
    apply tm_keeps hS hU
    intro u' dn' hU'
    have hp1 := hS.2.2.1
    simp only [sl_n, b283_0, b283_1, bn_0 b283_0, bn_1 b283_1, q283_27, q283_28, q283_31, q283_32, q283_33, q283_34, q283_35, q283_36, q283_37, q283_38, q283_39, q283_40, mc_o, mg_s, ma_s, mb_s, mn_s, wx_some, wx_ref, show aG (mS.1) 1 = some (nI c.2.1) from aG_n hp1 (by omega), k7_xor _ h128 w (show w < 7 by omega), show ∀ x (f : List Int32 → mm_H), aS (mS.1) 1 x f = some (f ((mS.1).set 1 x)) from fun x f => aS_n (j := 1) (by omega) (by omega)]
    refine hq1 w _ u' dn' hw e hb ?_ hU'
    rw [k7_x1 _ h128 w (by omega) hb]
    exact SCm_open hS
  by_cases eb : c.2.1.testBit w = true
  · rw [if_pos eb]
    rw [if_pos (by decide)]
    exact hyes eb
  · rw [if_neg eb]
    rw [if_neg (by decide)]
    exact hno (Bool.eq_false_iff.mpr eb)
theorem tm_open {u : Int32} (hK : KM nm s mQ) (hc : c_ok s c) (hS : SCm s mS.1 c) (hU : UNm s us mS) (hq0 : (∀ w, sx (k_nW s) u = some w → c.2.1.testBit w = !false) → Q (some (.int 0)) (pm_h z X Y (pm_l ((0, mV.2.1, mV.2.2.1, mV.2.2.2)) mT mQ mO mE mB mS mR mW))) (hq1 : ∀ w r u' dn', w < k_nW s → sx (k_nW s) u = some w → c.2.1.testBit w = false → SCm s r (c.1, c.2.1 ||| 2 ^ w, c.2.2) → UNm s (sp_keep c us) (r, mS.2.1, mS.2.2.1, mS.2.2.2.1, u', mS.2.2.2.2.2.1, dn', mS.2.2.2.2.2.2.2) → Q (some (.int 1)) (pm_h z X Y (pm_l ((0, mV.2.1, mV.2.2.1, mV.2.2.2)) mT mQ mO mE mB ((r, mS.2.1, mS.2.2.1, mS.2.2.2.1, u', mS.2.2.2.2.2.1, dn', mS.2.2.2.2.2.2.2)) mR mW))) : wm (mp_P fx) (d + 2) 284 [.ref 149, .int u] (pm_h z X Y (pm_l mV mT mQ mO mE mB mS mR mW)) Q := by
  have h7 := hK.2.2.1.1.2.2.2.1
  have hs9 := hS.1
  have h128 : c.2.1 < 128 := Nat.lt_of_lt_of_le hc.2.1 (p27 h7)
  simp only [e284, b284_0, b284_1, bn_0 b284_0, bn_1 b284_1, q284_0, q284_1, q284_2, q284_5, q284_6, q284_7, q284_10, q284_13, q284_14, q284_15, q284_18, q284_21, q284_22, q284_23, q284_24, q284_27, q284_28, q284_31, q284_32, q284_33, q284_34, q284_35, q284_36, q284_37, q284_38, q284_39, q284_40, mc_o, mg_thrown, mf_thrown, wx_some]
  apply tm_isWalker hK.1 hK.2.2.1
  · intro e
    simp only [sl_i, e284, b284_0, b284_1, bn_0 b284_0, bn_1 b284_1, q284_0, q284_1, q284_2, q284_5, q284_6, q284_7, q284_10, q284_13, q284_14, q284_15, q284_18, q284_21, q284_22, q284_23, q284_24, q284_27, q284_28, q284_31, q284_32, q284_33, q284_34, q284_35, q284_36, q284_37, q284_38, q284_39, q284_40]
    rw [if_pos (by decide)]
    exact hq0 (fun w hw => by rw [e] at hw; cases hw)
  intro w hw hu e
  subst hu
  simp only [sl_i, b284_0, b284_1, bn_0 b284_0, bn_1 b284_1, q284_10, q284_13, q284_14, q284_15, mc_o]
  rw [if_neg (by decide)]
  apply tm_isOpen h7 hc hS hw
  simp only [sl_i, b284_0, b284_1, bn_0 b284_0, bn_1 b284_1, q284_18, q284_21, q284_22, q284_23, q284_24, mc_o]
  have hno : c.2.1.testBit w = !false → Q (some (.int 0)) (pm_h z X Y (pm_l ((0, mV.2.1, mV.2.2.1, mV.2.2.2)) mT mQ mO mE mB mS mR mW)) := fun h => hq0 (fun w' hw' => by rw [e] at hw'; cases hw'; exact h)
  have hyes : c.2.1.testBit w = false → wm (mp_P fx) (d + 1) 272 [.ref 149] (pm_h z X Y (pm_l ((0, mV.2.1, mV.2.2.1, mV.2.2.2)) mT mQ mO mE mB mS mR mW)) (fun r h' => ww (mp_P fx) (d + 2) 284 27 [some (.ref 149), some (.int (nI w))] (r.toList ++ []) h' Q) := by
    intro hb
    apply tm_keeps hS hU
    intro u' dn' hU'
    have hp1 := hS.2.2.1
    simp only [sl_n, b284_0, b284_1, bn_0 b284_0, bn_1 b284_1, q284_27, q284_28, q284_31, q284_32, q284_33, q284_34, q284_35, q284_36, q284_37, q284_38, q284_39, q284_40, mc_o, mg_s, ma_s, mb_s, mn_s, wx_some, wx_ref, show aG (mS.1) 1 = some (nI c.2.1) from aG_n hp1 (by omega), k7_xor _ h128 w (show w < 7 by omega), show ∀ x (f : List Int32 → mm_H), aS (mS.1) 1 x f = some (f ((mS.1).set 1 x)) from fun x f => aS_n (j := 1) (by omega) (by omega)]
    refine hq1 w _ u' dn' hw e hb ?_ hU'
    rw [k7_x0 _ h128 w (by omega) hb]
    exact SCm_open hS
  by_cases eb : c.2.1.testBit w = true
  · rw [if_pos eb]
    rw [if_neg (by decide)]
    exact hno eb
  · rw [if_neg eb]
    rw [if_pos (by decide)]
    exact hyes (Bool.eq_false_iff.mpr eb)
end MU
