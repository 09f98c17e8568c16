/-! what is told becomes the square: the model's rows -/
def RWm (mQ mQ' : pm_Q) : Prop := (∀ i : Nat, i < 6 → (mQ'.1)[i]? = (mQ.1)[6 + i]?) ∧ (∀ i : Nat, i < 6 → (mQ'.2.1)[i]? = (mQ.2.1)[6 + i]?) ∧ (∀ i : Nat, i < 6 → (mQ'.2.2.1)[i]? = (mQ.2.2.1)[6 + i]?) ∧ (∀ i : Nat, i < 7 → (mQ'.2.2.2.1)[i]? = (mQ.2.2.2.1)[7 + i]?) ∧ (∀ i : Nat, i < 6 → (mQ'.2.2.2.2.1)[i]? = (mQ.2.2.2.2.1)[6 + i]?) ∧ (∀ i : Nat, i < 12 → (mQ'.2.2.2.2.2.1)[i]? = (mQ.2.2.2.2.2.1)[12 + i]?) ∧ (∀ i : Nat, i < 7 → (mQ'.2.2.2.2.2.2.1)[i]? = (mQ.2.2.2.2.2.2.1)[7 + i]?) ∧ (∀ i : Nat, i < 7 → (mQ'.2.2.2.2.2.2.2.1)[i]? = (mQ.2.2.2.2.2.2.2.1)[7 + i]?) ∧ (∀ i : Nat, i < 7 → (mQ'.2.2.2.2.2.2.2.2.1)[i]? = (mQ.2.2.2.2.2.2.2.2.1)[7 + i]?) ∧ (∀ i : Nat, i < 7 → (mQ'.2.2.2.2.2.2.2.2.2.1)[i]? = (mQ.2.2.2.2.2.2.2.2.2.1)[7 + i]?) ∧ (∀ i : Nat, i < 42 → (mQ'.2.2.2.2.2.2.2.2.2.2.1)[i]? = (mQ.2.2.2.2.2.2.2.2.2.2.1)[42 + i]?) ∧ (∀ i : Nat, i < 8 → (mQ'.2.2.2.2.2.2.2.2.2.2.2.1)[i]? = (mQ.2.2.2.2.2.2.2.2.2.2.2.1)[8 + i]?) ∧ (∀ i : Nat, i < 1000 → (mQ'.2.2.2.2.2.2.2.2.2.2.2.2.2.2)[i]? = (mQ.2.2.2.2.2.2.2.2.2.2.2.2.2.2)[1000 + i]?)
section GZD
variable {fx : List Value → mm_H → Option (List Value × mm_H)} {z : Nat} {X Y : Nat → mm_C} {mV : pm_V} {mT : pm_T} {mQ : pm_Q} {mO : pm_O} {mE : pm_E} {mB : pm_B} {mS : pm_S} {mR : pm_R} {mW : pm_W} {m_thrown : Int32} {m_given : Int32} {m_fresh : Int64} {m_code : Int32} {m_taped : Int32} {m_tape : List Int32} {m_size : Int32} {m_place : Int32} {m_begin : Int32} {m_token : Int32} {m_word : Int64} {m_told : Int32} {m_wrong : Int32} {m_square : List Int32} {m_sortName : List Int64} {m_colourName : List Int64} {m_walkerName : List Int64} {m_sortOf : List Int32} {m_rules : List Int32} {m_kind : List Int32} {m_colour : List Int32} {m_atTold : List Int32} {m_goesMany : List Int32} {m_goes : List Int32} {m_gusts : List Int32} {m_lineFrom : List Int32} {m_lineTo : List Int32} {m_codes : List Int32} {m_opened : List Int32} {m_compared : List Int32} {m_kept : List Int32} {m_keptBy : List Int32} {m_ahead : List Int32} {m_against : List Int32} {m_sum : List Int32} {m_sumBy : List Int32} {m_term : List Int32} {m_termBy : List Int32} {m_byNot : List Int32} {m_valueOf : List Int32} {m_lines : List Int32} {m_lineWhat : List Int32} {m_lineA : List Int32} {m_lineB : List Int32} {m_wishes : List Int32} {m_wishOf : List Int32} {m_seens : List Int32} {m_seenAt : List Int32} {m_seenIn : List Int32} {m_seenThere : List Int32} {m_s : List Int32} {m_aside : List Int32} {m_before : List Int32} {m_marked : List Int32} {m_undone : List Int32} {m_isLaid : List Int32} {m_done : Int32} {m_gustNow : Int32} {m_shown : List Int32} {m_shownMany : Int32} {m_from7 : List Int32} {m_long7 : List Int32} {m_sentences : Int32} {m_text7 : List Int32} {m_textMany : Int32} {m_waysOf : List Int32} {m_rowOf : List Int32} {m_row : List Int32} {m_bestRow : List Int32} {m_leastSteps : Int32} {m_steps10 : List Int32} {m_placeIn : List Int32} {m_g : Int64}
variable {d : Nat} {Q : Option Value → mm_H → Prop} {o : PS}
theorem tm_layAll {n : Nat} (hl : QLm mQ) (hf : (mQ.2.2.2.2.2.2.2.2.2.2.2.2.1)[1]? = some (nI 1000)) (ht : (mQ.2.2.2.2.2.2.2.2.2.2.2.2.2.1)[1]? = some (nI (1000 + n))) (hn : n ≤ 1000) (hq : ∀ mQ', QLm mQ' → RWm mQ mQ' → (mQ'.2.2.2.2.2.2.2.2.2.2.2.2.1)[0]? = some (nI 0) → (mQ'.2.2.2.2.2.2.2.2.2.2.2.2.2.1)[0]? = some (nI n) → Q none (pm_h z X Y (pm_l mV mT (mQ') mO mE mB mS mR mW))) : wm (mp_P fx) (d + 1) 249 [.ref 149] (pm_h z X Y (pm_l mV mT mQ mO mE mB mS mR mW)) Q := by
  obtain ⟨q1, q2, q3, q4, q5, q6, q7, q8, q9, q10, q11, q12, q13, q14, q15⟩ := id hl
  have gF : aG (mQ.2.2.2.2.2.2.2.2.2.2.2.2.1) 1 = some (nI 1000) := aG_n hf (by omega)
  have gT : aG (mQ.2.2.2.2.2.2.2.2.2.2.2.2.2.1) 1 = some (nI (1000 + n)) := aG_n ht (by omega)
  simp only [e249, q249_0, q249_1, q249_4, q249_6, mc_o, mg_square, ma_square, mb_square, mn_square, wx_some, wx_ref]
  apply tm_shift_square (mQ := mQ) q1
  intro x1 l1 f1
  simp only [sl_n, q249_9, q249_10, q249_13, q249_15, mc_o, mg_sortName, ma_sortName, mb_sortName, mn_sortName, wx_some, wx_ref]
  apply tm_shift_sortName (mQ := (x1, mQ.2.1, mQ.2.2.1, mQ.2.2.2.1, mQ.2.2.2.2.1, mQ.2.2.2.2.2.1, mQ.2.2.2.2.2.2.1, mQ.2.2.2.2.2.2.2.1, mQ.2.2.2.2.2.2.2.2.1, mQ.2.2.2.2.2.2.2.2.2.1, mQ.2.2.2.2.2.2.2.2.2.2.1, mQ.2.2.2.2.2.2.2.2.2.2.2.1, mQ.2.2.2.2.2.2.2.2.2.2.2.2.1, mQ.2.2.2.2.2.2.2.2.2.2.2.2.2.1, mQ.2.2.2.2.2.2.2.2.2.2.2.2.2.2)) q2
  intro x2 l2 f2
  simp only [sl_n, q249_18, q249_19, q249_22, q249_24, mc_o, mg_colourName, ma_colourName, mb_colourName, mn_colourName, wx_some, wx_ref]
  apply tm_shift_colourName (mQ := (x1, x2, mQ.2.2.1, mQ.2.2.2.1, mQ.2.2.2.2.1, mQ.2.2.2.2.2.1, mQ.2.2.2.2.2.2.1, mQ.2.2.2.2.2.2.2.1, mQ.2.2.2.2.2.2.2.2.1, mQ.2.2.2.2.2.2.2.2.2.1, mQ.2.2.2.2.2.2.2.2.2.2.1, mQ.2.2.2.2.2.2.2.2.2.2.2.1, mQ.2.2.2.2.2.2.2.2.2.2.2.2.1, mQ.2.2.2.2.2.2.2.2.2.2.2.2.2.1, mQ.2.2.2.2.2.2.2.2.2.2.2.2.2.2)) q3
  intro x3 l3 f3
  simp only [sl_n, q249_27, q249_28, q249_31, q249_33, mc_o, mg_walkerName, ma_walkerName, mb_walkerName, mn_walkerName, wx_some, wx_ref]
  apply tm_shift_walkerName (mQ := (x1, x2, x3, mQ.2.2.2.1, mQ.2.2.2.2.1, mQ.2.2.2.2.2.1, mQ.2.2.2.2.2.2.1, mQ.2.2.2.2.2.2.2.1, mQ.2.2.2.2.2.2.2.2.1, mQ.2.2.2.2.2.2.2.2.2.1, mQ.2.2.2.2.2.2.2.2.2.2.1, mQ.2.2.2.2.2.2.2.2.2.2.2.1, mQ.2.2.2.2.2.2.2.2.2.2.2.2.1, mQ.2.2.2.2.2.2.2.2.2.2.2.2.2.1, mQ.2.2.2.2.2.2.2.2.2.2.2.2.2.2)) q4
  intro x4 l4 f4
  simp only [sl_n, q249_36, q249_37, q249_40, q249_42, mc_o, mg_sortOf, ma_sortOf, mb_sortOf, mn_sortOf, wx_some, wx_ref]
  apply tm_shift_sortOf (mQ := (x1, x2, x3, x4, mQ.2.2.2.2.1, mQ.2.2.2.2.2.1, mQ.2.2.2.2.2.2.1, mQ.2.2.2.2.2.2.2.1, mQ.2.2.2.2.2.2.2.2.1, mQ.2.2.2.2.2.2.2.2.2.1, mQ.2.2.2.2.2.2.2.2.2.2.1, mQ.2.2.2.2.2.2.2.2.2.2.2.1, mQ.2.2.2.2.2.2.2.2.2.2.2.2.1, mQ.2.2.2.2.2.2.2.2.2.2.2.2.2.1, mQ.2.2.2.2.2.2.2.2.2.2.2.2.2.2)) q5
  intro x5 l5 f5
  simp only [sl_n, q249_45, q249_46, q249_49, q249_51, mc_o, mg_rules, ma_rules, mb_rules, mn_rules, wx_some, wx_ref]
  apply tm_shift_rules (mQ := (x1, x2, x3, x4, x5, mQ.2.2.2.2.2.1, mQ.2.2.2.2.2.2.1, mQ.2.2.2.2.2.2.2.1, mQ.2.2.2.2.2.2.2.2.1, mQ.2.2.2.2.2.2.2.2.2.1, mQ.2.2.2.2.2.2.2.2.2.2.1, mQ.2.2.2.2.2.2.2.2.2.2.2.1, mQ.2.2.2.2.2.2.2.2.2.2.2.2.1, mQ.2.2.2.2.2.2.2.2.2.2.2.2.2.1, mQ.2.2.2.2.2.2.2.2.2.2.2.2.2.2)) q6
  intro x6 l6 f6
  simp only [sl_n, q249_54, q249_55, q249_58, q249_60, mc_o, mg_kind, ma_kind, mb_kind, mn_kind, wx_some, wx_ref]
  apply tm_shift_kind (mQ := (x1, x2, x3, x4, x5, x6, mQ.2.2.2.2.2.2.1, mQ.2.2.2.2.2.2.2.1, mQ.2.2.2.2.2.2.2.2.1, mQ.2.2.2.2.2.2.2.2.2.1, mQ.2.2.2.2.2.2.2.2.2.2.1, mQ.2.2.2.2.2.2.2.2.2.2.2.1, mQ.2.2.2.2.2.2.2.2.2.2.2.2.1, mQ.2.2.2.2.2.2.2.2.2.2.2.2.2.1, mQ.2.2.2.2.2.2.2.2.2.2.2.2.2.2)) q7
  intro x7 l7 f7
  simp only [sl_n, q249_63, q249_64, q249_67, q249_69, mc_o, mg_colour, ma_colour, mb_colour, mn_colour, wx_some, wx_ref]
  apply tm_shift_colour (mQ := (x1, x2, x3, x4, x5, x6, x7, mQ.2.2.2.2.2.2.2.1, mQ.2.2.2.2.2.2.2.2.1, mQ.2.2.2.2.2.2.2.2.2.1, mQ.2.2.2.2.2.2.2.2.2.2.1, mQ.2.2.2.2.2.2.2.2.2.2.2.1, mQ.2.2.2.2.2.2.2.2.2.2.2.2.1, mQ.2.2.2.2.2.2.2.2.2.2.2.2.2.1, mQ.2.2.2.2.2.2.2.2.2.2.2.2.2.2)) q8
  intro x8 l8 f8
  simp only [sl_n, q249_72, q249_73, q249_76, q249_78, mc_o, mg_atTold, ma_atTold, mb_atTold, mn_atTold, wx_some, wx_ref]
  apply tm_shift_atTold (mQ := (x1, x2, x3, x4, x5, x6, x7, x8, mQ.2.2.2.2.2.2.2.2.1, mQ.2.2.2.2.2.2.2.2.2.1, mQ.2.2.2.2.2.2.2.2.2.2.1, mQ.2.2.2.2.2.2.2.2.2.2.2.1, mQ.2.2.2.2.2.2.2.2.2.2.2.2.1, mQ.2.2.2.2.2.2.2.2.2.2.2.2.2.1, mQ.2.2.2.2.2.2.2.2.2.2.2.2.2.2)) q9
  intro x9 l9 f9
  simp only [sl_n, q249_81, q249_82, q249_85, q249_87, mc_o, mg_goesMany, ma_goesMany, mb_goesMany, mn_goesMany, wx_some, wx_ref]
  apply tm_shift_goesMany (mQ := (x1, x2, x3, x4, x5, x6, x7, x8, x9, mQ.2.2.2.2.2.2.2.2.2.1, mQ.2.2.2.2.2.2.2.2.2.2.1, mQ.2.2.2.2.2.2.2.2.2.2.2.1, mQ.2.2.2.2.2.2.2.2.2.2.2.2.1, mQ.2.2.2.2.2.2.2.2.2.2.2.2.2.1, mQ.2.2.2.2.2.2.2.2.2.2.2.2.2.2)) q10
  intro x10 l10 f10
  simp only [sl_n, q249_90, q249_91, q249_94, q249_96, mc_o, mg_goes, ma_goes, mb_goes, mn_goes, wx_some, wx_ref]
  apply tm_shift_goes (mQ := (x1, x2, x3, x4, x5, x6, x7, x8, x9, x10, mQ.2.2.2.2.2.2.2.2.2.2.1, mQ.2.2.2.2.2.2.2.2.2.2.2.1, mQ.2.2.2.2.2.2.2.2.2.2.2.2.1, mQ.2.2.2.2.2.2.2.2.2.2.2.2.2.1, mQ.2.2.2.2.2.2.2.2.2.2.2.2.2.2)) q11
  intro x11 l11 f11
  simp only [sl_n, q249_99, q249_100, q249_103, q249_105, mc_o, mg_gusts, ma_gusts, mb_gusts, mn_gusts, wx_some, wx_ref]
  apply tm_shift_gusts (mQ := (x1, x2, x3, x4, x5, x6, x7, x8, x9, x10, x11, mQ.2.2.2.2.2.2.2.2.2.2.2.1, mQ.2.2.2.2.2.2.2.2.2.2.2.2.1, mQ.2.2.2.2.2.2.2.2.2.2.2.2.2.1, mQ.2.2.2.2.2.2.2.2.2.2.2.2.2.2)) q12
  intro x12 l12 f12
  simp only [sl_n, q249_108, q249_109, q249_112, q249_115, mc_o, mg_codes, ma_codes, mb_codes, mn_codes, wx_some, wx_ref]
  apply tm_shift_codes (mQ := (x1, x2, x3, x4, x5, x6, x7, x8, x9, x10, x11, x12, mQ.2.2.2.2.2.2.2.2.2.2.2.2.1, mQ.2.2.2.2.2.2.2.2.2.2.2.2.2.1, mQ.2.2.2.2.2.2.2.2.2.2.2.2.2.2)) q15
  intro x13 l13 f13
  simp only [sl_n, q249_118, q249_119, q249_122, q249_123, q249_124, q249_127, q249_128, q249_129, q249_132, q249_133, q249_134, q249_135, q249_138, q249_139, q249_140, q249_143, q249_144, q249_145, q249_148, q249_149, q249_150, mc_o, mg_lineFrom, ma_lineFrom, mb_lineFrom, mn_lineFrom, mg_lineTo, ma_lineTo, mb_lineTo, mn_lineTo, wx_some, wx_ref, gF, gT, show nI 1000 - 1000 = nI 0 from rfl, show nI (1000 + n) - 1000 = nI n by rw [show (1000 : Int32) = nI 1000 from rfl, ← nI_add, Int32.add_comm, Int32.add_sub_cancel], show ∀ (x : Int32) (f : List Int32 → mm_H), aS (mQ.2.2.2.2.2.2.2.2.2.2.2.2.1) 0 x f = some (f ((mQ.2.2.2.2.2.2.2.2.2.2.2.2.1).set 0 x)) from fun x f => aS_n (j := 0) (by omega) (by omega), show ∀ (x : Int32) (f : List Int32 → mm_H), aS (mQ.2.2.2.2.2.2.2.2.2.2.2.2.2.1) 0 x f = some (f ((mQ.2.2.2.2.2.2.2.2.2.2.2.2.2.1).set 0 x)) from fun x f => aS_n (j := 0) (by omega) (by omega)]
  refine hq _ ⟨l1, l2, l3, l4, l5, l6, l7, l8, l9, l10, l11, l12, ?_, ?_, l13⟩ ⟨f1, f2, f3, f4, f5, f6, f7, f8, f9, f10, f11, f12, f13⟩ ?_ ?_
  · show (List.set _ _ _).length = 2; rw [List.length_set]; exact q13
  · show (List.set _ _ _).length = 2; rw [List.length_set]; exact q14
  · exact List.getElem?_set_self (by omega)
  · exact List.getElem?_set_self (by omega)
end GZD
