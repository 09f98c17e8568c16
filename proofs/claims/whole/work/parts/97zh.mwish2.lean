/-! the call wish, of the model -/
section GZH
variable {fx : List Value → mm_H → Option (List Value × mm_H)} {z : Nat} {X Y : Nat → mm_C} {mV : pm_V} {mT : pm_T} {mQ : pm_Q} {mO : pm_O} {mE : pm_E} {mB : pm_B} {mS : pm_S} {mR : pm_R} {mW : pm_W} {m_thrown : Int32} {m_given : Int32} {m_fresh : Int64} {m_code : Int32} {m_taped : Int32} {m_tape : List Int32} {m_size : Int32} {m_place : Int32} {m_begin : Int32} {m_token : Int32} {m_word : Int64} {m_told : Int32} {m_wrong : Int32} {m_square : List Int32} {m_sortName : List Int64} {m_colourName : List Int64} {m_walkerName : List Int64} {m_sortOf : List Int32} {m_rules : List Int32} {m_kind : List Int32} {m_colour : List Int32} {m_atTold : List Int32} {m_goesMany : List Int32} {m_goes : List Int32} {m_gusts : List Int32} {m_lineFrom : List Int32} {m_lineTo : List Int32} {m_codes : List Int32} {m_opened : List Int32} {m_compared : List Int32} {m_kept : List Int32} {m_keptBy : List Int32} {m_ahead : List Int32} {m_against : List Int32} {m_sum : List Int32} {m_sumBy : List Int32} {m_term : List Int32} {m_termBy : List Int32} {m_byNot : List Int32} {m_valueOf : List Int32} {m_lines : List Int32} {m_lineWhat : List Int32} {m_lineA : List Int32} {m_lineB : List Int32} {m_wishes : List Int32} {m_wishOf : List Int32} {m_seens : List Int32} {m_seenAt : List Int32} {m_seenIn : List Int32} {m_seenThere : List Int32} {m_s : List Int32} {m_aside : List Int32} {m_before : List Int32} {m_marked : List Int32} {m_undone : List Int32} {m_isLaid : List Int32} {m_done : Int32} {m_gustNow : Int32} {m_shown : List Int32} {m_shownMany : Int32} {m_from7 : List Int32} {m_long7 : List Int32} {m_sentences : Int32} {m_text7 : List Int32} {m_textMany : Int32} {m_waysOf : List Int32} {m_rowOf : List Int32} {m_row : List Int32} {m_bestRow : List Int32} {m_leastSteps : Int32} {m_steps10 : List Int32} {m_placeIn : List Int32} {m_g : Int64}
variable {d : Nat} {Q : Option Value → mm_H → Prop} {tp : List Nat} {nm : NMs} {s : SQ}
theorem tm_wish (ht : tp_ok tp) (hT0 : TPm tp mT) (hK : KM nm s mQ) (hw : nmok nm s) (hB : BLm mB) (hq1 : ∀ (t : Nat) (mT' : pm_T) (mB' : pm_B), sp_ws tp nm s 7 0 = (0, t) → t ≤ 7 → TPm [] mT' → BLm mB' → (∀ l r, BL1 l mB r → BL1 l mB' r) → (∀ l r, BL3 l mB r → BL3 l mB' r) → (∀ i : Nat, i < t → (c_named tp nm 1 (k_nC s) i).1 = 0) → BL2 (t, fun i => (c_named tp nm 1 (k_nC s) i).2) mB' 0 → (∀ l r, 1 ≤ r → r < 5 → l.1 ≤ 7 → BL2 l mB r → BL2 l mB' r) → Q (some (.int 0)) (pm_h z X Y (pm_l ((0, mV.2.1, mV.2.2.1, mV.2.2.2)) (mT') mQ mO mE (mB') mS mR mW))) (hq0 : ∀ (f : Nat) (mT' : pm_T) (mB' : pm_B), (sp_ws tp nm s 7 0).1 = f → ¬ f = 0 → TPm [] mT' → BLm mB' → (∀ l r, BL1 l mB r → BL1 l mB' r) → (∀ l r, BL3 l mB r → BL3 l mB' r) → (∀ l r, r < 5 → l.1 ≤ 7 → BL2 l mB r → BL2 l mB' r) → Q (some (.int (nI f))) (pm_h z X Y (pm_l ((0, mV.2.1, mV.2.2.1, mV.2.2.2)) (mT') mQ mO mE (mB') mS mR mW))) : wm (mp_P fx) (d + 3) 255 [.ref 149] (pm_h z X Y (pm_l mV mT mQ mO mE mB mS mR mW)) Q := by
  obtain ⟨p1, p2, p3, p4, p5, p6, p7, p8, p9, p10⟩ := id hB
  simp only [e255, q255_0, q255_1, q255_2, q255_5, q255_6, q255_9, q255_10, q255_11, q255_12, q255_13, mc_o, mg_thrown, mf_thrown, mg_wishes, ma_wishes, mb_wishes, mn_wishes, wx_some, wx_ref, show ∀ (x : Int32) (f : List Int32 → mm_H), aS (mB.2.2.2.2.1) 5 x f = some (f ((mB.2.2.2.2.1).set 5 x)) from fun x f => aS_n (j := 5) (by omega) (by omega)]
  apply tm_begins ht hT0
  intro mT1 hT1
  simp only [sl_n, q255_16, q255_17, mc_o]
  have pres : ∀ (ws wo : List Int32), (∀ i : Nat, i < 5 → ws[i]? = ((mB.2.2.2.2.1).set 5 0)[i]?) → (∀ i : Nat, i < 35 → wo[i]? = (mB.2.2.2.2.2.1)[i]?) → ∀ (l : Nat × (Nat → Nat)) (r : Nat), r < 5 → l.1 ≤ 7 → BL2 l mB r → BL2 l (mB.1, mB.2.1, mB.2.2.1, mB.2.2.2.1, ws, wo, mB.2.2.2.2.2.2.1, mB.2.2.2.2.2.2.2.1, mB.2.2.2.2.2.2.2.2.1, mB.2.2.2.2.2.2.2.2.2) r := by
    intro ws wo a1 a2 l r hr hl h
    refine ⟨(a1 r hr).trans ((List.getElem?_set_ne (by omega)).trans h.1), fun i hi => (a2 (7 * r + i) (by omega)).trans (h.2 i hi)⟩
  apply tm_readsWish (mB := (mB.1, mB.2.1, mB.2.2.1, mB.2.2.2.1, (mB.2.2.2.2.1).set 5 0, mB.2.2.2.2.2.1, mB.2.2.2.2.2.2.1, mB.2.2.2.2.2.2.2.1, mB.2.2.2.2.2.2.2.2.1, mB.2.2.2.2.2.2.2.2.2)) hT1 hK hw ⟨p1, p2, p3, p4, by show (List.set _ _ _).length = 6; rw [List.length_set]; exact p5, p6, p7, p8, p9, p10⟩ (List.getElem?_set_self (by omega))
  · intro t mT' ws wo b1 b2 ⟨k, b3⟩ b4 b5 b6 b7 b8 b9
    simp only [sl_i, q255_20]
    rw [if_pos (by decide)]
    simp only [q255_28, q255_29, q255_30, q255_31, mc_o]
    apply tm_laysWish (f := 5) (t := 0) (mB := (mB.1, mB.2.1, mB.2.2.1, mB.2.2.2.1, ws, wo, mB.2.2.2.2.2.2.1, mB.2.2.2.2.2.2.2.1, mB.2.2.2.2.2.2.2.2.1, mB.2.2.2.2.2.2.2.2.2)) (by omega) (by omega) (by omega) ⟨p1, p2, p3, p4, b4, b5, p7, p8, p9, p10⟩
    intro mB' c1 c2 c3 c4
    simp only [sl_n, q255_34, q255_35]
    refine hq1 t mT' mB' b1 b2 (TPm_0 b3) c1 (fun l r h => c2 l r h) (fun l r h => c4 l r h) (fun i hi => (b7 i hi).1) ?_ ?_
    · refine c3 _ 0 b2 ?_
      rw [if_pos rfl]
      exact ⟨b6, fun i hi => (b7 i hi).2⟩
    · intro l r h1 h5 h7 h
      refine c3 l r h7 ?_
      rw [if_neg (by omega)]
      exact pres ws wo b8 b9 l r h5 h7 h
  · intro f mT' ws wo b1 b2 ⟨k, b3⟩ bw b4 b5 b8 b9
    simp only [sl_i, q255_20, q255_23, q255_24, q255_27, mc_o, mg_wrong, mf_wrong, wx_some, wx_ref, bw]
    rw [if_neg (by decide)]
    exact hq0 f mT' _ b1 b2 (TPm_0 b3) ⟨p1, p2, p3, p4, b4, b5, p7, p8, p9, p10⟩ (fun l r h => h) (fun l r h => h) (fun l r h5 h7 h => pres ws wo b8 b9 l r h5 h7 h)
end GZH
