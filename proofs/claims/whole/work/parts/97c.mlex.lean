/-! tokens, of the model -/
theorem lN_sb {a b : Nat} (h : b ≤ a) : lN a - lN b = lN (a - b) := by
  have h3 : lN a = lN (a - b) + lN b := by rw [lN_add, Nat.sub_add_cancel h]
  rw [h3, Int64.add_sub_cancel]
section ML
variable {fx : List Value → mm_H → Option (List Value × mm_H)} {z : Nat} {X Y : Nat → mm_C} {mV : pm_V} {mT : pm_T} {mQ : pm_Q} {mO : pm_O} {mE : pm_E} {mB : pm_B} {mS : pm_S} {mR : pm_R} {mW : pm_W} {m_thrown : Int32} {m_given : Int32} {m_fresh : Int64} {m_code : Int32} {m_taped : Int32} {m_tape : List Int32} {m_size : Int32} {m_place : Int32} {m_begin : Int32} {m_token : Int32} {m_word : Int64} {m_told : Int32} {m_wrong : Int32} {m_square : List Int32} {m_sortName : List Int64} {m_colourName : List Int64} {m_walkerName : List Int64} {m_sortOf : List Int32} {m_rules : List Int32} {m_kind : List Int32} {m_colour : List Int32} {m_atTold : List Int32} {m_goesMany : List Int32} {m_goes : List Int32} {m_gusts : List Int32} {m_lineFrom : List Int32} {m_lineTo : List Int32} {m_codes : List Int32} {m_opened : List Int32} {m_compared : List Int32} {m_kept : List Int32} {m_keptBy : List Int32} {m_ahead : List Int32} {m_against : List Int32} {m_sum : List Int32} {m_sumBy : List Int32} {m_term : List Int32} {m_termBy : List Int32} {m_byNot : List Int32} {m_valueOf : List Int32} {m_lines : List Int32} {m_lineWhat : List Int32} {m_lineA : List Int32} {m_lineB : List Int32} {m_wishes : List Int32} {m_wishOf : List Int32} {m_seens : List Int32} {m_seenAt : List Int32} {m_seenIn : List Int32} {m_seenThere : List Int32} {m_s : List Int32} {m_aside : List Int32} {m_before : List Int32} {m_marked : List Int32} {m_undone : List Int32} {m_isLaid : List Int32} {m_done : Int32} {m_gustNow : Int32} {m_shown : List Int32} {m_shownMany : Int32} {m_from7 : List Int32} {m_long7 : List Int32} {m_sentences : Int32} {m_text7 : List Int32} {m_textMany : Int32} {m_waysOf : List Int32} {m_rowOf : List Int32} {m_row : List Int32} {m_bestRow : List Int32} {m_leastSteps : Int32} {m_steps10 : List Int32} {m_placeIn : List Int32} {m_g : Int64}
variable {d : Nat} {Q : Option Value → mm_H → Prop} {tp : List Nat}
def TMb (tp : List Nat) (b : Nat) (mT : pm_T) : Prop := ho_ mT.2.1 tp ∧ mT.2.2.1 = nI tp.length ∧ mT.2.2.2.1 = nI (lx_e tp b) ∧ mT.2.2.2.2.1 = nI b ∧ mT.2.2.2.2.2.1 = nI (lx_t tp b) ∧ (lx_t tp b = 1 → mT.2.2.2.2.2.2.1 = w_m (lx_w tp b (lx_e tp b - b))) ∧ (lx_t tp b = 2 → mT.2.2.2.2.2.2.2.1 = nI (lx_v tp b (lx_e tp b - b)))
def TKm (tp : List Nat) (k : Nat) (mT : pm_T) : Prop := TMb tp (tk tp k) mT ∧ tp_ok tp ∧ mT.1 = 0
theorem tm_signAt {j : Nat} (ht : tp_ok tp) (hs : ho_ mT.2.1 tp) (hz : mT.2.2.1 = nI tp.length) (hj : j ≤ tp.length) (hq : Q (some (.int (nI (tp.getD j 0)))) (pm_h z X Y (pm_l mV mT mQ mO mE mB mS mR mW))) : wm (mp_P fx) d 223 [.ref 149, .int (nI j)] (pm_h z X Y (pm_l mV mT mQ mO mE mB mS mR mW)) Q := by
  have h1000 := ht.1
  by_cases e : j < tp.length
  · simp only [e223, q223_0, q223_1, q223_2, q223_5, q223_8, q223_9, q223_12, q223_13, q223_14, q223_17, q223_18, mc_o, mg_tape, ma_tape, mb_tape, mn_tape, mg_size, mf_size, wx_some, wx_ref, ho_at hs e]
    rw [if_neg (by rw [hz, nI_leI (by omega) (by omega)]; omega)]
    exact hq
  · rw [getD_ge (by omega)] at hq
    simp only [q223_0, q223_1, q223_2, q223_5, q223_17, q223_18, e223, mc_o, mg_tape, ma_tape, mb_tape, mn_tape, mg_size, mf_size, wx_some, wx_ref]
    rw [if_pos (by rw [hz, nI_leI (by omega) (by omega)]; omega)]
    exact hq
theorem tm_next {p : Nat} (ht : tp_ok tp) (hs : ho_ mT.2.1 tp) (hz : mT.2.2.1 = nI tp.length) (hpl : mT.2.2.2.1 = nI p) (hp : p ≤ tp.length) (hq : ∀ mT', TMb tp (lx_b tp p) mT' → mT'.1 = mT.1 → mT'.2.2.2.2.2.2.2.2 = mT.2.2.2.2.2.2.2.2 → Q none (pm_h z X Y (pm_l mV (mT') mQ mO mE mB mS mR mW))) : wm (mp_P fx) (d + 1) 222 [.ref 149] (pm_h z X Y (pm_l mV mT mQ mO mE mB mS mR mW)) Q := by
  have h1000 := ht.1
  have hsl := hs.1
  obtain ⟨hb1, hb2⟩ := lx_b_le hp h1000
  have rest : ww (mp_P fx) (d + 1) 222 52 [some (.ref 149), none] [] (pm_h z X Y (pm_l mV ((mT.1, mT.2.1, mT.2.2.1, nI (lx_b tp p), mT.2.2.2.2.1, mT.2.2.2.2.2.1, mT.2.2.2.2.2.2.1, mT.2.2.2.2.2.2.2.1, mT.2.2.2.2.2.2.2.2)) mQ mO mE mB mS mR mW)) Q := by
    generalize lx_b tp p = b at *
    by_cases eb : b = tp.length
    · have e1 : lx_e tp b = b := if_pos (by omega)
      have e2 : lx_t tp b = 0 := if_pos (by omega)
      simp only [q222_52, q222_53, q222_54, q222_57, q222_60, q222_61, q222_62, q222_65, q222_66, q222_67, q222_70, q222_71, q222_74, q222_75, q222_78, q222_81, q222_82, q222_83, q222_86, mc_o, mg_place, mf_place, mg_size, mf_size, mg_begin, mf_begin, mg_word, mf_word, mg_told, mf_told, mg_token, mf_token, wx_some, wx_ref]
      rw [if_neg (by rw [hz, eb]; exact fun z => z rfl)]
      exact hq (mT.1, mT.2.1, mT.2.2.1, nI b, nI b, 0, 0, 0, mT.2.2.2.2.2.2.2.2) ⟨hs, hz, by rw [e1], rfl, by rw [e2]; rfl, fun z => by omega, fun z => by omega⟩ rfl rfl
    have hbl : b < tp.length := by omega
    have g := ho_at hs hbl
    have gl := tp_lt ht b
    simp only [q222_52, q222_53, q222_54, q222_57, q222_60, q222_61, q222_62, q222_65, q222_66, q222_67, q222_70, q222_71, q222_74, q222_75, q222_78, q222_81, q222_82, q222_83, q222_86, q222_87, q222_88, q222_91, q222_92, q222_95, q222_96r, q222_97, q222_98, q222_100, q222_103, q222_104, q222_106, mc_o, mg_place, mf_place, mg_size, mf_size, mg_begin, mf_begin, mg_word, mf_word, mg_told, mf_told, mg_token, mf_token, mg_tape, ma_tape, mb_tape, mn_tape, wx_some, wx_ref, isl_i, isl_r, isl_n, g]
    rw [if_pos (by rw [hz, nI_eq (by omega) (by omega)]; omega)]
    have other : lx_lt tp b = false → ww (mp_P fx) (d + 1) 222 212 [some (.ref 149), some (.int (nI (tp.getD b 0)))] [] (pm_h z X Y (pm_l mV ((mT.1, mT.2.1, mT.2.2.1, nI b, nI b, mT.2.2.2.2.2.1, 0, 0, mT.2.2.2.2.2.2.2.2)) mQ mO mE mB mS mR mW)) Q := by
      intro hl1
      have hl1' : ¬ lx_lt tp b = true := by rw [hl1]; exact Bool.false_ne_true
      have third : lx_dg tp b = false → ww (mp_P fx) (d + 1) 222 322 [some (.ref 149), some (.int (nI (tp.getD b 0)))] [] (pm_h z X Y (pm_l mV ((mT.1, mT.2.1, mT.2.2.1, nI b, nI b, mT.2.2.2.2.2.1, 0, 0, mT.2.2.2.2.2.2.2.2)) mQ mO mE mB mS mR mW)) Q := by
        intro hd1
        have hd1' : ¬ lx_dg tp b = true := by rw [hd1]; exact Bool.false_ne_true
        have e1 : lx_e tp b = b + 1 := by unfold lx_e; rw [if_neg (by omega), if_neg hl1', if_neg hd1']
        have e2 : lx_t tp b = if lx_sg (tp.getD b 0) = true then 3 else 4 := by unfold lx_t; rw [if_neg (by omega), if_neg hl1', if_neg hd1']
        have hend : ∀ v : Nat, v = lx_t tp b → ww (mp_P fx) (d + 1) 222 368 [some (.ref 149), some (.int (nI (tp.getD b 0)))] [.int (nI v), .ref 149] (pm_h z X Y (pm_l mV ((mT.1, mT.2.1, mT.2.2.1, nI (b + 1), nI b, mT.2.2.2.2.2.1, 0, 0, mT.2.2.2.2.2.2.2.2)) mQ mO mE mB mS mR mW)) Q := by
          intro v hv
          simp only [q222_368, q222_371, mc_o, mg_token, mf_token, wx_some, wx_ref]
          exact hq (mT.1, mT.2.1, mT.2.2.1, nI (b + 1), nI b, nI v, 0, 0, mT.2.2.2.2.2.2.2.2) ⟨hs, hz, by rw [e1], rfl, by rw [hv], fun z => by rw [e2] at z; split at z <;> omega, fun z => by rw [e2] at z; split at z <;> omega⟩ rfl rfl
        have hsg : lx_sg (tp.getD b 0) = true ↔ (40 ≤ tp.getD b 0 ∧ tp.getD b 0 ≤ 43) ∨ tp.getD b 0 = 45 ∨ (59 ≤ tp.getD b 0 ∧ tp.getD b 0 ≤ 61) := by
          unfold lx_sg
          simp only [Bool.or_eq_true, decide_eq_true_eq]
          omega
        simp only [q222_322, q222_323, q222_324, q222_327, q222_328, q222_329, q222_332, q222_333, q222_334, q222_336, q222_339, q222_340, q222_342, q222_345, q222_346, q222_348, q222_351, q222_352, q222_354, q222_357, q222_358, q222_360, q222_363, q222_364, q222_367, mc_o, mg_place, mf_place, wx_some, wx_ref, nI_1]
        have c40 : nI (tp.getD b 0) < 40 ↔ tp.getD b 0 < 40 := nI_ltI (b := 40) (by omega) (by omega)
        have c43 : nI (tp.getD b 0) ≤ 43 ↔ tp.getD b 0 ≤ 43 := nI_leI (b := 43) (by omega) (by omega)
        have c45 : nI (tp.getD b 0) = 45 ↔ tp.getD b 0 = 45 := nI_eq (b := 45) (by omega) (by omega)
        have c59 : nI (tp.getD b 0) < 59 ↔ tp.getD b 0 < 59 := nI_ltI (b := 59) (by omega) (by omega)
        have c61 : 61 < nI (tp.getD b 0) ↔ 61 < tp.getD b 0 := nI_ltI (a := 61) (by omega) (by omega)
        simp only [c40, c43, c45, c59, c61]
        have y3 := fun (h : lx_sg (tp.getD b 0) = true) => hend 3 (by rw [e2, if_pos h])
        have y4 := fun (h : ¬ lx_sg (tp.getD b 0) = true) => hend 4 (by rw [e2, if_neg h])
        by_cases a1 : tp.getD b 0 < 40
        · rw [if_pos a1]
          by_cases a3 : tp.getD b 0 = 45
          · omega
          · rw [if_neg a3, if_pos (by omega)]
            exact y4 (fun z => by have := hsg.mp z; omega)
        · rw [if_neg a1]
          by_cases a2 : tp.getD b 0 ≤ 43
          · rw [if_pos a2]
            exact y3 (hsg.mpr (by omega))
          · rw [if_neg a2]
            by_cases a3 : tp.getD b 0 = 45
            · rw [if_pos a3]
              exact y3 (hsg.mpr (by omega))
            · rw [if_neg a3]
              by_cases a4 : tp.getD b 0 < 59
              · rw [if_pos a4]
                exact y4 (fun z => by have := hsg.mp z; omega)
              · rw [if_neg a4]
                by_cases a5 : 61 < tp.getD b 0
                · rw [if_pos a5]
                  exact y4 (fun z => by have := hsg.mp z; omega)
                · rw [if_neg a5]
                  exact y3 (hsg.mpr (by omega))
      have nums : lx_dg tp b = true → ∀ (m k : Nat), b + k + m = tp.length → (∀ j, j < k → lx_dg tp (b + j) = true) → ww (mp_P fx) (d + 1) 222 224 [some (.ref 149), some (.int (nI (tp.getD b 0)))] [] (pm_h z X Y (pm_l mV ((mT.1, mT.2.1, mT.2.2.1, nI (b + k), nI b, mT.2.2.2.2.2.1, 0, nI (lx_v tp b (min k 4)), mT.2.2.2.2.2.2.2.2)) mQ mO mE mB mS mR mW)) Q := by
        intro hd1 m
        have fin : ∀ k, (∀ j, j < k → lx_dg tp (b + j) = true) → b + k ≤ tp.length → lx_dg tp (b + k) = false → ww (mp_P fx) (d + 1) 222 299 [some (.ref 149), some (.int (nI (tp.getD b 0)))] [] (pm_h z X Y (pm_l mV ((mT.1, mT.2.1, mT.2.2.1, nI (b + k), nI b, mT.2.2.2.2.2.1, 0, nI (lx_v tp b (min k 4)), mT.2.2.2.2.2.2.2.2)) mQ mO mE mB mS mR mW)) Q := by
          intro k hk hkl hno
          have e1 : lx_e tp b = b + k := by
            unfold lx_e
            rw [if_neg (by omega), if_neg hl1', if_pos hd1]
            exact run_c 1001 _ _ (by omega) (by omega) (fun j a1 a2 => by have := hk (j - b) (by omega); rw [show b + (j - b) = j by omega] at this; exact this) hno
          have e2 : lx_t tp b = if k ≤ 4 then 2 else 4 := by
            unfold lx_t; rw [if_neg (by omega), if_neg hl1', if_pos hd1, e1, show b + k - b = k by omega]
          simp only [q222_299, q222_300, q222_301, q222_304, q222_305, q222_308, q222_309, q222_310, q222_313, q222_314, q222_317, q222_318, q222_321, mc_o, mg_place, mf_place, mg_begin, mf_begin, mg_token, mf_token, wx_some, wx_ref, nI_sub (show b ≤ b + k by omega), show b + k - b = k by omega]
          by_cases e4 : k ≤ 4
          · rw [if_pos e4] at e2
            rw [if_pos (by rw [nl_4, nI_leI (by omega) (by omega)]; exact e4)]
            refine hq (mT.1, mT.2.1, mT.2.2.1, nI (b + k), nI b, 2, 0, nI (lx_v tp b (min k 4)), mT.2.2.2.2.2.2.2.2) ⟨hs, hz, by rw [e1], rfl, by rw [e2]; rfl, fun z => by omega, fun z => ?_⟩ rfl rfl
            rw [e1, show b + k - b = k by omega, Nat.min_eq_left e4]
          · rw [if_neg e4] at e2
            rw [if_neg (by rw [nl_4, nI_leI (by omega) (by omega)]; exact e4)]
            exact hq (mT.1, mT.2.1, mT.2.2.1, nI (b + k), nI b, 4, 0, nI (lx_v tp b (min k 4)), mT.2.2.2.2.2.2.2.2) ⟨hs, hz, by rw [e1], rfl, by rw [e2]; rfl, fun z => by omega, fun z => by omega⟩ rfl rfl
        induction m with
        | zero =>
          intro k hk h
          have hno : lx_dg tp (b + k) = false := lx_dg_ge _ (by omega)
          rw [q222_224]
          simp only [q222_225, q222_226, q222_229, mc_o, mg_place, mf_place, wx_some, wx_ref]
          apply tm_signAt (mT := (mT.1, mT.2.1, mT.2.2.1, nI (b + k), nI b, mT.2.2.2.2.2.1, 0, nI (lx_v tp b (min k 4)), mT.2.2.2.2.2.2.2.2)) ht hs hz (by omega)
          simp only [sl_i, q222_232, q222_234]
          rw [getD_ge (by omega), if_pos (by decide)]
          exact fin k h (by omega) hno
        | succ m ih =>
          intro k hk h
          have gl2 := tp_lt ht (b + k)
          rw [q222_224]
          simp only [q222_225, q222_226, q222_229, mc_o, mg_place, mf_place, wx_some, wx_ref]
          apply tm_signAt (mT := (mT.1, mT.2.1, mT.2.2.1, nI (b + k), nI b, mT.2.2.2.2.2.1, 0, nI (lx_v tp b (min k 4)), mT.2.2.2.2.2.2.2.2)) ht hs hz (by omega)
          simp only [sl_i, q222_232, q222_234, q222_237, q222_238, q222_239, mc_o, mg_place, mf_place, wx_some, wx_ref]
          by_cases a1 : tp.getD (b + k) 0 < 48
          · rw [if_pos (by rw [show (48 : Int32) = nI 48 from rfl, nI_ltI (by omega) (by omega)]; exact a1)]
            exact fin k h (by omega) (Bool.eq_false_iff.mpr (fun z => by have := dg_t.mp z; omega))
          rw [if_neg (by rw [show (48 : Int32) = nI 48 from rfl, nI_ltI (by omega) (by omega)]; exact a1)]
          simp only [q222_242, mc_o]
          apply tm_signAt (mT := (mT.1, mT.2.1, mT.2.2.1, nI (b + k), nI b, mT.2.2.2.2.2.1, 0, nI (lx_v tp b (min k 4)), mT.2.2.2.2.2.2.2.2)) ht hs hz (by omega)
          simp only [sl_i, q222_245, q222_247, q222_250, q222_251, q222_254, q222_255, q222_258, q222_259, q222_260, q222_263, q222_264, q222_265, q222_268, q222_270, q222_271, q222_272, q222_273, mc_o, mg_place, mf_place, mg_begin, mf_begin, mg_told, mf_told, wx_some, wx_ref, nI_sub (show b ≤ b + k by omega), show b + k - b = k by omega]
          by_cases a2 : 57 < tp.getD (b + k) 0
          · rw [if_pos (by rw [show (57 : Int32) = nI 57 from rfl, nI_ltI (by omega) (by omega)]; exact a2)]
            exact fin k h (by omega) (Bool.eq_false_iff.mpr (fun z => by have := dg_t.mp z; omega))
          rw [if_neg (by rw [show (57 : Int32) = nI 57 from rfl, nI_ltI (by omega) (by omega)]; exact a2)]
          have hdk : lx_dg tp (b + k) = true := dg_t.mpr (by omega)
          have hgo := ih (k + 1) (by omega) (fun j hj => by
            by_cases ej : j = k
            · subst ej; exact hdk
            · exact h j (by omega))
          by_cases a4 : k < 4
          · rw [if_neg (by rw [nl_4, nI_leI (by omega) (by omega)]; omega)]
            simp only [q222_276, mc_o]
            apply tm_signAt (mT := (mT.1, mT.2.1, mT.2.2.1, nI (b + k), nI b, mT.2.2.2.2.2.1, 0, nI (lx_v tp b (min k 4)), mT.2.2.2.2.2.2.2.2)) ht hs hz (by omega)
            simp only [sl_i, q222_279, q222_280, q222_282, q222_283, q222_286, q222_287, q222_288, q222_291, q222_292, q222_293, q222_296, mc_o, mg_place, mf_place, mg_told, mf_told, wx_some, wx_ref, nI_1]
            rw [Nat.min_eq_left (show k + 1 ≤ 4 by omega), lx_v] at hgo
            rw [Nat.min_eq_left (show k ≤ 4 by omega), nl_10, pk_mul, nI_add, show (48 : Int32) = nI 48 from rfl, nI_sub (by omega), show lx_v tp b k * 10 + tp.getD (b + k) 0 - 48 = lx_v tp b k * 10 + (tp.getD (b + k) 0 - 48) by omega]
            exact hgo
          · rw [if_pos (by rw [nl_4, nI_leI (by omega) (by omega)]; omega)]
            simp only [q222_286, q222_287, q222_288, q222_291, q222_292, q222_293, q222_296, mc_o, mg_place, mf_place, wx_some, wx_ref, nI_1]
            rw [Nat.min_eq_right (show 4 ≤ k + 1 by omega)] at hgo
            rw [Nat.min_eq_right (show 4 ≤ k by omega)]
            exact hgo
      simp only [q222_212, q222_213, q222_215, q222_218, q222_219, q222_221]
      by_cases a1 : tp.getD b 0 < 48
      · rw [if_pos (by rw [show (48 : Int32) = nI 48 from rfl, nI_ltI (by omega) (by omega)]; exact a1)]
        exact third (Bool.eq_false_iff.mpr (fun z => by have := dg_t.mp z; omega))
      rw [if_neg (by rw [show (48 : Int32) = nI 48 from rfl, nI_ltI (by omega) (by omega)]; exact a1)]
      by_cases a2 : 57 < tp.getD b 0
      · rw [if_pos (by rw [show (57 : Int32) = nI 57 from rfl, nI_ltI (by omega) (by omega)]; exact a2)]
        exact third (Bool.eq_false_iff.mpr (fun z => by have := dg_t.mp z; omega))
      rw [if_neg (by rw [show (57 : Int32) = nI 57 from rfl, nI_ltI (by omega) (by omega)]; exact a2)]
      exact nums (dg_t.mpr (by omega)) (tp.length - b) 0 (by omega) (fun j hj => by omega)
    have words : lx_lt tp b = true → ∀ (m k : Nat), b + k + m = tp.length → (∀ j, j < k → lx_lt tp (b + j) = true) → ww (mp_P fx) (d + 1) 222 109 [some (.ref 149), some (.int (nI (tp.getD b 0)))] [] (pm_h z X Y (pm_l mV ((mT.1, mT.2.1, mT.2.2.1, nI (b + k), nI b, mT.2.2.2.2.2.1, w_m (lx_w tp b (min k 8)), 0, mT.2.2.2.2.2.2.2.2)) mQ mO mE mB mS mR mW)) Q := by
      intro hl1 m
      have fin : ∀ k, (∀ j, j < k → lx_lt tp (b + j) = true) → b + k ≤ tp.length → lx_lt tp (b + k) = false → ww (mp_P fx) (d + 1) 222 188 [some (.ref 149), some (.int (nI (tp.getD b 0)))] [] (pm_h z X Y (pm_l mV ((mT.1, mT.2.1, mT.2.2.1, nI (b + k), nI b, mT.2.2.2.2.2.1, w_m (lx_w tp b (min k 8)), 0, mT.2.2.2.2.2.2.2.2)) mQ mO mE mB mS mR mW)) Q := by
        intro k hk hkl hno
        have e1 : lx_e tp b = b + k := by
          unfold lx_e
          rw [if_neg (by omega), if_pos hl1]
          exact run_c 1001 _ _ (by omega) (by omega) (fun j a1 a2 => by have := hk (j - b) (by omega); rw [show b + (j - b) = j by omega] at this; exact this) hno
        have e2 : lx_t tp b = if k ≤ 8 then 1 else 4 := by
          unfold lx_t; rw [if_neg (by omega), if_pos hl1, e1, show b + k - b = k by omega]
        simp only [q222_188, q222_189, q222_190, q222_193, q222_194, q222_197, q222_198, q222_200, q222_203, q222_204, q222_207, q222_208, q222_211, mc_o, mg_place, mf_place, mg_begin, mf_begin, mg_token, mf_token, wx_some, wx_ref, nI_sub (show b ≤ b + k by omega), show b + k - b = k by omega]
        by_cases e4 : k ≤ 8
        · rw [if_pos e4] at e2
          rw [if_pos (by rw [nl_8, nI_leI (by omega) (by omega)]; exact e4)]
          refine hq (mT.1, mT.2.1, mT.2.2.1, nI (b + k), nI b, 1, w_m (lx_w tp b (min k 8)), 0, mT.2.2.2.2.2.2.2.2) ⟨hs, hz, by rw [e1], rfl, by rw [e2]; rfl, fun z => ?_, fun z => by omega⟩ rfl rfl
          rw [e1, show b + k - b = k by omega, Nat.min_eq_left e4]
        · rw [if_neg e4] at e2
          rw [if_neg (by rw [nl_8, nI_leI (by omega) (by omega)]; exact e4)]
          exact hq (mT.1, mT.2.1, mT.2.2.1, nI (b + k), nI b, 4, w_m (lx_w tp b (min k 8)), 0, mT.2.2.2.2.2.2.2.2) ⟨hs, hz, by rw [e1], rfl, by rw [e2]; rfl, fun z => by omega, fun z => by omega⟩ rfl rfl
      induction m with
      | zero =>
        intro k hk h
        have hno : lx_lt tp (b + k) = false := lx_lt_ge _ (by omega)
        rw [q222_109]
        simp only [q222_110, q222_111, q222_114, mc_o, mg_place, mf_place, wx_some, wx_ref]
        apply tm_signAt (mT := (mT.1, mT.2.1, mT.2.2.1, nI (b + k), nI b, mT.2.2.2.2.2.1, w_m (lx_w tp b (min k 8)), 0, mT.2.2.2.2.2.2.2.2)) ht hs hz (by omega)
        simp only [sl_i, q222_117, q222_119]
        rw [getD_ge (by omega), if_pos (by decide)]
        exact fin k h (by omega) hno
      | succ m ih =>
        intro k hk h
        have gl2 := tp_lt ht (b + k)
        rw [q222_109]
        simp only [q222_110, q222_111, q222_114, mc_o, mg_place, mf_place, wx_some, wx_ref]
        apply tm_signAt (mT := (mT.1, mT.2.1, mT.2.2.1, nI (b + k), nI b, mT.2.2.2.2.2.1, w_m (lx_w tp b (min k 8)), 0, mT.2.2.2.2.2.2.2.2)) ht hs hz (by omega)
        simp only [sl_i, q222_117, q222_119, q222_122, q222_123, q222_124, mc_o, mg_place, mf_place, wx_some, wx_ref]
        by_cases a1 : tp.getD (b + k) 0 < 97
        · rw [if_pos (by rw [show (97 : Int32) = nI 97 from rfl, nI_ltI (by omega) (by omega)]; exact a1)]
          exact fin k h (by omega) (Bool.eq_false_iff.mpr (fun z => by have := lt_t.mp z; omega))
        rw [if_neg (by rw [show (97 : Int32) = nI 97 from rfl, nI_ltI (by omega) (by omega)]; exact a1)]
        simp only [q222_127, mc_o]
        apply tm_signAt (mT := (mT.1, mT.2.1, mT.2.2.1, nI (b + k), nI b, mT.2.2.2.2.2.1, w_m (lx_w tp b (min k 8)), 0, mT.2.2.2.2.2.2.2.2)) ht hs hz (by omega)
        simp only [sl_i, q222_130, q222_132, q222_135, q222_136, q222_139, q222_140, q222_143, q222_144, q222_146, q222_149, q222_150, q222_151, q222_154, q222_157, q222_158, q222_159, q222_160, mc_o, mg_place, mf_place, mg_begin, mf_begin, mg_word, mf_word, wx_some, wx_ref, nI_sub (show b ≤ b + k by omega), show b + k - b = k by omega]
        by_cases a2 : 122 < tp.getD (b + k) 0
        · rw [if_pos (by rw [show (122 : Int32) = nI 122 from rfl, nI_ltI (by omega) (by omega)]; exact a2)]
          exact fin k h (by omega) (Bool.eq_false_iff.mpr (fun z => by have := lt_t.mp z; omega))
        rw [if_neg (by rw [show (122 : Int32) = nI 122 from rfl, nI_ltI (by omega) (by omega)]; exact a2)]
        have hdk : lx_lt tp (b + k) = true := lt_t.mpr (by omega)
        have hgo := ih (k + 1) (by omega) (fun j hj => by
          by_cases ej : j = k
          · subst ej; exact hdk
          · exact h j (by omega))
        by_cases a4 : k < 8
        · rw [if_neg (by rw [nl_8, nI_leI (by omega) (by omega)]; omega)]
          simp only [q222_163, mc_o]
          apply tm_signAt (mT := (mT.1, mT.2.1, mT.2.2.1, nI (b + k), nI b, mT.2.2.2.2.2.1, w_m (lx_w tp b (min k 8)), 0, mT.2.2.2.2.2.2.2.2)) ht hs hz (by omega)
          simp only [sl_i, q222_166, q222_167, q222_168, q222_171, q222_172, q222_175, q222_176, q222_177, q222_180, q222_181, q222_182, q222_185, mc_o, mg_place, mf_place, mg_word, mf_word, wx_some, wx_ref, nI_1]
          have hw : w_m (lx_w tp b (k + 1)) = w_m (lx_w tp b k) * 27 + (nI (tp.getD (b + k) 0)).toInt64 - 96 := by
            show lN (w_27 (lx_w tp b (k + 1))) = lN (w_27 (lx_w tp b k)) * lN 27 + (nI (tp.getD (b + k) 0)).toInt64 - lN 96
            rw [nI_l (by omega), lN_mul, lN_add, lN_sb (by omega), lx_w_s]
            congr 1
            unfold w_27
            rw [List.foldl_append]
            show List.foldl _ _ _ * 27 + (tp.getD (b + k) 0 - 96) = _
            omega
          rw [Nat.min_eq_left (show k + 1 ≤ 8 by omega), hw] at hgo
          rw [Nat.min_eq_left (show k ≤ 8 by omega)]
          exact hgo
        · rw [if_pos (by rw [nl_8, nI_leI (by omega) (by omega)]; omega)]
          simp only [q222_175, q222_176, q222_177, q222_180, q222_181, q222_182, q222_185, mc_o, mg_place, mf_place, wx_some, wx_ref, nI_1]
          rw [Nat.min_eq_right (show 8 ≤ k + 1 by omega)] at hgo
          rw [Nat.min_eq_right (show 8 ≤ k by omega)]
          exact hgo
    by_cases a1 : tp.getD b 0 < 97
    · rw [if_pos (by rw [show (97 : Int32) = nI 97 from rfl, nI_ltI (by omega) (by omega)]; exact a1)]
      exact other (Bool.eq_false_iff.mpr (fun z => by have := lt_t.mp z; omega))
    rw [if_neg (by rw [show (97 : Int32) = nI 97 from rfl, nI_ltI (by omega) (by omega)]; exact a1)]
    by_cases a2 : 122 < tp.getD b 0
    · rw [if_pos (by rw [show (122 : Int32) = nI 122 from rfl, nI_ltI (by omega) (by omega)]; exact a2)]
      exact other (Bool.eq_false_iff.mpr (fun z => by have := lt_t.mp z; omega))
    rw [if_neg (by rw [show (122 : Int32) = nI 122 from rfl, nI_ltI (by omega) (by omega)]; exact a2)]
    exact words (lt_t.mpr (by omega)) (tp.length - b) 0 (by omega) (fun j hj => by omega)
  have fin : ∀ r, p ≤ r → r ≤ tp.length → (∀ j, p ≤ j → j < r → lx_bl tp j = true) → lx_bl tp r = false → ww (mp_P fx) (d + 1) 222 52 [some (.ref 149), none] [] (pm_h z X Y (pm_l mV ((mT.1, mT.2.1, mT.2.2.1, nI r, mT.2.2.2.2.1, mT.2.2.2.2.2.1, mT.2.2.2.2.2.2.1, mT.2.2.2.2.2.2.2.1, mT.2.2.2.2.2.2.2.2)) mQ mO mE mB mS mR mW)) Q := by
    intro r h1 h2 h3 h4
    have e : lx_b tp p = r := run_c 1001 p r h1 (by omega) h3 h4
    rw [e] at rest
    exact rest
  have key : ∀ (m r : Nat), r + m = tp.length → p ≤ r → (∀ j, p ≤ j → j < r → lx_bl tp j = true) → ww (mp_P fx) (d + 1) 222 0 [some (.ref 149), none] [] (pm_h z X Y (pm_l mV ((mT.1, mT.2.1, mT.2.2.1, nI r, mT.2.2.2.2.1, mT.2.2.2.2.2.1, mT.2.2.2.2.2.2.1, mT.2.2.2.2.2.2.2.1, mT.2.2.2.2.2.2.2.2)) mQ mO mE mB mS mR mW)) Q := by
    intro m
    induction m with
    | zero =>
      intro r hr h1 h3
      rw [q222_0]
      simp only [q222_1, q222_4, q222_5, q222_8, mc_o, mg_place, mf_place, mg_size, mf_size, wx_some, wx_ref]
      rw [if_pos (by rw [hz, nI_leI (by omega) (by omega)]; omega)]
      exact fin r h1 (by omega) h3 (lx_bl_ge _ (by omega))
    | succ m ih =>
      intro r hr h1 h3
      have g := ho_at hs (show r < tp.length by omega)
      have gl := tp_lt ht r
      have hgo : lx_bl tp r = true → ww (mp_P fx) (d + 1) 222 0 [some (.ref 149), none] [] (pm_h z X Y (pm_l mV ((mT.1, mT.2.1, mT.2.2.1, nI (r + 1), mT.2.2.2.2.1, mT.2.2.2.2.2.1, mT.2.2.2.2.2.2.1, mT.2.2.2.2.2.2.2.1, mT.2.2.2.2.2.2.2.2)) mQ mO mE mB mS mR mW)) Q := fun hbl => ih (r + 1) (by omega) (by omega) (fun j a1 a2 => by
        by_cases e : j = r
        · subst e; exact hbl
        · exact h3 j a1 (by omega))
      rw [q222_0]
      simp only [q222_1, q222_4, q222_5, q222_8, q222_11, q222_12, q222_15, q222_16, q222_19, q222_20, q222_22, q222_25, q222_26, q222_29, q222_30, q222_33, q222_34, q222_36, q222_39, q222_40, q222_41, q222_44, q222_45, q222_46, mc_o, mg_place, mf_place, mg_size, mf_size, mg_tape, ma_tape, mb_tape, mn_tape, wx_some, wx_ref, g, nI_1]
      rw [if_neg (by rw [hz, nI_leI (by omega) (by omega)]; omega)]
      by_cases e1 : tp.getD r 0 = 32
      · rw [if_pos (by rw [e1]; rfl)]
        simp only [q222_49]
        exact hgo (bl_t.mpr (Or.inr e1))
      · rw [if_neg (by rw [show (32 : Int32) = nI 32 from rfl, nI_eq (by omega) (by omega)]; exact e1)]
        by_cases e2 : tp.getD r 0 = 10
        · rw [if_neg (by rw [e2]; exact fun z => z rfl)]
          simp only [q222_49]
          exact hgo (bl_t.mpr (Or.inl e2))
        · rw [if_pos (by rw [nl_10, nI_eq (by omega) (by omega)]; exact e2)]
          exact fin r h1 (by omega) h3 (Bool.eq_false_iff.mpr (fun z => by
            rcases bl_t.mp z with h | h
            · exact e2 h
            · exact e1 h))
  have this := key (tp.length - p) p (by omega) (Nat.le_refl _) (fun j a1 a2 => by omega)
  rw [← hpl] at this
  simp only [e222]
  exact this
end ML
