/-! the law's reader of the model: behind a part -/
section GW
variable {fx : List Value → mm_H → Option (List Value × mm_H)} {z : Nat} {X Y : Nat → mm_C} {mV : pm_V} {mT : pm_T} {mQ : pm_Q} {mO : pm_O} {mE : pm_E} {mB : pm_B} {mS : pm_S} {mR : pm_R} {mW : pm_W} {m_thrown : Int32} {m_given : Int32} {m_fresh : Int64} {m_code : Int32} {m_taped : Int32} {m_tape : List Int32} {m_size : Int32} {m_place : Int32} {m_begin : Int32} {m_token : Int32} {m_word : Int64} {m_told : Int32} {m_wrong : Int32} {m_square : List Int32} {m_sortName : List Int64} {m_colourName : List Int64} {m_walkerName : List Int64} {m_sortOf : List Int32} {m_rules : List Int32} {m_kind : List Int32} {m_colour : List Int32} {m_atTold : List Int32} {m_goesMany : List Int32} {m_goes : List Int32} {m_gusts : List Int32} {m_lineFrom : List Int32} {m_lineTo : List Int32} {m_codes : List Int32} {m_opened : List Int32} {m_compared : List Int32} {m_kept : List Int32} {m_keptBy : List Int32} {m_ahead : List Int32} {m_against : List Int32} {m_sum : List Int32} {m_sumBy : List Int32} {m_term : List Int32} {m_termBy : List Int32} {m_byNot : List Int32} {m_valueOf : List Int32} {m_lines : List Int32} {m_lineWhat : List Int32} {m_lineA : List Int32} {m_lineB : List Int32} {m_wishes : List Int32} {m_wishOf : List Int32} {m_seens : List Int32} {m_seenAt : List Int32} {m_seenIn : List Int32} {m_seenThere : List Int32} {m_s : List Int32} {m_aside : List Int32} {m_before : List Int32} {m_marked : List Int32} {m_undone : List Int32} {m_isLaid : List Int32} {m_done : Int32} {m_gustNow : Int32} {m_shown : List Int32} {m_shownMany : Int32} {m_from7 : List Int32} {m_long7 : List Int32} {m_sentences : Int32} {m_text7 : List Int32} {m_textMany : Int32} {m_waysOf : List Int32} {m_rowOf : List Int32} {m_row : List Int32} {m_bestRow : List Int32} {m_leastSteps : Int32} {m_steps10 : List Int32} {m_placeIn : List Int32} {m_g : Int64}
variable {d : Nat} {Q : Option Value → mm_H → Prop} {tp : List Nat} {k i dp dep : Nat} {mV0 : pm_V} {mQ0 : pm_Q} {cs : List Nat} {op cm : Nat → Int32} {l3 l4 l5 : Option Value}
theorem opS_n (h : opS tp i = none) : ¬ isSg tp i 43 ∧ ¬ isSg tp i 45 := by
  unfold opS at h
  split at h
  · cases h
  · rename_i e1
    split at h
    · cases h
    · rename_i e2; exact ⟨fun y => e1 (snB_t.mpr y), fun y => e2 (snB_t.mpr y)⟩
theorem opM_n (h : opM tp i = none) : ¬ isSg tp i 42 := by
  unfold opM at h
  split at h
  · cases h
  · rename_i e1; exact fun y => e1 (snB_t.mpr y)
theorem opT_n (h : opT tp i = none) : ¬ isSg tp i 60 ∧ ¬ isSg tp i 61 := by
  unfold opT at h
  split at h
  · cases h
  · rename_i e1
    split at h
    · cases h
    · rename_i e2; exact ⟨fun y => e1 (snB_t.mpr y), fun y => e2 (snB_t.mpr y)⟩
theorem opE_n (h : opE tp i = none) : ¬ isWd tp i 20 ∧ ¬ isWd tp i 21 := by
  unfold opE at h
  split at h
  · cases h
  · rename_i e1
    split at h
    · cases h
    · rename_i e2; exact ⟨fun y => e1 (wdB_t.mpr y), fun y => e2 (wdB_t.mpr y)⟩
theorem s_245 (hT : TKm tp i mT) (h1 : opS tp i = none) (h2 : opM tp i = none) (hh : ww (mp_P fx) (dep + 3) 246 245 [some (.ref 149), some (.int (nI dp)), some (.int 0), l3, l4, l5] [] (pm_h z X Y (pm_l mV mT mQ mO mE mB mS mR mW)) Q) : ww (mp_P fx) (dep + 3) 246 179 [some (.ref 149), some (.int (nI dp)), some (.int 0), l3, l4, l5] [] (pm_h z X Y (pm_l mV mT mQ mO mE mB mS mR mW)) Q := by
  obtain ⟨n1, n2⟩ := opS_n h1
  have n3 := opM_n h2
  simp only [b246_0, b246_1, bn_0 b246_0, bn_1 b246_1, q246_179, q246_180]
  simp only [b246_0, b246_1, bn_0 b246_0, bn_1 b246_1, q246_182, mc_o]
  apply tm_isSign (c := 43) (by omega) hT
  · intro y; exact absurd y n1
  intro _
  simp only [sl_i, b246_0, b246_1, bn_0 b246_0, bn_1 b246_1, q246_185, q246_188, q246_189]
  rw [if_neg (by decide)]
  simp only [b246_0, b246_1, bn_0 b246_0, bn_1 b246_1, q246_191, mc_o]
  apply tm_isSign (c := 45) (by omega) hT
  · intro y; exact absurd y n2
  intro _
  simp only [sl_i, b246_0, b246_1, bn_0 b246_0, bn_1 b246_1, q246_194, q246_197, q246_198]
  rw [if_neg (by decide)]
  simp only [b246_0, b246_1, bn_0 b246_0, bn_1 b246_1, q246_200, mc_o]
  apply tm_isSign (c := 42) (by omega) hT
  · intro y; exact absurd y n3
  intro _
  simp only [sl_i, b246_0, b246_1, bn_0 b246_0, bn_1 b246_1, q246_203]
  rw [if_pos (by decide)]
  exact hh
theorem s_304 (hT : TKm tp i mT) (hO : OPm op cm mO) (hdp : dp < 7) (h1 : opT tp i = none ∨ ¬ cm dp = 0) (hh : ww (mp_P fx) (dep + 3) 246 304 [some (.ref 149), some (.int (nI dp)), some (.int 0), l3, l4, l5] [] (pm_h z X Y (pm_l mV mT mQ mO mE mB mS mR mW)) Q) : ww (mp_P fx) (dep + 3) 246 245 [some (.ref 149), some (.int (nI dp)), some (.int 0), l3, l4, l5] [] (pm_h z X Y (pm_l mV mT mQ mO mE mB mS mR mW)) Q := by
  have at263 : opT tp i ≠ none → ww (mp_P fx) (dep + 3) 246 263 [some (.ref 149), some (.int (nI dp)), some (.int 0), l3, l4, l5] [] (pm_h z X Y (pm_l mV mT mQ mO mE mB mS mR mW)) Q := by
    intro hn
    simp only [b246_0, b246_1, bn_0 b246_0, bn_1 b246_1, q246_263, q246_264, q246_267, q246_268, q246_269, mc_o, mg_compared, ma_compared, mb_compared, mn_compared, wx_some, wx_ref, af_G hO.2 (show 7 < 2 ^ 31 by omega) hdp]
    rw [if_pos (h1.resolve_left hn)]
    exact hh
  simp only [b246_0, b246_1, bn_0 b246_0, bn_1 b246_1, q246_245, q246_246]
  simp only [b246_0, b246_1, bn_0 b246_0, bn_1 b246_1, q246_248, mc_o]
  apply tm_isSign (c := 60) (by omega) hT
  · intro y
    simp only [sl_i, b246_0, b246_1, bn_0 b246_0, bn_1 b246_1, q246_251]
    rw [if_pos (by decide)]
    exact at263 (fun e => (opT_n e).1 y)
  intro _
  simp only [sl_i, b246_0, b246_1, bn_0 b246_0, bn_1 b246_1, q246_251, q246_254, q246_255]
  rw [if_neg (by decide)]
  simp only [b246_0, b246_1, bn_0 b246_0, bn_1 b246_1, q246_257, mc_o]
  apply tm_isSign (c := 61) (by omega) hT
  · intro y
    simp only [sl_i, b246_0, b246_1, bn_0 b246_0, bn_1 b246_1, q246_260]
    rw [if_neg (by decide)]
    exact at263 (fun e => (opT_n e).2 y)
  intro _
  simp only [sl_i, b246_0, b246_1, bn_0 b246_0, bn_1 b246_1, q246_260]
  rw [if_pos (by decide)]
  exact hh
theorem s_357 (hT : TKm tp i mT) (h1 : opE tp i = none) (hh : ww (mp_P fx) (dep + 3) 246 357 [some (.ref 149), some (.int (nI dp)), some (.int 0), l3, l4, l5] [] (pm_h z X Y (pm_l mV mT mQ mO mE mB mS mR mW)) Q) : ww (mp_P fx) (dep + 3) 246 304 [some (.ref 149), some (.int (nI dp)), some (.int 0), l3, l4, l5] [] (pm_h z X Y (pm_l mV mT mQ mO mE mB mS mR mW)) Q := by
  obtain ⟨n1, n2⟩ := opE_n h1
  simp only [b246_0, b246_1, bn_0 b246_0, bn_1 b246_1, q246_304, q246_305]
  simp only [b246_0, b246_1, bn_0 b246_0, bn_1 b246_1, q246_308, mc_o]
  apply tm_isWord (w := 20) (by omega) (by decide) hT
  · intro y; exact absurd y n1
  intro _
  simp only [sl_i, b246_0, b246_1, bn_0 b246_0, bn_1 b246_1, q246_311, q246_314, q246_315]
  rw [if_neg (by decide)]
  simp only [b246_0, b246_1, bn_0 b246_0, bn_1 b246_1, q246_318, mc_o]
  apply tm_isWord (w := 21) (by omega) (by decide) hT
  · intro y; exact absurd y n2
  intro _
  simp only [sl_i, b246_0, b246_1, bn_0 b246_0, bn_1 b246_1, q246_321]
  rw [if_pos (by decide)]
  exact hh
/-- a joint is put down, a part is wanted -/
theorem s_next {mO2 : pm_O} {cm2 : Nat → Int32} {c : Nat} (hT : TKm tp i mT) (hL : LQm mV0 mQ0 (cs ++ [c]) mV mQ) (hO : OPm op cm2 mO) (hlen : cs.length ≤ i) (i3 : mm_isL l3 = false) (i4 : mm_isL l4 = false) (i5 : mm_isL l5 = false) (hgo : WR fx z X Y mE mB mS mR mW mV0 mQ0 tp dep Q dp 1 (i + 1) (cs ++ [c]) op cm2) : ww (mp_P fx) (dep + 3) 246 424 [some (.ref 149), some (.int (nI dp)), some (.int 1), l3, l4, l5] [] (pm_h z X Y (pm_l mV mT mQ mO mE mB mS mR mW)) Q := by
  simp only [b246_0, b246_1, bn_0 b246_0, bn_1 b246_1, q246_424, q246_425, mc_o]
  apply tm_nx hT
  intro mT2 h1 _
  simp only [sl_n, b246_0, b246_1, bn_0 b246_0, bn_1 b246_1, q246_428]
  exact hgo mV mT2 mQ mO l3 l4 l5 h1 hL hO (by rw [List.length_append, List.length_singleton]; omega) i3 i4 i5
theorem w0_ar {p : Int32} {c : Nat} (hop : opS tp i = some (p, c) ∨ opM tp i = some (p, c)) (hgo : WR fx z X Y mE mB mS mR mW mV0 mQ0 tp dep Q dp 1 (i + 1) (cs ++ [c]) op cm) : WR fx z X Y mE mB mS mR mW mV0 mQ0 tp dep Q dp 0 i cs op cm := by
  intro mV mT mQ mO l3 l4 l5 hT hL hO hlen i3 i4 i5
  have fin : ¬ TY tp i = 0 → ww (mp_P fx) (dep + 3) 246 237 [some (.ref 149), some (.int (nI dp)), some (.int 0), l3, l4, l5] [.int (nI c), .ref 149] (pm_h z X Y (pm_l mV mT mQ mO mE mB mS mR mW)) Q := by
    intro hty
    have h1000 := TY_1000 hT.2.1 hty
    simp only [b246_0, b246_1, bn_0 b246_0, bn_1 b246_1, q246_237, mc_o]
    apply tm_puts (c := c) hL (by omega)
    intro hL2
    simp only [sl_n, b246_0, b246_1, bn_0 b246_0, bn_1 b246_1, q246_240, q246_241i, q246_242, isl_i, isl_r, isl_n]
    exact s_next (mO2 := mO) hT hL2 hO hlen i3 i4 i5 hgo
  have again : ¬ TY tp i = 0 → ww (mp_P fx) (dep + 3) 246 206 [some (.ref 149), some (.int (nI dp)), some (.int 0), l3, l4, l5] [] (pm_h z X Y (pm_l mV mT mQ mO mE mB mS mR mW)) Q := by
    intro hty
    simp only [b246_0, b246_1, bn_0 b246_0, bn_1 b246_1, q246_206, q246_207, q246_208]
    simp only [b246_0, b246_1, bn_0 b246_0, bn_1 b246_1, q246_210, mc_o]
    apply tm_isSign (c := 43) (by omega) hT
    · intro y
      have hc : c = 20 := by
        rcases hop with h | h
        · unfold opS at h; rw [if_pos (snB_t.mpr y)] at h; cases h; rfl
        · unfold opM at h; rw [if_neg (fun e => by have := (snB_t.mp e).2; have := y.2; omega)] at h; cases h
      subst hc
      simp only [sl_i, b246_0, b246_1, bn_0 b246_0, bn_1 b246_1, q246_213, q246_216, q246_218]
      rw [if_neg (by decide)]
      exact fin hty
    intro y43
    simp only [sl_i, b246_0, b246_1, bn_0 b246_0, bn_1 b246_1, q246_213, b246_0, b246_1, bn_0 b246_0, bn_1 b246_1, q246_221, q246_222]
    rw [if_pos (by decide)]
    simp only [b246_0, b246_1, bn_0 b246_0, bn_1 b246_1, q246_224, mc_o]
    apply tm_isSign (c := 45) (by omega) hT
    · intro y
      have hc : c = 21 := by
        rcases hop with h | h
        · unfold opS at h; rw [if_neg (fun e => y43 (snB_t.mp e)), if_pos (snB_t.mpr y)] at h; cases h; rfl
        · unfold opM at h; rw [if_neg (fun e => by have := (snB_t.mp e).2; have := y.2; omega)] at h; cases h
      subst hc
      simp only [sl_i, b246_0, b246_1, bn_0 b246_0, bn_1 b246_1, q246_227, q246_230, q246_232]
      rw [if_neg (by decide)]
      exact fin hty
    intro y45
    have hc : c = 22 := by
      rcases hop with h | h
      · unfold opS at h; rw [if_neg (fun e => y43 (snB_t.mp e)), if_neg (fun e => y45 (snB_t.mp e))] at h; cases h
      · unfold opM at h; split at h
        · cases h; rfl
        · cases h
    subst hc
    simp only [sl_i, b246_0, b246_1, bn_0 b246_0, bn_1 b246_1, q246_227, b246_0, b246_1, bn_0 b246_0, bn_1 b246_1, q246_235]
    rw [if_pos (by decide)]
    exact fin hty
  rw [q246_11]
  simp only [b246_0, b246_1, bn_0 b246_0, bn_1 b246_1, q246_12]
  rw [if_pos (by decide)]
  simp only [b246_0, b246_1, bn_0 b246_0, bn_1 b246_1, q246_179, q246_180]
  simp only [b246_0, b246_1, bn_0 b246_0, bn_1 b246_1, q246_182, mc_o]
  apply tm_isSign (c := 43) (by omega) hT
  · intro y
    simp only [sl_i, b246_0, b246_1, bn_0 b246_0, bn_1 b246_1, q246_185]
    rw [if_pos (by decide)]
    exact again (by rw [y.1]; decide)
  intro y43
  simp only [sl_i, b246_0, b246_1, bn_0 b246_0, bn_1 b246_1, q246_185, q246_188, q246_189]
  rw [if_neg (by decide)]
  simp only [b246_0, b246_1, bn_0 b246_0, bn_1 b246_1, q246_191, mc_o]
  apply tm_isSign (c := 45) (by omega) hT
  · intro y
    simp only [sl_i, b246_0, b246_1, bn_0 b246_0, bn_1 b246_1, q246_194]
    rw [if_pos (by decide)]
    exact again (by rw [y.1]; decide)
  intro y45
  simp only [sl_i, b246_0, b246_1, bn_0 b246_0, bn_1 b246_1, q246_194, q246_197, q246_198]
  rw [if_neg (by decide)]
  simp only [b246_0, b246_1, bn_0 b246_0, bn_1 b246_1, q246_200, mc_o]
  apply tm_isSign (c := 42) (by omega) hT
  · intro y
    simp only [sl_i, b246_0, b246_1, bn_0 b246_0, bn_1 b246_1, q246_203]
    rw [if_neg (by decide)]
    exact again (by rw [y.1]; decide)
  intro y42
  rcases hop with h | h
  · unfold opS at h; rw [if_neg (fun e => y43 (snB_t.mp e)), if_neg (fun e => y45 (snB_t.mp e))] at h; cases h
  · unfold opM at h; rw [if_neg (fun e => y42 (snB_t.mp e))] at h; cases h
theorem w0_cmp {p : Int32} {c : Nat} (hdp : dp < 7) (hS : opS tp i = none) (hM : opM tp i = none) (hop : opT tp i = some (p, c)) (hcm : cm dp = 0) (hgo : WR fx z X Y mE mB mS mR mW mV0 mQ0 tp dep Q dp 1 (i + 1) (cs ++ [c]) op (uL cm dp 1)) : WR fx z X Y mE mB mS mR mW mV0 mQ0 tp dep Q dp 0 i cs op cm := by
  intro mV mT mQ mO l3 l4 l5 hT hL hO hlen i3 i4 i5
  have o2 := hO.2.1
  have fin : ¬ TY tp i = 0 → ww (mp_P fx) (dep + 3) 246 289 [some (.ref 149), some (.int (nI dp)), some (.int 0), l3, l4, l5] [.int (nI c), .ref 149] (pm_h z X Y (pm_l mV mT mQ mO mE mB mS mR mW)) Q := by
    intro hty
    have h1000 := TY_1000 hT.2.1 hty
    simp only [b246_0, b246_1, bn_0 b246_0, bn_1 b246_1, q246_289, mc_o]
    apply tm_puts (c := c) hL (by omega)
    intro hL2
    simp only [sl_n, b246_0, b246_1, bn_0 b246_0, bn_1 b246_1, q246_292, q246_293, q246_296, q246_297, q246_298, q246_299, q246_300i, q246_301, mc_o, mg_compared, ma_compared, mb_compared, mn_compared, wx_some, wx_ref, isl_i, isl_r, isl_n, nar_1, aS_n (show dp < (mO.2).length by omega) (show (mO.2).length < 2 ^ 31 by omega)]
    exact s_next (mO := (mO.1, (mO.2).set dp 1)) (mO2 := mO) hT hL2 ⟨hO.1, af_set hO.2 (by omega) (fun j => rfl)⟩ hlen i3 i4 i5 hgo
  have at263 : ¬ TY tp i = 0 → ww (mp_P fx) (dep + 3) 246 263 [some (.ref 149), some (.int (nI dp)), some (.int 0), l3, l4, l5] [] (pm_h z X Y (pm_l mV mT mQ mO mE mB mS mR mW)) Q := by
    intro hty
    simp only [b246_0, b246_1, bn_0 b246_0, bn_1 b246_1, q246_263, q246_264, q246_267, q246_268, q246_269, q246_272, q246_273, q246_274, mc_o, mg_compared, ma_compared, mb_compared, mn_compared, wx_some, wx_ref, af_G hO.2 (show 7 < 2 ^ 31 by omega) hdp]
    rw [if_neg (fun y => y hcm)]
    simp only [b246_0, b246_1, bn_0 b246_0, bn_1 b246_1, q246_276, mc_o]
    apply tm_isSign (c := 60) (by omega) hT
    · intro y
      have hc : c = 24 := by unfold opT at hop; rw [if_pos (snB_t.mpr y)] at hop; cases hop; rfl
      subst hc
      simp only [sl_i, b246_0, b246_1, bn_0 b246_0, bn_1 b246_1, q246_279, q246_282, q246_284]
      rw [if_neg (by decide)]
      exact fin hty
    · intro y
      have hc : c = 25 := by
        unfold opT at hop; rw [if_neg (fun e => y (snB_t.mp e))] at hop
        split at hop
        · cases hop; rfl
        · cases hop
      subst hc
      simp only [sl_i, b246_0, b246_1, bn_0 b246_0, bn_1 b246_1, q246_279, b246_0, b246_1, bn_0 b246_0, bn_1 b246_1, q246_287]
      rw [if_pos (by decide)]
      exact fin hty
  rw [q246_11]
  simp only [b246_0, b246_1, bn_0 b246_0, bn_1 b246_1, q246_12]
  rw [if_pos (by decide)]
  apply s_245 hT hS hM
  simp only [b246_0, b246_1, bn_0 b246_0, bn_1 b246_1, q246_245, q246_246]
  simp only [b246_0, b246_1, bn_0 b246_0, bn_1 b246_1, q246_248, mc_o]
  apply tm_isSign (c := 60) (by omega) hT
  · intro y
    simp only [sl_i, b246_0, b246_1, bn_0 b246_0, bn_1 b246_1, q246_251]
    rw [if_pos (by decide)]
    exact at263 (by rw [y.1]; decide)
  intro y60
  simp only [sl_i, b246_0, b246_1, bn_0 b246_0, bn_1 b246_1, q246_251, q246_254, q246_255]
  rw [if_neg (by decide)]
  simp only [b246_0, b246_1, bn_0 b246_0, bn_1 b246_1, q246_257, mc_o]
  apply tm_isSign (c := 61) (by omega) hT
  · intro y
    simp only [sl_i, b246_0, b246_1, bn_0 b246_0, bn_1 b246_1, q246_260]
    rw [if_neg (by decide)]
    exact at263 (by rw [y.1]; decide)
  intro y61
  unfold opT at hop; rw [if_neg (fun e => y60 (snB_t.mp e)), if_neg (fun e => y61 (snB_t.mp e))] at hop; cases hop
theorem w0_log {p : Int32} {c : Nat} (hdp : dp < 7) (hS : opS tp i = none) (hM : opM tp i = none) (hTn : opT tp i = none ∨ ¬ cm dp = 0) (hop : opE tp i = some (p, c)) (hgo : WR fx z X Y mE mB mS mR mW mV0 mQ0 tp dep Q dp 1 (i + 1) (cs ++ [c]) op (uL cm dp 0)) : WR fx z X Y mE mB mS mR mW mV0 mQ0 tp dep Q dp 0 i cs op cm := by
  intro mV mT mQ mO l3 l4 l5 hT hL hO hlen i3 i4 i5
  have o2 := hO.2.1
  have fin : ¬ TY tp i = 0 → ww (mp_P fx) (dep + 3) 246 342 [some (.ref 149), some (.int (nI dp)), some (.int 0), l3, l4, l5] [.int (nI c), .ref 149] (pm_h z X Y (pm_l mV mT mQ mO mE mB mS mR mW)) Q := by
    intro hty
    have h1000 := TY_1000 hT.2.1 hty
    simp only [b246_0, b246_1, bn_0 b246_0, bn_1 b246_1, q246_342, mc_o]
    apply tm_puts (c := c) hL (by omega)
    intro hL2
    simp only [sl_n, b246_0, b246_1, bn_0 b246_0, bn_1 b246_1, q246_345, q246_346, q246_349, q246_350, q246_351, q246_352, q246_353i, q246_354, mc_o, mg_compared, ma_compared, mb_compared, mn_compared, wx_some, wx_ref, isl_i, isl_r, isl_n, nar_0, aS_n (show dp < (mO.2).length by omega) (show (mO.2).length < 2 ^ 31 by omega)]
    exact s_next (mO := (mO.1, (mO.2).set dp 0)) (mO2 := mO) hT hL2 ⟨hO.1, af_set hO.2 (by omega) (fun j => rfl)⟩ hlen i3 i4 i5 hgo
  have again : ¬ TY tp i = 0 → ww (mp_P fx) (dep + 3) 246 324 [some (.ref 149), some (.int (nI dp)), some (.int 0), l3, l4, l5] [] (pm_h z X Y (pm_l mV mT mQ mO mE mB mS mR mW)) Q := by
    intro hty
    simp only [b246_0, b246_1, bn_0 b246_0, bn_1 b246_1, q246_324, q246_325, q246_326]
    simp only [b246_0, b246_1, bn_0 b246_0, bn_1 b246_1, q246_329, mc_o]
    apply tm_isWord (w := 20) (by omega) (by decide) hT
    · intro y
      have hc : c = 26 := by unfold opE at hop; rw [if_pos (wdB_t.mpr y)] at hop; cases hop; rfl
      subst hc
      simp only [sl_i, b246_0, b246_1, bn_0 b246_0, bn_1 b246_1, q246_332, q246_335, q246_337]
      rw [if_neg (by decide)]
      exact fin hty
    · intro y
      have hc : c = 27 := by
        unfold opE at hop; rw [if_neg (fun e => y (wdB_t.mp e))] at hop
        split at hop
        · cases hop; rfl
        · cases hop
      subst hc
      simp only [sl_i, b246_0, b246_1, bn_0 b246_0, bn_1 b246_1, q246_332, b246_0, b246_1, bn_0 b246_0, bn_1 b246_1, q246_340]
      rw [if_pos (by decide)]
      exact fin hty
  rw [q246_11]
  simp only [b246_0, b246_1, bn_0 b246_0, bn_1 b246_1, q246_12]
  rw [if_pos (by decide)]
  apply s_245 hT hS hM
  apply s_304 hT hO hdp hTn
  simp only [b246_0, b246_1, bn_0 b246_0, bn_1 b246_1, q246_304, q246_305]
  simp only [b246_0, b246_1, bn_0 b246_0, bn_1 b246_1, q246_308, mc_o]
  apply tm_isWord (w := 20) (by omega) (by decide) hT
  · intro y
    simp only [sl_i, b246_0, b246_1, bn_0 b246_0, bn_1 b246_1, q246_311]
    rw [if_pos (by decide)]
    exact again (by rw [y.1]; decide)
  intro y20
  simp only [sl_i, b246_0, b246_1, bn_0 b246_0, bn_1 b246_1, q246_311, q246_314, q246_315]
  rw [if_neg (by decide)]
  simp only [b246_0, b246_1, bn_0 b246_0, bn_1 b246_1, q246_318, mc_o]
  apply tm_isWord (w := 21) (by omega) (by decide) hT
  · intro y
    simp only [sl_i, b246_0, b246_1, bn_0 b246_0, bn_1 b246_1, q246_321]
    rw [if_neg (by decide)]
    exact again (by rw [y.1]; decide)
  intro y21
  unfold opE at hop; rw [if_neg (fun e => y20 (wdB_t.mp e)), if_neg (fun e => y21 (wdB_t.mp e))] at hop; cases hop
/-- nothing joins: a bracket, the end, or a fault -/
theorem w0_off (hdp : dp < 7) (hS : opS tp i = none) (hM : opM tp i = none) (hTn : opT tp i = none ∨ ¬ cm dp = 0) (hEn : opE tp i = none) (hcl : snB tp i 41 = true → 0 < dp → WR fx z X Y mE mB mS mR mW mV0 mQ0 tp dep Q (bsd op (dp - 1)) 0 (i + 1) (cs ++ [29]) op cm) (hend : dp = 0 → snB tp i 59 = true → ∀ (mV : pm_V) (mT : pm_T) (mQ : pm_Q) (mO : pm_O), TKm tp (i + 1) mT → LQm mV0 mQ0 cs mV mQ → OPm op cm mO → Q (some (.int 1)) (pm_h z X Y (pm_l mV mT mQ mO mE mB mS mR mW))) (hbad : ¬ (snB tp i 41 = true ∧ 0 < dp) → ¬ (dp = 0 ∧ snB tp i 59 = true) → BR0 fx z X Y mE mB mS mR mW mV0 mQ0 tp dep Q (flt tp 1 i)) : WR fx z X Y mE mB mS mR mW mV0 mQ0 tp dep Q dp 0 i cs op cm := by
  intro mV mT mQ mO l3 l4 l5 hT hL hO hlen i3 i4 i5
  rw [q246_11]
  simp only [b246_0, b246_1, bn_0 b246_0, bn_1 b246_1, q246_12]
  rw [if_pos (by decide)]
  apply s_245 hT hS hM
  apply s_304 hT hO hdp hTn
  apply s_357 hT hEn
  have at418 : ¬ (snB tp i 41 = true ∧ 0 < dp) → ¬ (dp = 0 ∧ snB tp i 59 = true) → ww (mp_P fx) (dep + 3) 246 418 [some (.ref 149), some (.int (nI dp)), some (.int 0), l3, l4, l5] [] (pm_h z X Y (pm_l mV mT mQ mO mE mB mS mR mW)) Q := by
    intro n1 n2
    simp only [b246_0, b246_1, bn_0 b246_0, bn_1 b246_1, q246_418, q246_419, q246_420, mc_o]
    apply tm_fails (kd := 1) hT
    intro mT2 h2 h3
    simp only [sl_i, b246_0, b246_1, bn_0 b246_0, bn_1 b246_1, q246_423]
    exact hbad n1 n2 mV mT2 mQ mO cs op cm i h2 h3 hL hO
  have at399 : ¬ (snB tp i 41 = true ∧ 0 < dp) → ww (mp_P fx) (dep + 3) 246 399 [some (.ref 149), some (.int (nI dp)), some (.int 0), l3, l4, l5] [] (pm_h z X Y (pm_l mV mT mQ mO mE mB mS mR mW)) Q := by
    intro n1
    simp only [b246_0, b246_1, bn_0 b246_0, bn_1 b246_1, q246_399, q246_400, q246_403, q246_404]
    by_cases e0 : dp = 0
    · rw [if_neg (by rw [e0]; exact fun y => y rfl)]
      simp only [b246_0, b246_1, bn_0 b246_0, bn_1 b246_1, q246_406, mc_o]
      apply tm_isSign (c := 59) (by omega) hT
      · intro y
        simp only [sl_i, b246_0, b246_1, bn_0 b246_0, bn_1 b246_1, q246_409, q246_412, q246_413, mc_o]
        rw [if_neg (by decide)]
        apply tm_nx hT
        intro mT2 h2 _
        simp only [sl_n, b246_0, b246_1, bn_0 b246_0, bn_1 b246_1, q246_416, q246_417]
        exact hend e0 (snB_t.mpr y) mV mT2 mQ mO h2 hL hO
      · intro y
        simp only [sl_i, b246_0, b246_1, bn_0 b246_0, bn_1 b246_1, q246_409]
        rw [if_pos (by decide)]
        exact at418 n1 (fun e => y (snB_t.mp e.2))
    · rw [if_pos (by rw [nl_0, nI_eq (by omega) (by omega)]; exact e0)]
      exact at418 n1 (fun e => e0 e.1)
  simp only [b246_0, b246_1, bn_0 b246_0, bn_1 b246_1, q246_357, q246_358]
  simp only [b246_0, b246_1, bn_0 b246_0, bn_1 b246_1, q246_360, mc_o]
  apply tm_isSign (c := 41) (by omega) hT
  · intro y
    have h1000 := TY_1000 hT.2.1 (show ¬ TY tp i = 0 by rw [y.1]; decide)
    simp only [sl_i, b246_0, b246_1, bn_0 b246_0, bn_1 b246_1, q246_363, q246_366, q246_367, q246_370, q246_371]
    rw [if_neg (by decide)]
    by_cases e0 : dp = 0
    · rw [if_pos (by rw [e0]; decide)]
      exact at399 (fun e => by omega)
    · rw [if_neg (nI_nle (by omega) (by omega))]
      simp only [b246_0, b246_1, bn_0 b246_0, bn_1 b246_1, q246_373, mc_o]
      apply tm_puts (c := 29) hL (by omega)
      intro hL2
      simp only [sl_n, b246_0, b246_1, bn_0 b246_0, bn_1 b246_1, q246_376r, isl_i, isl_r, isl_n]
      rw [i_m1, nl_1, nI_sub (show 1 ≤ dp by omega)]
      apply pop_379 hO (dp - 1) (by omega)
      simp only [b246_0, b246_1, bn_0 b246_0, bn_1 b246_1, q246_424, q246_425, mc_o]
      apply tm_nx hT
      intro mT2 h1 _
      simp only [sl_n, b246_0, b246_1, bn_0 b246_0, bn_1 b246_1, q246_428]
      exact hcl (snB_t.mpr y) (by omega) _ mT2 _ mO l3 l4 l5 h1 hL2 hO (by rw [List.length_append, List.length_singleton]; omega) i3 i4 i5
  · intro y
    simp only [sl_i, b246_0, b246_1, bn_0 b246_0, bn_1 b246_1, q246_363]
    rw [if_pos (by decide)]
    exact at399 (fun e => y (snB_t.mp e.1))
end GW
