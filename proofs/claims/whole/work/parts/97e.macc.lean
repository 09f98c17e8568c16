/-! a reader at a token, of the model -/
section MA
variable {fx : List Value → mm_H → Option (List Value × mm_H)} {z : Nat} {X Y : Nat → mm_C} {mV : pm_V} {mT : pm_T} {mQ : pm_Q} {mO : pm_O} {mE : pm_E} {mB : pm_B} {mS : pm_S} {mR : pm_R} {mW : pm_W} {m_thrown : Int32} {m_given : Int32} {m_fresh : Int64} {m_code : Int32} {m_taped : Int32} {m_tape : List Int32} {m_size : Int32} {m_place : Int32} {m_begin : Int32} {m_token : Int32} {m_word : Int64} {m_told : Int32} {m_wrong : Int32} {m_square : List Int32} {m_sortName : List Int64} {m_colourName : List Int64} {m_walkerName : List Int64} {m_sortOf : List Int32} {m_rules : List Int32} {m_kind : List Int32} {m_colour : List Int32} {m_atTold : List Int32} {m_goesMany : List Int32} {m_goes : List Int32} {m_gusts : List Int32} {m_lineFrom : List Int32} {m_lineTo : List Int32} {m_codes : List Int32} {m_opened : List Int32} {m_compared : List Int32} {m_kept : List Int32} {m_keptBy : List Int32} {m_ahead : List Int32} {m_against : List Int32} {m_sum : List Int32} {m_sumBy : List Int32} {m_term : List Int32} {m_termBy : List Int32} {m_byNot : List Int32} {m_valueOf : List Int32} {m_lines : List Int32} {m_lineWhat : List Int32} {m_lineA : List Int32} {m_lineB : List Int32} {m_wishes : List Int32} {m_wishOf : List Int32} {m_seens : List Int32} {m_seenAt : List Int32} {m_seenIn : List Int32} {m_seenThere : List Int32} {m_s : List Int32} {m_aside : List Int32} {m_before : List Int32} {m_marked : List Int32} {m_undone : List Int32} {m_isLaid : List Int32} {m_done : Int32} {m_gustNow : Int32} {m_shown : List Int32} {m_shownMany : Int32} {m_from7 : List Int32} {m_long7 : List Int32} {m_sentences : Int32} {m_text7 : List Int32} {m_textMany : Int32} {m_waysOf : List Int32} {m_rowOf : List Int32} {m_row : List Int32} {m_bestRow : List Int32} {m_leastSteps : Int32} {m_steps10 : List Int32} {m_placeIn : List Int32} {m_g : Int64}
variable {d : Nat} {Q : Option Value → mm_H → Prop} {tp : List Nat} {k : Nat}
theorem TKm_tl (h : TKm tp k mT) : tk tp k ≤ tp.length := tk_le h.2.1.1 k
theorem tm_isWord {w : Nat} {W : Int64} (hw : w < 27) (hW : w_m (kw w) = W) (h : TKm tp k mT) (hq1 : isWd tp k w → Q (some (.int 1)) (pm_h z X Y (pm_l mV mT mQ mO mE mB mS mR mW))) (hq0 : ¬ isWd tp k w → Q (some (.int 0)) (pm_h z X Y (pm_l mV mT mQ mO mE mB mS mR mW))) : wm (mp_P fx) d 224 [.ref 149, .long W] (pm_h z X Y (pm_l mV mT mQ mO mE mB mS mR mW)) Q := by
  obtain ⟨⟨hs, hz, hp, hb, hty, hwd, htd⟩, ht, h0⟩ := h
  have hl := TY_le (tp := tp) (i := k)
  have hty : mT.2.2.2.2.2.1 = nI (TY tp k) := hty
  simp only [e224, b224_0, b224_1, bn_0 b224_0, bn_1 b224_1, q224_0, q224_1, q224_4, q224_5, q224_8, q224_9, q224_12, q224_13, q224_14, q224_17, q224_18, q224_21, q224_22, mc_o, mg_token, mf_token, mg_word, mf_word, wx_some, wx_ref, hty]
  by_cases e : TY tp k = 1
  · have hwd : mT.2.2.2.2.2.2.1 = w_m (LT tp k) := hwd e
    obtain ⟨l1, l2⟩ := LT_ok e
    obtain ⟨k1, k2⟩ := kw_ok w hw
    rw [if_neg (by rw [e]; exact fun z => z rfl), hwd]
    by_cases e2 : LT tp k = kw w
    · rw [if_neg (fun z => z ((lg_cmp_eq _ _).mpr (by rw [e2, hW])))]
      exact hq1 ⟨e, e2⟩
    · rw [if_pos (fun z => e2 ((w_m_inj l2 k2 l1 k1).mp (((lg_cmp_eq _ _).mp z).trans hW.symm)))]
      exact hq0 (fun z => e2 z.2)
  · rw [if_pos (by rw [nl_1, nI_eq (by omega) (by omega)]; exact e)]
    exact hq0 (fun z => e z.1)
theorem TY_in {i : Nat} (h : TKm tp i mT) (h0 : ¬ TY tp i = 0) : tk tp i < tp.length := by
  rcases Nat.lt_or_ge (tk tp i) tp.length with e | e
  · exact e
  · exact absurd (show lx_t tp (tk tp i) = 0 from if_pos e) h0
theorem tm_isSign {c : Nat} (hc : c < 127) (h : TKm tp k mT) (hq1 : isSg tp k c → Q (some (.int 1)) (pm_h z X Y (pm_l mV mT mQ mO mE mB mS mR mW))) (hq0 : ¬ isSg tp k c → Q (some (.int 0)) (pm_h z X Y (pm_l mV mT mQ mO mE mB mS mR mW))) : wm (mp_P fx) d 233 [.ref 149, .int (nI c)] (pm_h z X Y (pm_l mV mT mQ mO mE mB mS mR mW)) Q := by
  obtain ⟨⟨hs, hz, hp, hb, hty, hwd, htd⟩, ht, h0⟩ := id h
  have hl := TY_le (tp := tp) (i := k)
  have hty : mT.2.2.2.2.2.1 = nI (TY tp k) := hty
  have hsl : SG tp k < 127 := tp_lt ht _
  by_cases e : TY tp k = 3
  · have hin := TY_in h (by omega)
    simp only [e233, b233_0, b233_1, bn_0 b233_0, bn_1 b233_1, q233_0, q233_1, q233_4, q233_5, q233_8, q233_9, q233_12, q233_13, q233_16, q233_17, q233_18, q233_21, q233_22, q233_25, q233_26, mc_o, mg_token, mf_token, mg_begin, mf_begin, mg_tape, ma_tape, mb_tape, mn_tape, wx_some, wx_ref, hty, hb, ho_at hs hin]
    rw [if_neg (by rw [e]; exact fun z => z rfl)]
    by_cases e2 : SG tp k = c
    · rw [if_neg (fun z => z (by show nI (SG tp k) = _; rw [e2]))]
      exact hq1 ⟨e, e2⟩
    · rw [if_pos (by show ¬ nI (SG tp k) = _; rw [nI_eq (by omega) (by omega)]; exact e2)]
      exact hq0 (fun z => e2 z.2)
  · simp only [b233_0, b233_1, bn_0 b233_0, bn_1 b233_1, q233_0, q233_1, q233_4, q233_5, b233_0, b233_1, bn_0 b233_0, bn_1 b233_1, q233_25, q233_26, e233, b233_0, b233_1, mc_o, mg_token, mf_token, wx_some, wx_ref, hty]
    rw [if_pos (by rw [nl_3, nI_eq (by omega) (by omega)]; exact e)]
    exact hq0 (fun z => e z.1)
theorem TKm_wr {f : Int32} (h : TKm tp k mT) : TKm tp k (mT.1, mT.2.1, mT.2.2.1, mT.2.2.2.1, mT.2.2.2.2.1, mT.2.2.2.2.2.1, mT.2.2.2.2.2.2.1, mT.2.2.2.2.2.2.2.1, f) := ⟨h.1, h.2.1, h.2.2⟩
theorem tm_fails {kd : Nat} (h : TKm tp k mT) (hq : ∀ mT', TKm tp k mT' → mT'.2.2.2.2.2.2.2.2 = nI (flt tp kd k) → Q (some (.int 0)) (pm_h z X Y (pm_l mV (mT') mQ mO mE mB mS mR mW))) : wm (mp_P fx) d 226 [.ref 149, .int (nI kd)] (pm_h z X Y (pm_l mV mT mQ mO mE mB mS mR mW)) Q := by
  obtain ⟨⟨hs, hz, hp, hb, hty, hwd, htd⟩, ht, h0⟩ := id h
  simp only [e226, b226_0, b226_1, bn_0 b226_0, bn_1 b226_1, q226_0, q226_1, q226_2, q226_4, q226_5, q226_8, q226_9, q226_10, q226_13, q226_14, mc_o, mg_begin, mf_begin, mg_wrong, mf_wrong, wx_some, wx_ref, hb, show (16 : Int32) = nI 16 from rfl, pk_mul, nI_add]
  exact hq (mT.1, mT.2.1, mT.2.2.1, mT.2.2.2.1, nI (tk tp k), mT.2.2.2.2.2.1, mT.2.2.2.2.2.2.1, mT.2.2.2.2.2.2.2.1, nI (kd + 16 * tk tp k)) ⟨⟨hs, hz, hp, rfl, hty, hwd, htd⟩, ht, h0⟩ rfl
theorem tm_nx (h : TKm tp k mT) (hq : ∀ mT', TKm tp (k + 1) mT' → mT'.2.2.2.2.2.2.2.2 = mT.2.2.2.2.2.2.2.2 → Q none (pm_h z X Y (pm_l mV (mT') mQ mO mE mB mS mR mW))) : wm (mp_P fx) (d + 1) 222 [.ref 149] (pm_h z X Y (pm_l mV mT mQ mO mE mB mS mR mW)) Q := by
  obtain ⟨⟨hs, hz, hp, hb, hty, hwd, htd⟩, ht, h0⟩ := id h
  have hle := TKm_tl h
  apply tm_next ht hs hz hp
  · rcases Nat.lt_or_ge (tk tp k) tp.length with e | e
    · exact (lx_e_gt e ht.1).2
    · rw [show lx_e tp (tk tp k) = tk tp k from if_pos e]; exact hle
  · intro mT' h1 h2 h3
    exact hq mT' ⟨h1, ht, h2.trans h0⟩ h3
theorem tm_begins (ht : tp_ok tp) (hT : TPm tp mT) (hq : ∀ mT', TKm tp 0 mT' → Q none (pm_h z X Y (pm_l mV (mT') mQ mO mE mB mS mR mW))) : wm (mp_P fx) (d + 2) 221 [.ref 149] (pm_h z X Y (pm_l mV mT mQ mO mE mB mS mR mW)) Q := by
  obtain ⟨hs, hl⟩ := hT
  simp only [e221, q221_0, q221_1, q221_2, q221_5, q221_8, q221_9, q221_10, q221_13, q221_14, q221_15, q221_18, q221_19, q221_22, mc_o, mg_taped, mf_taped, mg_size, mf_size, mg_place, mf_place, wx_some, wx_ref, hl]
  apply tm_next (p := 0) (mT := (0, mT.2.1, nI tp.length, 0, mT.2.2.2.2.1, mT.2.2.2.2.2.1, mT.2.2.2.2.2.2.1, mT.2.2.2.2.2.2.2.1, mT.2.2.2.2.2.2.2.2)) ht hs rfl rfl (Nat.zero_le _)
  intro mT' h1 h2 h3
  simp only [sl_n, q221_22]
  exact hq mT' ⟨h1, ht, h2⟩
theorem tm_isKept (h : TKm tp k mT) (hq1 : ¬ isNm tp k → Q (some (.int 1)) (pm_h z X Y (pm_l mV mT mQ mO mE mB mS mR mW))) (hq0 : isNm tp k → Q (some (.int 0)) (pm_h z X Y (pm_l mV mT mQ mO mE mB mS mR mW))) : wm (mp_P fx) d 228 [.ref 149] (pm_h z X Y (pm_l mV mT mQ mO mE mB mS mR mW)) Q := by
  obtain ⟨⟨hs, hz, hp, hb, hty, hwd, htd⟩, ht, h0⟩ := h
  have hl := TY_le (tp := tp) (i := k)
  have hty : mT.2.2.2.2.2.1 = nI (TY tp k) := hty
  by_cases e : TY tp k = 1
  · have hwd : mT.2.2.2.2.2.2.1 = w_m (LT tp k) := hwd e
    obtain ⟨l1, l2⟩ := LT_ok e
    have hc : ∀ w, w < 22 → ∀ W, w_m (kw w) = W → (lg_cmp (w_m (LT tp k)) W = 0 ↔ LT tp k = kw w) := fun w hw W hW => by
      obtain ⟨k1, k2⟩ := kw_ok w (by omega)
      rw [lg_cmp_eq, ← hW, w_m_inj l2 k2 l1 k1]
    have hyes : ∀ w, w < 22 → LT tp k = kw w → Q (some (.int 1)) (pm_h z X Y (pm_l mV mT mQ mO mE mB mS mR mW)) := fun w hw z => hq1 (fun y => by
      have := kept_t.mpr ⟨w, hw, z⟩
      rw [y.2] at this; cases this)
    simp only [e228, b228_0, b228_1, bn_0 b228_0, bn_1 b228_1, q228_0, q228_1, q228_4, q228_5, q228_8, q228_9, q228_10, q228_11, q228_14, q228_17, q228_18, q228_21, q228_22, q228_25, q228_28, q228_29, q228_32, q228_33, q228_36, q228_39, q228_40, q228_43, q228_44, q228_47, q228_50, q228_51, q228_54, q228_55, q228_58, q228_61, q228_62, q228_65, q228_66, q228_69, q228_72, q228_73, q228_76, q228_77, q228_80, q228_83, q228_84, q228_87, q228_88, q228_91, q228_94, q228_95, q228_98, q228_99, q228_102, q228_105, q228_106, q228_109, q228_110, q228_113, q228_116, q228_117, q228_120, q228_121, q228_124, q228_127, q228_128, q228_131, q228_132, q228_135, q228_138, q228_139, q228_142, q228_143, q228_146, q228_149, q228_150, q228_153, q228_154, q228_157, q228_160, q228_161, q228_164, q228_165, q228_168, q228_171, q228_172, q228_175, q228_176, q228_179, q228_182, q228_183, q228_186, q228_187, q228_190, q228_193, q228_194, q228_197, q228_198, q228_201, q228_204, q228_205, q228_208, q228_209, q228_212, q228_215, q228_216, q228_219, q228_220, q228_223, q228_226, q228_227, q228_230, q228_231, q228_234, q228_237, q228_238, q228_241, q228_242, q228_245, q228_248, q228_249, q228_252, q228_253, q228_256, q228_257, mc_o, mg_token, mf_token, mg_word, mf_word, wx_some, wx_ref, hty, hwd]
    rw [if_pos (by rw [e]; rfl)]
    by_cases e100 : LT tp k = kw 0
    · rw [if_pos ((hc 0 (by omega) 385418 (by decide)).mpr e100)]
      exact hyes 0 (by omega) e100
    rw [if_neg (fun z => e100 ((hc 0 (by omega) 385418 (by decide)).mp z))]
    by_cases e101 : LT tp k = kw 1
    · rw [if_pos ((hc 1 (by omega) 51266052 (by decide)).mpr e101)]
      exact hyes 1 (by omega) e101
    rw [if_neg (fun z => e101 ((hc 1 (by omega) 51266052 (by decide)).mp z))]
    by_cases e102 : LT tp k = kw 2
    · rw [if_pos ((hc 2 (by omega) 46 (by decide)).mpr e102)]
      exact hyes 2 (by omega) e102
    rw [if_neg (fun z => e102 ((hc 2 (by omega) 46 (by decide)).mp z))]
    by_cases e103 : LT tp k = kw 3
    · rw [if_pos ((hc 3 (by omega) 369932 (by decide)).mpr e103)]
      exact hyes 3 (by omega) e103
    rw [if_neg (fun z => e103 ((hc 3 (by omega) 369932 (by decide)).mp z))]
    by_cases e104 : LT tp k = kw 4
    · rw [if_pos ((hc 4 (by omega) 262 (by decide)).mpr e104)]
      exact hyes 4 (by omega) e104
    rw [if_neg (fun z => e104 ((hc 4 (by omega) 262 (by decide)).mp z))]
    by_cases e105 : LT tp k = kw 5
    · rw [if_pos ((hc 5 (by omega) 375400 (by decide)).mpr e105)]
      exact hyes 5 (by omega) e105
    rw [if_neg (fun z => e105 ((hc 5 (by omega) 375400 (by decide)).mp z))]
    by_cases e106 : LT tp k = kw 6
    · rw [if_pos ((hc 6 (by omega) 330800670 (by decide)).mpr e106)]
      exact hyes 6 (by omega) e106
    rw [if_neg (fun z => e106 ((hc 6 (by omega) 330800670 (by decide)).mp z))]
    by_cases e107 : LT tp k = kw 7
    · rw [if_pos ((hc 7 (by omega) 47 (by decide)).mpr e107)]
      exact hyes 7 (by omega) e107
    rw [if_neg (fun z => e107 ((hc 7 (by omega) 47 (by decide)).mp z))]
    by_cases e108 : LT tp k = kw 8
    · rw [if_pos ((hc 8 (by omega) 148870 (by decide)).mpr e108)]
      exact hyes 8 (by omega) e108
    rw [if_neg (fun z => e108 ((hc 8 (by omega) 148870 (by decide)).mp z))]
    by_cases e109 : LT tp k = kw 9
    · rw [if_pos ((hc 9 (by omega) 4147840 (by decide)).mpr e109)]
      exact hyes 9 (by omega) e109
    rw [if_neg (fun z => e109 ((hc 9 (by omega) 4147840 (by decide)).mp z))]
    by_cases e110 : LT tp k = kw 10
    · rw [if_pos ((hc 10 (by omega) 9665209 (by decide)).mpr e110)]
      exact hyes 10 (by omega) e110
    rw [if_neg (fun z => e110 ((hc 10 (by omega) 9665209 (by decide)).mp z))]
    by_cases e111 : LT tp k = kw 11
    · rw [if_pos ((hc 11 (by omega) 400313 (by decide)).mpr e111)]
      exact hyes 11 (by omega) e111
    rw [if_neg (fun z => e111 ((hc 11 (by omega) 400313 (by decide)).mp z))]
    by_cases e112 : LT tp k = kw 12
    · rw [if_pos ((hc 12 (by omega) 267413 (by decide)).mpr e112)]
      exact hyes 12 (by omega) e112
    rw [if_neg (fun z => e112 ((hc 12 (by omega) 267413 (by decide)).mp z))]
    by_cases e113 : LT tp k = kw 13
    · rw [if_pos ((hc 13 (by omega) 380396 (by decide)).mpr e113)]
      exact hyes 13 (by omega) e113
    rw [if_neg (fun z => e113 ((hc 13 (by omega) 380396 (by decide)).mp z))]
    by_cases e114 : LT tp k = kw 14
    · rw [if_pos ((hc 14 (by omega) 307058 (by decide)).mpr e114)]
      exact hyes 14 (by omega) e114
    rw [if_neg (fun z => e114 ((hc 14 (by omega) 307058 (by decide)).mp z))]
    by_cases e115 : LT tp k = kw 15
    · rw [if_pos ((hc 15 (by omega) 8740238 (by decide)).mpr e115)]
      exact hyes 15 (by omega) e115
    rw [if_neg (fun z => e115 ((hc 15 (by omega) 8740238 (by decide)).mp z))]
    by_cases e116 : LT tp k = kw 16
    · rw [if_pos ((hc 16 (by omega) 40586 (by decide)).mpr e116)]
      exact hyes 16 (by omega) e116
    rw [if_neg (fun z => e116 ((hc 16 (by omega) 40586 (by decide)).mp z))]
    by_cases e117 : LT tp k = kw 17
    · rw [if_pos ((hc 17 (by omega) 6688728 (by decide)).mpr e117)]
      exact hyes 17 (by omega) e117
    rw [if_neg (fun z => e117 ((hc 17 (by omega) 6688728 (by decide)).mp z))]
    by_cases e118 : LT tp k = kw 18
    · rw [if_pos ((hc 18 (by omega) 43409 (by decide)).mpr e118)]
      exact hyes 18 (by omega) e118
    rw [if_neg (fun z => e118 ((hc 18 (by omega) 43409 (by decide)).mp z))]
    by_cases e119 : LT tp k = kw 19
    · rw [if_pos ((hc 19 (by omega) 10631 (by decide)).mpr e119)]
      exact hyes 19 (by omega) e119
    rw [if_neg (fun z => e119 ((hc 19 (by omega) 10631 (by decide)).mp z))]
    by_cases e120 : LT tp k = kw 20
    · rw [if_pos ((hc 20 (by omega) 1111 (by decide)).mpr e120)]
      exact hyes 20 (by omega) e120
    rw [if_neg (fun z => e120 ((hc 20 (by omega) 1111 (by decide)).mp z))]
    by_cases e121 : LT tp k = kw 21
    · rw [if_neg (fun z => z ((hc 21 (by omega) 423 (by decide)).mpr e121))]
      exact hyes 21 (by omega) e121
    rw [if_pos (fun z => e121 ((hc 21 (by omega) 423 (by decide)).mp z))]
    refine hq0 ⟨e, Bool.eq_false_iff.mpr (fun z => ?_)⟩
    obtain ⟨w, a1, a2⟩ := kept_t.mp z
    have : w = 0 ∨ w = 1 ∨ w = 2 ∨ w = 3 ∨ w = 4 ∨ w = 5 ∨ w = 6 ∨ w = 7 ∨ w = 8 ∨ w = 9 ∨ w = 10 ∨ w = 11 ∨ w = 12 ∨ w = 13 ∨ w = 14 ∨ w = 15 ∨ w = 16 ∨ w = 17 ∨ w = 18 ∨ w = 19 ∨ w = 20 ∨ w = 21 := by omega
    rcases this with rfl | rfl | rfl | rfl | rfl | rfl | rfl | rfl | rfl | rfl | rfl | rfl | rfl | rfl | rfl | rfl | rfl | rfl | rfl | rfl | rfl | rfl
    · exact e100 a2
    · exact e101 a2
    · exact e102 a2
    · exact e103 a2
    · exact e104 a2
    · exact e105 a2
    · exact e106 a2
    · exact e107 a2
    · exact e108 a2
    · exact e109 a2
    · exact e110 a2
    · exact e111 a2
    · exact e112 a2
    · exact e113 a2
    · exact e114 a2
    · exact e115 a2
    · exact e116 a2
    · exact e117 a2
    · exact e118 a2
    · exact e119 a2
    · exact e120 a2
    · exact e121 a2
  · simp only [b228_0, b228_1, bn_0 b228_0, bn_1 b228_1, q228_0, q228_1, q228_4, q228_5, q228_8, q228_9, e228, b228_0, b228_1, mc_o, mg_token, mf_token, wx_some, wx_ref, hty]
    rw [if_neg (by rw [nl_1, nI_eq (by omega) (by omega)]; exact e)]
    exact hq1 (fun z => e z.1)
theorem tm_needsWord {w : Nat} {W : Int64} (hw : w < 27) (hW : w_m (kw w) = W) (h : TKm tp k mT) (hq1 : isWd tp k w → ∀ mT', TKm tp (k + 1) mT' → Q (some (.int 1)) (pm_h z X Y (pm_l mV (mT') mQ mO mE mB mS mR mW))) (hq0 : ¬ isWd tp k w → ∀ mT', TKm tp k mT' → mT'.2.2.2.2.2.2.2.2 = nI (flt tp 1 k) → Q (some (.int 0)) (pm_h z X Y (pm_l mV (mT') mQ mO mE mB mS mR mW))) : wm (mp_P fx) (d + 2) 235 [.ref 149, .long W] (pm_h z X Y (pm_l mV mT mQ mO mE mB mS mR mW)) Q := by
  simp only [e235, b235_0, b235_1, bn_0 b235_0, bn_1 b235_1, q235_0, q235_1, q235_2, q235_5, q235_8, q235_9, q235_10, q235_13, q235_14, q235_15, q235_18, q235_19, mc_o]
  apply tm_isWord hw hW h
  · intro y
    simp only [sl_i, e235, b235_0, b235_1, bn_0 b235_0, bn_1 b235_1, q235_0, q235_1, q235_2, q235_5, q235_8, q235_9, q235_10, q235_13, q235_14, q235_15, q235_18, q235_19, mc_o]
    rw [if_pos (by decide)]
    apply tm_nx h
    intro mT' h1 h2
    simp only [sl_n, e235, b235_0, b235_1, bn_0 b235_0, bn_1 b235_1, q235_0, q235_1, q235_2, q235_5, q235_8, q235_9, q235_10, q235_13, q235_14, q235_15, q235_18, q235_19]
    exact hq1 y mT' h1
  · intro y
    simp only [sl_i, e235, b235_0, b235_1, bn_0 b235_0, bn_1 b235_1, q235_0, q235_1, q235_2, q235_5, q235_8, q235_9, q235_10, q235_13, q235_14, q235_15, q235_18, q235_19, mc_o]
    rw [if_neg (by decide)]
    apply tm_fails (kd := 1) h
    intro mT' h1 h2
    simp only [sl_i, e235, b235_0, b235_1, bn_0 b235_0, bn_1 b235_1, q235_0, q235_1, q235_2, q235_5, q235_8, q235_9, q235_10, q235_13, q235_14, q235_15, q235_18, q235_19]
    exact hq0 y mT' h1 h2
theorem tm_closes (h : TKm tp k mT) (hq1 : isSg tp k 59 → ∀ mT', TKm tp (k + 1) mT' → Q (some (.int 1)) (pm_h z X Y (pm_l mV (mT') mQ mO mE mB mS mR mW))) (hq0 : ¬ isSg tp k 59 → ∀ mT', TKm tp k mT' → mT'.2.2.2.2.2.2.2.2 = nI (flt tp 1 k) → Q (some (.int 0)) (pm_h z X Y (pm_l mV (mT') mQ mO mE mB mS mR mW))) : wm (mp_P fx) (d + 2) 232 [.ref 149] (pm_h z X Y (pm_l mV mT mQ mO mE mB mS mR mW)) Q := by
  simp only [e232, b232_0, b232_1, bn_0 b232_0, bn_1 b232_1, q232_0, q232_1, q232_3, q232_6, q232_9, q232_10, q232_11, q232_14, q232_15, q232_16, q232_19, q232_20, mc_o]
  apply tm_isSign (c := 59) (by omega) h
  · intro y
    simp only [sl_i, e232, b232_0, b232_1, bn_0 b232_0, bn_1 b232_1, q232_0, q232_1, q232_3, q232_6, q232_9, q232_10, q232_11, q232_14, q232_15, q232_16, q232_19, q232_20, mc_o]
    rw [if_pos (by decide)]
    apply tm_nx h
    intro mT' h1 h2
    simp only [sl_n, e232, b232_0, b232_1, bn_0 b232_0, bn_1 b232_1, q232_0, q232_1, q232_3, q232_6, q232_9, q232_10, q232_11, q232_14, q232_15, q232_16, q232_19, q232_20]
    exact hq1 y mT' h1
  · intro y
    simp only [sl_i, e232, b232_0, b232_1, bn_0 b232_0, bn_1 b232_1, q232_0, q232_1, q232_3, q232_6, q232_9, q232_10, q232_11, q232_14, q232_15, q232_16, q232_19, q232_20, mc_o]
    rw [if_neg (by decide)]
    apply tm_fails (kd := 1) h
    intro mT' h1 h2
    simp only [sl_i, e232, b232_0, b232_1, bn_0 b232_0, bn_1 b232_1, q232_0, q232_1, q232_3, q232_6, q232_9, q232_10, q232_11, q232_14, q232_15, q232_16, q232_19, q232_20]
    exact hq0 y mT' h1 h2
theorem TKm_told (h : TKm tp k mT) (h2 : TY tp k = 2) : mT.2.2.2.2.2.2.2.1 = nI (VL tp k) := h.1.2.2.2.2.2.2 h2
theorem TKm_ty (h : TKm tp k mT) : mT.2.2.2.2.2.1 = nI (TY tp k) := h.1.2.2.2.2.1
theorem tm_needsNumber {a b : Nat} (ha : a < 2 ^ 20) (hb : b < 2 ^ 20) (h : TKm tp k mT) (hq1 : TY tp k = 2 → a ≤ VL tp k ∧ VL tp k ≤ b → ∀ mT', TKm tp (k + 1) mT' → Q (some (.int 1)) (pm_h z X Y (pm_l ((mV.1, nI (VL tp k), mV.2.2.1, mV.2.2.2)) (mT') mQ mO mE mB mS mR mW))) (hq4 : TY tp k = 2 → ¬ (a ≤ VL tp k ∧ VL tp k ≤ b) → ∀ mT', TKm tp k mT' → mT'.2.2.2.2.2.2.2.2 = nI (flt tp 4 k) → Q (some (.int 0)) (pm_h z X Y (pm_l mV (mT') mQ mO mE mB mS mR mW))) (hq0 : ¬ TY tp k = 2 → ∀ mT', TKm tp k mT' → mT'.2.2.2.2.2.2.2.2 = nI (flt tp 1 k) → Q (some (.int 0)) (pm_h z X Y (pm_l mV (mT') mQ mO mE mB mS mR mW))) : wm (mp_P fx) (d + 2) 241 [.ref 149, .int (nI a), .int (nI b)] (pm_h z X Y (pm_l mV mT mQ mO mE mB mS mR mW)) Q := by
  have hl := TY_le (tp := tp) (i := k)
  simp only [e241, b241_0, b241_1, bn_0 b241_0, bn_1 b241_1, q241_0, q241_1, q241_4, q241_5, q241_8, q241_9, q241_10, q241_13, q241_14, q241_15, q241_18, q241_19, q241_20, q241_23, q241_26, q241_27, q241_28, q241_31, q241_32, q241_33, q241_34, q241_37, q241_40, q241_41, q241_44, q241_45, mc_o, mg_token, mf_token, mg_told, mf_told, wx_some, wx_ref, TKm_ty h]
  by_cases e : TY tp k = 2
  · have hv := VL_lt e
    rw [if_pos (by rw [e]; rfl), TKm_told h e]
    apply tm_in
    · intro y
      simp only [sl_i, e241, b241_0, b241_1, bn_0 b241_0, bn_1 b241_1, q241_0, q241_1, q241_4, q241_5, q241_8, q241_9, q241_10, q241_13, q241_14, q241_15, q241_18, q241_19, q241_20, q241_23, q241_26, q241_27, q241_28, q241_31, q241_32, q241_33, q241_34, q241_37, q241_40, q241_41, q241_44, q241_45, mc_o]
      rw [if_neg (by decide)]
      apply tm_fails (kd := 4) h
      intro mT' h1 h2
      simp only [sl_i, e241, b241_0, b241_1, bn_0 b241_0, bn_1 b241_1, q241_0, q241_1, q241_4, q241_5, q241_8, q241_9, q241_10, q241_13, q241_14, q241_15, q241_18, q241_19, q241_20, q241_23, q241_26, q241_27, q241_28, q241_31, q241_32, q241_33, q241_34, q241_37, q241_40, q241_41, q241_44, q241_45]
      refine hq4 e (fun x => ?_) mT' h1 h2
      rw [nI_ltI (by omega) (by omega), nI_ltI (by omega) (by omega)] at y
      omega
    · intro y1 y2
      rw [nI_leI (by omega) (by omega)] at y1 y2
      simp only [sl_i, e241, b241_0, b241_1, bn_0 b241_0, bn_1 b241_1, q241_0, q241_1, q241_4, q241_5, q241_8, q241_9, q241_10, q241_13, q241_14, q241_15, q241_18, q241_19, q241_20, q241_23, q241_26, q241_27, q241_28, q241_31, q241_32, q241_33, q241_34, q241_37, q241_40, q241_41, q241_44, q241_45, mc_o, mg_told, mf_told, mg_given, mf_given, wx_some, wx_ref, TKm_told h e]
      rw [if_pos (by decide)]
      apply tm_nx h
      intro mT' h1 h2
      simp only [sl_n, e241, b241_0, b241_1, bn_0 b241_0, bn_1 b241_1, q241_0, q241_1, q241_4, q241_5, q241_8, q241_9, q241_10, q241_13, q241_14, q241_15, q241_18, q241_19, q241_20, q241_23, q241_26, q241_27, q241_28, q241_31, q241_32, q241_33, q241_34, q241_37, q241_40, q241_41, q241_44, q241_45]
      exact hq1 e ⟨y1, y2⟩ mT' h1
  · rw [if_neg (by rw [nl_2, nI_eq (by omega) (by omega)]; exact e)]
    apply tm_fails (kd := 1) h
    intro mT' h1 h2
    simp only [sl_i, e241, b241_0, b241_1, bn_0 b241_0, bn_1 b241_1, q241_0, q241_1, q241_4, q241_5, q241_8, q241_9, q241_10, q241_13, q241_14, q241_15, q241_18, q241_19, q241_20, q241_23, q241_26, q241_27, q241_28, q241_31, q241_32, q241_33, q241_34, q241_37, q241_40, q241_41, q241_44, q241_45]
    exact hq0 e mT' h1 h2
end MA
