/-! printed by wip/whole/gen98c.py: the law's loop -/
theorem and63 (x : Int32) : ∃ k, k < 64 ∧ x &&& 63 = nI k := by
  refine ⟨(x &&& 63).toBitVec.toNat, ?_, ?_⟩
  · rw [Int32.toBitVec_and, BitVec.toNat_and]
    exact Nat.lt_of_le_of_lt Nat.and_le_right (by decide)
  · apply Int32.toBitVec_inj.mp
    show _ = (Int32.ofNat _).toBitVec
    rw [Int32.toBitVec_ofNat', BitVec.ofNat_toNat, BitVec.setWidth_eq]
theorem l7_neg : ∀ l, l < 7 → nI l - 7 < 0 := by decide
section LF
variable {fx : List Value → mm_H → Option (List Value × mm_H)} {z : Nat} {E M : Nat → mm_C} {sw c2 w2 : Bool} {T : px_T} {D : px_D} {S : px_S} {S1 : px_S} {K : px_K} {R : px_R} {C : px_C} {W : px_W} {U : px_U} {q : px_q} {q1 : px_q} {B0 : px_K} {B1 : px_K} {B2 : px_K} {B3 : px_K} {T_signs : List Int32} {T_length : Int32} {T_fault : Int32} {T_types : List Int32} {T_starts : List Int32} {T_values : List Int64} {T_tokens : Int32} {T_at : Int32} {T_behind : Int32} {S_hour : Int32} {S_open : Int32} {S_places : List Int32} {S1_hour : Int32} {S1_open : Int32} {S1_places : List Int32} {K_lines : List Int32} {K_lineCount : Int32} {K_wishes : List Int32} {K_wishCount : Int32} {K_sights : List Int32} {K_sightCount : Int32} {R_shown : List Int32} {R_length : Int32} {R_readers : Int32} {R_begins : List Int32} {R_lengths : List Int32} {R_sentences : Int32} {R_order : List Int32} {R_able : Int32} {R_standing : List Int32} {R_lovers : List Int32} {R_lowest : List Int32} {C_ways : List Int32} {C_rows : List Int32} {C_shallower : List Int32} {C_length : Int32} {C_goal : Int32} {W_row : List Int32} {W_walkers : Int32} {W_names : Int32} {W_wanted : List Int32} {W_shown : List Int32} {W_places : List Int32} {W_rest : List Int32} {W_spent : List Int32} {W_tried : List Int32} {U_undoRows : List Int64} {U_markScenes : List Int64} {U_marksLaid : List Int32} {U_undoCount : Int32} {U_undoEnd : Int32} {q_sortNames : List Int64} {q_sortCount : Int32} {q_colourNames : List Int64} {q_colourSorts : List Int32} {q_colourCount : Int32} {q_ruleMakes : List Int32} {q_ruleFirsts : List Int32} {q_ruleSeconds : List Int32} {q_ruleCount : Int32} {q_saysSort : Int32} {q_walkerNames : List Int64} {q_kinds : List Int32} {q_walkerColours : List Int32} {q_starts : List Int32} {q_stepRows : List Int32} {q_stepCounts : List Int32} {q_walkerCount : Int32} {q_gusts : List Int32} {q_gustCount : Int32} {q_parts : List Int32} {q_count : Int32} {q_stack : List Int32} {q_height : Int32} {q1_sortNames : List Int64} {q1_sortCount : Int32} {q1_colourNames : List Int64} {q1_colourSorts : List Int32} {q1_colourCount : Int32} {q1_ruleMakes : List Int32} {q1_ruleFirsts : List Int32} {q1_ruleSeconds : List Int32} {q1_ruleCount : Int32} {q1_saysSort : Int32} {q1_walkerNames : List Int64} {q1_kinds : List Int32} {q1_walkerColours : List Int32} {q1_starts : List Int32} {q1_stepRows : List Int32} {q1_stepCounts : List Int32} {q1_walkerCount : Int32} {q1_gusts : List Int32} {q1_gustCount : Int32} {q1_parts : List Int32} {q1_count : Int32} {q1_stack : List Int32} {q1_height : Int32} {B0_lines : List Int32} {B0_lineCount : Int32} {B0_wishes : List Int32} {B0_wishCount : Int32} {B0_sights : List Int32} {B0_sightCount : Int32} {B1_lines : List Int32} {B1_lineCount : Int32} {B1_wishes : List Int32} {B1_wishCount : Int32} {B1_sights : List Int32} {B1_sightCount : Int32} {B2_lines : List Int32} {B2_lineCount : Int32} {B2_wishes : List Int32} {B2_wishCount : Int32} {B2_sights : List Int32} {B2_sightCount : Int32} {B3_lines : List Int32} {B3_lineCount : Int32} {B3_wishes : List Int32} {B3_wishCount : Int32} {B3_sights : List Int32} {B3_sightCount : Int32}
variable {fx : List Value → mm_H → Option (List Value × mm_H)} {z : Nat} {X Y : Nat → mm_C} {mV : pm_V} {mT : pm_T} {mQ : pm_Q} {mO : pm_O} {mE : pm_E} {mB : pm_B} {mS : pm_S} {mR : pm_R} {mW : pm_W} {m_thrown : Int32} {m_given : Int32} {m_fresh : Int64} {m_code : Int32} {m_taped : Int32} {m_tape : List Int32} {m_size : Int32} {m_place : Int32} {m_begin : Int32} {m_token : Int32} {m_word : Int64} {m_told : Int32} {m_wrong : Int32} {m_square : List Int32} {m_sortName : List Int64} {m_colourName : List Int64} {m_walkerName : List Int64} {m_sortOf : List Int32} {m_rules : List Int32} {m_kind : List Int32} {m_colour : List Int32} {m_atTold : List Int32} {m_goesMany : List Int32} {m_goes : List Int32} {m_gusts : List Int32} {m_lineFrom : List Int32} {m_lineTo : List Int32} {m_codes : List Int32} {m_opened : List Int32} {m_compared : List Int32} {m_kept : List Int32} {m_keptBy : List Int32} {m_ahead : List Int32} {m_against : List Int32} {m_sum : List Int32} {m_sumBy : List Int32} {m_term : List Int32} {m_termBy : List Int32} {m_byNot : List Int32} {m_valueOf : List Int32} {m_lines : List Int32} {m_lineWhat : List Int32} {m_lineA : List Int32} {m_lineB : List Int32} {m_wishes : List Int32} {m_wishOf : List Int32} {m_seens : List Int32} {m_seenAt : List Int32} {m_seenIn : List Int32} {m_seenThere : List Int32} {m_s : List Int32} {m_aside : List Int32} {m_before : List Int32} {m_marked : List Int32} {m_undone : List Int32} {m_isLaid : List Int32} {m_done : Int32} {m_gustNow : Int32} {m_shown : List Int32} {m_shownMany : Int32} {m_from7 : List Int32} {m_long7 : List Int32} {m_sentences : Int32} {m_text7 : List Int32} {m_textMany : Int32} {m_waysOf : List Int32} {m_rowOf : List Int32} {m_row : List Int32} {m_bestRow : List Int32} {m_leastSteps : Int32} {m_steps10 : List Int32} {m_placeIn : List Int32} {m_g : Int64}
variable {d i t : Nat} {xs : List Int32} {l5 l6 : Option Value} {Q : Option Value → mm_H → Prop} {tp : List Nat} {nm : NMs} {s : SQ} {c : SC} {us : List SC} {b : BK} {mk : Nat → Option (SC × BK)}
theorem lw_loop (he : ELt E) (h0 : E 0 = mm_I 9 xs) (hl : xs.length ≤ 448) (hQ : ∀ h : mm_H, h.1 = 205 → h.2.1 ≤ 16900 → Q (some (.int 1)) h) : ∀ (m t i : Nat), t + m = 64 → i = 7 * t → ∀ {z : Nat} {Y : Nat → mm_C} {sw c2 w2 : Bool} {T : px_T} {D : px_D} {S : px_S} {S1 : px_S} {K : px_K} {R : px_R} {C : px_C} {W : px_W} {U : px_U} {q : px_q} {q1 : px_q} {B0 : px_K} {B1 : px_K} {B2 : px_K} {B3 : px_K} {mV : pm_V} {mT : pm_T} {mQ : pm_Q} {mO : pm_O} {mE : pm_E} {mB : pm_B} {mS : pm_S} {mR : pm_R} {mW : pm_W} {l5 l6 : Option Value} (tp : List Nat) (nm : NMs) (s : SQ) (c : SC) (us : List SC) (b : BK) (mk : Nat → Option (SC × BK)), LI t z Y tp nm s c us b mk T D S S1 K R C W U q q1 B0 B1 B2 B3 mV mT mQ mO mE mB mS mR mW → ww (mp_P fxr) (d + 50) 5000 23 [some (.ref 0), some (.ref 59), some (.ref 149), some (.ref 204), some (.int (nI i)), l5, l6] [] (px_h z E (pm_f E Y (pm_l mV mT mQ mO mE mB mS mR mW)) (px_l sw c2 w2 T D S S1 K R C W U q q1 B0 B1 B2 B3)) Q := by
  intro m
  induction m with
  | zero =>
    intro t i ht hi z Y sw c2 w2 T D S S1 K R C W U q q1 B0 B1 B2 B3 mV mT mQ mO mE mB mS mR mW l5 l6 tp nm s c us b mk iA
    have hz := iA.2.2.2.1
    rw [q5000_23]
    simp only [q5000_25, q5000_26, q5000_27, q5000_29, q5000_30, gS_n h0, wx_some, wx_ref]
    rw [if_pos (by
      by_cases h7 : 7 ≤ xs.length
      · rw [show (7 : Int32) = nI 7 from rfl, nI_sub h7, nI_ltI (by omega) (by omega)]; omega
      · exact Int32.lt_of_lt_of_le (l7_neg _ (by omega)) (by rw [nl_0, nI_leI (by omega) (by omega)]; omega))]
    simp only [q5000_1337, q5000_1338, b5000_0, b5000_1]
    exact hQ _ rfl (by show z ≤ 16900; omega)
  | succ m ih =>
    intro t i ht hi z Y sw c2 w2 T D S S1 K R C W U q q1 B0 B1 B2 B3 mV mT mQ mO mE mB mS mR mW l5 l6 tp nm s c us b mk iA
    have hz := iA.2.2.2.1
    rw [q5000_23]
    simp only [q5000_25, q5000_26, q5000_27, q5000_29, q5000_30, gS_n h0, wx_some, wx_ref]
    by_cases h7 : i + 7 ≤ xs.length
    · rw [if_neg (by rw [show (7 : Int32) = nI 7 from rfl, nI_sub (by omega), nI_ltI (by omega) (by omega)]; omega)]
      have g0 : ∀ L, mm_gI (px_h z E (pm_f E Y (pm_l mV mT mQ mO mE mB mS mR mW)) L) 0 0 9 (nI i) = some (xs.getD i 0) := fun L => gS h0 (by omega) hl
      have go : GO fxr d i t E Q := by
        intro z Y sw c2 w2 T D S S1 K R C W U q q1 B0 B1 B2 B3 mV mT mQ mO mE mB mS mR mW l5 l6 tp nm s c us b mk iA
        simp only [q5000_1331r, q5000_1334, nI_p7]
        exact ih (t + 1) (i + 7) (by omega) (by omega) tp nm s c us b mk iA
      have up : LI (t + 1) z Y tp nm s c us b mk T D S S1 K R C W U q q1 B0 B1 B2 B3 mV mT mQ mO mE mB mS mR mW := ⟨iA.1, iA.2.1, IS_up iA.2.2.1, by omega, iA.2.2.2.2⟩
      simp only [q5000_33, q5000_34, q5000_36, q5000_37, q5000_39, q5000_40, g0, wx_some, wx_ref]
      obtain ⟨k, hk, ek⟩ := and63 (xs.getD i 0)
      rw [ek]
      have hc : k = 0 ∨ k = 1 ∨ k = 2 ∨ k = 3 ∨ k = 4 ∨ k = 5 ∨ k = 6 ∨ k = 7 ∨ k = 8 ∨ k = 9 ∨ k = 10 ∨ k = 11 ∨ k = 12 ∨ k = 13 ∨ k = 14 ∨ k = 15 ∨ k = 16 ∨ k = 17 ∨ k = 18 ∨ k = 19 ∨ k = 20 ∨ k = 21 ∨ k = 22 ∨ k = 23 ∨ k = 24 ∨ k = 25 ∨ k = 26 ∨ k = 27 ∨ k = 28 ∨ k = 29 ∨ k = 30 ∨ k = 31 ∨ k = 32 ∨ k = 33 ∨ k = 34 ∨ k = 35 ∨ k = 36 ∨ k = 37 ∨ 38 ≤ k := by omega
      rcases hc with rfl | rfl | rfl | rfl | rfl | rfl | rfl | rfl | rfl | rfl | rfl | rfl | rfl | rfl | rfl | rfl | rfl | rfl | rfl | rfl | rfl | rfl | rfl | rfl | rfl | rfl | rfl | rfl | rfl | rfl | rfl | rfl | rfl | rfl | rfl | rfl | rfl | rfl | hc
      · exact lw_feed he h0 hl h7 (by omega) iA go
      · exact lw_square he h0 hl h7 (by omega) iA go
      · exact lw_day he h0 hl h7 (by omega) iA go
      · exact lw_wish he h0 hl h7 (by omega) iA go
      · exact lw_walker he h0 hl h7 (by omega) iA go
      · exact lw_read he h0 hl h7 (by omega) iA go
      · exact lw_tick he h0 hl h7 (by omega) iA go
      · exact lw_move he h0 hl h7 (by omega) iA go
      · exact lw_shut he h0 hl h7 (by omega) iA go
      · exact lw_open he h0 hl h7 (by omega) iA go
      · exact lw_undo he h0 hl h7 (by omega) iA go
      · exact lw_judged he h0 hl h7 (by omega) iA go
      · exact lw_said he h0 hl h7 (by omega) iA go
      · exact lw_ways he h0 hl h7 (by omega) iA go
      · exact lw_sorts he h0 hl h7 (by omega) iA go
      · exact lw_depth he h0 hl h7 (by omega) iA go
      · exact lw_tree he h0 hl h7 (by omega) iA go
      · exact lw_keys he h0 hl h7 (by omega) iA go
      · exact lw_least he h0 hl h7 (by omega) iA go
      · exact lw_later he h0 hl h7 (by omega) iA go
      · exact lw_when he h0 hl h7 (by omega) iA go
      · exact lw_most he h0 hl h7 (by omega) iA go
      · exact lw_talk he h0 hl h7 (by omega) iA go
      · exact lw_wished he h0 hl h7 (by omega) iA go
      · exact lw_steps he h0 hl h7 (by omega) iA go
      · exact lw_colours he h0 hl h7 (by omega) iA go
      · exact lw_code he h0 hl h7 (by omega) iA go
      · exact lw_amiss he h0 hl h7 (by omega) iA go
      · exact lw_blind he h0 hl h7 (by omega) iA go
      · exact lw_answer he h0 hl h7 (by omega) iA go
      · exact lw_see he h0 hl h7 (by omega) iA go
      · exact lw_who he h0 hl h7 (by omega) iA go
      · exact lw_ask he h0 hl h7 (by omega) iA go
      · exact lw_chance he h0 hl h7 (by omega) iA go
      · exact lw_rests he h0 hl h7 (by omega) iA go
      · exact lw_days he h0 hl h7 (by omega) iA go
      · exact lw_mark he h0 hl h7 (by omega) iA go
      · exact lw_count he h0 hl h7 (by omega) iA go
      · rw [tsw_lo (Or.inr (by rw [nI_toInt (by omega)]; omega))]
        exact go tp nm s c us b mk up
    · rw [if_pos (by
        by_cases h8 : 7 ≤ xs.length
        · rw [show (7 : Int32) = nI 7 from rfl, nI_sub h8, nI_ltI (by omega) (by omega)]; omega
        · exact Int32.lt_of_lt_of_le (l7_neg _ (by omega)) (by rw [nl_0, nI_leI (by omega) (by omega)]; omega))]
      simp only [q5000_1337, q5000_1338, b5000_0, b5000_1]
      exact hQ _ rfl (by show z ≤ 16900; omega)
end LF
