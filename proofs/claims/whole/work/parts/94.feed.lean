/-! signs on the tape -/
def shI (k : Nat) : Int32 := 56 - nI (8 * k)
theorem shI_s : ∀ k, k < 8 → shI k + -8 = shI (k + 1) ∧ ¬ shI k < 0 := by decide
theorem shI_e : shI 8 < 0 := by decide
theorem shI_m : ∀ k, k < 24 → (56 : Int32) - 8 * (nI k &&& 7) = shI (k % 8) := by decide
def bY (w : Int64) (k : Nat) : Int32 := ((w.toUInt64 >>> ((shI k).toInt64.toUInt64 &&& Int64.toUInt64 63)).toInt64 &&& 255).toInt32
def sgI (x : Int32) : Prop := x = 10 ∨ (32 ≤ x ∧ x ≤ 126)
theorem sgI_n {x : Int32} (h : sgI x) : ∃ n, (n = 10 ∨ (32 ≤ n ∧ n ≤ 126)) ∧ x = nI n := by
  rcases h with h | ⟨h1, h2⟩
  · exact ⟨10, Or.inl rfl, h⟩
  · have a1 := Int32.le_iff_toInt_le.mp h1
    have a2 := Int32.le_iff_toInt_le.mp h2
    have b1 : (32 : Int32).toInt = 32 := by decide
    have b2 : (126 : Int32).toInt = 126 := by decide
    rcases iv x with h | ⟨n, hn, rfl⟩
    · have := Int32.lt_iff_toInt_lt.mp h
      have b3 : (0 : Int32).toInt = 0 := by decide
      omega
    · rw [nI_toInt hn] at a1 a2
      exact ⟨n, Or.inr (by omega), rfl⟩
theorem sg_lt {n : Nat} (h : n = 10 ∨ (32 ≤ n ∧ n ≤ 126)) : n < 127 := by omega
theorem chI : ∀ n, n < 127 → vp_nar .char ((nI n).toUInt32 % 65536).toInt32 = nI n := by decide
/-- one sign more, if it is one and there is room -/
def fd1 (tp : List Nat) (x : Int32) (o : Bool) : List Nat := if o = true ∧ tp.length < 1000 then tp ++ [x.toNatClampNeg] else tp
def sgB (x : Int32) : Bool := decide (x = 10) || (decide (32 ≤ x) && decide (x ≤ 126))
theorem sgB_t {x : Int32} : sgB x = true ↔ sgI x := by unfold sgB sgI; simp only [Bool.or_eq_true, Bool.and_eq_true, decide_eq_true_eq]
def fdk (tp : List Nat) (w : Int64) : Nat → List Nat
  | 0 => tp
  | k + 1 => fd1 (fdk tp w k) (bY w k) (sgB (bY w k))
def sp_feed (tp : List Nat) (a b c : Int64) : List Nat := fdk (fdk (fdk tp a 8) b 8) c 8
def tp_ok (tp : List Nat) : Prop := tp.length ≤ 1000 ∧ ∀ (i x : Nat), tp[i]? = some x → x = 10 ∨ (32 ≤ x ∧ x ≤ 126)
theorem fd1_ok {tp : List Nat} {x : Int32} (h : tp_ok tp) : tp_ok (fd1 tp x (sgB x)) := by
  unfold fd1
  by_cases e : sgB x = true ∧ tp.length < 1000
  · rw [if_pos e]
    refine ⟨by rw [List.length_append, List.length_singleton]; omega, fun i y hi => ?_⟩
    rw [List.getElem?_append] at hi
    split at hi
    · exact h.2 i y hi
    · cases ei : i - tp.length with
      | zero =>
        rw [ei] at hi
        cases hi
        obtain ⟨n, h1, h2⟩ := sgI_n (sgB_t.mp e.1)
        rw [h2, nI_clamp (by omega)]; exact h1
      | succ j => rw [ei] at hi; cases hi
  · rw [if_neg e]; exact h
theorem fdk_ok {tp : List Nat} {w : Int64} (h : tp_ok tp) : ∀ k, tp_ok (fdk tp w k) := by
  intro k
  induction k with
  | zero => exact h
  | succ k ih => exact fd1_ok ih
theorem feed_ok {tp : List Nat} {a b c : Int64} (h : tp_ok tp) : tp_ok (sp_feed tp a b c) := fdk_ok (fdk_ok (fdk_ok h 8) 8) 8
def ho_ (xs : List Int32) (tp : List Nat) : Prop := xs.length = 1000 ∧ ∀ (i x : Nat), tp[i]? = some x → xs[i]? = some (nI x)
theorem ho_add {xs : List Int32} {tp : List Nat} {n : Nat} (h : ho_ xs tp) (hl : tp.length < 1000) : ho_ (xs.set tp.length (nI n)) (tp ++ [n]) := by
  refine ⟨by rw [List.length_set]; exact h.1, fun i x hi => ?_⟩
  have hl2 := h.1
  rw [List.getElem?_append] at hi
  split at hi
  · rw [List.getElem?_set_ne (by omega)]; exact h.2 i x hi
  · cases ei : i - tp.length with
    | zero =>
      rw [ei] at hi
      cases hi
      rw [show i = tp.length by omega, List.getElem?_set_self (by omega)]
    | succ j => rw [ei] at hi; cases hi
section FD
variable {fx : List Value → mm_H → Option (List Value × mm_H)} {z : Nat} {E M : Nat → mm_C} {sw c2 w2 : Bool} {T : px_T} {D : px_D} {S : px_S} {S1 : px_S} {K : px_K} {R : px_R} {C : px_C} {W : px_W} {U : px_U} {q : px_q} {q1 : px_q} {B0 : px_K} {B1 : px_K} {B2 : px_K} {B3 : px_K} {T_signs : List Int32} {T_length : Int32} {T_fault : Int32} {T_types : List Int32} {T_starts : List Int32} {T_values : List Int64} {T_tokens : Int32} {T_at : Int32} {T_behind : Int32} {S_hour : Int32} {S_open : Int32} {S_places : List Int32} {S1_hour : Int32} {S1_open : Int32} {S1_places : List Int32} {K_lines : List Int32} {K_lineCount : Int32} {K_wishes : List Int32} {K_wishCount : Int32} {K_sights : List Int32} {K_sightCount : Int32} {R_shown : List Int32} {R_length : Int32} {R_readers : Int32} {R_begins : List Int32} {R_lengths : List Int32} {R_sentences : Int32} {R_order : List Int32} {R_able : Int32} {R_standing : List Int32} {R_lovers : List Int32} {R_lowest : List Int32} {C_ways : List Int32} {C_rows : List Int32} {C_shallower : List Int32} {C_length : Int32} {C_goal : Int32} {W_row : List Int32} {W_walkers : Int32} {W_names : Int32} {W_wanted : List Int32} {W_shown : List Int32} {W_places : List Int32} {W_rest : List Int32} {W_spent : List Int32} {W_tried : List Int32} {U_undoRows : List Int64} {U_markScenes : List Int64} {U_marksLaid : List Int32} {U_undoCount : Int32} {U_undoEnd : Int32} {q_sortNames : List Int64} {q_sortCount : Int32} {q_colourNames : List Int64} {q_colourSorts : List Int32} {q_colourCount : Int32} {q_ruleMakes : List Int32} {q_ruleFirsts : List Int32} {q_ruleSeconds : List Int32} {q_ruleCount : Int32} {q_saysSort : Int32} {q_walkerNames : List Int64} {q_kinds : List Int32} {q_walkerColours : List Int32} {q_starts : List Int32} {q_stepRows : List Int32} {q_stepCounts : List Int32} {q_walkerCount : Int32} {q_gusts : List Int32} {q_gustCount : Int32} {q_parts : List Int32} {q_count : Int32} {q_stack : List Int32} {q_height : Int32} {q1_sortNames : List Int64} {q1_sortCount : Int32} {q1_colourNames : List Int64} {q1_colourSorts : List Int32} {q1_colourCount : Int32} {q1_ruleMakes : List Int32} {q1_ruleFirsts : List Int32} {q1_ruleSeconds : List Int32} {q1_ruleCount : Int32} {q1_saysSort : Int32} {q1_walkerNames : List Int64} {q1_kinds : List Int32} {q1_walkerColours : List Int32} {q1_starts : List Int32} {q1_stepRows : List Int32} {q1_stepCounts : List Int32} {q1_walkerCount : Int32} {q1_gusts : List Int32} {q1_gustCount : Int32} {q1_parts : List Int32} {q1_count : Int32} {q1_stack : List Int32} {q1_height : Int32} {B0_lines : List Int32} {B0_lineCount : Int32} {B0_wishes : List Int32} {B0_wishCount : Int32} {B0_sights : List Int32} {B0_sightCount : Int32} {B1_lines : List Int32} {B1_lineCount : Int32} {B1_wishes : List Int32} {B1_wishCount : Int32} {B1_sights : List Int32} {B1_sightCount : Int32} {B2_lines : List Int32} {B2_lineCount : Int32} {B2_wishes : List Int32} {B2_wishCount : Int32} {B2_sights : List Int32} {B2_sightCount : Int32} {B3_lines : List Int32} {B3_lineCount : Int32} {B3_wishes : List Int32} {B3_wishCount : Int32} {B3_sights : List Int32} {B3_sightCount : Int32}
variable {d : Nat} {Q : Option Value → mm_H → Prop}
def TPl (T : px_T) : Prop := (T.1).length = 1000 ∧ (T.2.2.2.1).length = 1001 ∧ (T.2.2.2.2.1).length = 1001 ∧ (T.2.2.2.2.2.1).length = 1001
def TPx (tp : List Nat) (T : px_T) : Prop := TPl T ∧ ho_ T.1 tp ∧ T.2.1 = nI tp.length
theorem t_addBytes {w : Int64} {tp : List Nat} (ht : tp_ok tp) (hT : TPx tp T) (hq : ∀ T', TPx (fdk tp w 8) T' → Q none (px_h z E M (px_l sw c2 w2 (T') D S S1 K R C W U q q1 B0 B1 B2 B3))) : wm (mp_P fx) d 11 [.ref 60, .long w] (px_h z E M (px_l sw c2 w2 T D S S1 K R C W U q q1 B0 B1 B2 B3)) Q := by
  have key : ∀ (m k : Nat) (T' : px_T) (l4 l5 : Option Value), k + m = 8 → TPx (fdk tp w k) T' → mm_isL l4 = false → mm_isL l5 = false → ww (mp_P fx) d 11 3 [some (.ref 60), some (.long w), none, some (.int (shI k)), l4, l5] [] (px_h z E M (px_l sw c2 w2 (T') D S S1 K R C W U q q1 B0 B1 B2 B3)) Q := by
    intro m
    induction m with
    | zero =>
      intro k T' l4 l5 hk hT' i4 i5
      have hk2 : k = 8 := by omega
      subst hk2
      rw [q11_3]
      simp only [q11_4, q11_88]
      rw [if_pos shI_e]
      exact hq T' hT'
    | succ m ih =>
      intro k T' l4 l5 hk hT' i4 i5
      obtain ⟨s1, s2⟩ := shI_s k (by omega)
      obtain ⟨hTl, hho, hTn⟩ := id hT'
      have hok := fdk_ok (w := w) ht k
      have hgo := fun T2 l4 l5 => ih (k + 1) T2 l4 l5 (by omega)
      rw [fdk] at hgo
      generalize fdk tp w k = tq at *
      rw [q11_3]
      simp only [q11_4, q11_7, q11_8, q11_9, q11_10, q11_13, q11_14, q11_15i, q11_17, q11_19, q11_21, q11_24, q11_26, q11_28, q11_31, q11_33, q11_35, q11_38, q11_39, q11_42, q11_43i, isl_i, isl_r, isl_n, i4, i5]
      rw [if_neg s2]
      have hx : ((w.toUInt64 >>> ((shI k).toInt64.toUInt64 &&& Int64.toUInt64 63)).toInt64 &&& 255).toInt32 = bY w k := rfl
      rw [hx]
      generalize bY w k = x at *
      have hno : sgB x = false → ww (mp_P fx) d 11 45 [some (.ref 60), some (.long w), none, some (.int (shI k)), some (.int x), some (.int 0)] [] (px_h z E M (px_l sw c2 w2 (T') D S S1 K R C W U q q1 B0 B1 B2 B3)) Q := by
        intro e
        simp only [q11_45, q11_47, q11_82n, q11_85, isl_i, isl_r, isl_n]
        rw [if_pos (by decide), s1]
        refine hgo T' _ _ ?_ rfl rfl
        unfold fd1; rw [if_neg (fun z => by rw [e] at z; cases z.1)]; exact hT'
      have hyes : sgB x = true → ww (mp_P fx) d 11 45 [some (.ref 60), some (.long w), none, some (.int (shI k)), some (.int x), some (.int 1)] [] (px_h z E M (px_l sw c2 w2 (T') D S S1 K R C W U q q1 B0 B1 B2 B3)) Q := by
        intro e
        obtain ⟨n, hn, rfl⟩ := sgI_n (sgB_t.mp e)
        have hn2 := sg_lt hn
        simp only [q11_45, q11_47, q11_50, q11_51, q11_54, q11_57, q11_60, q11_61, q11_64, q11_65, q11_68, q11_70, q11_71, q11_72, q11_73, q11_82n, q11_85, xc_T, xg_T_0, xg_T_1, xs_T_1, xg_T_2, xs_T_2, xg_T_3, xg_T_4, xg_T_5, xg_T_6, xs_T_6, xg_T_7, xs_T_7, xg_T_8, xs_T_8, xa_T_signs, xb_T_signs, xn_T_signs, xa_T_types, xb_T_types, xn_T_types, xa_T_starts, xb_T_starts, xn_T_starts, xa_T_values, xb_T_values, xn_T_values, wx_some, wx_ref, isl_i, isl_r, isl_n]
        rw [if_neg (by decide)]
        have hl := hok.1
        have hsl := hTl.1
        by_cases e2 : tq.length < 1000
        · rw [if_neg (by rw [hTn, show (1000 : Int32) = nI 1000 from rfl, nI_leI (by omega) (by omega)]; omega), hTn, chI n hn2, aS_n (by omega) (by omega), wx_some]
          simp only [q11_74, q11_77, q11_78, q11_79, q11_82n, q11_85, xc_T, xg_T_0, xg_T_1, xs_T_1, xg_T_2, xs_T_2, xg_T_3, xg_T_4, xg_T_5, xg_T_6, xs_T_6, xg_T_7, xs_T_7, xg_T_8, xs_T_8, xa_T_signs, xb_T_signs, xn_T_signs, xa_T_types, xb_T_types, xn_T_types, xa_T_starts, xb_T_starts, xn_T_starts, xa_T_values, xb_T_values, xn_T_values, wx_some, wx_ref, isl_i, isl_r, isl_n, s1, nI_1]
          refine hgo _ _ _ ?_ rfl rfl
          unfold fd1; rw [if_pos ⟨e, e2⟩, nI_clamp (by omega)]
          exact ⟨⟨by show (List.set _ _ _).length = 1000; rw [List.length_set]; exact hsl, hTl.2⟩, ho_add hho e2, by rw [List.length_append]; rfl⟩
        · rw [if_pos (by rw [hTn, show (1000 : Int32) = nI 1000 from rfl, nI_leI (by omega) (by omega)]; omega), s1]
          refine hgo T' _ _ ?_ rfl rfl
          unfold fd1; rw [if_neg (fun z => e2 z.2)]; exact hT'
      by_cases e1 : x = 10
      · rw [if_pos e1]
        exact hyes (sgB_t.mpr (Or.inl e1))
      · rw [if_neg e1]
        by_cases e2 : x < 32
        · rw [if_pos e2]
          exact hno (Bool.eq_false_iff.mpr (fun z => by
            rcases sgB_t.mp z with h | h
            · exact e1 h
            · exact Int32.not_le.mpr e2 h.1))
        · rw [if_neg e2]
          by_cases e3 : 126 < x
          · rw [if_pos e3]
            exact hno (Bool.eq_false_iff.mpr (fun z => by
              rcases sgB_t.mp z with h | h
              · exact e1 h
              · exact Int32.not_le.mpr e3 h.2))
          · rw [if_neg e3]
            exact hyes (sgB_t.mpr (Or.inr ⟨Int32.not_lt.mp e2, Int32.not_lt.mp e3⟩))
  simp only [e11, q11_0, q11_2n, isl_i, isl_r, isl_n]
  exact key 8 0 T none none (by omega) hT rfl rfl
theorem t_feed {a b c : Int64} {tp : List Nat} (ht : tp_ok tp) (hT : TPx tp T) (hq : ∀ T', TPx (sp_feed tp a b c) T' → Q (some (.int (nI (sp_feed tp a b c).length))) (px_h z E M (px_l sw c2 w2 (T') D S S1 K R C W U q q1 B0 B1 B2 B3))) : wm (mp_P fx) (d + 1) 10 [.ref 59, .long a, .long b, .long c] (px_h z E M (px_l sw c2 w2 T D S S1 K R C W U q q1 B0 B1 B2 B3)) Q := by
  simp only [e10, q10_0, q10_1, q10_4, q10_5, xc_x, xg_x_0, xg_x_1, xg_x_2, xg_x_3, xg_x_4, xg_x_5, xg_x_6, xg_x_7, xg_x_8, xg_x_9, xg_x_10, xg_x_11, xg_x_12, xg_x_13, xg_x_14, xs_x_14, xg_x_15, xs_x_15, xc_T, xg_T_0, xg_T_1, xs_T_1, xg_T_2, xs_T_2, xg_T_3, xg_T_4, xg_T_5, xg_T_6, xs_T_6, xg_T_7, xs_T_7, xg_T_8, xs_T_8, xa_T_signs, xb_T_signs, xn_T_signs, xa_T_types, xb_T_types, xn_T_types, xa_T_starts, xb_T_starts, xn_T_starts, xa_T_values, xb_T_values, xn_T_values, wx_some, wx_ref]
  apply t_addBytes ht hT
  intro T1 h1
  simp only [sl_n, q10_8, q10_9, q10_12, q10_13, xc_x, xg_x_0, xg_x_1, xg_x_2, xg_x_3, xg_x_4, xg_x_5, xg_x_6, xg_x_7, xg_x_8, xg_x_9, xg_x_10, xg_x_11, xg_x_12, xg_x_13, xg_x_14, xs_x_14, xg_x_15, xs_x_15, xc_T, xg_T_0, xg_T_1, xs_T_1, xg_T_2, xs_T_2, xg_T_3, xg_T_4, xg_T_5, xg_T_6, xs_T_6, xg_T_7, xs_T_7, xg_T_8, xs_T_8, xa_T_signs, xb_T_signs, xn_T_signs, xa_T_types, xb_T_types, xn_T_types, xa_T_starts, xb_T_starts, xn_T_starts, xa_T_values, xb_T_values, xn_T_values, wx_some, wx_ref]
  apply t_addBytes (fdk_ok ht 8) h1
  intro T2 h2
  simp only [sl_n, q10_16, q10_17, q10_20, q10_22, xc_x, xg_x_0, xg_x_1, xg_x_2, xg_x_3, xg_x_4, xg_x_5, xg_x_6, xg_x_7, xg_x_8, xg_x_9, xg_x_10, xg_x_11, xg_x_12, xg_x_13, xg_x_14, xs_x_14, xg_x_15, xs_x_15, xc_T, xg_T_0, xg_T_1, xs_T_1, xg_T_2, xs_T_2, xg_T_3, xg_T_4, xg_T_5, xg_T_6, xs_T_6, xg_T_7, xs_T_7, xg_T_8, xs_T_8, xa_T_signs, xb_T_signs, xn_T_signs, xa_T_types, xb_T_types, xn_T_types, xa_T_starts, xb_T_starts, xn_T_starts, xa_T_values, xb_T_values, xn_T_values, wx_some, wx_ref]
  apply t_addBytes (fdk_ok (fdk_ok ht 8) 8) h2
  intro T3 h3
  have hl := h3.2.2
  simp only [sl_n, q10_25, q10_26, q10_29, q10_32, xc_x, xg_x_0, xg_x_1, xg_x_2, xg_x_3, xg_x_4, xg_x_5, xg_x_6, xg_x_7, xg_x_8, xg_x_9, xg_x_10, xg_x_11, xg_x_12, xg_x_13, xg_x_14, xs_x_14, xg_x_15, xs_x_15, xc_T, xg_T_0, xg_T_1, xs_T_1, xg_T_2, xs_T_2, xg_T_3, xg_T_4, xg_T_5, xg_T_6, xs_T_6, xg_T_7, xs_T_7, xg_T_8, xs_T_8, xa_T_signs, xb_T_signs, xn_T_signs, xa_T_types, xb_T_types, xn_T_types, xa_T_starts, xb_T_starts, xn_T_starts, xa_T_values, xb_T_values, xn_T_values, wx_some, wx_ref, hl]
  exact hq T3 h3
end FD
section MF
variable {fx : List Value → mm_H → Option (List Value × mm_H)} {z : Nat} {X Y : Nat → mm_C} {mV : pm_V} {mT : pm_T} {mQ : pm_Q} {mO : pm_O} {mE : pm_E} {mB : pm_B} {mS : pm_S} {mR : pm_R} {mW : pm_W} {m_thrown : Int32} {m_given : Int32} {m_fresh : Int64} {m_code : Int32} {m_taped : Int32} {m_tape : List Int32} {m_size : Int32} {m_place : Int32} {m_begin : Int32} {m_token : Int32} {m_word : Int64} {m_told : Int32} {m_wrong : Int32} {m_square : List Int32} {m_sortName : List Int64} {m_colourName : List Int64} {m_walkerName : List Int64} {m_sortOf : List Int32} {m_rules : List Int32} {m_kind : List Int32} {m_colour : List Int32} {m_atTold : List Int32} {m_goesMany : List Int32} {m_goes : List Int32} {m_gusts : List Int32} {m_lineFrom : List Int32} {m_lineTo : List Int32} {m_codes : List Int32} {m_opened : List Int32} {m_compared : List Int32} {m_kept : List Int32} {m_keptBy : List Int32} {m_ahead : List Int32} {m_against : List Int32} {m_sum : List Int32} {m_sumBy : List Int32} {m_term : List Int32} {m_termBy : List Int32} {m_byNot : List Int32} {m_valueOf : List Int32} {m_lines : List Int32} {m_lineWhat : List Int32} {m_lineA : List Int32} {m_lineB : List Int32} {m_wishes : List Int32} {m_wishOf : List Int32} {m_seens : List Int32} {m_seenAt : List Int32} {m_seenIn : List Int32} {m_seenThere : List Int32} {m_s : List Int32} {m_aside : List Int32} {m_before : List Int32} {m_marked : List Int32} {m_undone : List Int32} {m_isLaid : List Int32} {m_done : Int32} {m_gustNow : Int32} {m_shown : List Int32} {m_shownMany : Int32} {m_from7 : List Int32} {m_long7 : List Int32} {m_sentences : Int32} {m_text7 : List Int32} {m_textMany : Int32} {m_waysOf : List Int32} {m_rowOf : List Int32} {m_row : List Int32} {m_bestRow : List Int32} {m_leastSteps : Int32} {m_steps10 : List Int32} {m_placeIn : List Int32} {m_g : Int64}
variable {d : Nat} {Q : Option Value → mm_H → Prop}
def TPm (tp : List Nat) (mT : pm_T) : Prop := ho_ mT.2.1 tp ∧ mT.1 = nI tp.length
def fdw (a b c : Int64) (k : Nat) : Int64 := if k < 8 then a else if k < 16 then b else c
def fdm (tp : List Nat) (a b c : Int64) : Nat → List Nat
  | 0 => tp
  | k + 1 => fd1 (fdm tp a b c k) (bY (fdw a b c k) (k % 8)) (sgB (bY (fdw a b c k) (k % 8)))
theorem fdm_24 (tp : List Nat) (a b c : Int64) : fdm tp a b c 24 = sp_feed tp a b c := rfl
theorem fdm_ok {tp : List Nat} {a b c : Int64} (h : tp_ok tp) : ∀ k, tp_ok (fdm tp a b c k) := by
  intro k
  induction k with
  | zero => exact h
  | succ k ih => exact fd1_ok ih
theorem tm_feed {a b c : Int64} {tp : List Nat} (ht : tp_ok tp) (hT : TPm tp mT) (hq : ∀ mT', TPm (sp_feed tp a b c) mT' → Q (some (.int (nI (sp_feed tp a b c).length))) (pm_h z X Y (pm_l ((0, mV.2.1, mV.2.2.1, mV.2.2.2)) (mT') mQ mO mE mB mS mR mW))) : wm (mp_P fx) d 218 [.ref 149, .long a, .long b, .long c] (pm_h z X Y (pm_l mV mT mQ mO mE mB mS mR mW)) Q := by
  have key : ∀ (m k : Nat) (mT' : pm_T) (l8 l10 : Option Value), k + m = 24 → TPm (fdm tp a b c k) mT' → (l8 = none ∨ ∃ w, l8 = some (.long w)) → mm_isL l10 = false → ww (mp_P fx) d 218 8 [some (.ref 149), some (.long a), none, some (.long b), none, some (.long c), none, some (.int (nI k)), l8, none, l10] [] (pm_h z X Y (pm_l ((0, mV.2.1, mV.2.2.1, mV.2.2.2)) (mT') mQ mO mE mB mS mR mW)) Q := by
    intro m
    induction m with
    | zero =>
      intro k mT' l8 l10 hk hT' i8 i10
      have hk2 : k = 24 := by omega
      subst hk2
      rw [fdm_24] at hT'
      rw [q218_8]
      simp only [q218_10, q218_12, q218_120, q218_121, q218_124, mc_o, mg_taped, mf_taped, wx_some, wx_ref, hT'.2]
      rw [if_pos (by decide)]
      exact hq mT' hT'
    | succ m ih =>
      intro k mT' l8 l10 hk hT' i8 i10
      have hs := shI_m k (by omega)
      obtain ⟨hho, hTn⟩ := id hT'
      have hok := fdm_ok (a := a) (b := b) (c := c) ht k
      have hgo := fun T2 l8 l10 => ih (k + 1) T2 l8 l10 (by omega)
      rw [fdm] at hgo
      generalize fdm tp a b c k = tq at *
      have hmid : ww (mp_P fx) d 218 39 [some (.ref 149), some (.long a), none, some (.long b), none, some (.long c), none, some (.int (nI k)), l8, none, l10] [.long (fdw a b c k)] (pm_h z X Y (pm_l ((0, mV.2.1, mV.2.2.1, mV.2.2.2)) (mT') mQ mO mE mB mS mR mW)) Q := by
        have hst : ww (mp_P fx) d 218 41 [some (.ref 149), some (.long a), none, some (.long b), none, some (.long c), none, some (.int (nI k)), some (.long (fdw a b c k)), none, l10] [] (pm_h z X Y (pm_l ((0, mV.2.1, mV.2.2.1, mV.2.2.2)) (mT') mQ mO mE mB mS mR mW)) Q := by
          generalize fdw a b c k = w at *
          simp only [q218_41, q218_43, q218_45, q218_47, q218_49, q218_51, q218_52, q218_53, q218_54, q218_55, q218_58, q218_59, q218_60n, q218_62, q218_63, q218_66, q218_69, q218_72, q218_74, q218_76, q218_79, q218_81, q218_83, q218_86, q218_88, q218_90, mc_o, mg_taped, mf_taped, wx_some, wx_ref, isl_i, isl_r, isl_n, i10, hs]
          have hx : ((w.toUInt64 >>> ((shI (k % 8)).toInt64.toUInt64 &&& Int64.toUInt64 63)).toInt64 &&& 255).toInt32 = bY w (k % 8) := rfl
          rw [hx]
          generalize bY w (k % 8) = x at *
          have hl := hok.1
          have hsl := hho.1
          have hno : (sgB x = false ∨ ¬ tq.length < 1000) → ww (mp_P fx) d 218 114 [some (.ref 149), some (.long a), none, some (.long b), none, some (.long c), none, some (.int (nI k)), some (.long w), none, some (.int x)] [] (pm_h z X Y (pm_l ((0, mV.2.1, mV.2.2.1, mV.2.2.2)) (mT') mQ mO mE mB mS mR mW)) Q := by
            intro e
            simp only [q218_114n, q218_117, isl_i, isl_r, isl_n, nI_1]
            refine hgo mT' _ _ ?_ (Or.inr ⟨w, rfl⟩) rfl
            unfold fd1; rw [if_neg (fun z => by
              rcases e with e | e
              · rw [e] at z; cases z.1
              · exact e z.2)]; exact hT'
          by_cases e0 : tq.length < 1000
          · rw [if_neg (by rw [hTn, show (1000 : Int32) = nI 1000 from rfl, nI_leI (by omega) (by omega)]; omega)]
            have hyes : sgB x = true → ww (mp_P fx) d 218 93 [some (.ref 149), some (.long a), none, some (.long b), none, some (.long c), none, some (.int (nI k)), some (.long w), none, some (.int x)] [] (pm_h z X Y (pm_l ((0, mV.2.1, mV.2.2.1, mV.2.2.2)) (mT') mQ mO mE mB mS mR mW)) Q := by
              intro e
              obtain ⟨n, hn, rfl⟩ := sgI_n (sgB_t.mp e)
              have hn2 := sg_lt hn
              simp only [q218_93, q218_94, q218_97, q218_98, q218_101, q218_103, q218_104, q218_105, mc_o, mg_taped, mf_taped, mg_tape, ma_tape, mb_tape, mn_tape, wx_some, wx_ref, isl_i, isl_r, isl_n]
              rw [hTn, aS_n (by omega) (by omega), wx_some]
              simp only [q218_106, q218_109, q218_110, q218_111, q218_114n, q218_117, mc_o, mg_taped, mf_taped, mg_tape, ma_tape, mb_tape, mn_tape, wx_some, wx_ref, isl_i, isl_r, isl_n, nI_1]
              refine hgo _ _ _ ?_ (Or.inr ⟨w, rfl⟩) rfl
              unfold fd1; rw [if_pos ⟨e, e0⟩, nI_clamp (by omega)]
              exact ⟨ho_add hho e0, by rw [List.length_append]; rfl⟩
            by_cases e1 : x = 10
            · rw [if_pos e1]
              exact hyes (sgB_t.mpr (Or.inl e1))
            · rw [if_neg e1]
              by_cases e2 : x < 32
              · rw [if_pos e2]
                exact hno (Or.inl (Bool.eq_false_iff.mpr (fun z => by
                  rcases sgB_t.mp z with h | h
                  · exact e1 h
                  · exact Int32.not_le.mpr e2 h.1)))
              · rw [if_neg e2]
                by_cases e3 : 126 < x
                · rw [if_pos e3]
                  exact hno (Or.inl (Bool.eq_false_iff.mpr (fun z => by
                    rcases sgB_t.mp z with h | h
                    · exact e1 h
                    · exact Int32.not_le.mpr e3 h.2)))
                · rw [if_neg e3]
                  exact hyes (sgB_t.mpr (Or.inr ⟨Int32.not_lt.mp e2, Int32.not_lt.mp e3⟩))
          · rw [if_pos (by rw [hTn, show (1000 : Int32) = nI 1000 from rfl, nI_leI (by omega) (by omega)]; omega)]
            exact hno (Or.inr e0)
        rcases i8 with rfl | ⟨w8, rfl⟩
        · simp only [q218_39i, isl_i, isl_r, isl_n]
          exact hst
        · simp only [q218_39i, isl_i, isl_r, isl_n]
          exact hst
      unfold fdw at hmid
      rw [q218_8]
      simp only [q218_10, q218_12, q218_15, q218_17, q218_19, q218_22, q218_23, q218_26, q218_28, q218_30, q218_33, q218_34, q218_37]
      rw [if_neg (by rw [show (24 : Int32) = nI 24 from rfl, nI_leI (by omega) (by omega)]; omega)]
      by_cases e1 : k < 8
      · rw [if_pos e1] at hmid
        rw [if_neg (by rw [nl_8, nI_leI (by omega) (by omega)]; omega)]
        exact hmid
      · rw [if_neg e1] at hmid
        rw [if_pos (by rw [nl_8, nI_leI (by omega) (by omega)]; omega)]
        by_cases e2 : k < 16
        · rw [if_pos e2] at hmid
          rw [if_neg (by rw [show (16 : Int32) = nI 16 from rfl, nI_leI (by omega) (by omega)]; omega)]
          exact hmid
        · rw [if_neg e2] at hmid
          rw [if_pos (by rw [show (16 : Int32) = nI 16 from rfl, nI_leI (by omega) (by omega)]; omega)]
          exact hmid
  simp only [e218, q218_0, q218_1, q218_2, q218_5, q218_6n, mc_o, mg_thrown, mf_thrown, wx_some, wx_ref, isl_i, isl_r, isl_n]
  exact key 24 0 mT none none (by omega) hT (Or.inl rfl) rfl
end MF
