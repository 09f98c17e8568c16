/-! names -/
def wfl (l : List Nat) : Prop := l.length ≤ 8 ∧ ∀ x ∈ l, 1 ≤ x ∧ x ≤ 26
def fnd (nm : NMs) (c n : Nat) (l : List Nat) : Option Nat := ffl (fun i => decide (nm c i = l)) n
def nmok (nm : NMs) (s : SQ) : Prop := (∀ i, i < k_nS s → wfl (nm 0 i)) ∧ (∀ i, i < k_nC s → wfl (nm 1 i)) ∧ (∀ i, i < k_nW s → wfl (nm 2 i))
def nmB (tp : List Nat) (i : Nat) : Bool := decide (TY tp i = 1) && !kept (LT tp i)
def wdB (tp : List Nat) (i n : Nat) : Bool := decide (TY tp i = 1) && decide (LT tp i = kw n)
def snB (tp : List Nat) (i c : Nat) : Bool := decide (TY tp i = 3) && decide (SG tp i = c)
theorem nmB_t {tp : List Nat} {i : Nat} : nmB tp i = true ↔ isNm tp i := by unfold nmB isNm; rw [Bool.and_eq_true, decide_eq_true_eq, Bool.not_eq_true']
theorem wdB_t {tp : List Nat} {i n : Nat} : wdB tp i n = true ↔ isWd tp i n := by unfold wdB isWd; rw [Bool.and_eq_true, decide_eq_true_eq, decide_eq_true_eq]
theorem snB_t {tp : List Nat} {i n : Nat} : snB tp i n = true ↔ isSg tp i n := by unfold snB isSg; rw [Bool.and_eq_true, decide_eq_true_eq, decide_eq_true_eq]
theorem isNm_wf {tp : List Nat} {i : Nat} (h : isNm tp i) : wfl (LT tp i) := LT_ok h.1
def tldB (nm : NMs) (s : SQ) (l : List Nat) : Bool := (fnd nm 0 (k_nS s) l).isSome || ((fnd nm 1 (k_nC s) l).isSome || (fnd nm 2 (k_nW s) l).isSome)
def c_new (tp : List Nat) (nm : NMs) (s : SQ) (i : Nat) : Nat := if nmB tp i = true then (if tldB nm s (LT tp i) = true then flt tp 3 i else 0) else flt tp 1 i
def c_named (tp : List Nat) (nm : NMs) (c n i : Nat) : Nat × Nat := if nmB tp i = true then (match fnd nm c n (LT tp i) with
  | none => (flt tp 2 i, 0)
  | some v => (0, v)) else (flt tp 1 i, 0)
theorem flt_ne {tp : List Nat} {k i : Nat} (h : 1 ≤ k) : ¬ flt tp k i = 0 := by unfold flt; omega
theorem fnd_lt {nm : NMs} {c n v : Nat} {l : List Nat} (h : fnd nm c n l = some v) : v < n := ffl_lt _ _ h
theorem io_some_ne {v : Nat} (hv : v < 2 ^ 31) : ¬ io (some v) = -1 := fun z => by have := (io_m1 (o := some v) (fun u hu => by cases hu; exact hv)).mp z; cases this
section NX
variable {fx : List Value → mm_H → Option (List Value × mm_H)} {z : Nat} {E M : Nat → mm_C} {sw c2 w2 : Bool} {T : px_T} {D : px_D} {S : px_S} {S1 : px_S} {K : px_K} {R : px_R} {C : px_C} {W : px_W} {U : px_U} {q : px_q} {q1 : px_q} {B0 : px_K} {B1 : px_K} {B2 : px_K} {B3 : px_K} {T_signs : List Int32} {T_length : Int32} {T_fault : Int32} {T_types : List Int32} {T_starts : List Int32} {T_values : List Int64} {T_tokens : Int32} {T_at : Int32} {T_behind : Int32} {S_hour : Int32} {S_open : Int32} {S_places : List Int32} {S1_hour : Int32} {S1_open : Int32} {S1_places : List Int32} {K_lines : List Int32} {K_lineCount : Int32} {K_wishes : List Int32} {K_wishCount : Int32} {K_sights : List Int32} {K_sightCount : Int32} {R_shown : List Int32} {R_length : Int32} {R_readers : Int32} {R_begins : List Int32} {R_lengths : List Int32} {R_sentences : Int32} {R_order : List Int32} {R_able : Int32} {R_standing : List Int32} {R_lovers : List Int32} {R_lowest : List Int32} {C_ways : List Int32} {C_rows : List Int32} {C_shallower : List Int32} {C_length : Int32} {C_goal : Int32} {W_row : List Int32} {W_walkers : Int32} {W_names : Int32} {W_wanted : List Int32} {W_shown : List Int32} {W_places : List Int32} {W_rest : List Int32} {W_spent : List Int32} {W_tried : List Int32} {U_undoRows : List Int64} {U_markScenes : List Int64} {U_marksLaid : List Int32} {U_undoCount : Int32} {U_undoEnd : Int32} {q_sortNames : List Int64} {q_sortCount : Int32} {q_colourNames : List Int64} {q_colourSorts : List Int32} {q_colourCount : Int32} {q_ruleMakes : List Int32} {q_ruleFirsts : List Int32} {q_ruleSeconds : List Int32} {q_ruleCount : Int32} {q_saysSort : Int32} {q_walkerNames : List Int64} {q_kinds : List Int32} {q_walkerColours : List Int32} {q_starts : List Int32} {q_stepRows : List Int32} {q_stepCounts : List Int32} {q_walkerCount : Int32} {q_gusts : List Int32} {q_gustCount : Int32} {q_parts : List Int32} {q_count : Int32} {q_stack : List Int32} {q_height : Int32} {q1_sortNames : List Int64} {q1_sortCount : Int32} {q1_colourNames : List Int64} {q1_colourSorts : List Int32} {q1_colourCount : Int32} {q1_ruleMakes : List Int32} {q1_ruleFirsts : List Int32} {q1_ruleSeconds : List Int32} {q1_ruleCount : Int32} {q1_saysSort : Int32} {q1_walkerNames : List Int64} {q1_kinds : List Int32} {q1_walkerColours : List Int32} {q1_starts : List Int32} {q1_stepRows : List Int32} {q1_stepCounts : List Int32} {q1_walkerCount : Int32} {q1_gusts : List Int32} {q1_gustCount : Int32} {q1_parts : List Int32} {q1_count : Int32} {q1_stack : List Int32} {q1_height : Int32} {B0_lines : List Int32} {B0_lineCount : Int32} {B0_wishes : List Int32} {B0_wishCount : Int32} {B0_sights : List Int32} {B0_sightCount : Int32} {B1_lines : List Int32} {B1_lineCount : Int32} {B1_wishes : List Int32} {B1_wishCount : Int32} {B1_sights : List Int32} {B1_sightCount : Int32} {B2_lines : List Int32} {B2_lineCount : Int32} {B2_wishes : List Int32} {B2_wishCount : Int32} {B2_sights : List Int32} {B2_sightCount : Int32} {B3_lines : List Int32} {B3_lineCount : Int32} {B3_wishes : List Int32} {B3_wishCount : Int32} {B3_sights : List Int32} {B3_sightCount : Int32}
variable {d : Nat} {Q : Option Value → mm_H → Prop} {tp : List Nat} {n k : Nat} {nm : NMs} {s : SQ}
theorem t_placeOf {h : mm_H} {a m : Nat} {xs : List Int64} {f : Nat → List Nat} {l : List Nat} (hg : ∀ i, mm_gL h a i = aG xs i) (hn : mm_gN h a = some (nI xs.length)) (hx : ∀ i, i < m → xs[i]? = some (w_x (f i))) (hm : m ≤ xs.length) (hxl : xs.length < 2 ^ 20) (hl : wfl l) (hf : ∀ i, i < m → wfl (f i)) (hq : Q (some (.int (io (ffl (fun i => decide (f i = l)) m)))) h) : wm (mp_P fx) d 61 [.long (w_x l), .ref a, .int (nI m)] h Q := by
  have key : ∀ (r i : Nat), i + r = m → (∀ j, j < i → ¬ f j = l) → ww (mp_P fx) d 61 3 [some (.long (w_x l)), none, some (.ref a), some (.int (nI m)), some (.int (nI i))] [] h Q := by
    intro r
    induction r with
    | zero =>
      intro i hi hno
      rw [q61_3]
      simp only [q61_5, q61_6, q61_34, q61_35]
      rw [if_pos (by rw [nI_leI (by omega) (by omega)]; omega)]
      rw [ffl_none _ (fun j hj => decide_eq_false (hno j (by omega)))] at hq
      exact hq
    | succ r ih =>
      intro i hi hno
      rw [q61_3]
      simp only [q61_5, q61_6, q61_9, q61_11, q61_12, q61_13, q61_16, q61_17, q61_19, q61_20, q61_21, q61_22, q61_25, q61_27, q61_28i, q61_31, hn, hg, aG_n (hx i (by omega)) (show xs.length < 2 ^ 31 by omega), wx_some, isl_i, isl_r, isl_n, nI_1]
      rw [if_neg (by rw [nI_leI (by omega) (by omega)]; omega), if_neg (by rw [nI_leI (by omega) (by omega)]; omega)]
      have hfi := hf i (by omega)
      by_cases e : f i = l
      · rw [if_neg (fun z => z ((lg_cmp_eq _ _).mpr (by rw [e])))]
        rw [ffl_at (fun j hj => decide_eq_false (hno j hj)) (decide_eq_true e) m (by omega)] at hq
        exact hq
      · rw [if_pos (fun z => e ((w_x_inj hfi.2 hl.2 hfi.1 hl.1).mp ((lg_cmp_eq _ _).mp z)))]
        exact ih (i + 1) (by omega) (fun j hj => by
          by_cases ej : j = i
          · subst ej; exact e
          · exact hno j (by omega))
  simp only [e61, q61_0, q61_1i, isl_i, isl_r, isl_n]
  exact key m 0 (by omega) (fun j hj => by omega)
theorem t_sortNamedq {l : List Nat} (hs : SQx q s) (ho : k_ok s) (hN : NMx nm s q) (hw : nmok nm s) (hl : wfl l) (hq : Q (some (.int (io (fnd nm 0 (k_nS s) l)))) (px_h z E M (px_l sw c2 w2 T D S S1 K R C W U q q1 B0 B1 B2 B3))) : wm (mp_P fx) (d + 1) 60 [.ref (px_ta sw), .long (w_x l)] (px_h z E M (px_l sw c2 w2 T D S S1 K R C W U q q1 B0 B1 B2 B3)) Q := by
  have h6 := ho.1.1
  have hll := hs.1.1
  simp only [e60, q60_0, q60_1, q60_2, q60_5, q60_6, q60_9, q60_12, xc_q, xg_q_0, xg_q_1, xs_q_1, xg_q_2, xg_q_3, xg_q_4, xs_q_4, xg_q_5, xg_q_6, xg_q_7, xg_q_8, xs_q_8, xg_q_9, xs_q_9, xg_q_10, xg_q_11, xg_q_12, xg_q_13, xg_q_14, xg_q_15, xg_q_16, xs_q_16, xg_q_17, xg_q_18, xs_q_18, xg_q_19, xa_q_sortNames, xb_q_sortNames, xn_q_sortNames, xa_q_colourNames, xb_q_colourNames, xn_q_colourNames, xa_q_colourSorts, xb_q_colourSorts, xn_q_colourSorts, xa_q_ruleMakes, xb_q_ruleMakes, xn_q_ruleMakes, xa_q_ruleFirsts, xb_q_ruleFirsts, xn_q_ruleFirsts, xa_q_ruleSeconds, xb_q_ruleSeconds, xn_q_ruleSeconds, xa_q_walkerNames, xb_q_walkerNames, xn_q_walkerNames, xa_q_kinds, xb_q_kinds, xn_q_kinds, xa_q_walkerColours, xb_q_walkerColours, xn_q_walkerColours, xa_q_starts, xb_q_starts, xn_q_starts, xa_q_stepRows, xb_q_stepRows, xn_q_stepRows, xa_q_stepCounts, xb_q_stepCounts, xn_q_stepCounts, xa_q_gusts, xb_q_gusts, xn_q_gusts, xc_ql, xg_ql_0, xg_ql_1, xs_ql_1, xg_ql_2, xg_ql_3, xs_ql_3, xa_q_parts, xb_q_parts, xn_q_parts, xa_q_stack, xb_q_stack, xn_q_stack, wx_some, wx_ref, hs.2.1.1]
  apply t_placeOf (f := nm 0) (xs := q.1) (fun i => xa_q_sortNames) xn_q_sortNames hN.1 (by omega) (by omega) hl hw.1
  simp only [sl_i, e60, q60_0, q60_1, q60_2, q60_5, q60_6, q60_9, q60_12]
  exact hq
theorem t_colourNamedq {l : List Nat} (hs : SQx q s) (ho : k_ok s) (hN : NMx nm s q) (hw : nmok nm s) (hl : wfl l) (hq : Q (some (.int (io (fnd nm 1 (k_nC s) l)))) (px_h z E M (px_l sw c2 w2 T D S S1 K R C W U q q1 B0 B1 B2 B3))) : wm (mp_P fx) (d + 1) 62 [.ref (px_ta sw), .long (w_x l)] (px_h z E M (px_l sw c2 w2 T D S S1 K R C W U q q1 B0 B1 B2 B3)) Q := by
  have h6 := ho.1.2.1
  have hll := hs.1.2.1
  simp only [e62, q62_0, q62_1, q62_2, q62_5, q62_6, q62_9, q62_12, xc_q, xg_q_0, xg_q_1, xs_q_1, xg_q_2, xg_q_3, xg_q_4, xs_q_4, xg_q_5, xg_q_6, xg_q_7, xg_q_8, xs_q_8, xg_q_9, xs_q_9, xg_q_10, xg_q_11, xg_q_12, xg_q_13, xg_q_14, xg_q_15, xg_q_16, xs_q_16, xg_q_17, xg_q_18, xs_q_18, xg_q_19, xa_q_sortNames, xb_q_sortNames, xn_q_sortNames, xa_q_colourNames, xb_q_colourNames, xn_q_colourNames, xa_q_colourSorts, xb_q_colourSorts, xn_q_colourSorts, xa_q_ruleMakes, xb_q_ruleMakes, xn_q_ruleMakes, xa_q_ruleFirsts, xb_q_ruleFirsts, xn_q_ruleFirsts, xa_q_ruleSeconds, xb_q_ruleSeconds, xn_q_ruleSeconds, xa_q_walkerNames, xb_q_walkerNames, xn_q_walkerNames, xa_q_kinds, xb_q_kinds, xn_q_kinds, xa_q_walkerColours, xb_q_walkerColours, xn_q_walkerColours, xa_q_starts, xb_q_starts, xn_q_starts, xa_q_stepRows, xb_q_stepRows, xn_q_stepRows, xa_q_stepCounts, xb_q_stepCounts, xn_q_stepCounts, xa_q_gusts, xb_q_gusts, xn_q_gusts, xc_ql, xg_ql_0, xg_ql_1, xs_ql_1, xg_ql_2, xg_ql_3, xs_ql_3, xa_q_parts, xb_q_parts, xn_q_parts, xa_q_stack, xb_q_stack, xn_q_stack, wx_some, wx_ref, hs.2.1.2.1]
  apply t_placeOf (f := nm 1) (xs := q.2.2.1) (fun i => xa_q_colourNames) xn_q_colourNames hN.2.1 (by omega) (by omega) hl hw.2.1
  simp only [sl_i, e62, q62_0, q62_1, q62_2, q62_5, q62_6, q62_9, q62_12]
  exact hq
theorem t_walkerNamedq {l : List Nat} (hs : SQx q s) (ho : k_ok s) (hN : NMx nm s q) (hw : nmok nm s) (hl : wfl l) (hq : Q (some (.int (io (fnd nm 2 (k_nW s) l)))) (px_h z E M (px_l sw c2 w2 T D S S1 K R C W U q q1 B0 B1 B2 B3))) : wm (mp_P fx) (d + 1) 63 [.ref (px_ta sw), .long (w_x l)] (px_h z E M (px_l sw c2 w2 T D S S1 K R C W U q q1 B0 B1 B2 B3)) Q := by
  have h6 := ho.1.2.2.2.1
  have hll := hs.1.2.2.2.2.2.2.1
  simp only [e63, q63_0, q63_1, q63_2, q63_5, q63_6, q63_9, q63_12, xc_q, xg_q_0, xg_q_1, xs_q_1, xg_q_2, xg_q_3, xg_q_4, xs_q_4, xg_q_5, xg_q_6, xg_q_7, xg_q_8, xs_q_8, xg_q_9, xs_q_9, xg_q_10, xg_q_11, xg_q_12, xg_q_13, xg_q_14, xg_q_15, xg_q_16, xs_q_16, xg_q_17, xg_q_18, xs_q_18, xg_q_19, xa_q_sortNames, xb_q_sortNames, xn_q_sortNames, xa_q_colourNames, xb_q_colourNames, xn_q_colourNames, xa_q_colourSorts, xb_q_colourSorts, xn_q_colourSorts, xa_q_ruleMakes, xb_q_ruleMakes, xn_q_ruleMakes, xa_q_ruleFirsts, xb_q_ruleFirsts, xn_q_ruleFirsts, xa_q_ruleSeconds, xb_q_ruleSeconds, xn_q_ruleSeconds, xa_q_walkerNames, xb_q_walkerNames, xn_q_walkerNames, xa_q_kinds, xb_q_kinds, xn_q_kinds, xa_q_walkerColours, xb_q_walkerColours, xn_q_walkerColours, xa_q_starts, xb_q_starts, xn_q_starts, xa_q_stepRows, xb_q_stepRows, xn_q_stepRows, xa_q_stepCounts, xb_q_stepCounts, xn_q_stepCounts, xa_q_gusts, xb_q_gusts, xn_q_gusts, xc_ql, xg_ql_0, xg_ql_1, xs_ql_1, xg_ql_2, xg_ql_3, xs_ql_3, xa_q_parts, xb_q_parts, xn_q_parts, xa_q_stack, xb_q_stack, xn_q_stack, wx_some, wx_ref, hs.2.1.2.2.2.1]
  apply t_placeOf (f := nm 2) (xs := q.2.2.2.2.2.2.2.2.2.2.1) (fun i => xa_q_walkerNames) xn_q_walkerNames hN.2.2 (by omega) (by omega) hl hw.2.2
  simp only [sl_i, e63, q63_0, q63_1, q63_2, q63_5, q63_6, q63_9, q63_12]
  exact hq
theorem t_checkColourq (h : TKx tp n k T) (hs : SQx q s) (ho : k_ok s) (hN : NMx nm s q) (hw : nmok nm s) (hq1 : isNm tp k → ∀ v, fnd nm 1 (k_nC s) (LT tp k) = some v → c_named tp nm 1 (k_nC s) k = (0, v) → Q (some (.int 1)) (px_h z E M (px_l sw c2 w2 T D S S1 K R C W U q q1 B0 B1 B2 B3))) (hq0 : ∀ T' f, (c_named tp nm 1 (k_nC s) k).1 = f → ¬ f = 0 → TKx tp n k T' → T'.2.2.1 = nI f → Q (some (.int 0)) (px_h z E M (px_l sw c2 w2 (T') D S S1 K R C W U q q1 B0 B1 B2 B3))) : wm (mp_P fx) (d + 2) 72 [.ref 60, .ref (px_ta sw)] (px_h z E M (px_l sw c2 w2 T D S S1 K R C W U q q1 B0 B1 B2 B3)) Q := by
  have h6 := ho.1.2.1
  simp only [e72, b72_0, b72_1, bn_0 b72_0, bn_1 b72_1, q72_0, q72_1, xc_T, xg_T_0, xg_T_1, xs_T_1, xg_T_2, xs_T_2, xg_T_3, xg_T_4, xg_T_5, xg_T_6, xs_T_6, xg_T_7, xs_T_7, xg_T_8, xs_T_8, xa_T_signs, xb_T_signs, xn_T_signs, xa_T_types, xb_T_types, xn_T_types, xa_T_starts, xb_T_starts, xn_T_starts, xa_T_values, xb_T_values, xn_T_values]
  apply t_atName h
  · intro y
    unfold c_named at hq1 hq0
    rw [if_pos (nmB_t.mpr y)] at hq1 hq0
    simp only [sl_i, b72_0, b72_1, bn_0 b72_0, bn_1 b72_1, q72_4, b72_0, b72_1, bn_0 b72_0, bn_1 b72_1, q72_13, q72_14, q72_15, xc_T, xg_T_0, xg_T_1, xs_T_1, xg_T_2, xs_T_2, xg_T_3, xg_T_4, xg_T_5, xg_T_6, xs_T_6, xg_T_7, xs_T_7, xg_T_8, xs_T_8, xa_T_signs, xb_T_signs, xn_T_signs, xa_T_types, xb_T_types, xn_T_types, xa_T_starts, xb_T_starts, xn_T_starts, xa_T_values, xb_T_values, xn_T_values]
    rw [if_pos (by decide)]
    apply t_word h y.1
    simp only [sl_i, b72_0, b72_1, bn_0 b72_0, bn_1 b72_1, q72_18, xc_q, xg_q_0, xg_q_1, xs_q_1, xg_q_2, xg_q_3, xg_q_4, xs_q_4, xg_q_5, xg_q_6, xg_q_7, xg_q_8, xs_q_8, xg_q_9, xs_q_9, xg_q_10, xg_q_11, xg_q_12, xg_q_13, xg_q_14, xg_q_15, xg_q_16, xs_q_16, xg_q_17, xg_q_18, xs_q_18, xg_q_19, xa_q_sortNames, xb_q_sortNames, xn_q_sortNames, xa_q_colourNames, xb_q_colourNames, xn_q_colourNames, xa_q_colourSorts, xb_q_colourSorts, xn_q_colourSorts, xa_q_ruleMakes, xb_q_ruleMakes, xn_q_ruleMakes, xa_q_ruleFirsts, xb_q_ruleFirsts, xn_q_ruleFirsts, xa_q_ruleSeconds, xb_q_ruleSeconds, xn_q_ruleSeconds, xa_q_walkerNames, xb_q_walkerNames, xn_q_walkerNames, xa_q_kinds, xb_q_kinds, xn_q_kinds, xa_q_walkerColours, xb_q_walkerColours, xn_q_walkerColours, xa_q_starts, xb_q_starts, xn_q_starts, xa_q_stepRows, xb_q_stepRows, xn_q_stepRows, xa_q_stepCounts, xb_q_stepCounts, xn_q_stepCounts, xa_q_gusts, xb_q_gusts, xn_q_gusts, xc_ql, xg_ql_0, xg_ql_1, xs_ql_1, xg_ql_2, xg_ql_3, xs_ql_3, xa_q_parts, xb_q_parts, xn_q_parts, xa_q_stack, xb_q_stack, xn_q_stack]
    apply t_colourNamedq hs ho hN hw (isNm_wf y)
    simp only [sl_i, b72_0, b72_1, bn_0 b72_0, bn_1 b72_1, q72_21, q72_22, q72_25, q72_26]
    cases e : fnd nm 1 (k_nC s) (LT tp k) with
    | none =>
      rw [e] at hq0
      rw [if_neg (fun z => z rfl)]
      simp only [b72_0, b72_1, bn_0 b72_0, bn_1 b72_1, q72_25, q72_26, q72_27, xc_T, xg_T_0, xg_T_1, xs_T_1, xg_T_2, xs_T_2, xg_T_3, xg_T_4, xg_T_5, xg_T_6, xs_T_6, xg_T_7, xs_T_7, xg_T_8, xs_T_8, xa_T_signs, xb_T_signs, xn_T_signs, xa_T_types, xb_T_types, xn_T_types, xa_T_starts, xb_T_starts, xn_T_starts, xa_T_values, xb_T_values, xn_T_values]
      apply t_refuse (kd := 2) h
      intro T' h2 h3
      simp only [sl_i, b72_0, b72_1, bn_0 b72_0, bn_1 b72_1, q72_30, b72_0, b72_1, bn_0 b72_0, bn_1 b72_1, q72_37, q72_38]
      rw [if_pos (by decide)]
      exact hq0 T' _ rfl (flt_ne (by omega)) h2 h3
    | some v =>
      have hv := fnd_lt e
      rw [e] at hq1
      rw [if_pos (io_some_ne (by omega))]
      simp only [b72_0, b72_1, bn_0 b72_0, bn_1 b72_1, q72_33, q72_34, q72_37, q72_38]
      exact hq1 y v rfl rfl
  · intro y
    unfold c_named at hq0
    rw [if_neg (fun z => y (nmB_t.mp z))] at hq0
    simp only [sl_i, b72_0, b72_1, bn_0 b72_0, bn_1 b72_1, q72_4, q72_7, q72_8, xc_T, xg_T_0, xg_T_1, xs_T_1, xg_T_2, xs_T_2, xg_T_3, xg_T_4, xg_T_5, xg_T_6, xs_T_6, xg_T_7, xs_T_7, xg_T_8, xs_T_8, xa_T_signs, xb_T_signs, xn_T_signs, xa_T_types, xb_T_types, xn_T_types, xa_T_starts, xb_T_starts, xn_T_starts, xa_T_values, xb_T_values, xn_T_values]
    rw [if_neg (by decide)]
    simp only [b72_0, b72_1, bn_0 b72_0, bn_1 b72_1, q72_9, xc_T, xg_T_0, xg_T_1, xs_T_1, xg_T_2, xs_T_2, xg_T_3, xg_T_4, xg_T_5, xg_T_6, xs_T_6, xg_T_7, xs_T_7, xg_T_8, xs_T_8, xa_T_signs, xb_T_signs, xn_T_signs, xa_T_types, xb_T_types, xn_T_types, xa_T_starts, xb_T_starts, xn_T_starts, xa_T_values, xb_T_values, xn_T_values]
    apply t_refuse (kd := 1) h
    intro T' h2 h3
    simp only [sl_i, b72_0, b72_1, bn_0 b72_0, bn_1 b72_1, q72_12]
    exact hq0 T' _ rfl (flt_ne (by omega)) h2 h3
theorem t_sortNamedq1 {l : List Nat} (hs : SQx q1 s) (ho : k_ok s) (hN : NMx nm s q1) (hw : nmok nm s) (hl : wfl l) (hq : Q (some (.int (io (fnd nm 0 (k_nS s) l)))) (px_h z E M (px_l sw c2 w2 T D S S1 K R C W U q q1 B0 B1 B2 B3))) : wm (mp_P fx) (d + 1) 60 [.ref (px_ta (!sw)), .long (w_x l)] (px_h z E M (px_l sw c2 w2 T D S S1 K R C W U q q1 B0 B1 B2 B3)) Q := by
  have h6 := ho.1.1
  have hll := hs.1.1
  simp only [e60, q60_0, q60_1, q60_2, q60_5, q60_6, q60_9, q60_12, xc_q1, xg_q1_0, xg_q1_1, xs_q1_1, xg_q1_2, xg_q1_3, xg_q1_4, xs_q1_4, xg_q1_5, xg_q1_6, xg_q1_7, xg_q1_8, xs_q1_8, xg_q1_9, xs_q1_9, xg_q1_10, xg_q1_11, xg_q1_12, xg_q1_13, xg_q1_14, xg_q1_15, xg_q1_16, xs_q1_16, xg_q1_17, xg_q1_18, xs_q1_18, xg_q1_19, xa_q1_sortNames, xb_q1_sortNames, xn_q1_sortNames, xa_q1_colourNames, xb_q1_colourNames, xn_q1_colourNames, xa_q1_colourSorts, xb_q1_colourSorts, xn_q1_colourSorts, xa_q1_ruleMakes, xb_q1_ruleMakes, xn_q1_ruleMakes, xa_q1_ruleFirsts, xb_q1_ruleFirsts, xn_q1_ruleFirsts, xa_q1_ruleSeconds, xb_q1_ruleSeconds, xn_q1_ruleSeconds, xa_q1_walkerNames, xb_q1_walkerNames, xn_q1_walkerNames, xa_q1_kinds, xb_q1_kinds, xn_q1_kinds, xa_q1_walkerColours, xb_q1_walkerColours, xn_q1_walkerColours, xa_q1_starts, xb_q1_starts, xn_q1_starts, xa_q1_stepRows, xb_q1_stepRows, xn_q1_stepRows, xa_q1_stepCounts, xb_q1_stepCounts, xn_q1_stepCounts, xa_q1_gusts, xb_q1_gusts, xn_q1_gusts, xc_q1l, xg_q1l_0, xg_q1l_1, xs_q1l_1, xg_q1l_2, xg_q1l_3, xs_q1l_3, xa_q1_parts, xb_q1_parts, xn_q1_parts, xa_q1_stack, xb_q1_stack, xn_q1_stack, wx_some, wx_ref, hs.2.1.1]
  apply t_placeOf (f := nm 0) (xs := q1.1) (fun i => xa_q1_sortNames) xn_q1_sortNames hN.1 (by omega) (by omega) hl hw.1
  simp only [sl_i, e60, q60_0, q60_1, q60_2, q60_5, q60_6, q60_9, q60_12]
  exact hq
theorem t_colourNamedq1 {l : List Nat} (hs : SQx q1 s) (ho : k_ok s) (hN : NMx nm s q1) (hw : nmok nm s) (hl : wfl l) (hq : Q (some (.int (io (fnd nm 1 (k_nC s) l)))) (px_h z E M (px_l sw c2 w2 T D S S1 K R C W U q q1 B0 B1 B2 B3))) : wm (mp_P fx) (d + 1) 62 [.ref (px_ta (!sw)), .long (w_x l)] (px_h z E M (px_l sw c2 w2 T D S S1 K R C W U q q1 B0 B1 B2 B3)) Q := by
  have h6 := ho.1.2.1
  have hll := hs.1.2.1
  simp only [e62, q62_0, q62_1, q62_2, q62_5, q62_6, q62_9, q62_12, xc_q1, xg_q1_0, xg_q1_1, xs_q1_1, xg_q1_2, xg_q1_3, xg_q1_4, xs_q1_4, xg_q1_5, xg_q1_6, xg_q1_7, xg_q1_8, xs_q1_8, xg_q1_9, xs_q1_9, xg_q1_10, xg_q1_11, xg_q1_12, xg_q1_13, xg_q1_14, xg_q1_15, xg_q1_16, xs_q1_16, xg_q1_17, xg_q1_18, xs_q1_18, xg_q1_19, xa_q1_sortNames, xb_q1_sortNames, xn_q1_sortNames, xa_q1_colourNames, xb_q1_colourNames, xn_q1_colourNames, xa_q1_colourSorts, xb_q1_colourSorts, xn_q1_colourSorts, xa_q1_ruleMakes, xb_q1_ruleMakes, xn_q1_ruleMakes, xa_q1_ruleFirsts, xb_q1_ruleFirsts, xn_q1_ruleFirsts, xa_q1_ruleSeconds, xb_q1_ruleSeconds, xn_q1_ruleSeconds, xa_q1_walkerNames, xb_q1_walkerNames, xn_q1_walkerNames, xa_q1_kinds, xb_q1_kinds, xn_q1_kinds, xa_q1_walkerColours, xb_q1_walkerColours, xn_q1_walkerColours, xa_q1_starts, xb_q1_starts, xn_q1_starts, xa_q1_stepRows, xb_q1_stepRows, xn_q1_stepRows, xa_q1_stepCounts, xb_q1_stepCounts, xn_q1_stepCounts, xa_q1_gusts, xb_q1_gusts, xn_q1_gusts, xc_q1l, xg_q1l_0, xg_q1l_1, xs_q1l_1, xg_q1l_2, xg_q1l_3, xs_q1l_3, xa_q1_parts, xb_q1_parts, xn_q1_parts, xa_q1_stack, xb_q1_stack, xn_q1_stack, wx_some, wx_ref, hs.2.1.2.1]
  apply t_placeOf (f := nm 1) (xs := q1.2.2.1) (fun i => xa_q1_colourNames) xn_q1_colourNames hN.2.1 (by omega) (by omega) hl hw.2.1
  simp only [sl_i, e62, q62_0, q62_1, q62_2, q62_5, q62_6, q62_9, q62_12]
  exact hq
theorem t_walkerNamedq1 {l : List Nat} (hs : SQx q1 s) (ho : k_ok s) (hN : NMx nm s q1) (hw : nmok nm s) (hl : wfl l) (hq : Q (some (.int (io (fnd nm 2 (k_nW s) l)))) (px_h z E M (px_l sw c2 w2 T D S S1 K R C W U q q1 B0 B1 B2 B3))) : wm (mp_P fx) (d + 1) 63 [.ref (px_ta (!sw)), .long (w_x l)] (px_h z E M (px_l sw c2 w2 T D S S1 K R C W U q q1 B0 B1 B2 B3)) Q := by
  have h6 := ho.1.2.2.2.1
  have hll := hs.1.2.2.2.2.2.2.1
  simp only [e63, q63_0, q63_1, q63_2, q63_5, q63_6, q63_9, q63_12, xc_q1, xg_q1_0, xg_q1_1, xs_q1_1, xg_q1_2, xg_q1_3, xg_q1_4, xs_q1_4, xg_q1_5, xg_q1_6, xg_q1_7, xg_q1_8, xs_q1_8, xg_q1_9, xs_q1_9, xg_q1_10, xg_q1_11, xg_q1_12, xg_q1_13, xg_q1_14, xg_q1_15, xg_q1_16, xs_q1_16, xg_q1_17, xg_q1_18, xs_q1_18, xg_q1_19, xa_q1_sortNames, xb_q1_sortNames, xn_q1_sortNames, xa_q1_colourNames, xb_q1_colourNames, xn_q1_colourNames, xa_q1_colourSorts, xb_q1_colourSorts, xn_q1_colourSorts, xa_q1_ruleMakes, xb_q1_ruleMakes, xn_q1_ruleMakes, xa_q1_ruleFirsts, xb_q1_ruleFirsts, xn_q1_ruleFirsts, xa_q1_ruleSeconds, xb_q1_ruleSeconds, xn_q1_ruleSeconds, xa_q1_walkerNames, xb_q1_walkerNames, xn_q1_walkerNames, xa_q1_kinds, xb_q1_kinds, xn_q1_kinds, xa_q1_walkerColours, xb_q1_walkerColours, xn_q1_walkerColours, xa_q1_starts, xb_q1_starts, xn_q1_starts, xa_q1_stepRows, xb_q1_stepRows, xn_q1_stepRows, xa_q1_stepCounts, xb_q1_stepCounts, xn_q1_stepCounts, xa_q1_gusts, xb_q1_gusts, xn_q1_gusts, xc_q1l, xg_q1l_0, xg_q1l_1, xs_q1l_1, xg_q1l_2, xg_q1l_3, xs_q1l_3, xa_q1_parts, xb_q1_parts, xn_q1_parts, xa_q1_stack, xb_q1_stack, xn_q1_stack, wx_some, wx_ref, hs.2.1.2.2.2.1]
  apply t_placeOf (f := nm 2) (xs := q1.2.2.2.2.2.2.2.2.2.2.1) (fun i => xa_q1_walkerNames) xn_q1_walkerNames hN.2.2 (by omega) (by omega) hl hw.2.2
  simp only [sl_i, e63, q63_0, q63_1, q63_2, q63_5, q63_6, q63_9, q63_12]
  exact hq
theorem t_checkColourq1 (h : TKx tp n k T) (hs : SQx q1 s) (ho : k_ok s) (hN : NMx nm s q1) (hw : nmok nm s) (hq1 : isNm tp k → ∀ v, fnd nm 1 (k_nC s) (LT tp k) = some v → c_named tp nm 1 (k_nC s) k = (0, v) → Q (some (.int 1)) (px_h z E M (px_l sw c2 w2 T D S S1 K R C W U q q1 B0 B1 B2 B3))) (hq0 : ∀ T' f, (c_named tp nm 1 (k_nC s) k).1 = f → ¬ f = 0 → TKx tp n k T' → T'.2.2.1 = nI f → Q (some (.int 0)) (px_h z E M (px_l sw c2 w2 (T') D S S1 K R C W U q q1 B0 B1 B2 B3))) : wm (mp_P fx) (d + 2) 72 [.ref 60, .ref (px_ta (!sw))] (px_h z E M (px_l sw c2 w2 T D S S1 K R C W U q q1 B0 B1 B2 B3)) Q := by
  have h6 := ho.1.2.1
  simp only [e72, b72_0, b72_1, bn_0 b72_0, bn_1 b72_1, q72_0, q72_1, xc_T, xg_T_0, xg_T_1, xs_T_1, xg_T_2, xs_T_2, xg_T_3, xg_T_4, xg_T_5, xg_T_6, xs_T_6, xg_T_7, xs_T_7, xg_T_8, xs_T_8, xa_T_signs, xb_T_signs, xn_T_signs, xa_T_types, xb_T_types, xn_T_types, xa_T_starts, xb_T_starts, xn_T_starts, xa_T_values, xb_T_values, xn_T_values]
  apply t_atName h
  · intro y
    unfold c_named at hq1 hq0
    rw [if_pos (nmB_t.mpr y)] at hq1 hq0
    simp only [sl_i, b72_0, b72_1, bn_0 b72_0, bn_1 b72_1, q72_4, b72_0, b72_1, bn_0 b72_0, bn_1 b72_1, q72_13, q72_14, q72_15, xc_T, xg_T_0, xg_T_1, xs_T_1, xg_T_2, xs_T_2, xg_T_3, xg_T_4, xg_T_5, xg_T_6, xs_T_6, xg_T_7, xs_T_7, xg_T_8, xs_T_8, xa_T_signs, xb_T_signs, xn_T_signs, xa_T_types, xb_T_types, xn_T_types, xa_T_starts, xb_T_starts, xn_T_starts, xa_T_values, xb_T_values, xn_T_values]
    rw [if_pos (by decide)]
    apply t_word h y.1
    simp only [sl_i, b72_0, b72_1, bn_0 b72_0, bn_1 b72_1, q72_18, xc_q1, xg_q1_0, xg_q1_1, xs_q1_1, xg_q1_2, xg_q1_3, xg_q1_4, xs_q1_4, xg_q1_5, xg_q1_6, xg_q1_7, xg_q1_8, xs_q1_8, xg_q1_9, xs_q1_9, xg_q1_10, xg_q1_11, xg_q1_12, xg_q1_13, xg_q1_14, xg_q1_15, xg_q1_16, xs_q1_16, xg_q1_17, xg_q1_18, xs_q1_18, xg_q1_19, xa_q1_sortNames, xb_q1_sortNames, xn_q1_sortNames, xa_q1_colourNames, xb_q1_colourNames, xn_q1_colourNames, xa_q1_colourSorts, xb_q1_colourSorts, xn_q1_colourSorts, xa_q1_ruleMakes, xb_q1_ruleMakes, xn_q1_ruleMakes, xa_q1_ruleFirsts, xb_q1_ruleFirsts, xn_q1_ruleFirsts, xa_q1_ruleSeconds, xb_q1_ruleSeconds, xn_q1_ruleSeconds, xa_q1_walkerNames, xb_q1_walkerNames, xn_q1_walkerNames, xa_q1_kinds, xb_q1_kinds, xn_q1_kinds, xa_q1_walkerColours, xb_q1_walkerColours, xn_q1_walkerColours, xa_q1_starts, xb_q1_starts, xn_q1_starts, xa_q1_stepRows, xb_q1_stepRows, xn_q1_stepRows, xa_q1_stepCounts, xb_q1_stepCounts, xn_q1_stepCounts, xa_q1_gusts, xb_q1_gusts, xn_q1_gusts, xc_q1l, xg_q1l_0, xg_q1l_1, xs_q1l_1, xg_q1l_2, xg_q1l_3, xs_q1l_3, xa_q1_parts, xb_q1_parts, xn_q1_parts, xa_q1_stack, xb_q1_stack, xn_q1_stack]
    apply t_colourNamedq1 hs ho hN hw (isNm_wf y)
    simp only [sl_i, b72_0, b72_1, bn_0 b72_0, bn_1 b72_1, q72_21, q72_22, q72_25, q72_26]
    cases e : fnd nm 1 (k_nC s) (LT tp k) with
    | none =>
      rw [e] at hq0
      rw [if_neg (fun z => z rfl)]
      simp only [b72_0, b72_1, bn_0 b72_0, bn_1 b72_1, q72_25, q72_26, q72_27, xc_T, xg_T_0, xg_T_1, xs_T_1, xg_T_2, xs_T_2, xg_T_3, xg_T_4, xg_T_5, xg_T_6, xs_T_6, xg_T_7, xs_T_7, xg_T_8, xs_T_8, xa_T_signs, xb_T_signs, xn_T_signs, xa_T_types, xb_T_types, xn_T_types, xa_T_starts, xb_T_starts, xn_T_starts, xa_T_values, xb_T_values, xn_T_values]
      apply t_refuse (kd := 2) h
      intro T' h2 h3
      simp only [sl_i, b72_0, b72_1, bn_0 b72_0, bn_1 b72_1, q72_30, b72_0, b72_1, bn_0 b72_0, bn_1 b72_1, q72_37, q72_38]
      rw [if_pos (by decide)]
      exact hq0 T' _ rfl (flt_ne (by omega)) h2 h3
    | some v =>
      have hv := fnd_lt e
      rw [e] at hq1
      rw [if_pos (io_some_ne (by omega))]
      simp only [b72_0, b72_1, bn_0 b72_0, bn_1 b72_1, q72_33, q72_34, q72_37, q72_38]
      exact hq1 y v rfl rfl
  · intro y
    unfold c_named at hq0
    rw [if_neg (fun z => y (nmB_t.mp z))] at hq0
    simp only [sl_i, b72_0, b72_1, bn_0 b72_0, bn_1 b72_1, q72_4, q72_7, q72_8, xc_T, xg_T_0, xg_T_1, xs_T_1, xg_T_2, xs_T_2, xg_T_3, xg_T_4, xg_T_5, xg_T_6, xs_T_6, xg_T_7, xs_T_7, xg_T_8, xs_T_8, xa_T_signs, xb_T_signs, xn_T_signs, xa_T_types, xb_T_types, xn_T_types, xa_T_starts, xb_T_starts, xn_T_starts, xa_T_values, xb_T_values, xn_T_values]
    rw [if_neg (by decide)]
    simp only [b72_0, b72_1, bn_0 b72_0, bn_1 b72_1, q72_9, xc_T, xg_T_0, xg_T_1, xs_T_1, xg_T_2, xs_T_2, xg_T_3, xg_T_4, xg_T_5, xg_T_6, xs_T_6, xg_T_7, xs_T_7, xg_T_8, xs_T_8, xa_T_signs, xb_T_signs, xn_T_signs, xa_T_types, xb_T_types, xn_T_types, xa_T_starts, xb_T_starts, xn_T_starts, xa_T_values, xb_T_values, xn_T_values]
    apply t_refuse (kd := 1) h
    intro T' h2 h3
    simp only [sl_i, b72_0, b72_1, bn_0 b72_0, bn_1 b72_1, q72_12]
    exact hq0 T' _ rfl (flt_ne (by omega)) h2 h3
theorem t_checkSort (h : TKx tp n k T) (hs : SQx q1 s) (ho : k_ok s) (hN : NMx nm s q1) (hw : nmok nm s) (hq1 : isNm tp k → ∀ v, fnd nm 0 (k_nS s) (LT tp k) = some v → c_named tp nm 0 (k_nS s) k = (0, v) → Q (some (.int 1)) (px_h z E M (px_l sw c2 w2 T D S S1 K R C W U q q1 B0 B1 B2 B3))) (hq0 : ∀ T' f, (c_named tp nm 0 (k_nS s) k).1 = f → ¬ f = 0 → TKx tp n k T' → T'.2.2.1 = nI f → Q (some (.int 0)) (px_h z E M (px_l sw c2 w2 (T') D S S1 K R C W U q q1 B0 B1 B2 B3))) : wm (mp_P fx) (d + 2) 66 [.ref 60, .ref (px_ta (!sw))] (px_h z E M (px_l sw c2 w2 T D S S1 K R C W U q q1 B0 B1 B2 B3)) Q := by
  have h6 := ho.1.1
  simp only [e66, b66_0, b66_1, bn_0 b66_0, bn_1 b66_1, q66_0, q66_1, xc_T, xg_T_0, xg_T_1, xs_T_1, xg_T_2, xs_T_2, xg_T_3, xg_T_4, xg_T_5, xg_T_6, xs_T_6, xg_T_7, xs_T_7, xg_T_8, xs_T_8, xa_T_signs, xb_T_signs, xn_T_signs, xa_T_types, xb_T_types, xn_T_types, xa_T_starts, xb_T_starts, xn_T_starts, xa_T_values, xb_T_values, xn_T_values]
  apply t_atName h
  · intro y
    unfold c_named at hq1 hq0
    rw [if_pos (nmB_t.mpr y)] at hq1 hq0
    simp only [sl_i, b66_0, b66_1, bn_0 b66_0, bn_1 b66_1, q66_4, b66_0, b66_1, bn_0 b66_0, bn_1 b66_1, q66_13, q66_14, q66_15, xc_T, xg_T_0, xg_T_1, xs_T_1, xg_T_2, xs_T_2, xg_T_3, xg_T_4, xg_T_5, xg_T_6, xs_T_6, xg_T_7, xs_T_7, xg_T_8, xs_T_8, xa_T_signs, xb_T_signs, xn_T_signs, xa_T_types, xb_T_types, xn_T_types, xa_T_starts, xb_T_starts, xn_T_starts, xa_T_values, xb_T_values, xn_T_values]
    rw [if_pos (by decide)]
    apply t_word h y.1
    simp only [sl_i, b66_0, b66_1, bn_0 b66_0, bn_1 b66_1, q66_18, xc_q1, xg_q1_0, xg_q1_1, xs_q1_1, xg_q1_2, xg_q1_3, xg_q1_4, xs_q1_4, xg_q1_5, xg_q1_6, xg_q1_7, xg_q1_8, xs_q1_8, xg_q1_9, xs_q1_9, xg_q1_10, xg_q1_11, xg_q1_12, xg_q1_13, xg_q1_14, xg_q1_15, xg_q1_16, xs_q1_16, xg_q1_17, xg_q1_18, xs_q1_18, xg_q1_19, xa_q1_sortNames, xb_q1_sortNames, xn_q1_sortNames, xa_q1_colourNames, xb_q1_colourNames, xn_q1_colourNames, xa_q1_colourSorts, xb_q1_colourSorts, xn_q1_colourSorts, xa_q1_ruleMakes, xb_q1_ruleMakes, xn_q1_ruleMakes, xa_q1_ruleFirsts, xb_q1_ruleFirsts, xn_q1_ruleFirsts, xa_q1_ruleSeconds, xb_q1_ruleSeconds, xn_q1_ruleSeconds, xa_q1_walkerNames, xb_q1_walkerNames, xn_q1_walkerNames, xa_q1_kinds, xb_q1_kinds, xn_q1_kinds, xa_q1_walkerColours, xb_q1_walkerColours, xn_q1_walkerColours, xa_q1_starts, xb_q1_starts, xn_q1_starts, xa_q1_stepRows, xb_q1_stepRows, xn_q1_stepRows, xa_q1_stepCounts, xb_q1_stepCounts, xn_q1_stepCounts, xa_q1_gusts, xb_q1_gusts, xn_q1_gusts, xc_q1l, xg_q1l_0, xg_q1l_1, xs_q1l_1, xg_q1l_2, xg_q1l_3, xs_q1l_3, xa_q1_parts, xb_q1_parts, xn_q1_parts, xa_q1_stack, xb_q1_stack, xn_q1_stack]
    apply t_sortNamedq1 hs ho hN hw (isNm_wf y)
    simp only [sl_i, b66_0, b66_1, bn_0 b66_0, bn_1 b66_1, q66_21, q66_22, q66_25, q66_26]
    cases e : fnd nm 0 (k_nS s) (LT tp k) with
    | none =>
      rw [e] at hq0
      rw [if_neg (fun z => z rfl)]
      simp only [b66_0, b66_1, bn_0 b66_0, bn_1 b66_1, q66_25, q66_26, q66_27, xc_T, xg_T_0, xg_T_1, xs_T_1, xg_T_2, xs_T_2, xg_T_3, xg_T_4, xg_T_5, xg_T_6, xs_T_6, xg_T_7, xs_T_7, xg_T_8, xs_T_8, xa_T_signs, xb_T_signs, xn_T_signs, xa_T_types, xb_T_types, xn_T_types, xa_T_starts, xb_T_starts, xn_T_starts, xa_T_values, xb_T_values, xn_T_values]
      apply t_refuse (kd := 2) h
      intro T' h2 h3
      simp only [sl_i, b66_0, b66_1, bn_0 b66_0, bn_1 b66_1, q66_30, b66_0, b66_1, bn_0 b66_0, bn_1 b66_1, q66_37, q66_38, b66_0, b66_1]
      rw [if_pos (by decide)]
      exact hq0 T' _ rfl (flt_ne (by omega)) h2 h3
    | some v =>
      have hv := fnd_lt e
      rw [e] at hq1
      rw [if_pos (io_some_ne (by omega))]
      simp only [b66_0, b66_1, bn_0 b66_0, bn_1 b66_1, q66_33, q66_34, q66_37, q66_38, b66_0, b66_1]
      exact hq1 y v rfl rfl
  · intro y
    unfold c_named at hq0
    rw [if_neg (fun z => y (nmB_t.mp z))] at hq0
    simp only [sl_i, b66_0, b66_1, bn_0 b66_0, bn_1 b66_1, q66_4, q66_7, q66_8, xc_T, xg_T_0, xg_T_1, xs_T_1, xg_T_2, xs_T_2, xg_T_3, xg_T_4, xg_T_5, xg_T_6, xs_T_6, xg_T_7, xs_T_7, xg_T_8, xs_T_8, xa_T_signs, xb_T_signs, xn_T_signs, xa_T_types, xb_T_types, xn_T_types, xa_T_starts, xb_T_starts, xn_T_starts, xa_T_values, xb_T_values, xn_T_values]
    rw [if_neg (by decide)]
    simp only [b66_0, b66_1, bn_0 b66_0, bn_1 b66_1, q66_9, xc_T, xg_T_0, xg_T_1, xs_T_1, xg_T_2, xs_T_2, xg_T_3, xg_T_4, xg_T_5, xg_T_6, xs_T_6, xg_T_7, xs_T_7, xg_T_8, xs_T_8, xa_T_signs, xb_T_signs, xn_T_signs, xa_T_types, xb_T_types, xn_T_types, xa_T_starts, xb_T_starts, xn_T_starts, xa_T_values, xb_T_values, xn_T_values]
    apply t_refuse (kd := 1) h
    intro T' h2 h3
    simp only [sl_i, b66_0, b66_1, bn_0 b66_0, bn_1 b66_1, q66_12, b66_0, b66_1]
    exact hq0 T' _ rfl (flt_ne (by omega)) h2 h3
theorem t_isTold {l : List Nat} (hs : SQx q1 s) (ho : k_ok s) (hN : NMx nm s q1) (hw : nmok nm s) (hl : wfl l) (hq1 : tldB nm s l = true → Q (some (.int 1)) (px_h z E M (px_l sw c2 w2 T D S S1 K R C W U q q1 B0 B1 B2 B3))) (hq0 : tldB nm s l = false → Q (some (.int 0)) (px_h z E M (px_l sw c2 w2 T D S S1 K R C W U q q1 B0 B1 B2 B3))) : wm (mp_P fx) (d + 2) 59 [.ref (px_ta (!sw)), .long (w_x l)] (px_h z E M (px_l sw c2 w2 T D S S1 K R C W U q q1 B0 B1 B2 B3)) Q := by
  have h6 := ho.1
  unfold tldB at hq1 hq0
  simp only [e59, b59_0, b59_1, bn_0 b59_0, bn_1 b59_1, q59_0, q59_1]
  simp only [b59_0, b59_1, bn_0 b59_0, bn_1 b59_1, q59_2, xc_q1, xg_q1_0, xg_q1_1, xs_q1_1, xg_q1_2, xg_q1_3, xg_q1_4, xs_q1_4, xg_q1_5, xg_q1_6, xg_q1_7, xg_q1_8, xs_q1_8, xg_q1_9, xs_q1_9, xg_q1_10, xg_q1_11, xg_q1_12, xg_q1_13, xg_q1_14, xg_q1_15, xg_q1_16, xs_q1_16, xg_q1_17, xg_q1_18, xs_q1_18, xg_q1_19, xa_q1_sortNames, xb_q1_sortNames, xn_q1_sortNames, xa_q1_colourNames, xb_q1_colourNames, xn_q1_colourNames, xa_q1_colourSorts, xb_q1_colourSorts, xn_q1_colourSorts, xa_q1_ruleMakes, xb_q1_ruleMakes, xn_q1_ruleMakes, xa_q1_ruleFirsts, xb_q1_ruleFirsts, xn_q1_ruleFirsts, xa_q1_ruleSeconds, xb_q1_ruleSeconds, xn_q1_ruleSeconds, xa_q1_walkerNames, xb_q1_walkerNames, xn_q1_walkerNames, xa_q1_kinds, xb_q1_kinds, xn_q1_kinds, xa_q1_walkerColours, xb_q1_walkerColours, xn_q1_walkerColours, xa_q1_starts, xb_q1_starts, xn_q1_starts, xa_q1_stepRows, xb_q1_stepRows, xn_q1_stepRows, xa_q1_stepCounts, xb_q1_stepCounts, xn_q1_stepCounts, xa_q1_gusts, xb_q1_gusts, xn_q1_gusts, xc_q1l, xg_q1l_0, xg_q1l_1, xs_q1l_1, xg_q1l_2, xg_q1l_3, xs_q1l_3, xa_q1_parts, xb_q1_parts, xn_q1_parts, xa_q1_stack, xb_q1_stack, xn_q1_stack]
  apply t_sortNamedq1 hs ho hN hw hl
  simp only [sl_i, b59_0, b59_1, bn_0 b59_0, bn_1 b59_1, q59_5, q59_6, q59_9, q59_10]
  cases e : fnd nm 0 (k_nS s) l with
  | some v =>
    have hv := fnd_lt e
    rw [e] at hq1
    rw [if_pos (io_some_ne (by omega))]
    simp only [b59_0, b59_1, bn_0 b59_0, bn_1 b59_1, q59_27, q59_28, q59_31, q59_32, b59_0, b59_1]
    exact hq1 rfl
  | none =>
  rw [e] at hq1 hq0
  rw [if_neg (fun z => z rfl)]
  simp only [b59_0, b59_1, bn_0 b59_0, bn_1 b59_1, q59_11, xc_q1, xg_q1_0, xg_q1_1, xs_q1_1, xg_q1_2, xg_q1_3, xg_q1_4, xs_q1_4, xg_q1_5, xg_q1_6, xg_q1_7, xg_q1_8, xs_q1_8, xg_q1_9, xs_q1_9, xg_q1_10, xg_q1_11, xg_q1_12, xg_q1_13, xg_q1_14, xg_q1_15, xg_q1_16, xs_q1_16, xg_q1_17, xg_q1_18, xs_q1_18, xg_q1_19, xa_q1_sortNames, xb_q1_sortNames, xn_q1_sortNames, xa_q1_colourNames, xb_q1_colourNames, xn_q1_colourNames, xa_q1_colourSorts, xb_q1_colourSorts, xn_q1_colourSorts, xa_q1_ruleMakes, xb_q1_ruleMakes, xn_q1_ruleMakes, xa_q1_ruleFirsts, xb_q1_ruleFirsts, xn_q1_ruleFirsts, xa_q1_ruleSeconds, xb_q1_ruleSeconds, xn_q1_ruleSeconds, xa_q1_walkerNames, xb_q1_walkerNames, xn_q1_walkerNames, xa_q1_kinds, xb_q1_kinds, xn_q1_kinds, xa_q1_walkerColours, xb_q1_walkerColours, xn_q1_walkerColours, xa_q1_starts, xb_q1_starts, xn_q1_starts, xa_q1_stepRows, xb_q1_stepRows, xn_q1_stepRows, xa_q1_stepCounts, xb_q1_stepCounts, xn_q1_stepCounts, xa_q1_gusts, xb_q1_gusts, xn_q1_gusts, xc_q1l, xg_q1l_0, xg_q1l_1, xs_q1l_1, xg_q1l_2, xg_q1l_3, xs_q1l_3, xa_q1_parts, xb_q1_parts, xn_q1_parts, xa_q1_stack, xb_q1_stack, xn_q1_stack]
  apply t_colourNamedq1 hs ho hN hw hl
  simp only [sl_i, b59_0, b59_1, bn_0 b59_0, bn_1 b59_1, q59_14, q59_15, q59_18, q59_19]
  cases e2 : fnd nm 1 (k_nC s) l with
  | some v =>
    have hv := fnd_lt e2
    rw [e2] at hq1
    rw [if_pos (io_some_ne (by omega))]
    simp only [b59_0, b59_1, bn_0 b59_0, bn_1 b59_1, q59_27, q59_28, q59_31, q59_32, b59_0, b59_1]
    exact hq1 rfl
  | none =>
  rw [e2] at hq1 hq0
  rw [if_neg (fun z => z rfl)]
  simp only [b59_0, b59_1, bn_0 b59_0, bn_1 b59_1, q59_20, xc_q1, xg_q1_0, xg_q1_1, xs_q1_1, xg_q1_2, xg_q1_3, xg_q1_4, xs_q1_4, xg_q1_5, xg_q1_6, xg_q1_7, xg_q1_8, xs_q1_8, xg_q1_9, xs_q1_9, xg_q1_10, xg_q1_11, xg_q1_12, xg_q1_13, xg_q1_14, xg_q1_15, xg_q1_16, xs_q1_16, xg_q1_17, xg_q1_18, xs_q1_18, xg_q1_19, xa_q1_sortNames, xb_q1_sortNames, xn_q1_sortNames, xa_q1_colourNames, xb_q1_colourNames, xn_q1_colourNames, xa_q1_colourSorts, xb_q1_colourSorts, xn_q1_colourSorts, xa_q1_ruleMakes, xb_q1_ruleMakes, xn_q1_ruleMakes, xa_q1_ruleFirsts, xb_q1_ruleFirsts, xn_q1_ruleFirsts, xa_q1_ruleSeconds, xb_q1_ruleSeconds, xn_q1_ruleSeconds, xa_q1_walkerNames, xb_q1_walkerNames, xn_q1_walkerNames, xa_q1_kinds, xb_q1_kinds, xn_q1_kinds, xa_q1_walkerColours, xb_q1_walkerColours, xn_q1_walkerColours, xa_q1_starts, xb_q1_starts, xn_q1_starts, xa_q1_stepRows, xb_q1_stepRows, xn_q1_stepRows, xa_q1_stepCounts, xb_q1_stepCounts, xn_q1_stepCounts, xa_q1_gusts, xb_q1_gusts, xn_q1_gusts, xc_q1l, xg_q1l_0, xg_q1l_1, xs_q1l_1, xg_q1l_2, xg_q1l_3, xs_q1l_3, xa_q1_parts, xb_q1_parts, xn_q1_parts, xa_q1_stack, xb_q1_stack, xn_q1_stack]
  apply t_walkerNamedq1 hs ho hN hw hl
  simp only [sl_i, b59_0, b59_1, bn_0 b59_0, bn_1 b59_1, q59_23, q59_24, q59_27, q59_28, q59_31, q59_32, b59_0, b59_1]
  cases e3 : fnd nm 2 (k_nW s) l with
  | some v =>
    have hv := fnd_lt e3
    rw [e3] at hq1
    rw [if_neg (io_some_ne (by omega))]
    exact hq1 rfl
  | none =>
    rw [e3] at hq0
    rw [if_pos (show io none = -1 from rfl)]
    exact hq0 rfl
theorem t_newName (h : TKx tp n k T) (hs : SQx q1 s) (ho : k_ok s) (hN : NMx nm s q1) (hw : nmok nm s) (hq1 : isNm tp k → c_new tp nm s k = 0 → Q (some (.int 1)) (px_h z E M (px_l sw c2 w2 T D S S1 K R C W U q q1 B0 B1 B2 B3))) (hq0 : ∀ T' f, c_new tp nm s k = f → ¬ f = 0 → TKx tp n k T' → T'.2.2.1 = nI f → Q (some (.int 0)) (px_h z E M (px_l sw c2 w2 (T') D S S1 K R C W U q q1 B0 B1 B2 B3))) : wm (mp_P fx) (d + 3) 56 [.ref 60, .ref (px_ta (!sw))] (px_h z E M (px_l sw c2 w2 T D S S1 K R C W U q q1 B0 B1 B2 B3)) Q := by
  simp only [e56, b56_0, b56_1, bn_0 b56_0, bn_1 b56_1, q56_0, q56_1, xc_T, xg_T_0, xg_T_1, xs_T_1, xg_T_2, xs_T_2, xg_T_3, xg_T_4, xg_T_5, xg_T_6, xs_T_6, xg_T_7, xs_T_7, xg_T_8, xs_T_8, xa_T_signs, xb_T_signs, xn_T_signs, xa_T_types, xb_T_types, xn_T_types, xa_T_starts, xb_T_starts, xn_T_starts, xa_T_values, xb_T_values, xn_T_values]
  apply t_atName h
  · intro y
    unfold c_new at hq1 hq0
    rw [if_pos (nmB_t.mpr y)] at hq1 hq0
    simp only [sl_i, b56_0, b56_1, bn_0 b56_0, bn_1 b56_1, q56_4, b56_0, b56_1, bn_0 b56_0, bn_1 b56_1, q56_13, q56_14, q56_15, xc_T, xg_T_0, xg_T_1, xs_T_1, xg_T_2, xs_T_2, xg_T_3, xg_T_4, xg_T_5, xg_T_6, xs_T_6, xg_T_7, xs_T_7, xg_T_8, xs_T_8, xa_T_signs, xb_T_signs, xn_T_signs, xa_T_types, xb_T_types, xn_T_types, xa_T_starts, xb_T_starts, xn_T_starts, xa_T_values, xb_T_values, xn_T_values]
    rw [if_pos (by decide)]
    apply t_word h y.1
    simp only [sl_i, b56_0, b56_1, bn_0 b56_0, bn_1 b56_1, q56_18, xc_q1, xg_q1_0, xg_q1_1, xs_q1_1, xg_q1_2, xg_q1_3, xg_q1_4, xs_q1_4, xg_q1_5, xg_q1_6, xg_q1_7, xg_q1_8, xs_q1_8, xg_q1_9, xs_q1_9, xg_q1_10, xg_q1_11, xg_q1_12, xg_q1_13, xg_q1_14, xg_q1_15, xg_q1_16, xs_q1_16, xg_q1_17, xg_q1_18, xs_q1_18, xg_q1_19, xa_q1_sortNames, xb_q1_sortNames, xn_q1_sortNames, xa_q1_colourNames, xb_q1_colourNames, xn_q1_colourNames, xa_q1_colourSorts, xb_q1_colourSorts, xn_q1_colourSorts, xa_q1_ruleMakes, xb_q1_ruleMakes, xn_q1_ruleMakes, xa_q1_ruleFirsts, xb_q1_ruleFirsts, xn_q1_ruleFirsts, xa_q1_ruleSeconds, xb_q1_ruleSeconds, xn_q1_ruleSeconds, xa_q1_walkerNames, xb_q1_walkerNames, xn_q1_walkerNames, xa_q1_kinds, xb_q1_kinds, xn_q1_kinds, xa_q1_walkerColours, xb_q1_walkerColours, xn_q1_walkerColours, xa_q1_starts, xb_q1_starts, xn_q1_starts, xa_q1_stepRows, xb_q1_stepRows, xn_q1_stepRows, xa_q1_stepCounts, xb_q1_stepCounts, xn_q1_stepCounts, xa_q1_gusts, xb_q1_gusts, xn_q1_gusts, xc_q1l, xg_q1l_0, xg_q1l_1, xs_q1l_1, xg_q1l_2, xg_q1l_3, xs_q1l_3, xa_q1_parts, xb_q1_parts, xn_q1_parts, xa_q1_stack, xb_q1_stack, xn_q1_stack]
    apply t_isTold hs ho hN hw (isNm_wf y)
    · intro e
      rw [if_pos e] at hq0
      simp only [sl_i, b56_0, b56_1, bn_0 b56_0, bn_1 b56_1, q56_21, q56_24, q56_25]
      rw [if_neg (by decide)]
      simp only [b56_0, b56_1, bn_0 b56_0, bn_1 b56_1, q56_26, xc_T, xg_T_0, xg_T_1, xs_T_1, xg_T_2, xs_T_2, xg_T_3, xg_T_4, xg_T_5, xg_T_6, xs_T_6, xg_T_7, xs_T_7, xg_T_8, xs_T_8, xa_T_signs, xb_T_signs, xn_T_signs, xa_T_types, xb_T_types, xn_T_types, xa_T_starts, xb_T_starts, xn_T_starts, xa_T_values, xb_T_values, xn_T_values]
      apply t_refuse (kd := 3) h
      intro T' h2 h3
      simp only [sl_i, b56_0, b56_1, bn_0 b56_0, bn_1 b56_1, q56_29, b56_0, b56_1, bn_0 b56_0, bn_1 b56_1, q56_36, q56_37, b56_0, b56_1]
      rw [if_pos (by decide)]
      exact hq0 T' _ rfl (flt_ne (by omega)) h2 h3
    · intro e
      rw [if_neg (by rw [e]; exact Bool.false_ne_true)] at hq1
      simp only [sl_i, b56_0, b56_1, bn_0 b56_0, bn_1 b56_1, q56_21, b56_0, b56_1, bn_0 b56_0, bn_1 b56_1, q56_32, q56_33, q56_36, q56_37, b56_0, b56_1]
      rw [if_pos (by decide)]
      exact hq1 y rfl
  · intro y
    unfold c_new at hq0
    rw [if_neg (fun z => y (nmB_t.mp z))] at hq0
    simp only [sl_i, b56_0, b56_1, bn_0 b56_0, bn_1 b56_1, q56_4, q56_7, q56_8, xc_T, xg_T_0, xg_T_1, xs_T_1, xg_T_2, xs_T_2, xg_T_3, xg_T_4, xg_T_5, xg_T_6, xs_T_6, xg_T_7, xs_T_7, xg_T_8, xs_T_8, xa_T_signs, xb_T_signs, xn_T_signs, xa_T_types, xb_T_types, xn_T_types, xa_T_starts, xb_T_starts, xn_T_starts, xa_T_values, xb_T_values, xn_T_values]
    rw [if_neg (by decide)]
    simp only [b56_0, b56_1, bn_0 b56_0, bn_1 b56_1, q56_9, xc_T, xg_T_0, xg_T_1, xs_T_1, xg_T_2, xs_T_2, xg_T_3, xg_T_4, xg_T_5, xg_T_6, xs_T_6, xg_T_7, xs_T_7, xg_T_8, xs_T_8, xa_T_signs, xb_T_signs, xn_T_signs, xa_T_types, xb_T_types, xn_T_types, xa_T_starts, xb_T_starts, xn_T_starts, xa_T_values, xb_T_values, xn_T_values]
    apply t_refuse (kd := 1) h
    intro T' h2 h3
    simp only [sl_i, b56_0, b56_1, bn_0 b56_0, bn_1 b56_1, q56_12, b56_0, b56_1]
    exact hq0 T' _ rfl (flt_ne (by omega)) h2 h3
end NX
