/-! the law's value, of the class -/
def lx_op (p x y : Int32) : Int32 := if p = -6 then (if x ≠ 0 ∧ y ≠ 0 then 1 else 0) else if p = -7 then (if x ≠ 0 ∨ y ≠ 0 then 1 else 0) else if p = -8 then (if x < y then 1 else 0) else if p = -9 then (if x = y then 1 else 0) else if p = -10 then x + y else if p = -11 then x - y else x * y
def lx_p (st : List Int32) (v : Int32) : Option (List Int32) := if st.length < 32 then some (v :: st) else none
def lx_1 (a b c f p : Int32) (st : List Int32) : Option (List Int32) := if p = -1 then lx_p st a else if p = -2 then lx_p st b else if p = -3 then lx_p st c else if p = -4 then lx_p st f else if p = -5 then (match st with
  | x :: r => some ((if x = 0 then 1 else 0) :: r)
  | [] => none) else if p < 0 then (match st with
  | y :: x :: r => some (lx_op p x y :: r)
  | _ => none) else lx_p st p
def lx_run (a b c f : Int32) : List Int32 → List Int32 → Option (List Int32)
  | [], st => some st
  | p :: ps, st => match lx_1 a b c f p st with
    | none => none
    | some st' => lx_run a b c f ps st'
theorem lx_app {a b c f : Int32} {ps qs st st' : List Int32} (h : lx_run a b c f ps st = some st') : lx_run a b c f (ps ++ qs) st = lx_run a b c f qs st' := by
  induction ps generalizing st with
  | nil => cases h; rfl
  | cons p ps ih =>
    rw [lx_run] at h
    show lx_run a b c f (p :: (ps ++ qs)) st = _
    rw [lx_run]
    split at h
    · cases h
    · rename_i st1 e
      exact ih h
/-- the row of the stack holds the list, its top at the head -/
def stk (xs : List Int32) (hh : Int32) (st : List Int32) : Prop := xs.length = 32 ∧ st.length ≤ 32 ∧ hh = nI st.length ∧ xs.take st.length = st.reverse
theorem stk_push {xs st : List Int32} {hh v : Int32} (h : stk xs hh st) (hl : st.length < 32) : stk (xs.set st.length v) (nI (st.length + 1)) (v :: st) := by
  obtain ⟨h1, h2, h3, h4⟩ := h
  refine ⟨by rw [List.length_set]; exact h1, by rw [List.length_cons]; omega, by rw [List.length_cons], ?_⟩
  rw [List.length_cons, List.reverse_cons, ← h4, List.take_succ, List.take_set_of_le (Nat.le_refl _), List.getElem?_set_self (by omega)]; rfl
theorem stk_pop {xs st : List Int32} {hh v : Int32} (h : stk xs hh (v :: st)) : stk xs (nI st.length) st ∧ xs[st.length]? = some v := by
  obtain ⟨h1, h2, h3, h4⟩ := h
  rw [List.length_cons] at h2 h4
  rw [List.reverse_cons] at h4
  have h5 : xs.take st.length = st.reverse := by
    have := congrArg (List.take st.length) h4
    rw [List.take_take, Nat.min_eq_left (by omega), List.take_append_of_le_length (by rw [List.length_reverse]; omega)] at this
    rw [this]; exact List.take_of_length_le (by rw [List.length_reverse]; omega)
  refine ⟨⟨h1, by omega, rfl, h5⟩, ?_⟩
  have := congrArg (fun l => l[st.length]?) h4
  simp only [List.getElem?_take_of_lt (Nat.lt_succ_self _)] at this
  rw [this, List.getElem?_append_right (by rw [List.length_reverse]; omega), List.length_reverse, Nat.sub_self]; rfl
section TL
variable {fx : List Value → mm_H → Option (List Value × mm_H)} {z : Nat} {E M : Nat → mm_C} {sw c2 w2 : Bool} {T : px_T} {D : px_D} {S : px_S} {S1 : px_S} {K : px_K} {R : px_R} {C : px_C} {W : px_W} {U : px_U} {q : px_q} {q1 : px_q} {B0 : px_K} {B1 : px_K} {B2 : px_K} {B3 : px_K} {T_signs : List Int32} {T_length : Int32} {T_fault : Int32} {T_types : List Int32} {T_starts : List Int32} {T_values : List Int64} {T_tokens : Int32} {T_at : Int32} {T_behind : Int32} {S_hour : Int32} {S_open : Int32} {S_places : List Int32} {S1_hour : Int32} {S1_open : Int32} {S1_places : List Int32} {K_lines : List Int32} {K_lineCount : Int32} {K_wishes : List Int32} {K_wishCount : Int32} {K_sights : List Int32} {K_sightCount : Int32} {R_shown : List Int32} {R_length : Int32} {R_readers : Int32} {R_begins : List Int32} {R_lengths : List Int32} {R_sentences : Int32} {R_order : List Int32} {R_able : Int32} {R_standing : List Int32} {R_lovers : List Int32} {R_lowest : List Int32} {C_ways : List Int32} {C_rows : List Int32} {C_shallower : List Int32} {C_length : Int32} {C_goal : Int32} {W_row : List Int32} {W_walkers : Int32} {W_names : Int32} {W_wanted : List Int32} {W_shown : List Int32} {W_places : List Int32} {W_rest : List Int32} {W_spent : List Int32} {W_tried : List Int32} {U_undoRows : List Int64} {U_markScenes : List Int64} {U_marksLaid : List Int32} {U_undoCount : Int32} {U_undoEnd : Int32} {q_sortNames : List Int64} {q_sortCount : Int32} {q_colourNames : List Int64} {q_colourSorts : List Int32} {q_colourCount : Int32} {q_ruleMakes : List Int32} {q_ruleFirsts : List Int32} {q_ruleSeconds : List Int32} {q_ruleCount : Int32} {q_saysSort : Int32} {q_walkerNames : List Int64} {q_kinds : List Int32} {q_walkerColours : List Int32} {q_starts : List Int32} {q_stepRows : List Int32} {q_stepCounts : List Int32} {q_walkerCount : Int32} {q_gusts : List Int32} {q_gustCount : Int32} {q_parts : List Int32} {q_count : Int32} {q_stack : List Int32} {q_height : Int32} {q1_sortNames : List Int64} {q1_sortCount : Int32} {q1_colourNames : List Int64} {q1_colourSorts : List Int32} {q1_colourCount : Int32} {q1_ruleMakes : List Int32} {q1_ruleFirsts : List Int32} {q1_ruleSeconds : List Int32} {q1_ruleCount : Int32} {q1_saysSort : Int32} {q1_walkerNames : List Int64} {q1_kinds : List Int32} {q1_walkerColours : List Int32} {q1_starts : List Int32} {q1_stepRows : List Int32} {q1_stepCounts : List Int32} {q1_walkerCount : Int32} {q1_gusts : List Int32} {q1_gustCount : Int32} {q1_parts : List Int32} {q1_count : Int32} {q1_stack : List Int32} {q1_height : Int32} {B0_lines : List Int32} {B0_lineCount : Int32} {B0_wishes : List Int32} {B0_wishCount : Int32} {B0_sights : List Int32} {B0_sightCount : Int32} {B1_lines : List Int32} {B1_lineCount : Int32} {B1_wishes : List Int32} {B1_wishCount : Int32} {B1_sights : List Int32} {B1_sightCount : Int32} {B2_lines : List Int32} {B2_lineCount : Int32} {B2_wishes : List Int32} {B2_wishCount : Int32} {B2_sights : List Int32} {B2_sightCount : Int32} {B3_lines : List Int32} {B3_lineCount : Int32} {B3_wishes : List Int32} {B3_wishCount : Int32} {B3_sights : List Int32} {B3_sightCount : Int32}
variable {d : Nat} {Q : Option Value → mm_H → Prop}
theorem t_push {xs st : List Int32} {hh v : Int32} (hk : stk xs hh st) (hl : st.length < 32) (hq : ∀ ys g, stk ys g (v :: st) → Q none (px_h z E M (px_l sw c2 w2 T D S S1 K R C W U (q_sortNames, q_sortCount, q_colourNames, q_colourSorts, q_colourCount, q_ruleMakes, q_ruleFirsts, q_ruleSeconds, q_ruleCount, q_saysSort, q_walkerNames, q_kinds, q_walkerColours, q_starts, q_stepRows, q_stepCounts, q_walkerCount, q_gusts, q_gustCount, q_parts, q_count, ys, g) q1 B0 B1 B2 B3))) : wm (mp_P fx) d 115 [.ref (px_ta sw + 14), .int v] (px_h z E M (px_l sw c2 w2 T D S S1 K R C W U (q_sortNames, q_sortCount, q_colourNames, q_colourSorts, q_colourCount, q_ruleMakes, q_ruleFirsts, q_ruleSeconds, q_ruleCount, q_saysSort, q_walkerNames, q_kinds, q_walkerColours, q_starts, q_stepRows, q_stepCounts, q_walkerCount, q_gusts, q_gustCount, q_parts, q_count, xs, hh) q1 B0 B1 B2 B3)) Q := by
  have h1 := hk.1
  have h3 := hk.2.2.1
  subst h3
  simp only [e115, q115_0, q115_1, q115_4, q115_5, q115_8, q115_9, q115_12, q115_13, q115_16, q115_17, q115_20, q115_21, q115_22, q115_23, q115_24, q115_27, q115_28, q115_29, q115_32, xc_q, xg_q_0, xg_q_1, xs_q_1, xg_q_2, xg_q_3, xg_q_4, xs_q_4, xg_q_5, xg_q_6, xg_q_7, xg_q_8, xs_q_8, xg_q_9, xs_q_9, xg_q_10, xg_q_11, xg_q_12, xg_q_13, xg_q_14, xg_q_15, xg_q_16, xs_q_16, xg_q_17, xg_q_18, xs_q_18, xg_q_19, xa_q_sortNames, xb_q_sortNames, xn_q_sortNames, xa_q_colourNames, xb_q_colourNames, xn_q_colourNames, xa_q_colourSorts, xb_q_colourSorts, xn_q_colourSorts, xa_q_ruleMakes, xb_q_ruleMakes, xn_q_ruleMakes, xa_q_ruleFirsts, xb_q_ruleFirsts, xn_q_ruleFirsts, xa_q_ruleSeconds, xb_q_ruleSeconds, xn_q_ruleSeconds, xa_q_walkerNames, xb_q_walkerNames, xn_q_walkerNames, xa_q_kinds, xb_q_kinds, xn_q_kinds, xa_q_walkerColours, xb_q_walkerColours, xn_q_walkerColours, xa_q_starts, xb_q_starts, xn_q_starts, xa_q_stepRows, xb_q_stepRows, xn_q_stepRows, xa_q_stepCounts, xb_q_stepCounts, xn_q_stepCounts, xa_q_gusts, xb_q_gusts, xn_q_gusts, xc_ql, xg_ql_0, xg_ql_1, xs_ql_1, xg_ql_2, xg_ql_3, xs_ql_3, xa_q_parts, xb_q_parts, xn_q_parts, xa_q_stack, xb_q_stack, xn_q_stack, wx_some, wx_ref, nl_1, nI_add, h1]
  rw [if_neg (by rw [nI_leI (by omega) (by omega)]; omega), aS_n (by omega) (by omega), wx_some]
  simp only [e115, q115_0, q115_1, q115_4, q115_5, q115_8, q115_9, q115_12, q115_13, q115_16, q115_17, q115_20, q115_21, q115_22, q115_23, q115_24, q115_27, q115_28, q115_29, q115_32, xc_q, xg_q_0, xg_q_1, xs_q_1, xg_q_2, xg_q_3, xg_q_4, xs_q_4, xg_q_5, xg_q_6, xg_q_7, xg_q_8, xs_q_8, xg_q_9, xs_q_9, xg_q_10, xg_q_11, xg_q_12, xg_q_13, xg_q_14, xg_q_15, xg_q_16, xs_q_16, xg_q_17, xg_q_18, xs_q_18, xg_q_19, xa_q_sortNames, xb_q_sortNames, xn_q_sortNames, xa_q_colourNames, xb_q_colourNames, xn_q_colourNames, xa_q_colourSorts, xb_q_colourSorts, xn_q_colourSorts, xa_q_ruleMakes, xb_q_ruleMakes, xn_q_ruleMakes, xa_q_ruleFirsts, xb_q_ruleFirsts, xn_q_ruleFirsts, xa_q_ruleSeconds, xb_q_ruleSeconds, xn_q_ruleSeconds, xa_q_walkerNames, xb_q_walkerNames, xn_q_walkerNames, xa_q_kinds, xb_q_kinds, xn_q_kinds, xa_q_walkerColours, xb_q_walkerColours, xn_q_walkerColours, xa_q_starts, xb_q_starts, xn_q_starts, xa_q_stepRows, xb_q_stepRows, xn_q_stepRows, xa_q_stepCounts, xb_q_stepCounts, xn_q_stepCounts, xa_q_gusts, xb_q_gusts, xn_q_gusts, xc_ql, xg_ql_0, xg_ql_1, xs_ql_1, xg_ql_2, xg_ql_3, xs_ql_3, xa_q_parts, xb_q_parts, xn_q_parts, xa_q_stack, xb_q_stack, xn_q_stack, wx_some, wx_ref, nl_1, nI_add]
  exact hq _ _ (stk_push hk hl)
theorem t_pop {xs st : List Int32} {hh v : Int32} (hk : stk xs hh (v :: st)) (hq : ∀ g, stk xs g st → Q (some (.int v)) (px_h z E M (px_l sw c2 w2 T D S S1 K R C W U (q_sortNames, q_sortCount, q_colourNames, q_colourSorts, q_colourCount, q_ruleMakes, q_ruleFirsts, q_ruleSeconds, q_ruleCount, q_saysSort, q_walkerNames, q_kinds, q_walkerColours, q_starts, q_stepRows, q_stepCounts, q_walkerCount, q_gusts, q_gustCount, q_parts, q_count, xs, g) q1 B0 B1 B2 B3))) : wm (mp_P fx) d 116 [.ref (px_ta sw + 14)] (px_h z E M (px_l sw c2 w2 T D S S1 K R C W U (q_sortNames, q_sortCount, q_colourNames, q_colourSorts, q_colourCount, q_ruleMakes, q_ruleFirsts, q_ruleSeconds, q_ruleCount, q_saysSort, q_walkerNames, q_kinds, q_walkerColours, q_starts, q_stepRows, q_stepCounts, q_walkerCount, q_gusts, q_gustCount, q_parts, q_count, xs, hh) q1 B0 B1 B2 B3)) Q := by
  have h1 := hk.1
  have h2 := hk.2.1
  have h3 := hk.2.2.1
  obtain ⟨h4, h5⟩ := stk_pop hk
  rw [List.length_cons] at h2 h3
  subst h3
  simp only [e116, q116_0, q116_1, q116_4, q116_5, q116_8, q116_9, q116_10, q116_11, q116_12, q116_15, q116_16, q116_17, q116_20, q116_21, q116_24, q116_25, q116_28, q116_29, xc_q, xg_q_0, xg_q_1, xs_q_1, xg_q_2, xg_q_3, xg_q_4, xs_q_4, xg_q_5, xg_q_6, xg_q_7, xg_q_8, xs_q_8, xg_q_9, xs_q_9, xg_q_10, xg_q_11, xg_q_12, xg_q_13, xg_q_14, xg_q_15, xg_q_16, xs_q_16, xg_q_17, xg_q_18, xs_q_18, xg_q_19, xa_q_sortNames, xb_q_sortNames, xn_q_sortNames, xa_q_colourNames, xb_q_colourNames, xn_q_colourNames, xa_q_colourSorts, xb_q_colourSorts, xn_q_colourSorts, xa_q_ruleMakes, xb_q_ruleMakes, xn_q_ruleMakes, xa_q_ruleFirsts, xb_q_ruleFirsts, xn_q_ruleFirsts, xa_q_ruleSeconds, xb_q_ruleSeconds, xn_q_ruleSeconds, xa_q_walkerNames, xb_q_walkerNames, xn_q_walkerNames, xa_q_kinds, xb_q_kinds, xn_q_kinds, xa_q_walkerColours, xb_q_walkerColours, xn_q_walkerColours, xa_q_starts, xb_q_starts, xn_q_starts, xa_q_stepRows, xb_q_stepRows, xn_q_stepRows, xa_q_stepCounts, xb_q_stepCounts, xn_q_stepCounts, xa_q_gusts, xb_q_gusts, xn_q_gusts, xc_ql, xg_ql_0, xg_ql_1, xs_ql_1, xg_ql_2, xg_ql_3, xs_ql_3, xa_q_parts, xb_q_parts, xn_q_parts, xa_q_stack, xb_q_stack, xn_q_stack, wx_some, wx_ref, nl_1, nI_sub (show 1 ≤ st.length + 1 by omega), Nat.add_sub_cancel, aG_n h5 (show xs.length < 2 ^ 31 by omega)]
  rw [if_pos (by rw [nI_leI (by omega) (by omega)]; omega)]
  exact hq _ h4
theorem t_joined {h : mm_H} {p x y : Int32} (h1 : p < 0) (h2 : ¬ p = -1) (h3 : ¬ p = -2) (h4 : ¬ p = -3) (h5 : ¬ p = -4) (h6 : ¬ p = -5) (hq : Q (some (.int (lx_op p x y))) h) : wm (mp_P fx) d 117 [.int p, .int x, .int y] h Q := by
  simp only [e117, q117_0, q117_1]
  have ht : (mm_tsw 98 (-11) (-6) #[94, 90, 79, 68, 54, 40] p).toNat = if p = -6 then 40 else if p = -7 then 54 else if p = -8 then 68 else if p = -9 then 79 else if p = -10 then 90 else if p = -11 then 94 else 98 := by
    unfold mm_tsw
    by_cases e : p.toInt < -11 ∨ -6 < p.toInt
    · rw [if_pos e]
      have k : ∀ n : Int32, -11 ≤ n.toInt ∧ n.toInt ≤ -6 → ¬ p = n := fun n hn hp => by subst hp; omega
      rw [if_neg (k _ (by decide)), if_neg (k _ (by decide)), if_neg (k _ (by decide)), if_neg (k _ (by decide)), if_neg (k _ (by decide)), if_neg (k _ (by decide))]; rfl
    · rw [if_neg e]
      have k : ∀ n : Int32, p.toInt = n.toInt → p = n := fun n hn => Int32.toInt_inj.mp hn
      have hc : p.toInt = -11 ∨ p.toInt = -10 ∨ p.toInt = -9 ∨ p.toInt = -8 ∨ p.toInt = -7 ∨ p.toInt = -6 := by omega
      rcases hc with hc | hc | hc | hc | hc | hc
      · rw [k (-11) hc]; decide
      · rw [k (-10) hc]; decide
      · rw [k (-9) hc]; decide
      · rw [k (-8) hc]; decide
      · rw [k (-7) hc]; decide
      · rw [k (-6) hc]; decide
  rw [ht]
  unfold lx_op at hq
  by_cases e6 : p = -6
  · rw [if_pos e6] at hq ⊢
    simp only [q117_40, q117_41, q117_44, q117_45, q117_48, q117_49, q117_52, q117_53]
    by_cases a1 : x = 0
    · rw [if_neg (fun z => z.1 a1)] at hq; rw [if_pos a1]; exact hq
    · rw [if_neg a1]
      by_cases a2 : y = 0
      · rw [if_neg (fun z => z.2 a2)] at hq; rw [if_pos a2]; exact hq
      · rw [if_pos ⟨a1, a2⟩] at hq; rw [if_neg a2]; exact hq
  · rw [if_neg e6] at hq ⊢
    by_cases e7 : p = -7
    · rw [if_pos e7] at hq ⊢
      simp only [q117_54, q117_55, q117_58, q117_59, q117_62, q117_63, q117_66, q117_67]
      by_cases a1 : x = 0
      · rw [if_neg (fun z => z a1)]
        by_cases a2 : y = 0
        · rw [if_neg (fun z => z.elim (fun k => k a1) (fun k => k a2))] at hq; rw [if_pos a2]; exact hq
        · rw [if_pos (Or.inr a2)] at hq; rw [if_neg a2]; exact hq
      · rw [if_pos (Or.inl a1)] at hq; rw [if_pos a1]; exact hq
    · rw [if_neg e7] at hq ⊢
      by_cases e8 : p = -8
      · rw [if_pos e8] at hq ⊢
        simp only [q117_68, q117_69, q117_70, q117_73, q117_74, q117_77, q117_78]
        by_cases a1 : x < y
        · rw [if_pos a1] at hq; rw [if_neg (Int32.not_le.mpr a1)]; exact hq
        · rw [if_neg a1] at hq; rw [if_pos (Int32.not_lt.mp a1)]; exact hq
      · rw [if_neg e8] at hq ⊢
        by_cases e9 : p = -9
        · rw [if_pos e9] at hq ⊢
          simp only [q117_79, q117_80, q117_81, q117_84, q117_85, q117_88, q117_89]
          by_cases a1 : x = y
          · rw [if_pos a1] at hq; rw [if_neg (fun z => z a1)]; exact hq
          · rw [if_neg a1] at hq; rw [if_pos a1]; exact hq
        · rw [if_neg e9] at hq ⊢
          by_cases e10 : p = -10
          · rw [if_pos e10] at hq ⊢; simp only [q117_90, q117_91, q117_92, q117_93]; exact hq
          · rw [if_neg e10] at hq ⊢
            by_cases e11 : p = -11
            · rw [if_pos e11] at hq ⊢; simp only [q117_94, q117_95, q117_96, q117_97]; exact hq
            · rw [if_neg e11] at hq ⊢; simp only [q117_98, q117_99, q117_100, q117_101]; exact hq
theorem t_value_l {a b c f v : Int32} {n : Nat} (hn : n ≤ 1000) (hp : q_parts.length = 1000) (hc : q_count = nI n) (hq : ∀ xs g, xs.length = 32 → Q (some (.int v)) (px_h z E M (px_l sw c2 w2 T D S S1 K R C W U (q_sortNames, q_sortCount, q_colourNames, q_colourSorts, q_colourCount, q_ruleMakes, q_ruleFirsts, q_ruleSeconds, q_ruleCount, q_saysSort, q_walkerNames, q_kinds, q_walkerColours, q_starts, q_stepRows, q_stepCounts, q_walkerCount, q_gusts, q_gustCount, q_parts, q_count, xs, g) q1 B0 B1 B2 B3))) :
    ∀ (k i : Nat) (l6 l7 : Option Value) (xs st : List Int32) (hh : Int32), i + k = n → stk xs hh st → lx_run a b c f ((q_parts.take n).drop i) st = some [v] → ww (mp_P fx) (d + 1) 114 18 [some (.ref (px_ta sw + 14)), some (.int a), some (.int b), some (.int c), some (.int f), some (.int (nI i)), l6, l7] [] (px_h z E M (px_l sw c2 w2 T D S S1 K R C W U (q_sortNames, q_sortCount, q_colourNames, q_colourSorts, q_colourCount, q_ruleMakes, q_ruleFirsts, q_ruleSeconds, q_ruleCount, q_saysSort, q_walkerNames, q_kinds, q_walkerColours, q_starts, q_stepRows, q_stepCounts, q_walkerCount, q_gusts, q_gustCount, q_parts, q_count, xs, hh) q1 B0 B1 B2 B3)) Q := by
  subst hc
  intro k
  induction k with
  | zero =>
    intro i l6 l7 xs st hh hi hk hr
    rw [List.drop_of_length_le (by rw [List.length_take]; omega)] at hr
    cases hr
    rw [q114_18]
    simp only [e114, q114_0, q114_1, q114_4, q114_7, q114_9, q114_10, q114_11, q114_12, q114_15, q114_16i, q114_20, q114_21, q114_24, q114_27, q114_28, q114_31, q114_33, q114_34i, q114_36, q114_38, q114_39, q114_42, q114_43, q114_44, q114_47, q114_50, q114_52, q114_54, q114_57, q114_58, q114_59, q114_62, q114_65, q114_67, q114_69, q114_72, q114_73, q114_74, q114_77, q114_80, q114_82, q114_84, q114_87, q114_88, q114_90, q114_93, q114_96, q114_98, q114_100, q114_103, q114_104, q114_105, q114_108, q114_111, q114_112, q114_115, q114_116, q114_119, q114_122, q114_124, q114_127, q114_128, q114_131i, q114_133, q114_134, q114_136, q114_137, q114_140, q114_142, q114_145, q114_148, q114_151, q114_152, q114_154, q114_157i, q114_160, q114_163, q114_164, q114_167, xc_q, xg_q_0, xg_q_1, xs_q_1, xg_q_2, xg_q_3, xg_q_4, xs_q_4, xg_q_5, xg_q_6, xg_q_7, xg_q_8, xs_q_8, xg_q_9, xs_q_9, xg_q_10, xg_q_11, xg_q_12, xg_q_13, xg_q_14, xg_q_15, xg_q_16, xs_q_16, xg_q_17, xg_q_18, xs_q_18, xg_q_19, xa_q_sortNames, xb_q_sortNames, xn_q_sortNames, xa_q_colourNames, xb_q_colourNames, xn_q_colourNames, xa_q_colourSorts, xb_q_colourSorts, xn_q_colourSorts, xa_q_ruleMakes, xb_q_ruleMakes, xn_q_ruleMakes, xa_q_ruleFirsts, xb_q_ruleFirsts, xn_q_ruleFirsts, xa_q_ruleSeconds, xb_q_ruleSeconds, xn_q_ruleSeconds, xa_q_walkerNames, xb_q_walkerNames, xn_q_walkerNames, xa_q_kinds, xb_q_kinds, xn_q_kinds, xa_q_walkerColours, xb_q_walkerColours, xn_q_walkerColours, xa_q_starts, xb_q_starts, xn_q_starts, xa_q_stepRows, xb_q_stepRows, xn_q_stepRows, xa_q_stepCounts, xb_q_stepCounts, xn_q_stepCounts, xa_q_gusts, xb_q_gusts, xn_q_gusts, xc_ql, xg_ql_0, xg_ql_1, xs_ql_1, xg_ql_2, xg_ql_3, xs_ql_3, xa_q_parts, xb_q_parts, xn_q_parts, xa_q_stack, xb_q_stack, xn_q_stack, wx_some, wx_ref]
    rw [if_pos (by rw [nI_leI (by omega) (by omega)]; omega)]
    apply t_pop hk
    intro g hg
    simp only [sl_i, e114, q114_0, q114_1, q114_4, q114_7, q114_9, q114_10, q114_11, q114_12, q114_15, q114_16i, q114_20, q114_21, q114_24, q114_27, q114_28, q114_31, q114_33, q114_34i, q114_36, q114_38, q114_39, q114_42, q114_43, q114_44, q114_47, q114_50, q114_52, q114_54, q114_57, q114_58, q114_59, q114_62, q114_65, q114_67, q114_69, q114_72, q114_73, q114_74, q114_77, q114_80, q114_82, q114_84, q114_87, q114_88, q114_90, q114_93, q114_96, q114_98, q114_100, q114_103, q114_104, q114_105, q114_108, q114_111, q114_112, q114_115, q114_116, q114_119, q114_122, q114_124, q114_127, q114_128, q114_131i, q114_133, q114_134, q114_136, q114_137, q114_140, q114_142, q114_145, q114_148, q114_151, q114_152, q114_154, q114_157i, q114_160, q114_163, q114_164, q114_167]
    exact hq _ _ hg.1
  | succ k ih =>
    intro i l6 l7 xs st hh hi hk hr
    have hil : i < (q_parts.take n).length := by rw [List.length_take]; omega
    rw [List.drop_eq_getElem_cons hil, List.getElem_take] at hr
    have hg : q_parts[i]? = some (q_parts[i]'(by omega)) := List.getElem?_eq_getElem (by omega)
    generalize q_parts[i]'(by omega) = p at hr hg
    rw [lx_run] at hr
    rw [q114_18]
    simp only [q114_20, q114_21, q114_24, q114_27, q114_28, q114_31, q114_33, q114_34i, xc_q, xg_q_0, xg_q_1, xs_q_1, xg_q_2, xg_q_3, xg_q_4, xs_q_4, xg_q_5, xg_q_6, xg_q_7, xg_q_8, xs_q_8, xg_q_9, xs_q_9, xg_q_10, xg_q_11, xg_q_12, xg_q_13, xg_q_14, xg_q_15, xg_q_16, xs_q_16, xg_q_17, xg_q_18, xs_q_18, xg_q_19, xa_q_sortNames, xb_q_sortNames, xn_q_sortNames, xa_q_colourNames, xb_q_colourNames, xn_q_colourNames, xa_q_colourSorts, xb_q_colourSorts, xn_q_colourSorts, xa_q_ruleMakes, xb_q_ruleMakes, xn_q_ruleMakes, xa_q_ruleFirsts, xb_q_ruleFirsts, xn_q_ruleFirsts, xa_q_ruleSeconds, xb_q_ruleSeconds, xn_q_ruleSeconds, xa_q_walkerNames, xb_q_walkerNames, xn_q_walkerNames, xa_q_kinds, xb_q_kinds, xn_q_kinds, xa_q_walkerColours, xb_q_walkerColours, xn_q_walkerColours, xa_q_starts, xb_q_starts, xn_q_starts, xa_q_stepRows, xb_q_stepRows, xn_q_stepRows, xa_q_stepCounts, xb_q_stepCounts, xn_q_stepCounts, xa_q_gusts, xb_q_gusts, xn_q_gusts, xc_ql, xg_ql_0, xg_ql_1, xs_ql_1, xg_ql_2, xg_ql_3, xs_ql_3, xa_q_parts, xb_q_parts, xn_q_parts, xa_q_stack, xb_q_stack, xn_q_stack, wx_some, wx_ref, aG_n hg (show q_parts.length < 2 ^ 31 by omega), isl_i, isl_r, isl_n]
    rw [if_neg (by rw [nI_leI (by omega) (by omega)]; omega)]
    have hgo : ∀ (l7 : Option Value) (ys st' : List Int32) (g : Int32), stk ys g st' → lx_run a b c f ((q_parts.take n).drop (i + 1)) st' = some [v] → ww (mp_P fx) (d + 1) 114 157 [some (.ref (px_ta sw + 14)), some (.int a), some (.int b), some (.int c), some (.int f), some (.int (nI i)), some (.int p), l7] [] (px_h z E M (px_l sw c2 w2 T D S S1 K R C W U (q_sortNames, q_sortCount, q_colourNames, q_colourSorts, q_colourCount, q_ruleMakes, q_ruleFirsts, q_ruleSeconds, q_ruleCount, q_saysSort, q_walkerNames, q_kinds, q_walkerColours, q_starts, q_stepRows, q_stepCounts, q_walkerCount, q_gusts, q_gustCount, q_parts, nI n, ys, g) q1 B0 B1 B2 B3)) Q := by
      intro l7 ys st' g hs he
      simp only [q114_157i, q114_160, isl_i, nl_1, nI_add]
      exact ih (i + 1) _ _ ys st' g (by omega) hs he
    simp only [q114_36, q114_38, q114_39, q114_42, q114_43, q114_44, q114_47, q114_50, q114_52, q114_54, q114_57, q114_58, q114_59, q114_62, q114_65, q114_67, q114_69, q114_72, q114_73, q114_74, q114_77, q114_80, q114_82, q114_84, q114_87, q114_88, q114_90, q114_93, q114_96, q114_98, q114_100, q114_103, q114_104, q114_105, q114_108, q114_111, q114_112, q114_115, q114_116, q114_119, q114_122, q114_124, q114_127, q114_128, q114_131i, q114_133, q114_134, q114_136, q114_137, q114_140, q114_142, q114_145, q114_148, q114_151, q114_152, q114_154, xc_q, xg_q_0, xg_q_1, xs_q_1, xg_q_2, xg_q_3, xg_q_4, xs_q_4, xg_q_5, xg_q_6, xg_q_7, xg_q_8, xs_q_8, xg_q_9, xs_q_9, xg_q_10, xg_q_11, xg_q_12, xg_q_13, xg_q_14, xg_q_15, xg_q_16, xs_q_16, xg_q_17, xg_q_18, xs_q_18, xg_q_19, xa_q_sortNames, xb_q_sortNames, xn_q_sortNames, xa_q_colourNames, xb_q_colourNames, xn_q_colourNames, xa_q_colourSorts, xb_q_colourSorts, xn_q_colourSorts, xa_q_ruleMakes, xb_q_ruleMakes, xn_q_ruleMakes, xa_q_ruleFirsts, xb_q_ruleFirsts, xn_q_ruleFirsts, xa_q_ruleSeconds, xb_q_ruleSeconds, xn_q_ruleSeconds, xa_q_walkerNames, xb_q_walkerNames, xn_q_walkerNames, xa_q_kinds, xb_q_kinds, xn_q_kinds, xa_q_walkerColours, xb_q_walkerColours, xn_q_walkerColours, xa_q_starts, xb_q_starts, xn_q_starts, xa_q_stepRows, xb_q_stepRows, xn_q_stepRows, xa_q_stepCounts, xb_q_stepCounts, xn_q_stepCounts, xa_q_gusts, xb_q_gusts, xn_q_gusts, xc_ql, xg_ql_0, xg_ql_1, xs_ql_1, xg_ql_2, xg_ql_3, xs_ql_3, xa_q_parts, xb_q_parts, xn_q_parts, xa_q_stack, xb_q_stack, xn_q_stack, isl_i, isl_r, isl_n]
    split at hr
    · cases hr
    · rename_i st' he
      unfold lx_1 at he
      by_cases e1 : p = -1
      · rw [if_pos e1] at he; unfold lx_p at he; split at he
        · rename_i hlt; cases he
          rw [if_neg (fun z => z e1)]
          apply t_push hk hlt
          intro ys g hs
          simp only [sl_n, q114_36, q114_38, q114_39, q114_42, q114_43, q114_44, q114_47, q114_50, q114_52, q114_54, q114_57, q114_58, q114_59, q114_62, q114_65, q114_67, q114_69, q114_72, q114_73, q114_74, q114_77, q114_80, q114_82, q114_84, q114_87, q114_88, q114_90, q114_93, q114_96, q114_98, q114_100, q114_103, q114_104, q114_105, q114_108, q114_111, q114_112, q114_115, q114_116, q114_119, q114_122, q114_124, q114_127, q114_128, q114_131i, q114_133, q114_134, q114_136, q114_137, q114_140, q114_142, q114_145, q114_148, q114_151, q114_152, q114_154]
          exact hgo _ _ _ _ hs hr
        · cases he
      rw [if_neg e1] at he; rw [if_pos e1]
      by_cases e2 : p = -2
      · rw [if_pos e2] at he; unfold lx_p at he; split at he
        · rename_i hlt; cases he
          rw [if_neg (fun z => z e2)]
          apply t_push hk hlt
          intro ys g hs
          simp only [sl_n, q114_36, q114_38, q114_39, q114_42, q114_43, q114_44, q114_47, q114_50, q114_52, q114_54, q114_57, q114_58, q114_59, q114_62, q114_65, q114_67, q114_69, q114_72, q114_73, q114_74, q114_77, q114_80, q114_82, q114_84, q114_87, q114_88, q114_90, q114_93, q114_96, q114_98, q114_100, q114_103, q114_104, q114_105, q114_108, q114_111, q114_112, q114_115, q114_116, q114_119, q114_122, q114_124, q114_127, q114_128, q114_131i, q114_133, q114_134, q114_136, q114_137, q114_140, q114_142, q114_145, q114_148, q114_151, q114_152, q114_154]
          exact hgo _ _ _ _ hs hr
        · cases he
      rw [if_neg e2] at he; rw [if_pos e2]
      by_cases e3 : p = -3
      · rw [if_pos e3] at he; unfold lx_p at he; split at he
        · rename_i hlt; cases he
          rw [if_neg (fun z => z e3)]
          apply t_push hk hlt
          intro ys g hs
          simp only [sl_n, q114_36, q114_38, q114_39, q114_42, q114_43, q114_44, q114_47, q114_50, q114_52, q114_54, q114_57, q114_58, q114_59, q114_62, q114_65, q114_67, q114_69, q114_72, q114_73, q114_74, q114_77, q114_80, q114_82, q114_84, q114_87, q114_88, q114_90, q114_93, q114_96, q114_98, q114_100, q114_103, q114_104, q114_105, q114_108, q114_111, q114_112, q114_115, q114_116, q114_119, q114_122, q114_124, q114_127, q114_128, q114_131i, q114_133, q114_134, q114_136, q114_137, q114_140, q114_142, q114_145, q114_148, q114_151, q114_152, q114_154]
          exact hgo _ _ _ _ hs hr
        · cases he
      rw [if_neg e3] at he; rw [if_pos e3]
      by_cases e4 : p = -4
      · rw [if_pos e4] at he; unfold lx_p at he; split at he
        · rename_i hlt; cases he
          rw [if_neg (fun z => z e4)]
          apply t_push hk hlt
          intro ys g hs
          simp only [sl_n, q114_36, q114_38, q114_39, q114_42, q114_43, q114_44, q114_47, q114_50, q114_52, q114_54, q114_57, q114_58, q114_59, q114_62, q114_65, q114_67, q114_69, q114_72, q114_73, q114_74, q114_77, q114_80, q114_82, q114_84, q114_87, q114_88, q114_90, q114_93, q114_96, q114_98, q114_100, q114_103, q114_104, q114_105, q114_108, q114_111, q114_112, q114_115, q114_116, q114_119, q114_122, q114_124, q114_127, q114_128, q114_131i, q114_133, q114_134, q114_136, q114_137, q114_140, q114_142, q114_145, q114_148, q114_151, q114_152, q114_154]
          exact hgo _ _ _ _ hs hr
        · cases he
      rw [if_neg e4] at he; rw [if_pos e4]
      by_cases e5 : p = -5
      · rw [if_pos e5] at he; rw [if_neg (fun z => z e5)]
        cases st with
        | nil => cases he
        | cons x r =>
          cases he
          apply t_pop hk
          intro g hg
          have hlt : r.length < 32 := by have := hk.2.1; rw [List.length_cons] at this; omega
          simp only [sl_i, q114_36, q114_38, q114_39, q114_42, q114_43, q114_44, q114_47, q114_50, q114_52, q114_54, q114_57, q114_58, q114_59, q114_62, q114_65, q114_67, q114_69, q114_72, q114_73, q114_74, q114_77, q114_80, q114_82, q114_84, q114_87, q114_88, q114_90, q114_93, q114_96, q114_98, q114_100, q114_103, q114_104, q114_105, q114_108, q114_111, q114_112, q114_115, q114_116, q114_119, q114_122, q114_124, q114_127, q114_128, q114_131i, q114_133, q114_134, q114_136, q114_137, q114_140, q114_142, q114_145, q114_148, q114_151, q114_152, q114_154, xc_q, xg_q_0, xg_q_1, xs_q_1, xg_q_2, xg_q_3, xg_q_4, xs_q_4, xg_q_5, xg_q_6, xg_q_7, xg_q_8, xs_q_8, xg_q_9, xs_q_9, xg_q_10, xg_q_11, xg_q_12, xg_q_13, xg_q_14, xg_q_15, xg_q_16, xs_q_16, xg_q_17, xg_q_18, xs_q_18, xg_q_19, xa_q_sortNames, xb_q_sortNames, xn_q_sortNames, xa_q_colourNames, xb_q_colourNames, xn_q_colourNames, xa_q_colourSorts, xb_q_colourSorts, xn_q_colourSorts, xa_q_ruleMakes, xb_q_ruleMakes, xn_q_ruleMakes, xa_q_ruleFirsts, xb_q_ruleFirsts, xn_q_ruleFirsts, xa_q_ruleSeconds, xb_q_ruleSeconds, xn_q_ruleSeconds, xa_q_walkerNames, xb_q_walkerNames, xn_q_walkerNames, xa_q_kinds, xb_q_kinds, xn_q_kinds, xa_q_walkerColours, xb_q_walkerColours, xn_q_walkerColours, xa_q_starts, xb_q_starts, xn_q_starts, xa_q_stepRows, xb_q_stepRows, xn_q_stepRows, xa_q_stepCounts, xb_q_stepCounts, xn_q_stepCounts, xa_q_gusts, xb_q_gusts, xn_q_gusts, xc_ql, xg_ql_0, xg_ql_1, xs_ql_1, xg_ql_2, xg_ql_3, xs_ql_3, xa_q_parts, xb_q_parts, xn_q_parts, xa_q_stack, xb_q_stack, xn_q_stack]
          by_cases hx : x = 0
          · rw [if_neg (fun z => z hx)]
            rw [if_pos hx] at hr
            apply t_push hg hlt
            intro ys g2 hs
            simp only [sl_n, q114_36, q114_38, q114_39, q114_42, q114_43, q114_44, q114_47, q114_50, q114_52, q114_54, q114_57, q114_58, q114_59, q114_62, q114_65, q114_67, q114_69, q114_72, q114_73, q114_74, q114_77, q114_80, q114_82, q114_84, q114_87, q114_88, q114_90, q114_93, q114_96, q114_98, q114_100, q114_103, q114_104, q114_105, q114_108, q114_111, q114_112, q114_115, q114_116, q114_119, q114_122, q114_124, q114_127, q114_128, q114_131i, q114_133, q114_134, q114_136, q114_137, q114_140, q114_142, q114_145, q114_148, q114_151, q114_152, q114_154]
            exact hgo _ _ _ _ hs hr
          · rw [if_pos hx]
            rw [if_neg hx] at hr
            apply t_push hg hlt
            intro ys g2 hs
            simp only [sl_n, q114_36, q114_38, q114_39, q114_42, q114_43, q114_44, q114_47, q114_50, q114_52, q114_54, q114_57, q114_58, q114_59, q114_62, q114_65, q114_67, q114_69, q114_72, q114_73, q114_74, q114_77, q114_80, q114_82, q114_84, q114_87, q114_88, q114_90, q114_93, q114_96, q114_98, q114_100, q114_103, q114_104, q114_105, q114_108, q114_111, q114_112, q114_115, q114_116, q114_119, q114_122, q114_124, q114_127, q114_128, q114_131i, q114_133, q114_134, q114_136, q114_137, q114_140, q114_142, q114_145, q114_148, q114_151, q114_152, q114_154]
            exact hgo _ _ _ _ hs hr
      rw [if_neg e5] at he; rw [if_pos e5]
      by_cases e6 : p < 0
      · rw [if_pos e6] at he; rw [if_neg (Int32.not_le.mpr e6)]
        match st, hk, he with
        | [], _, he => cases he
        | [_], _, he => cases he
        | y :: x :: r, hk, he =>
          cases he
          have hlt : r.length < 32 := by have := hk.2.1; rw [List.length_cons, List.length_cons] at this; omega
          apply t_pop hk
          intro g hg
          simp only [sl_i, q114_36, q114_38, q114_39, q114_42, q114_43, q114_44, q114_47, q114_50, q114_52, q114_54, q114_57, q114_58, q114_59, q114_62, q114_65, q114_67, q114_69, q114_72, q114_73, q114_74, q114_77, q114_80, q114_82, q114_84, q114_87, q114_88, q114_90, q114_93, q114_96, q114_98, q114_100, q114_103, q114_104, q114_105, q114_108, q114_111, q114_112, q114_115, q114_116, q114_119, q114_122, q114_124, q114_127, q114_128, q114_131i, q114_133, q114_134, q114_136, q114_137, q114_140, q114_142, q114_145, q114_148, q114_151, q114_152, q114_154, xc_q, xg_q_0, xg_q_1, xs_q_1, xg_q_2, xg_q_3, xg_q_4, xs_q_4, xg_q_5, xg_q_6, xg_q_7, xg_q_8, xs_q_8, xg_q_9, xs_q_9, xg_q_10, xg_q_11, xg_q_12, xg_q_13, xg_q_14, xg_q_15, xg_q_16, xs_q_16, xg_q_17, xg_q_18, xs_q_18, xg_q_19, xa_q_sortNames, xb_q_sortNames, xn_q_sortNames, xa_q_colourNames, xb_q_colourNames, xn_q_colourNames, xa_q_colourSorts, xb_q_colourSorts, xn_q_colourSorts, xa_q_ruleMakes, xb_q_ruleMakes, xn_q_ruleMakes, xa_q_ruleFirsts, xb_q_ruleFirsts, xn_q_ruleFirsts, xa_q_ruleSeconds, xb_q_ruleSeconds, xn_q_ruleSeconds, xa_q_walkerNames, xb_q_walkerNames, xn_q_walkerNames, xa_q_kinds, xb_q_kinds, xn_q_kinds, xa_q_walkerColours, xb_q_walkerColours, xn_q_walkerColours, xa_q_starts, xb_q_starts, xn_q_starts, xa_q_stepRows, xb_q_stepRows, xn_q_stepRows, xa_q_stepCounts, xb_q_stepCounts, xn_q_stepCounts, xa_q_gusts, xb_q_gusts, xn_q_gusts, xc_ql, xg_ql_0, xg_ql_1, xs_ql_1, xg_ql_2, xg_ql_3, xs_ql_3, xa_q_parts, xb_q_parts, xn_q_parts, xa_q_stack, xb_q_stack, xn_q_stack, isl_i, isl_r, isl_n]
          apply t_pop hg
          intro g2 hg2
          simp only [sl_i, q114_36, q114_38, q114_39, q114_42, q114_43, q114_44, q114_47, q114_50, q114_52, q114_54, q114_57, q114_58, q114_59, q114_62, q114_65, q114_67, q114_69, q114_72, q114_73, q114_74, q114_77, q114_80, q114_82, q114_84, q114_87, q114_88, q114_90, q114_93, q114_96, q114_98, q114_100, q114_103, q114_104, q114_105, q114_108, q114_111, q114_112, q114_115, q114_116, q114_119, q114_122, q114_124, q114_127, q114_128, q114_131i, q114_133, q114_134, q114_136, q114_137, q114_140, q114_142, q114_145, q114_148, q114_151, q114_152, q114_154, xc_q, xg_q_0, xg_q_1, xs_q_1, xg_q_2, xg_q_3, xg_q_4, xs_q_4, xg_q_5, xg_q_6, xg_q_7, xg_q_8, xs_q_8, xg_q_9, xs_q_9, xg_q_10, xg_q_11, xg_q_12, xg_q_13, xg_q_14, xg_q_15, xg_q_16, xs_q_16, xg_q_17, xg_q_18, xs_q_18, xg_q_19, xa_q_sortNames, xb_q_sortNames, xn_q_sortNames, xa_q_colourNames, xb_q_colourNames, xn_q_colourNames, xa_q_colourSorts, xb_q_colourSorts, xn_q_colourSorts, xa_q_ruleMakes, xb_q_ruleMakes, xn_q_ruleMakes, xa_q_ruleFirsts, xb_q_ruleFirsts, xn_q_ruleFirsts, xa_q_ruleSeconds, xb_q_ruleSeconds, xn_q_ruleSeconds, xa_q_walkerNames, xb_q_walkerNames, xn_q_walkerNames, xa_q_kinds, xb_q_kinds, xn_q_kinds, xa_q_walkerColours, xb_q_walkerColours, xn_q_walkerColours, xa_q_starts, xb_q_starts, xn_q_starts, xa_q_stepRows, xb_q_stepRows, xn_q_stepRows, xa_q_stepCounts, xb_q_stepCounts, xn_q_stepCounts, xa_q_gusts, xb_q_gusts, xn_q_gusts, xc_ql, xg_ql_0, xg_ql_1, xs_ql_1, xg_ql_2, xg_ql_3, xs_ql_3, xa_q_parts, xb_q_parts, xn_q_parts, xa_q_stack, xb_q_stack, xn_q_stack, isl_i, isl_r, isl_n]
          apply t_joined e6 e1 e2 e3 e4 e5
          simp only [sl_i, q114_36, q114_38, q114_39, q114_42, q114_43, q114_44, q114_47, q114_50, q114_52, q114_54, q114_57, q114_58, q114_59, q114_62, q114_65, q114_67, q114_69, q114_72, q114_73, q114_74, q114_77, q114_80, q114_82, q114_84, q114_87, q114_88, q114_90, q114_93, q114_96, q114_98, q114_100, q114_103, q114_104, q114_105, q114_108, q114_111, q114_112, q114_115, q114_116, q114_119, q114_122, q114_124, q114_127, q114_128, q114_131i, q114_133, q114_134, q114_136, q114_137, q114_140, q114_142, q114_145, q114_148, q114_151, q114_152, q114_154, xc_q, xg_q_0, xg_q_1, xs_q_1, xg_q_2, xg_q_3, xg_q_4, xs_q_4, xg_q_5, xg_q_6, xg_q_7, xg_q_8, xs_q_8, xg_q_9, xs_q_9, xg_q_10, xg_q_11, xg_q_12, xg_q_13, xg_q_14, xg_q_15, xg_q_16, xs_q_16, xg_q_17, xg_q_18, xs_q_18, xg_q_19, xa_q_sortNames, xb_q_sortNames, xn_q_sortNames, xa_q_colourNames, xb_q_colourNames, xn_q_colourNames, xa_q_colourSorts, xb_q_colourSorts, xn_q_colourSorts, xa_q_ruleMakes, xb_q_ruleMakes, xn_q_ruleMakes, xa_q_ruleFirsts, xb_q_ruleFirsts, xn_q_ruleFirsts, xa_q_ruleSeconds, xb_q_ruleSeconds, xn_q_ruleSeconds, xa_q_walkerNames, xb_q_walkerNames, xn_q_walkerNames, xa_q_kinds, xb_q_kinds, xn_q_kinds, xa_q_walkerColours, xb_q_walkerColours, xn_q_walkerColours, xa_q_starts, xb_q_starts, xn_q_starts, xa_q_stepRows, xb_q_stepRows, xn_q_stepRows, xa_q_stepCounts, xb_q_stepCounts, xn_q_stepCounts, xa_q_gusts, xb_q_gusts, xn_q_gusts, xc_ql, xg_ql_0, xg_ql_1, xs_ql_1, xg_ql_2, xg_ql_3, xs_ql_3, xa_q_parts, xb_q_parts, xn_q_parts, xa_q_stack, xb_q_stack, xn_q_stack, isl_i, isl_r, isl_n]
          apply t_push hg2 hlt
          intro ys g3 hs
          simp only [sl_n, q114_36, q114_38, q114_39, q114_42, q114_43, q114_44, q114_47, q114_50, q114_52, q114_54, q114_57, q114_58, q114_59, q114_62, q114_65, q114_67, q114_69, q114_72, q114_73, q114_74, q114_77, q114_80, q114_82, q114_84, q114_87, q114_88, q114_90, q114_93, q114_96, q114_98, q114_100, q114_103, q114_104, q114_105, q114_108, q114_111, q114_112, q114_115, q114_116, q114_119, q114_122, q114_124, q114_127, q114_128, q114_131i, q114_133, q114_134, q114_136, q114_137, q114_140, q114_142, q114_145, q114_148, q114_151, q114_152, q114_154]
          exact hgo _ _ _ _ hs hr
      · rw [if_neg e6] at he; rw [if_pos (Int32.not_lt.mp e6)]
        unfold lx_p at he; split at he
        · rename_i hlt; cases he
          apply t_push hk hlt
          intro ys g hs
          simp only [sl_n, q114_36, q114_38, q114_39, q114_42, q114_43, q114_44, q114_47, q114_50, q114_52, q114_54, q114_57, q114_58, q114_59, q114_62, q114_65, q114_67, q114_69, q114_72, q114_73, q114_74, q114_77, q114_80, q114_82, q114_84, q114_87, q114_88, q114_90, q114_93, q114_96, q114_98, q114_100, q114_103, q114_104, q114_105, q114_108, q114_111, q114_112, q114_115, q114_116, q114_119, q114_122, q114_124, q114_127, q114_128, q114_131i, q114_133, q114_134, q114_136, q114_137, q114_140, q114_142, q114_145, q114_148, q114_151, q114_152, q114_154]
          exact hgo _ _ _ _ hs hr
        · cases he
/-- the law's value -/
theorem t_value {a b c f v : Int32} {n : Nat} (hn : n ≤ 1000) (hp : q_parts.length = 1000) (hk : q_stack.length = 32) (hc : q_count = nI n) (hv : if n = 0 then v = f else lx_run a b c f (q_parts.take n) [] = some [v]) (hq : ∀ xs g, xs.length = 32 → Q (some (.int v)) (px_h z E M (px_l sw c2 w2 T D S S1 K R C W U (q_sortNames, q_sortCount, q_colourNames, q_colourSorts, q_colourCount, q_ruleMakes, q_ruleFirsts, q_ruleSeconds, q_ruleCount, q_saysSort, q_walkerNames, q_kinds, q_walkerColours, q_starts, q_stepRows, q_stepCounts, q_walkerCount, q_gusts, q_gustCount, q_parts, q_count, xs, g) q1 B0 B1 B2 B3))) : wm (mp_P fx) (d + 1) 114 [.ref (px_ta sw + 14), .int a, .int b, .int c, .int f] (px_h z E M (px_l sw c2 w2 T D S S1 K R C W U (q_sortNames, q_sortCount, q_colourNames, q_colourSorts, q_colourCount, q_ruleMakes, q_ruleFirsts, q_ruleSeconds, q_ruleCount, q_saysSort, q_walkerNames, q_kinds, q_walkerColours, q_starts, q_stepRows, q_stepCounts, q_walkerCount, q_gusts, q_gustCount, q_parts, q_count, q_stack, q_height) q1 B0 B1 B2 B3)) Q := by
  subst hc
  simp only [e114, q114_0, q114_1, q114_4, q114_7, q114_9, q114_10, q114_11, q114_12, q114_15, q114_16i, q114_20, q114_21, q114_24, q114_27, q114_28, q114_31, q114_33, q114_34i, q114_36, q114_38, q114_39, q114_42, q114_43, q114_44, q114_47, q114_50, q114_52, q114_54, q114_57, q114_58, q114_59, q114_62, q114_65, q114_67, q114_69, q114_72, q114_73, q114_74, q114_77, q114_80, q114_82, q114_84, q114_87, q114_88, q114_90, q114_93, q114_96, q114_98, q114_100, q114_103, q114_104, q114_105, q114_108, q114_111, q114_112, q114_115, q114_116, q114_119, q114_122, q114_124, q114_127, q114_128, q114_131i, q114_133, q114_134, q114_136, q114_137, q114_140, q114_142, q114_145, q114_148, q114_151, q114_152, q114_154, q114_157i, q114_160, q114_163, q114_164, q114_167, xc_q, xg_q_0, xg_q_1, xs_q_1, xg_q_2, xg_q_3, xg_q_4, xs_q_4, xg_q_5, xg_q_6, xg_q_7, xg_q_8, xs_q_8, xg_q_9, xs_q_9, xg_q_10, xg_q_11, xg_q_12, xg_q_13, xg_q_14, xg_q_15, xg_q_16, xs_q_16, xg_q_17, xg_q_18, xs_q_18, xg_q_19, xa_q_sortNames, xb_q_sortNames, xn_q_sortNames, xa_q_colourNames, xb_q_colourNames, xn_q_colourNames, xa_q_colourSorts, xb_q_colourSorts, xn_q_colourSorts, xa_q_ruleMakes, xb_q_ruleMakes, xn_q_ruleMakes, xa_q_ruleFirsts, xb_q_ruleFirsts, xn_q_ruleFirsts, xa_q_ruleSeconds, xb_q_ruleSeconds, xn_q_ruleSeconds, xa_q_walkerNames, xb_q_walkerNames, xn_q_walkerNames, xa_q_kinds, xb_q_kinds, xn_q_kinds, xa_q_walkerColours, xb_q_walkerColours, xn_q_walkerColours, xa_q_starts, xb_q_starts, xn_q_starts, xa_q_stepRows, xb_q_stepRows, xn_q_stepRows, xa_q_stepCounts, xb_q_stepCounts, xn_q_stepCounts, xa_q_gusts, xb_q_gusts, xn_q_gusts, xc_ql, xg_ql_0, xg_ql_1, xs_ql_1, xg_ql_2, xg_ql_3, xs_ql_3, xa_q_parts, xb_q_parts, xn_q_parts, xa_q_stack, xb_q_stack, xn_q_stack, wx_some, wx_ref, isl_i, isl_r, isl_n]
  by_cases h0 : n = 0
  · rw [if_pos h0] at hv
    rw [if_neg (by rw [h0]; exact fun z => z rfl), ← hv]
    exact hq _ _ hk
  · rw [if_neg h0] at hv
    rw [if_pos (nI_ne0 (by omega) (by omega))]
    exact t_value_l hn hp rfl hq n 0 none none q_stack [] 0 (by omega) ⟨hk, Nat.zero_le _, rfl, rfl⟩ hv
end TL
