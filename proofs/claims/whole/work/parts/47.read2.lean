/-! the reading, of the class: order by places; who can be read -/
def fm (pl : Nat → Nat) (n : Nat) : List Nat := (List.range 10).flatMap (fun x => (List.range n).filter (fun i => decide (pl i = x)))
theorem fm_mem {pl : Nat → Nat} {n i : Nat} (h : i ∈ fm pl n) : i < n := by
  unfold fm at h
  rw [List.mem_flatMap] at h
  obtain ⟨x, -, h2⟩ := h
  exact List.mem_range.mp (List.mem_filter.mp h2).1
theorem fm_eq {pl : Nat → Nat} {n : Nat} {X : List Nat} (h : ∀ x ∈ X, ¬ pl n = x) : X.flatMap (fun x => (List.range (n + 1)).filter (fun i => decide (pl i = x))) = X.flatMap (fun x => (List.range n).filter (fun i => decide (pl i = x))) := by
  induction X with
  | nil => rfl
  | cons x X ih =>
    rw [List.flatMap_cons, List.flatMap_cons, ih (fun y hy => h y (List.mem_cons_of_mem _ hy)), List.range_succ, List.filter_append]
    have : [n].filter (fun i => decide (pl i = x)) = [] := by
      rw [List.filter_cons_of_neg (by rw [decide_eq_false (h x List.mem_cons_self)]; exact Bool.false_ne_true)]; rfl
    rw [this, List.append_nil]
theorem fm_split {pl : Nat → Nat} {n : Nat} (hp : pl n < 10) : ∃ A B, fm pl n = A ++ B ∧ fm pl (n + 1) = A ++ n :: B ∧ (∀ i ∈ A, pl i ≤ pl n) ∧ (∀ i ∈ B, pl n < pl i) := by
  have hr : List.range 10 = List.range (pl n) ++ (pl n :: (List.range (9 - pl n)).map (fun i => pl n + 1 + i)) := by
    have h1 : 10 = pl n + (1 + (9 - pl n)) := by omega
    rw [h1, List.range_add, List.range_add, List.map_append]
    simp only [List.range_one, List.map_cons, List.map_nil, List.map_map, Nat.add_zero, List.cons_append, List.nil_append]
    congr 2
    apply List.map_congr_left
    intro a _
    show pl n + (1 + a) = _
    omega
  refine ⟨(List.range (pl n)).flatMap (fun x => (List.range n).filter (fun i => decide (pl i = x))) ++ (List.range n).filter (fun i => decide (pl i = pl n)), ((List.range (9 - pl n)).map (fun i => pl n + 1 + i)).flatMap (fun x => (List.range n).filter (fun i => decide (pl i = x))), ?_, ?_, ?_, ?_⟩
  · unfold fm
    rw [hr, List.flatMap_append, List.flatMap_cons, List.append_assoc]
  · unfold fm
    rw [hr, List.flatMap_append, List.flatMap_cons, fm_eq (X := List.range (pl n)) (fun x hx => by have := List.mem_range.mp hx; omega), fm_eq (X := (List.range (9 - pl n)).map (fun i => pl n + 1 + i)) (fun x hx => by
      obtain ⟨a, -, rfl⟩ := List.mem_map.mp hx
      omega), List.range_succ, List.filter_append, List.append_assoc]
    have : [n].filter (fun i => decide (pl i = pl n)) = [n] := by
      rw [List.filter_cons_of_pos (by rw [decide_eq_true rfl])]; rfl
    rw [this, List.append_assoc]; rfl
  · intro i hi
    rcases List.mem_append.mp hi with h | h
    · obtain ⟨x, h1, h2⟩ := List.mem_flatMap.mp h
      have := List.mem_range.mp h1
      have := of_decide_eq_true (List.mem_filter.mp h2).2
      omega
    · have := of_decide_eq_true (List.mem_filter.mp h).2
      omega
  · intro i hi
    obtain ⟨x, h1, h2⟩ := List.mem_flatMap.mp hi
    obtain ⟨a, -, rfl⟩ := List.mem_map.mp h1
    have := of_decide_eq_true (List.mem_filter.mp h2).2
    omega
theorem fm_len {pl : Nat → Nat} {n : Nat} (h : ∀ i, i < n → pl i < 10) : (fm pl n).length = n := by
  induction n with
  | zero => rfl
  | succ n ih =>
    obtain ⟨A, B, h1, h2, -, -⟩ := fm_split (h n (by omega))
    have := ih (fun i hi => h i (by omega))
    rw [h1, List.length_append] at this
    rw [h2, List.length_append, List.length_cons]; omega
/-- bits -/
def bmk (p : Nat → Bool) : Nat → Nat
  | 0 => 0
  | n + 1 => bmk p n ||| (if p n = true then 2 ^ n else 0)
theorem bmk_lt {p : Nat → Bool} {n : Nat} : bmk p n < 2 ^ n := by
  induction n with
  | zero => exact Nat.zero_lt_one
  | succ n ih =>
    rw [bmk]
    apply Nat.or_lt_two_pow
    · rw [Nat.pow_succ]; omega
    · split
      · rw [Nat.pow_succ]; have := Nat.two_pow_pos n; omega
      · exact Nat.two_pow_pos _
theorem bmk_bit {p : Nat → Bool} {n i : Nat} : (bmk p n).testBit i = (decide (i < n) && p i) := by
  induction n with
  | zero => rw [bmk, Nat.zero_testBit, decide_eq_false (by omega)]; rfl
  | succ n ih =>
    rw [bmk, Nat.testBit_or, ih]
    by_cases e : i = n
    · subst e
      rw [decide_eq_false (by omega), decide_eq_true (by omega), Bool.false_and, Bool.false_or, Bool.true_and]
      split
      · rename_i h; rw [Nat.testBit_two_pow_self, h]
      · rename_i h; rw [Nat.zero_testBit]; cases hp : p i with
        | false => rfl
        | true => exact absurd hp h
    · have : (if p n = true then 2 ^ n else 0).testBit i = false := by
        split
        · rw [Nat.testBit_two_pow_of_ne (fun z => e z.symm)]
        · exact Nat.zero_testBit _
      rw [this, Bool.or_false]
      by_cases h2 : i < n
      · rw [decide_eq_true h2, decide_eq_true (by omega)]
      · rw [decide_eq_false h2, decide_eq_false (by omega)]
theorem k7_or : ∀ a, a < 128 → ∀ w, w < 7 → nI a ||| ((1 : Int32) <<< (nI w &&& 31)) = nI (a ||| 2 ^ w) := by decide +kernel
theorem k7_bit : ∀ a, a < 128 → ∀ w, w < 7 → (((nI a >>> (nI w &&& 31)) &&& 1 = 1) ↔ a.testBit w = true) := by decide +kernel
theorem k7_bit0 : ∀ a, a < 128 → ∀ w, w < 7 → (nI a >>> (nI w &&& 31)) &&& 1 = nI (if a.testBit w = true then 1 else 0) := by decide +kernel
theorem p27 {n : Nat} (h : n ≤ 7) : 2 ^ n ≤ 128 := Nat.pow_le_pow_right (by omega) h
section TR2
variable {fx : List Value → mm_H → Option (List Value × mm_H)} {z : Nat} {E M : Nat → mm_C} {sw c2 w2 : Bool} {T : px_T} {D : px_D} {S : px_S} {S1 : px_S} {K : px_K} {R : px_R} {C : px_C} {W : px_W} {U : px_U} {q : px_q} {q1 : px_q} {B0 : px_K} {B1 : px_K} {B2 : px_K} {B3 : px_K} {T_signs : List Int32} {T_length : Int32} {T_fault : Int32} {T_types : List Int32} {T_starts : List Int32} {T_values : List Int64} {T_tokens : Int32} {T_at : Int32} {T_behind : Int32} {S_hour : Int32} {S_open : Int32} {S_places : List Int32} {S1_hour : Int32} {S1_open : Int32} {S1_places : List Int32} {K_lines : List Int32} {K_lineCount : Int32} {K_wishes : List Int32} {K_wishCount : Int32} {K_sights : List Int32} {K_sightCount : Int32} {R_shown : List Int32} {R_length : Int32} {R_readers : Int32} {R_begins : List Int32} {R_lengths : List Int32} {R_sentences : Int32} {R_order : List Int32} {R_able : Int32} {R_standing : List Int32} {R_lovers : List Int32} {R_lowest : List Int32} {C_ways : List Int32} {C_rows : List Int32} {C_shallower : List Int32} {C_length : Int32} {C_goal : Int32} {W_row : List Int32} {W_walkers : Int32} {W_names : Int32} {W_wanted : List Int32} {W_shown : List Int32} {W_places : List Int32} {W_rest : List Int32} {W_spent : List Int32} {W_tried : List Int32} {U_undoRows : List Int64} {U_markScenes : List Int64} {U_marksLaid : List Int32} {U_undoCount : Int32} {U_undoEnd : Int32} {q_sortNames : List Int64} {q_sortCount : Int32} {q_colourNames : List Int64} {q_colourSorts : List Int32} {q_colourCount : Int32} {q_ruleMakes : List Int32} {q_ruleFirsts : List Int32} {q_ruleSeconds : List Int32} {q_ruleCount : Int32} {q_saysSort : Int32} {q_walkerNames : List Int64} {q_kinds : List Int32} {q_walkerColours : List Int32} {q_starts : List Int32} {q_stepRows : List Int32} {q_stepCounts : List Int32} {q_walkerCount : Int32} {q_gusts : List Int32} {q_gustCount : Int32} {q_parts : List Int32} {q_count : Int32} {q_stack : List Int32} {q_height : Int32} {q1_sortNames : List Int64} {q1_sortCount : Int32} {q1_colourNames : List Int64} {q1_colourSorts : List Int32} {q1_colourCount : Int32} {q1_ruleMakes : List Int32} {q1_ruleFirsts : List Int32} {q1_ruleSeconds : List Int32} {q1_ruleCount : Int32} {q1_saysSort : Int32} {q1_walkerNames : List Int64} {q1_kinds : List Int32} {q1_walkerColours : List Int32} {q1_starts : List Int32} {q1_stepRows : List Int32} {q1_stepCounts : List Int32} {q1_walkerCount : Int32} {q1_gusts : List Int32} {q1_gustCount : Int32} {q1_parts : List Int32} {q1_count : Int32} {q1_stack : List Int32} {q1_height : Int32} {B0_lines : List Int32} {B0_lineCount : Int32} {B0_wishes : List Int32} {B0_wishCount : Int32} {B0_sights : List Int32} {B0_sightCount : Int32} {B1_lines : List Int32} {B1_lineCount : Int32} {B1_wishes : List Int32} {B1_wishCount : Int32} {B1_sights : List Int32} {B1_sightCount : Int32} {B2_lines : List Int32} {B2_lineCount : Int32} {B2_wishes : List Int32} {B2_wishCount : Int32} {B2_sights : List Int32} {B2_sightCount : Int32} {B3_lines : List Int32} {B3_lineCount : Int32} {B3_wishes : List Int32} {B3_wishCount : Int32} {B3_sights : List Int32} {B3_sightCount : Int32}
variable {d : Nat} {Q : Option Value → mm_H → Prop} {s : SQ} {c : SC}
/-- the class's law gives the square's value -/
def LWx (q : px_q) (s : SQ) : Prop := ∃ n, n ≤ 1000 ∧ q.2.2.2.2.2.2.2.2.2.2.2.2.2.2.2.2.2.2.2.2.1 = nI n ∧ ∀ a b c f : Int32, if n = 0 then k_lw s a b c f = f else lx_run a b c f ((q.2.2.2.2.2.2.2.2.2.2.2.2.2.2.2.2.2.2.2.1).take n) [] = some [k_lw s a b c f]
/-- who could be read but for the gust -/
def sp_able (s : SQ) (c : SC) (w : Nat) : Bool := c.2.1.testBit w && (!(decide (k_kd s w = 2) && decide (1 < cn (lv_ s c (c.2.2 w)) (k_nW s))) && !(decide (k_lw s (nI (c.2.2 w)) (nI (cn (at_ c (c.2.2 w)) (k_nW s) - 1)) (nI c.1) (nI (if cn (at_ c (c.2.2 w)) w = 0 then 1 else 0)) = 0)))
theorem cn_0 {p : Nat → Bool} {n : Nat} : cn p n = 0 ↔ ∀ i, i < n → p i = false := by
  induction n with
  | zero => exact ⟨fun _ i hi => by omega, fun _ => rfl⟩
  | succ n ih =>
    rw [cn]
    constructor
    · intro h i hi
      cases hp : p n with
      | true => rw [hp, if_pos rfl] at h; omega
      | false =>
        rw [hp, if_neg Bool.false_ne_true] at h
        by_cases e : i = n
        · rw [e]; exact hp
        · exact ih.mp h i (by omega)
    · intro h
      rw [ih.mpr (fun i hi => h i (by omega)), h n (by omega), if_neg Bool.false_ne_true]
def q_sk (q : px_q) (xs : List Int32) (g : Int32) : px_q := (q.1, q.2.1, q.2.2.1, q.2.2.2.1, q.2.2.2.2.1, q.2.2.2.2.2.1, q.2.2.2.2.2.2.1, q.2.2.2.2.2.2.2.1, q.2.2.2.2.2.2.2.2.1, q.2.2.2.2.2.2.2.2.2.1, q.2.2.2.2.2.2.2.2.2.2.1, q.2.2.2.2.2.2.2.2.2.2.2.1, q.2.2.2.2.2.2.2.2.2.2.2.2.1, q.2.2.2.2.2.2.2.2.2.2.2.2.2.1, q.2.2.2.2.2.2.2.2.2.2.2.2.2.2.1, q.2.2.2.2.2.2.2.2.2.2.2.2.2.2.2.1, q.2.2.2.2.2.2.2.2.2.2.2.2.2.2.2.2.1, q.2.2.2.2.2.2.2.2.2.2.2.2.2.2.2.2.2.1, q.2.2.2.2.2.2.2.2.2.2.2.2.2.2.2.2.2.2.1, q.2.2.2.2.2.2.2.2.2.2.2.2.2.2.2.2.2.2.2.1, q.2.2.2.2.2.2.2.2.2.2.2.2.2.2.2.2.2.2.2.2.1, xs, g)
theorem t_isOpenS {w : Nat} (ho : k_ok s) (hc : c_ok s c) (hS : SCx s S c) (hw : w < k_nW s) (hq : Q (some (.int (if c.2.1.testBit w = true then 1 else 0))) (px_h z E M (px_l sw c2 w2 T D S S1 K R C W U q q1 B0 B1 B2 B3))) : wm (mp_P fx) d 106 [.ref 67, .int (nI w)] (px_h z E M (px_l sw c2 w2 T D S S1 K R C W U q q1 B0 B1 B2 B3)) Q := by
  have h7 := ho.1.2.2.2.1
  have h128 : c.2.1 < 128 := Nat.lt_of_lt_of_le hc.2.1 (p27 h7)
  have hb := k7_bit c.2.1 h128 w (by omega)
  simp only [e106, b106_0, b106_1, bn_0 b106_0, bn_1 b106_1, q106_0, q106_1, q106_4, q106_5, q106_6, q106_7, q106_8, q106_9, q106_12, q106_13, q106_16, q106_17, xc_S, xg_S_0, xs_S_0, xg_S_1, xs_S_1, xg_S_2, xa_S_places, xb_S_places, xn_S_places, wx_some, wx_ref, hS.2.1]
  by_cases e : c.2.1.testBit w = true
  · rw [if_pos e] at hq; rw [if_neg (fun z => z (hb.mpr e))]; exact hq
  · rw [if_neg e] at hq; rw [if_pos (fun z => e (hb.mp z))]; exact hq
theorem t_sortS (hs : SQx q s) (ho : k_ok s) (hc : c_ok s c) (hS : SCx s S c) (hR : RDl R) (hq : ∀ os : List Int32, os.length = 7 → ag os (k_nW s) (fun i => (fm c.2.2 (k_nW s)).getD i 0) → Q none (px_h z E M (px_l sw c2 w2 T D S S1 K ((R.1, R.2.1, R.2.2.1, R.2.2.2.1, R.2.2.2.2.1, R.2.2.2.2.2.1, os, R.2.2.2.2.2.2.2.1, R.2.2.2.2.2.2.2.2.1, R.2.2.2.2.2.2.2.2.2.1, R.2.2.2.2.2.2.2.2.2.2)) C W U q q1 B0 B1 B2 B3))) : wm (mp_P fx) d 112 [.ref 75, .ref (px_ta sw), .ref 67] (px_h z E M (px_l sw c2 w2 T D S S1 K R C W U q q1 B0 B1 B2 B3)) Q := by
  have hn := hs.2.1.2.2.2.1
  have hW := ho.1.2.2.2.1
  obtain ⟨e1, e2, hrg, hpl⟩ := hS
  have hpl7 : (S.2.2).length < 2 ^ 31 := by have := hrg.1; omega
  simp only [e112, q112_0, q112_1r, q112_3, q112_4, q112_7, q112_10, q112_11i, q112_15, q112_18, q112_19, q112_22, q112_23, q112_26, q112_28, q112_29, q112_30, q112_31, q112_32, q112_33, q112_36, q112_37, q112_38, q112_41, q112_42, q112_45, q112_47, q112_48, q112_51, q112_53, q112_54, q112_55, q112_56, q112_57i, q112_60, q112_63, q112_64, q112_67, q112_69, q112_70, q112_71r, q112_74, q112_77, isl_i, isl_r, isl_n]
  have key : ∀ (m w : Nat) (os : List Int32) (l4 : Option Value), w + m = k_nW s → os.length = 7 → ag os w (fun i => (fm c.2.2 w).getD i 0) → ww (mp_P fx) d 112 2 [some (.ref 75), some (.ref (px_ta sw)), some (.ref 67), some (.int (nI w)), l4] [] (px_h z E M (px_l sw c2 w2 T D S S1 K ((R.1, R.2.1, R.2.2.1, R.2.2.2.1, R.2.2.2.2.1, R.2.2.2.2.2.1, os, R.2.2.2.2.2.2.2.1, R.2.2.2.2.2.2.2.2.1, R.2.2.2.2.2.2.2.2.2.1, R.2.2.2.2.2.2.2.2.2.2)) C W U q q1 B0 B1 B2 B3)) Q := by
    intro m
    induction m with
    | zero =>
      intro w os l4 hw hol hag
      rw [q112_2]
      simp only [e112, q112_0, q112_1r, q112_3, q112_4, q112_7, q112_10, q112_11i, q112_15, q112_18, q112_19, q112_22, q112_23, q112_26, q112_28, q112_29, q112_30, q112_31, q112_32, q112_33, q112_36, q112_37, q112_38, q112_41, q112_42, q112_45, q112_47, q112_48, q112_51, q112_53, q112_54, q112_55, q112_56, q112_57i, q112_60, q112_63, q112_64, q112_67, q112_69, q112_70, q112_71r, q112_74, q112_77, xc_R, xg_R_0, xg_R_1, xs_R_1, xg_R_2, xs_R_2, xg_R_3, xg_R_4, xg_R_5, xs_R_5, xg_R_6, xg_R_7, xs_R_7, xg_R_8, xg_R_9, xg_R_10, xa_R_shown, xb_R_shown, xn_R_shown, xa_R_begins, xb_R_begins, xn_R_begins, xa_R_lengths, xb_R_lengths, xn_R_lengths, xa_R_order, xb_R_order, xn_R_order, xa_R_standing, xb_R_standing, xn_R_standing, xa_R_lovers, xb_R_lovers, xn_R_lovers, xa_R_lowest, xb_R_lowest, xn_R_lowest, xc_q, xg_q_0, xg_q_1, xs_q_1, xg_q_2, xg_q_3, xg_q_4, xs_q_4, xg_q_5, xg_q_6, xg_q_7, xg_q_8, xs_q_8, xg_q_9, xs_q_9, xg_q_10, xg_q_11, xg_q_12, xg_q_13, xg_q_14, xg_q_15, xg_q_16, xs_q_16, xg_q_17, xg_q_18, xs_q_18, xg_q_19, xa_q_sortNames, xb_q_sortNames, xn_q_sortNames, xa_q_colourNames, xb_q_colourNames, xn_q_colourNames, xa_q_colourSorts, xb_q_colourSorts, xn_q_colourSorts, xa_q_ruleMakes, xb_q_ruleMakes, xn_q_ruleMakes, xa_q_ruleFirsts, xb_q_ruleFirsts, xn_q_ruleFirsts, xa_q_ruleSeconds, xb_q_ruleSeconds, xn_q_ruleSeconds, xa_q_walkerNames, xb_q_walkerNames, xn_q_walkerNames, xa_q_kinds, xb_q_kinds, xn_q_kinds, xa_q_walkerColours, xb_q_walkerColours, xn_q_walkerColours, xa_q_starts, xb_q_starts, xn_q_starts, xa_q_stepRows, xb_q_stepRows, xn_q_stepRows, xa_q_stepCounts, xb_q_stepCounts, xn_q_stepCounts, xa_q_gusts, xb_q_gusts, xn_q_gusts, xc_ql, xg_ql_0, xg_ql_1, xs_ql_1, xg_ql_2, xg_ql_3, xs_ql_3, xa_q_parts, xb_q_parts, xn_q_parts, xa_q_stack, xb_q_stack, xn_q_stack, wx_some, wx_ref, hn]
      rw [if_pos (by rw [nI_leI (by omega) (by omega)]; omega)]
      rw [show w = k_nW s by omega] at hag
      exact hq os hol hag
    | succ m ih =>
      intro w os l4 hw hol hag
      rw [q112_2]
      simp only [e112, q112_0, q112_1r, q112_3, q112_4, q112_7, q112_10, q112_11i, q112_15, q112_18, q112_19, q112_22, q112_23, q112_26, q112_28, q112_29, q112_30, q112_31, q112_32, q112_33, q112_36, q112_37, q112_38, q112_41, q112_42, q112_45, q112_47, q112_48, q112_51, q112_53, q112_54, q112_55, q112_56, q112_57i, q112_60, q112_63, q112_64, q112_67, q112_69, q112_70, q112_71r, q112_74, q112_77, xc_R, xg_R_0, xg_R_1, xs_R_1, xg_R_2, xs_R_2, xg_R_3, xg_R_4, xg_R_5, xs_R_5, xg_R_6, xg_R_7, xs_R_7, xg_R_8, xg_R_9, xg_R_10, xa_R_shown, xb_R_shown, xn_R_shown, xa_R_begins, xb_R_begins, xn_R_begins, xa_R_lengths, xb_R_lengths, xn_R_lengths, xa_R_order, xb_R_order, xn_R_order, xa_R_standing, xb_R_standing, xn_R_standing, xa_R_lovers, xb_R_lovers, xn_R_lovers, xa_R_lowest, xb_R_lowest, xn_R_lowest, xc_q, xg_q_0, xg_q_1, xs_q_1, xg_q_2, xg_q_3, xg_q_4, xs_q_4, xg_q_5, xg_q_6, xg_q_7, xg_q_8, xs_q_8, xg_q_9, xs_q_9, xg_q_10, xg_q_11, xg_q_12, xg_q_13, xg_q_14, xg_q_15, xg_q_16, xs_q_16, xg_q_17, xg_q_18, xs_q_18, xg_q_19, xa_q_sortNames, xb_q_sortNames, xn_q_sortNames, xa_q_colourNames, xb_q_colourNames, xn_q_colourNames, xa_q_colourSorts, xb_q_colourSorts, xn_q_colourSorts, xa_q_ruleMakes, xb_q_ruleMakes, xn_q_ruleMakes, xa_q_ruleFirsts, xb_q_ruleFirsts, xn_q_ruleFirsts, xa_q_ruleSeconds, xb_q_ruleSeconds, xn_q_ruleSeconds, xa_q_walkerNames, xb_q_walkerNames, xn_q_walkerNames, xa_q_kinds, xb_q_kinds, xn_q_kinds, xa_q_walkerColours, xb_q_walkerColours, xn_q_walkerColours, xa_q_starts, xb_q_starts, xn_q_starts, xa_q_stepRows, xb_q_stepRows, xn_q_stepRows, xa_q_stepCounts, xb_q_stepCounts, xn_q_stepCounts, xa_q_gusts, xb_q_gusts, xn_q_gusts, xc_ql, xg_ql_0, xg_ql_1, xs_ql_1, xg_ql_2, xg_ql_3, xs_ql_3, xa_q_parts, xb_q_parts, xn_q_parts, xa_q_stack, xb_q_stack, xn_q_stack, wx_some, wx_ref, hn, isl_i, isl_r, isl_n]
      rw [if_neg (by rw [nI_leI (by omega) (by omega)]; omega)]
      have hfl : (fm c.2.2 w).length = w := fm_len (fun i hi => hc.2.2 i (by omega))
      obtain ⟨A, B, hA1, hA2, hA3, hA4⟩ := fm_split (hc.2.2 w (by omega))
      have key2 : ∀ (j : Nat) (os : List Int32), j ≤ w → os.length = 7 → ag os j (fun i => (fm c.2.2 w).getD i 0) → (∀ i, j ≤ i → i < w → os[i + 1]? = some (nI ((fm c.2.2 w).getD i 0)) ∧ c.2.2 w < c.2.2 ((fm c.2.2 w).getD i 0)) → ww (mp_P fx) d 112 13 [some (.ref 75), some (.ref (px_ta sw)), some (.ref 67), some (.int (nI w)), some (.int (nI j))] [] (px_h z E M (px_l sw c2 w2 T D S S1 K ((R.1, R.2.1, R.2.2.1, R.2.2.2.1, R.2.2.2.2.1, R.2.2.2.2.2.1, os, R.2.2.2.2.2.2.2.1, R.2.2.2.2.2.2.2.2.1, R.2.2.2.2.2.2.2.2.2.1, R.2.2.2.2.2.2.2.2.2.2)) C W U q q1 B0 B1 B2 B3)) Q := by
        have hend : ∀ (j : Nat) (os : List Int32), j ≤ w → os.length = 7 → ag os j (fun i => (fm c.2.2 w).getD i 0) → (∀ i, j ≤ i → i < w → os[i + 1]? = some (nI ((fm c.2.2 w).getD i 0)) ∧ c.2.2 w < c.2.2 ((fm c.2.2 w).getD i 0)) → (0 < j → c.2.2 ((fm c.2.2 w).getD (j - 1) 0) ≤ c.2.2 w) → ww (mp_P fx) d 112 63 [some (.ref 75), some (.ref (px_ta sw)), some (.ref 67), some (.int (nI w)), some (.int (nI j))] [] (px_h z E M (px_l sw c2 w2 T D S S1 K ((R.1, R.2.1, R.2.2.1, R.2.2.2.1, R.2.2.2.2.1, R.2.2.2.2.2.1, os, R.2.2.2.2.2.2.2.1, R.2.2.2.2.2.2.2.2.1, R.2.2.2.2.2.2.2.2.2.1, R.2.2.2.2.2.2.2.2.2.2)) C W U q q1 B0 B1 B2 B3)) Q := by
          intro j os hj hol hag hsh hle
          simp only [e112, q112_0, q112_1r, q112_3, q112_4, q112_7, q112_10, q112_11i, q112_15, q112_18, q112_19, q112_22, q112_23, q112_26, q112_28, q112_29, q112_30, q112_31, q112_32, q112_33, q112_36, q112_37, q112_38, q112_41, q112_42, q112_45, q112_47, q112_48, q112_51, q112_53, q112_54, q112_55, q112_56, q112_57i, q112_60, q112_63, q112_64, q112_67, q112_69, q112_70, q112_71r, q112_74, q112_77, xc_R, xg_R_0, xg_R_1, xs_R_1, xg_R_2, xs_R_2, xg_R_3, xg_R_4, xg_R_5, xs_R_5, xg_R_6, xg_R_7, xs_R_7, xg_R_8, xg_R_9, xg_R_10, xa_R_shown, xb_R_shown, xn_R_shown, xa_R_begins, xb_R_begins, xn_R_begins, xa_R_lengths, xb_R_lengths, xn_R_lengths, xa_R_order, xb_R_order, xn_R_order, xa_R_standing, xb_R_standing, xn_R_standing, xa_R_lovers, xb_R_lovers, xn_R_lovers, xa_R_lowest, xb_R_lowest, xn_R_lowest, wx_some, wx_ref, isl_i, isl_r, isl_n, aS_n (show j < os.length by omega) (show os.length < 2 ^ 31 by omega), nl_1, nI_add]
          have hjA : A.length = j := by
            rcases Nat.lt_trichotomy A.length j with h | h | h
            · have h3 := hle (by omega)
              have h4 : (fm c.2.2 w).getD (j - 1) 0 ∈ B := by
                rw [hA1, List.getD, List.getElem?_append_right (by omega)]
                rw [hA1, List.length_append] at hfl
                rw [List.getElem?_eq_getElem (by omega)]
                exact List.getElem_mem _
              have := hA4 _ h4
              omega
            · exact h
            · rw [hA1, List.length_append] at hfl
              have h3 := (hsh j (Nat.le_refl _) (by omega)).2
              have h4 : (fm c.2.2 w).getD j 0 ∈ A := by
                rw [hA1, List.getD, List.getElem?_append_left h, List.getElem?_eq_getElem h]
                exact List.getElem_mem _
              have := hA3 _ h4
              omega
          apply ih (w + 1) _ _ (by omega) (by rw [List.length_set]; exact hol)
          intro i hi
          rw [hA2, List.getElem?_set]
          simp only [List.getD]
          rcases Nat.lt_trichotomy i j with h | h | h
          · rw [if_neg (by omega), hag i h, List.getElem?_append_left (by omega)]
            simp only [List.getD]
            rw [hA1, List.getElem?_append_left (by omega)]
          · subst h
            rw [if_pos rfl, if_pos (by omega), List.getElem?_append_right (by omega), hjA, Nat.sub_self]; rfl
          · rw [if_neg (by omega), show i = i - 1 + 1 by omega, (hsh (i - 1) (by omega) (by omega)).1, List.getElem?_append_right (by omega)]
            simp only [List.getD]
            rw [hA1, List.getElem?_append_right (by omega), show i - 1 + 1 - A.length = i - 1 - A.length + 1 by omega, List.getElem?_cons_succ]
        intro j
        induction j with
        | zero =>
          intro os hj hol hag hsh
          rw [q112_13, q112_15]
          rw [if_pos (by decide)]
          exact hend 0 os hj hol hag hsh (fun z => by omega)
        | succ j ih2 =>
          intro os hj hol hag hsh
          have hmem : (fm c.2.2 w).getD j 0 < w := by
            rw [List.getD, List.getElem?_eq_getElem (by omega)]
            exact fm_mem (List.getElem_mem _)
          have g1 := ag_G hag (show os.length < 2 ^ 31 by omega) (show j < j + 1 by omega)
          have g2 := ag_G hpl hpl7 (show (fm c.2.2 w).getD j 0 < k_nW s by omega)
          have g3 := ag_G hpl hpl7 (show w < k_nW s by omega)
          have p1 := hc.2.2 _ (show (fm c.2.2 w).getD j 0 < k_nW s by omega)
          have p2 := hc.2.2 _ (show w < k_nW s by omega)
          rw [q112_13, q112_15]
          rw [if_neg (nI_nle (by omega) (by omega))]
          simp only [q112_18, q112_19, q112_22, q112_23, q112_26, q112_28, q112_29, q112_30, q112_31, q112_32, q112_33, q112_36, q112_37, q112_38, q112_41, q112_42, q112_45, q112_47, q112_48, q112_51, q112_53, q112_54, q112_55, q112_56, q112_57i, q112_60, xc_R, xg_R_0, xg_R_1, xs_R_1, xg_R_2, xs_R_2, xg_R_3, xg_R_4, xg_R_5, xs_R_5, xg_R_6, xg_R_7, xs_R_7, xg_R_8, xg_R_9, xg_R_10, xa_R_shown, xb_R_shown, xn_R_shown, xa_R_begins, xb_R_begins, xn_R_begins, xa_R_lengths, xb_R_lengths, xn_R_lengths, xa_R_order, xb_R_order, xn_R_order, xa_R_standing, xb_R_standing, xn_R_standing, xa_R_lovers, xb_R_lovers, xn_R_lovers, xa_R_lowest, xb_R_lowest, xn_R_lowest, xc_S, xg_S_0, xs_S_0, xg_S_1, xs_S_1, xg_S_2, xa_S_places, xb_S_places, xn_S_places, wx_some, wx_ref, isl_i, isl_r, isl_n, nl_1, nI_sub (show 1 ≤ j + 1 by omega), Nat.add_sub_cancel, g1, g2, g3, aS_n (show j + 1 < os.length by omega) (show os.length < 2 ^ 31 by omega)]
          by_cases hle : c.2.2 ((fm c.2.2 w).getD j 0) ≤ c.2.2 w
          · rw [if_pos (by rw [nI_leI (by omega) (by omega)]; exact hle)]
            exact hend (j + 1) os hj hol hag hsh (fun _ => hle)
          · rw [if_neg (by rw [nI_leI (by omega) (by omega)]; exact hle)]
            rw [i_m1', nI_pred]
            apply ih2 _ (by omega) (by rw [List.length_set]; exact hol)
            · intro i hi
              rw [List.getElem?_set_ne (by omega)]; exact hag i (by omega)
            · intro i h1 h2
              by_cases e : i = j
              · subst e
                rw [List.getElem?_set_self (by omega)]
                exact ⟨rfl, by omega⟩
              · rw [List.getElem?_set_ne (by omega)]; exact hsh i (by omega) h2
      refine key2 w os (Nat.le_refl _) hol hag (fun i h1 h2 => by omega)
  exact key (k_nW s) 0 _ _ (by omega) hR.2.2.2.1 (fun i hi => by omega)
theorem t_isOpenS1 {w : Nat} (ho : k_ok s) (hc : c_ok s c) (hS : SCx s S1 c) (hw : w < k_nW s) (hq : Q (some (.int (if c.2.1.testBit w = true then 1 else 0))) (px_h z E M (px_l sw c2 w2 T D S S1 K R C W U q q1 B0 B1 B2 B3))) : wm (mp_P fx) d 106 [.ref 69, .int (nI w)] (px_h z E M (px_l sw c2 w2 T D S S1 K R C W U q q1 B0 B1 B2 B3)) Q := by
  have h7 := ho.1.2.2.2.1
  have h128 : c.2.1 < 128 := Nat.lt_of_lt_of_le hc.2.1 (p27 h7)
  have hb := k7_bit c.2.1 h128 w (by omega)
  simp only [e106, b106_0, b106_1, bn_0 b106_0, bn_1 b106_1, q106_0, q106_1, q106_4, q106_5, q106_6, q106_7, q106_8, q106_9, q106_12, q106_13, q106_16, q106_17, xc_S1, xg_S1_0, xs_S1_0, xg_S1_1, xs_S1_1, xg_S1_2, xa_S1_places, xb_S1_places, xn_S1_places, wx_some, wx_ref, hS.2.1]
  by_cases e : c.2.1.testBit w = true
  · rw [if_pos e] at hq; rw [if_neg (fun z => z (hb.mpr e))]; exact hq
  · rw [if_neg e] at hq; rw [if_pos (fun z => e (hb.mp z))]; exact hq
theorem t_sortS1 (hs : SQx q s) (ho : k_ok s) (hc : c_ok s c) (hS : SCx s S1 c) (hR : RDl R) (hq : ∀ os : List Int32, os.length = 7 → ag os (k_nW s) (fun i => (fm c.2.2 (k_nW s)).getD i 0) → Q none (px_h z E M (px_l sw c2 w2 T D S S1 K ((R.1, R.2.1, R.2.2.1, R.2.2.2.1, R.2.2.2.2.1, R.2.2.2.2.2.1, os, R.2.2.2.2.2.2.2.1, R.2.2.2.2.2.2.2.2.1, R.2.2.2.2.2.2.2.2.2.1, R.2.2.2.2.2.2.2.2.2.2)) C W U q q1 B0 B1 B2 B3))) : wm (mp_P fx) d 112 [.ref 75, .ref (px_ta sw), .ref 69] (px_h z E M (px_l sw c2 w2 T D S S1 K R C W U q q1 B0 B1 B2 B3)) Q := by
  have hn := hs.2.1.2.2.2.1
  have hW := ho.1.2.2.2.1
  obtain ⟨e1, e2, hrg, hpl⟩ := hS
  have hpl7 : (S1.2.2).length < 2 ^ 31 := by have := hrg.1; omega
  simp only [e112, q112_0, q112_1r, q112_3, q112_4, q112_7, q112_10, q112_11i, q112_15, q112_18, q112_19, q112_22, q112_23, q112_26, q112_28, q112_29, q112_30, q112_31, q112_32, q112_33, q112_36, q112_37, q112_38, q112_41, q112_42, q112_45, q112_47, q112_48, q112_51, q112_53, q112_54, q112_55, q112_56, q112_57i, q112_60, q112_63, q112_64, q112_67, q112_69, q112_70, q112_71r, q112_74, q112_77, isl_i, isl_r, isl_n]
  have key : ∀ (m w : Nat) (os : List Int32) (l4 : Option Value), w + m = k_nW s → os.length = 7 → ag os w (fun i => (fm c.2.2 w).getD i 0) → ww (mp_P fx) d 112 2 [some (.ref 75), some (.ref (px_ta sw)), some (.ref 69), some (.int (nI w)), l4] [] (px_h z E M (px_l sw c2 w2 T D S S1 K ((R.1, R.2.1, R.2.2.1, R.2.2.2.1, R.2.2.2.2.1, R.2.2.2.2.2.1, os, R.2.2.2.2.2.2.2.1, R.2.2.2.2.2.2.2.2.1, R.2.2.2.2.2.2.2.2.2.1, R.2.2.2.2.2.2.2.2.2.2)) C W U q q1 B0 B1 B2 B3)) Q := by
    intro m
    induction m with
    | zero =>
      intro w os l4 hw hol hag
      rw [q112_2]
      simp only [e112, q112_0, q112_1r, q112_3, q112_4, q112_7, q112_10, q112_11i, q112_15, q112_18, q112_19, q112_22, q112_23, q112_26, q112_28, q112_29, q112_30, q112_31, q112_32, q112_33, q112_36, q112_37, q112_38, q112_41, q112_42, q112_45, q112_47, q112_48, q112_51, q112_53, q112_54, q112_55, q112_56, q112_57i, q112_60, q112_63, q112_64, q112_67, q112_69, q112_70, q112_71r, q112_74, q112_77, xc_R, xg_R_0, xg_R_1, xs_R_1, xg_R_2, xs_R_2, xg_R_3, xg_R_4, xg_R_5, xs_R_5, xg_R_6, xg_R_7, xs_R_7, xg_R_8, xg_R_9, xg_R_10, xa_R_shown, xb_R_shown, xn_R_shown, xa_R_begins, xb_R_begins, xn_R_begins, xa_R_lengths, xb_R_lengths, xn_R_lengths, xa_R_order, xb_R_order, xn_R_order, xa_R_standing, xb_R_standing, xn_R_standing, xa_R_lovers, xb_R_lovers, xn_R_lovers, xa_R_lowest, xb_R_lowest, xn_R_lowest, xc_q, xg_q_0, xg_q_1, xs_q_1, xg_q_2, xg_q_3, xg_q_4, xs_q_4, xg_q_5, xg_q_6, xg_q_7, xg_q_8, xs_q_8, xg_q_9, xs_q_9, xg_q_10, xg_q_11, xg_q_12, xg_q_13, xg_q_14, xg_q_15, xg_q_16, xs_q_16, xg_q_17, xg_q_18, xs_q_18, xg_q_19, xa_q_sortNames, xb_q_sortNames, xn_q_sortNames, xa_q_colourNames, xb_q_colourNames, xn_q_colourNames, xa_q_colourSorts, xb_q_colourSorts, xn_q_colourSorts, xa_q_ruleMakes, xb_q_ruleMakes, xn_q_ruleMakes, xa_q_ruleFirsts, xb_q_ruleFirsts, xn_q_ruleFirsts, xa_q_ruleSeconds, xb_q_ruleSeconds, xn_q_ruleSeconds, xa_q_walkerNames, xb_q_walkerNames, xn_q_walkerNames, xa_q_kinds, xb_q_kinds, xn_q_kinds, xa_q_walkerColours, xb_q_walkerColours, xn_q_walkerColours, xa_q_starts, xb_q_starts, xn_q_starts, xa_q_stepRows, xb_q_stepRows, xn_q_stepRows, xa_q_stepCounts, xb_q_stepCounts, xn_q_stepCounts, xa_q_gusts, xb_q_gusts, xn_q_gusts, xc_ql, xg_ql_0, xg_ql_1, xs_ql_1, xg_ql_2, xg_ql_3, xs_ql_3, xa_q_parts, xb_q_parts, xn_q_parts, xa_q_stack, xb_q_stack, xn_q_stack, wx_some, wx_ref, hn]
      rw [if_pos (by rw [nI_leI (by omega) (by omega)]; omega)]
      rw [show w = k_nW s by omega] at hag
      exact hq os hol hag
    | succ m ih =>
      intro w os l4 hw hol hag
      rw [q112_2]
      simp only [e112, q112_0, q112_1r, q112_3, q112_4, q112_7, q112_10, q112_11i, q112_15, q112_18, q112_19, q112_22, q112_23, q112_26, q112_28, q112_29, q112_30, q112_31, q112_32, q112_33, q112_36, q112_37, q112_38, q112_41, q112_42, q112_45, q112_47, q112_48, q112_51, q112_53, q112_54, q112_55, q112_56, q112_57i, q112_60, q112_63, q112_64, q112_67, q112_69, q112_70, q112_71r, q112_74, q112_77, xc_R, xg_R_0, xg_R_1, xs_R_1, xg_R_2, xs_R_2, xg_R_3, xg_R_4, xg_R_5, xs_R_5, xg_R_6, xg_R_7, xs_R_7, xg_R_8, xg_R_9, xg_R_10, xa_R_shown, xb_R_shown, xn_R_shown, xa_R_begins, xb_R_begins, xn_R_begins, xa_R_lengths, xb_R_lengths, xn_R_lengths, xa_R_order, xb_R_order, xn_R_order, xa_R_standing, xb_R_standing, xn_R_standing, xa_R_lovers, xb_R_lovers, xn_R_lovers, xa_R_lowest, xb_R_lowest, xn_R_lowest, xc_q, xg_q_0, xg_q_1, xs_q_1, xg_q_2, xg_q_3, xg_q_4, xs_q_4, xg_q_5, xg_q_6, xg_q_7, xg_q_8, xs_q_8, xg_q_9, xs_q_9, xg_q_10, xg_q_11, xg_q_12, xg_q_13, xg_q_14, xg_q_15, xg_q_16, xs_q_16, xg_q_17, xg_q_18, xs_q_18, xg_q_19, xa_q_sortNames, xb_q_sortNames, xn_q_sortNames, xa_q_colourNames, xb_q_colourNames, xn_q_colourNames, xa_q_colourSorts, xb_q_colourSorts, xn_q_colourSorts, xa_q_ruleMakes, xb_q_ruleMakes, xn_q_ruleMakes, xa_q_ruleFirsts, xb_q_ruleFirsts, xn_q_ruleFirsts, xa_q_ruleSeconds, xb_q_ruleSeconds, xn_q_ruleSeconds, xa_q_walkerNames, xb_q_walkerNames, xn_q_walkerNames, xa_q_kinds, xb_q_kinds, xn_q_kinds, xa_q_walkerColours, xb_q_walkerColours, xn_q_walkerColours, xa_q_starts, xb_q_starts, xn_q_starts, xa_q_stepRows, xb_q_stepRows, xn_q_stepRows, xa_q_stepCounts, xb_q_stepCounts, xn_q_stepCounts, xa_q_gusts, xb_q_gusts, xn_q_gusts, xc_ql, xg_ql_0, xg_ql_1, xs_ql_1, xg_ql_2, xg_ql_3, xs_ql_3, xa_q_parts, xb_q_parts, xn_q_parts, xa_q_stack, xb_q_stack, xn_q_stack, wx_some, wx_ref, hn, isl_i, isl_r, isl_n]
      rw [if_neg (by rw [nI_leI (by omega) (by omega)]; omega)]
      have hfl : (fm c.2.2 w).length = w := fm_len (fun i hi => hc.2.2 i (by omega))
      obtain ⟨A, B, hA1, hA2, hA3, hA4⟩ := fm_split (hc.2.2 w (by omega))
      have key2 : ∀ (j : Nat) (os : List Int32), j ≤ w → os.length = 7 → ag os j (fun i => (fm c.2.2 w).getD i 0) → (∀ i, j ≤ i → i < w → os[i + 1]? = some (nI ((fm c.2.2 w).getD i 0)) ∧ c.2.2 w < c.2.2 ((fm c.2.2 w).getD i 0)) → ww (mp_P fx) d 112 13 [some (.ref 75), some (.ref (px_ta sw)), some (.ref 69), some (.int (nI w)), some (.int (nI j))] [] (px_h z E M (px_l sw c2 w2 T D S S1 K ((R.1, R.2.1, R.2.2.1, R.2.2.2.1, R.2.2.2.2.1, R.2.2.2.2.2.1, os, R.2.2.2.2.2.2.2.1, R.2.2.2.2.2.2.2.2.1, R.2.2.2.2.2.2.2.2.2.1, R.2.2.2.2.2.2.2.2.2.2)) C W U q q1 B0 B1 B2 B3)) Q := by
        have hend : ∀ (j : Nat) (os : List Int32), j ≤ w → os.length = 7 → ag os j (fun i => (fm c.2.2 w).getD i 0) → (∀ i, j ≤ i → i < w → os[i + 1]? = some (nI ((fm c.2.2 w).getD i 0)) ∧ c.2.2 w < c.2.2 ((fm c.2.2 w).getD i 0)) → (0 < j → c.2.2 ((fm c.2.2 w).getD (j - 1) 0) ≤ c.2.2 w) → ww (mp_P fx) d 112 63 [some (.ref 75), some (.ref (px_ta sw)), some (.ref 69), some (.int (nI w)), some (.int (nI j))] [] (px_h z E M (px_l sw c2 w2 T D S S1 K ((R.1, R.2.1, R.2.2.1, R.2.2.2.1, R.2.2.2.2.1, R.2.2.2.2.2.1, os, R.2.2.2.2.2.2.2.1, R.2.2.2.2.2.2.2.2.1, R.2.2.2.2.2.2.2.2.2.1, R.2.2.2.2.2.2.2.2.2.2)) C W U q q1 B0 B1 B2 B3)) Q := by
          intro j os hj hol hag hsh hle
          simp only [e112, q112_0, q112_1r, q112_3, q112_4, q112_7, q112_10, q112_11i, q112_15, q112_18, q112_19, q112_22, q112_23, q112_26, q112_28, q112_29, q112_30, q112_31, q112_32, q112_33, q112_36, q112_37, q112_38, q112_41, q112_42, q112_45, q112_47, q112_48, q112_51, q112_53, q112_54, q112_55, q112_56, q112_57i, q112_60, q112_63, q112_64, q112_67, q112_69, q112_70, q112_71r, q112_74, q112_77, xc_R, xg_R_0, xg_R_1, xs_R_1, xg_R_2, xs_R_2, xg_R_3, xg_R_4, xg_R_5, xs_R_5, xg_R_6, xg_R_7, xs_R_7, xg_R_8, xg_R_9, xg_R_10, xa_R_shown, xb_R_shown, xn_R_shown, xa_R_begins, xb_R_begins, xn_R_begins, xa_R_lengths, xb_R_lengths, xn_R_lengths, xa_R_order, xb_R_order, xn_R_order, xa_R_standing, xb_R_standing, xn_R_standing, xa_R_lovers, xb_R_lovers, xn_R_lovers, xa_R_lowest, xb_R_lowest, xn_R_lowest, wx_some, wx_ref, isl_i, isl_r, isl_n, aS_n (show j < os.length by omega) (show os.length < 2 ^ 31 by omega), nl_1, nI_add]
          have hjA : A.length = j := by
            rcases Nat.lt_trichotomy A.length j with h | h | h
            · have h3 := hle (by omega)
              have h4 : (fm c.2.2 w).getD (j - 1) 0 ∈ B := by
                rw [hA1, List.getD, List.getElem?_append_right (by omega)]
                rw [hA1, List.length_append] at hfl
                rw [List.getElem?_eq_getElem (by omega)]
                exact List.getElem_mem _
              have := hA4 _ h4
              omega
            · exact h
            · rw [hA1, List.length_append] at hfl
              have h3 := (hsh j (Nat.le_refl _) (by omega)).2
              have h4 : (fm c.2.2 w).getD j 0 ∈ A := by
                rw [hA1, List.getD, List.getElem?_append_left h, List.getElem?_eq_getElem h]
                exact List.getElem_mem _
              have := hA3 _ h4
              omega
          apply ih (w + 1) _ _ (by omega) (by rw [List.length_set]; exact hol)
          intro i hi
          rw [hA2, List.getElem?_set]
          simp only [List.getD]
          rcases Nat.lt_trichotomy i j with h | h | h
          · rw [if_neg (by omega), hag i h, List.getElem?_append_left (by omega)]
            simp only [List.getD]
            rw [hA1, List.getElem?_append_left (by omega)]
          · subst h
            rw [if_pos rfl, if_pos (by omega), List.getElem?_append_right (by omega), hjA, Nat.sub_self]; rfl
          · rw [if_neg (by omega), show i = i - 1 + 1 by omega, (hsh (i - 1) (by omega) (by omega)).1, List.getElem?_append_right (by omega)]
            simp only [List.getD]
            rw [hA1, List.getElem?_append_right (by omega), show i - 1 + 1 - A.length = i - 1 - A.length + 1 by omega, List.getElem?_cons_succ]
        intro j
        induction j with
        | zero =>
          intro os hj hol hag hsh
          rw [q112_13, q112_15]
          rw [if_pos (by decide)]
          exact hend 0 os hj hol hag hsh (fun z => by omega)
        | succ j ih2 =>
          intro os hj hol hag hsh
          have hmem : (fm c.2.2 w).getD j 0 < w := by
            rw [List.getD, List.getElem?_eq_getElem (by omega)]
            exact fm_mem (List.getElem_mem _)
          have g1 := ag_G hag (show os.length < 2 ^ 31 by omega) (show j < j + 1 by omega)
          have g2 := ag_G hpl hpl7 (show (fm c.2.2 w).getD j 0 < k_nW s by omega)
          have g3 := ag_G hpl hpl7 (show w < k_nW s by omega)
          have p1 := hc.2.2 _ (show (fm c.2.2 w).getD j 0 < k_nW s by omega)
          have p2 := hc.2.2 _ (show w < k_nW s by omega)
          rw [q112_13, q112_15]
          rw [if_neg (nI_nle (by omega) (by omega))]
          simp only [q112_18, q112_19, q112_22, q112_23, q112_26, q112_28, q112_29, q112_30, q112_31, q112_32, q112_33, q112_36, q112_37, q112_38, q112_41, q112_42, q112_45, q112_47, q112_48, q112_51, q112_53, q112_54, q112_55, q112_56, q112_57i, q112_60, xc_R, xg_R_0, xg_R_1, xs_R_1, xg_R_2, xs_R_2, xg_R_3, xg_R_4, xg_R_5, xs_R_5, xg_R_6, xg_R_7, xs_R_7, xg_R_8, xg_R_9, xg_R_10, xa_R_shown, xb_R_shown, xn_R_shown, xa_R_begins, xb_R_begins, xn_R_begins, xa_R_lengths, xb_R_lengths, xn_R_lengths, xa_R_order, xb_R_order, xn_R_order, xa_R_standing, xb_R_standing, xn_R_standing, xa_R_lovers, xb_R_lovers, xn_R_lovers, xa_R_lowest, xb_R_lowest, xn_R_lowest, xc_S1, xg_S1_0, xs_S1_0, xg_S1_1, xs_S1_1, xg_S1_2, xa_S1_places, xb_S1_places, xn_S1_places, wx_some, wx_ref, isl_i, isl_r, isl_n, nl_1, nI_sub (show 1 ≤ j + 1 by omega), Nat.add_sub_cancel, g1, g2, g3, aS_n (show j + 1 < os.length by omega) (show os.length < 2 ^ 31 by omega)]
          by_cases hle : c.2.2 ((fm c.2.2 w).getD j 0) ≤ c.2.2 w
          · rw [if_pos (by rw [nI_leI (by omega) (by omega)]; exact hle)]
            exact hend (j + 1) os hj hol hag hsh (fun _ => hle)
          · rw [if_neg (by rw [nI_leI (by omega) (by omega)]; exact hle)]
            rw [i_m1', nI_pred]
            apply ih2 _ (by omega) (by rw [List.length_set]; exact hol)
            · intro i hi
              rw [List.getElem?_set_ne (by omega)]; exact hag i (by omega)
            · intro i h1 h2
              by_cases e : i = j
              · subst e
                rw [List.getElem?_set_self (by omega)]
                exact ⟨rfl, by omega⟩
              · rw [List.getElem?_set_ne (by omega)]; exact hsh i (by omega) h2
      refine key2 w os (Nat.le_refl _) hol hag (fun i h1 h2 => by omega)
  exact key (k_nW s) 0 _ _ (by omega) hR.2.2.2.1 (fun i hi => by omega)
end TR2
