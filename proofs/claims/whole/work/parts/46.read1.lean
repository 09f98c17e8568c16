/-! the reading, of the class: counting by places -/
def cn (p : Nat → Bool) : Nat → Nat
  | 0 => 0
  | n + 1 => cn p n + (if p n = true then 1 else 0)
theorem cn_mono {p : Nat → Bool} {m n : Nat} (h : m ≤ n) : cn p m ≤ cn p n := by
  induction h with
  | refl => exact Nat.le_refl _
  | step _ ih => exact Nat.le_trans ih (Nat.le_add_right _ _)
theorem cn_le {p : Nat → Bool} {n : Nat} : cn p n ≤ n := by
  induction n with
  | zero => exact Nat.le_refl _
  | succ n ih => rw [cn]; split <;> omega
theorem i_m1 (x : Int32) : x + -1 = x - 1 := (Int32.sub_eq_add_neg x 1).symm
theorem i_m1' (x : Int32) : x + -nI 1 = x - 1 := i_m1 x
/-- Arrays.fill of a whole row, wherever it lies -/
theorem t_fill {fx : List Value → mm_H → Option (List Value × mm_H)} {d : Nat} {Q : Option Value → mm_H → Prop} {H : List Int32 → mm_H} {a : Nat} (hset : ∀ xs i x, mm_sI (H xs) a 0 i x = aS xs i x H) (hlen : ∀ xs, mm_gN (H xs) a = some (nI xs.length)) {xs : List Int32} {v : Int32} (hl : xs.length < 2 ^ 30) (hq : Q none (H (List.replicate xs.length v))) : wm (mp_P fx) d 111 [.ref a, .int v] (H xs) Q := by
  simp only [e111, q111_0, q111_1i, q111_2, q111_3, q111_4i, q111_6, q111_7, q111_10, q111_11, q111_12, q111_13, q111_14i, q111_17, q111_20, isl_i, isl_r, isl_n, hlen, wx_some]
  have key : ∀ (k i : Nat) (ys : List Int32), i + k = xs.length → ys.length = xs.length → ys.take i = List.replicate i v → ww (mp_P fx) d 111 5 [some (.ref a), some (.int v), some (.int (nI i)), some (.int (nI xs.length))] [] (H ys) Q := by
    intro k
    induction k with
    | zero =>
      intro i ys hi hy ht
      rw [q111_5]
      simp only [e111, q111_0, q111_1i, q111_2, q111_3, q111_4i, q111_6, q111_7, q111_10, q111_11, q111_12, q111_13, q111_14i, q111_17, q111_20]
      rw [if_pos (by rw [nI_leI (by omega) (by omega)]; omega)]
      rw [List.take_of_length_le (by omega), show i = xs.length by omega] at ht
      rw [ht]; exact hq
    | succ k ih =>
      intro i ys hi hy ht
      rw [q111_5]
      simp only [e111, q111_0, q111_1i, q111_2, q111_3, q111_4i, q111_6, q111_7, q111_10, q111_11, q111_12, q111_13, q111_14i, q111_17, q111_20, hset, aS_n (show i < ys.length by omega) (show ys.length < 2 ^ 31 by omega), wx_some, isl_i, isl_r, isl_n, nl_1, nI_add]
      rw [if_neg (by rw [nI_leI (by omega) (by omega)]; omega)]
      apply ih (i + 1) _ (by omega) (by rw [List.length_set]; exact hy)
      rw [List.take_succ, List.take_set_of_le (Nat.le_refl _), ht, List.getElem?_set_self (by omega), List.replicate_succ']; rfl
  exact key xs.length 0 xs (by omega) rfl rfl
section TR
variable {fx : List Value → mm_H → Option (List Value × mm_H)} {z : Nat} {E M : Nat → mm_C} {sw c2 w2 : Bool} {T : px_T} {D : px_D} {S : px_S} {S1 : px_S} {K : px_K} {R : px_R} {C : px_C} {W : px_W} {U : px_U} {q : px_q} {q1 : px_q} {B0 : px_K} {B1 : px_K} {B2 : px_K} {B3 : px_K} {T_signs : List Int32} {T_length : Int32} {T_fault : Int32} {T_types : List Int32} {T_starts : List Int32} {T_values : List Int64} {T_tokens : Int32} {T_at : Int32} {T_behind : Int32} {S_hour : Int32} {S_open : Int32} {S_places : List Int32} {S1_hour : Int32} {S1_open : Int32} {S1_places : List Int32} {K_lines : List Int32} {K_lineCount : Int32} {K_wishes : List Int32} {K_wishCount : Int32} {K_sights : List Int32} {K_sightCount : Int32} {R_shown : List Int32} {R_length : Int32} {R_readers : Int32} {R_begins : List Int32} {R_lengths : List Int32} {R_sentences : Int32} {R_order : List Int32} {R_able : Int32} {R_standing : List Int32} {R_lovers : List Int32} {R_lowest : List Int32} {C_ways : List Int32} {C_rows : List Int32} {C_shallower : List Int32} {C_length : Int32} {C_goal : Int32} {W_row : List Int32} {W_walkers : Int32} {W_names : Int32} {W_wanted : List Int32} {W_shown : List Int32} {W_places : List Int32} {W_rest : List Int32} {W_spent : List Int32} {W_tried : List Int32} {U_undoRows : List Int64} {U_markScenes : List Int64} {U_marksLaid : List Int32} {U_undoCount : Int32} {U_undoEnd : Int32} {q_sortNames : List Int64} {q_sortCount : Int32} {q_colourNames : List Int64} {q_colourSorts : List Int32} {q_colourCount : Int32} {q_ruleMakes : List Int32} {q_ruleFirsts : List Int32} {q_ruleSeconds : List Int32} {q_ruleCount : Int32} {q_saysSort : Int32} {q_walkerNames : List Int64} {q_kinds : List Int32} {q_walkerColours : List Int32} {q_starts : List Int32} {q_stepRows : List Int32} {q_stepCounts : List Int32} {q_walkerCount : Int32} {q_gusts : List Int32} {q_gustCount : Int32} {q_parts : List Int32} {q_count : Int32} {q_stack : List Int32} {q_height : Int32} {q1_sortNames : List Int64} {q1_sortCount : Int32} {q1_colourNames : List Int64} {q1_colourSorts : List Int32} {q1_colourCount : Int32} {q1_ruleMakes : List Int32} {q1_ruleFirsts : List Int32} {q1_ruleSeconds : List Int32} {q1_ruleCount : Int32} {q1_saysSort : Int32} {q1_walkerNames : List Int64} {q1_kinds : List Int32} {q1_walkerColours : List Int32} {q1_starts : List Int32} {q1_stepRows : List Int32} {q1_stepCounts : List Int32} {q1_walkerCount : Int32} {q1_gusts : List Int32} {q1_gustCount : Int32} {q1_parts : List Int32} {q1_count : Int32} {q1_stack : List Int32} {q1_height : Int32} {B0_lines : List Int32} {B0_lineCount : Int32} {B0_wishes : List Int32} {B0_wishCount : Int32} {B0_sights : List Int32} {B0_sightCount : Int32} {B1_lines : List Int32} {B1_lineCount : Int32} {B1_wishes : List Int32} {B1_wishCount : Int32} {B1_sights : List Int32} {B1_sightCount : Int32} {B2_lines : List Int32} {B2_lineCount : Int32} {B2_wishes : List Int32} {B2_wishCount : Int32} {B2_sights : List Int32} {B2_sightCount : Int32} {B3_lines : List Int32} {B3_lineCount : Int32} {B3_wishes : List Int32} {B3_wishCount : Int32} {B3_sights : List Int32} {B3_sightCount : Int32}
variable {d : Nat} {Q : Option Value → mm_H → Prop} {s : SQ} {c : SC}
/-- the reading's rows have their lengths -/
def RDl (R : px_R) : Prop := (R.1).length = 7 ∧ (R.2.2.2.1).length = 7 ∧ (R.2.2.2.2.1).length = 7 ∧ (R.2.2.2.2.2.2.1).length = 7 ∧ (R.2.2.2.2.2.2.2.2.1).length = 10 ∧ (R.2.2.2.2.2.2.2.2.2.1).length = 10 ∧ (R.2.2.2.2.2.2.2.2.2.2).length = 10
def at_ (c : SC) (x : Nat) (i : Nat) : Bool := decide (c.2.2 i = x)
def lv_ (s : SQ) (c : SC) (x : Nat) (i : Nat) : Bool := decide (c.2.2 i = x) && decide (k_kd s i = 2)
/-- counted from above down to w -/
def CPw (s : SQ) (c : SC) (w : Nat) (R : px_R) : Prop := RDl R ∧ (∀ x, x < 10 → (R.2.2.2.2.2.2.2.2.1)[x]? = some (nI (cn (at_ c x) (k_nW s) - cn (at_ c x) w)) ∧ (R.2.2.2.2.2.2.2.2.2.1)[x]? = some (nI (cn (lv_ s c x) (k_nW s) - cn (lv_ s c x) w))) ∧
  ∀ o, w ≤ o → o < k_nW s → ∃ m, w ≤ m ∧ m ≤ o ∧ c.2.2 m = c.2.2 o ∧ (∀ i, w ≤ i → i < m → ¬ c.2.2 i = c.2.2 o) ∧ (R.2.2.2.2.2.2.2.2.2.2)[c.2.2 o]? = some (nI m)
theorem t_countS (hs : SQx q s) (ho : k_ok s) (hc : c_ok s c) (hS : SCx s S c) (hR : RDl R) (hq : ∀ R', CPw s c 0 R' → Q none (px_h z E M (px_l sw c2 w2 T D S S1 K (R') C W U q q1 B0 B1 B2 B3))) : wm (mp_P fx) (d + 1) 110 [.ref 75, .ref (px_ta sw), .ref 67] (px_h z E M (px_l sw c2 w2 T D S S1 K R C W U q q1 B0 B1 B2 B3)) Q := by
  have hn := hs.2.1.2.2.2.1
  have hW := ho.1.2.2.2.1
  have hkl := hs.1.2.2.2.2.2.2.2.1
  have hkd := hs.2.2.2.2.1.1
  obtain ⟨e1, e2, hrg, hpl⟩ := hS
  obtain ⟨r1, r2, r3, r4, r5, r6, r7⟩ := hR
  simp only [e110, q110_0, q110_1, q110_4, q110_5, q110_8, q110_9, q110_12, q110_13, q110_16, q110_17, q110_20, q110_21, q110_22r, q110_24, q110_27, q110_28, q110_31, q110_32, q110_33i, q110_35, q110_36, q110_39, q110_41, q110_42, q110_43, q110_44, q110_45, q110_46, q110_47, q110_50, q110_52, q110_53, q110_54, q110_55, q110_58, q110_59, q110_60, q110_61, q110_64, q110_65, q110_68, q110_69, q110_70, q110_71, q110_72, q110_75, q110_77, q110_78, q110_79r, q110_82, q110_85, xc_R, xg_R_0, xg_R_1, xs_R_1, xg_R_2, xs_R_2, xg_R_3, xg_R_4, xg_R_5, xs_R_5, xg_R_6, xg_R_7, xs_R_7, xg_R_8, xg_R_9, xg_R_10, xa_R_shown, xb_R_shown, xn_R_shown, xa_R_begins, xb_R_begins, xn_R_begins, xa_R_lengths, xb_R_lengths, xn_R_lengths, xa_R_order, xb_R_order, xn_R_order, xa_R_standing, xb_R_standing, xn_R_standing, xa_R_lovers, xb_R_lovers, xn_R_lovers, xa_R_lowest, xb_R_lowest, xn_R_lowest, xc_q, xg_q_0, xg_q_1, xs_q_1, xg_q_2, xg_q_3, xg_q_4, xs_q_4, xg_q_5, xg_q_6, xg_q_7, xg_q_8, xs_q_8, xg_q_9, xs_q_9, xg_q_10, xg_q_11, xg_q_12, xg_q_13, xg_q_14, xg_q_15, xg_q_16, xs_q_16, xg_q_17, xg_q_18, xs_q_18, xg_q_19, xa_q_sortNames, xb_q_sortNames, xn_q_sortNames, xa_q_colourNames, xb_q_colourNames, xn_q_colourNames, xa_q_colourSorts, xb_q_colourSorts, xn_q_colourSorts, xa_q_ruleMakes, xb_q_ruleMakes, xn_q_ruleMakes, xa_q_ruleFirsts, xb_q_ruleFirsts, xn_q_ruleFirsts, xa_q_ruleSeconds, xb_q_ruleSeconds, xn_q_ruleSeconds, xa_q_walkerNames, xb_q_walkerNames, xn_q_walkerNames, xa_q_kinds, xb_q_kinds, xn_q_kinds, xa_q_walkerColours, xb_q_walkerColours, xn_q_walkerColours, xa_q_starts, xb_q_starts, xn_q_starts, xa_q_stepRows, xb_q_stepRows, xn_q_stepRows, xa_q_stepCounts, xb_q_stepCounts, xn_q_stepCounts, xa_q_gusts, xb_q_gusts, xn_q_gusts, xc_ql, xg_ql_0, xg_ql_1, xs_ql_1, xg_ql_2, xg_ql_3, xs_ql_3, xa_q_parts, xb_q_parts, xn_q_parts, xa_q_stack, xb_q_stack, xn_q_stack, wx_some, wx_ref, hn, isl_i, isl_r, isl_n]
  apply t_fill (xs := R.2.2.2.2.2.2.2.2.1) (H := fun l => (px_h z E M (px_l sw c2 w2 T D S S1 K ((R.1, R.2.1, R.2.2.1, R.2.2.2.1, R.2.2.2.2.1, R.2.2.2.2.2.1, R.2.2.2.2.2.2.1, R.2.2.2.2.2.2.2.1, l, R.2.2.2.2.2.2.2.2.2.1, R.2.2.2.2.2.2.2.2.2.2)) C W U q q1 B0 B1 B2 B3))) (fun _ _ _ => xb_R_standing) (fun _ => xn_R_standing) (by omega)
  simp only [sl_n, e110, q110_0, q110_1, q110_4, q110_5, q110_8, q110_9, q110_12, q110_13, q110_16, q110_17, q110_20, q110_21, q110_22r, q110_24, q110_27, q110_28, q110_31, q110_32, q110_33i, q110_35, q110_36, q110_39, q110_41, q110_42, q110_43, q110_44, q110_45, q110_46, q110_47, q110_50, q110_52, q110_53, q110_54, q110_55, q110_58, q110_59, q110_60, q110_61, q110_64, q110_65, q110_68, q110_69, q110_70, q110_71, q110_72, q110_75, q110_77, q110_78, q110_79r, q110_82, q110_85, xc_R, xg_R_0, xg_R_1, xs_R_1, xg_R_2, xs_R_2, xg_R_3, xg_R_4, xg_R_5, xs_R_5, xg_R_6, xg_R_7, xs_R_7, xg_R_8, xg_R_9, xg_R_10, xa_R_shown, xb_R_shown, xn_R_shown, xa_R_begins, xb_R_begins, xn_R_begins, xa_R_lengths, xb_R_lengths, xn_R_lengths, xa_R_order, xb_R_order, xn_R_order, xa_R_standing, xb_R_standing, xn_R_standing, xa_R_lovers, xb_R_lovers, xn_R_lovers, xa_R_lowest, xb_R_lowest, xn_R_lowest, xc_q, xg_q_0, xg_q_1, xs_q_1, xg_q_2, xg_q_3, xg_q_4, xs_q_4, xg_q_5, xg_q_6, xg_q_7, xg_q_8, xs_q_8, xg_q_9, xs_q_9, xg_q_10, xg_q_11, xg_q_12, xg_q_13, xg_q_14, xg_q_15, xg_q_16, xs_q_16, xg_q_17, xg_q_18, xs_q_18, xg_q_19, xa_q_sortNames, xb_q_sortNames, xn_q_sortNames, xa_q_colourNames, xb_q_colourNames, xn_q_colourNames, xa_q_colourSorts, xb_q_colourSorts, xn_q_colourSorts, xa_q_ruleMakes, xb_q_ruleMakes, xn_q_ruleMakes, xa_q_ruleFirsts, xb_q_ruleFirsts, xn_q_ruleFirsts, xa_q_ruleSeconds, xb_q_ruleSeconds, xn_q_ruleSeconds, xa_q_walkerNames, xb_q_walkerNames, xn_q_walkerNames, xa_q_kinds, xb_q_kinds, xn_q_kinds, xa_q_walkerColours, xb_q_walkerColours, xn_q_walkerColours, xa_q_starts, xb_q_starts, xn_q_starts, xa_q_stepRows, xb_q_stepRows, xn_q_stepRows, xa_q_stepCounts, xb_q_stepCounts, xn_q_stepCounts, xa_q_gusts, xb_q_gusts, xn_q_gusts, xc_ql, xg_ql_0, xg_ql_1, xs_ql_1, xg_ql_2, xg_ql_3, xs_ql_3, xa_q_parts, xb_q_parts, xn_q_parts, xa_q_stack, xb_q_stack, xn_q_stack, wx_some, wx_ref, hn, isl_i, isl_r, isl_n]
  apply t_fill (xs := R.2.2.2.2.2.2.2.2.2.1) (H := fun l => (px_h z E M (px_l sw c2 w2 T D S S1 K ((R.1, R.2.1, R.2.2.1, R.2.2.2.1, R.2.2.2.2.1, R.2.2.2.2.2.1, R.2.2.2.2.2.2.1, R.2.2.2.2.2.2.2.1, List.replicate (R.2.2.2.2.2.2.2.2.1).length 0, l, R.2.2.2.2.2.2.2.2.2.2)) C W U q q1 B0 B1 B2 B3))) (fun _ _ _ => xb_R_lovers) (fun _ => xn_R_lovers) (by omega)
  simp only [sl_n, e110, q110_0, q110_1, q110_4, q110_5, q110_8, q110_9, q110_12, q110_13, q110_16, q110_17, q110_20, q110_21, q110_22r, q110_24, q110_27, q110_28, q110_31, q110_32, q110_33i, q110_35, q110_36, q110_39, q110_41, q110_42, q110_43, q110_44, q110_45, q110_46, q110_47, q110_50, q110_52, q110_53, q110_54, q110_55, q110_58, q110_59, q110_60, q110_61, q110_64, q110_65, q110_68, q110_69, q110_70, q110_71, q110_72, q110_75, q110_77, q110_78, q110_79r, q110_82, q110_85, xc_R, xg_R_0, xg_R_1, xs_R_1, xg_R_2, xs_R_2, xg_R_3, xg_R_4, xg_R_5, xs_R_5, xg_R_6, xg_R_7, xs_R_7, xg_R_8, xg_R_9, xg_R_10, xa_R_shown, xb_R_shown, xn_R_shown, xa_R_begins, xb_R_begins, xn_R_begins, xa_R_lengths, xb_R_lengths, xn_R_lengths, xa_R_order, xb_R_order, xn_R_order, xa_R_standing, xb_R_standing, xn_R_standing, xa_R_lovers, xb_R_lovers, xn_R_lovers, xa_R_lowest, xb_R_lowest, xn_R_lowest, xc_q, xg_q_0, xg_q_1, xs_q_1, xg_q_2, xg_q_3, xg_q_4, xs_q_4, xg_q_5, xg_q_6, xg_q_7, xg_q_8, xs_q_8, xg_q_9, xs_q_9, xg_q_10, xg_q_11, xg_q_12, xg_q_13, xg_q_14, xg_q_15, xg_q_16, xs_q_16, xg_q_17, xg_q_18, xs_q_18, xg_q_19, xa_q_sortNames, xb_q_sortNames, xn_q_sortNames, xa_q_colourNames, xb_q_colourNames, xn_q_colourNames, xa_q_colourSorts, xb_q_colourSorts, xn_q_colourSorts, xa_q_ruleMakes, xb_q_ruleMakes, xn_q_ruleMakes, xa_q_ruleFirsts, xb_q_ruleFirsts, xn_q_ruleFirsts, xa_q_ruleSeconds, xb_q_ruleSeconds, xn_q_ruleSeconds, xa_q_walkerNames, xb_q_walkerNames, xn_q_walkerNames, xa_q_kinds, xb_q_kinds, xn_q_kinds, xa_q_walkerColours, xb_q_walkerColours, xn_q_walkerColours, xa_q_starts, xb_q_starts, xn_q_starts, xa_q_stepRows, xb_q_stepRows, xn_q_stepRows, xa_q_stepCounts, xb_q_stepCounts, xn_q_stepCounts, xa_q_gusts, xb_q_gusts, xn_q_gusts, xc_ql, xg_ql_0, xg_ql_1, xs_ql_1, xg_ql_2, xg_ql_3, xs_ql_3, xa_q_parts, xb_q_parts, xn_q_parts, xa_q_stack, xb_q_stack, xn_q_stack, wx_some, wx_ref, hn, isl_i, isl_r, isl_n]
  have key : ∀ (w : Nat) (R' : px_R) (l4 : Option Value), w ≤ k_nW s → CPw s c w R' → ww (mp_P fx) (d + 1) 110 23 [some (.ref 75), some (.ref (px_ta sw)), some (.ref 67), some (.int (nI w - 1)), l4] [] (px_h z E M (px_l sw c2 w2 T D S S1 K (R') C W U q q1 B0 B1 B2 B3)) Q := by
    intro w
    induction w with
    | zero =>
      intro R' l4 hw hC
      rw [q110_23]
      simp only [e110, q110_0, q110_1, q110_4, q110_5, q110_8, q110_9, q110_12, q110_13, q110_16, q110_17, q110_20, q110_21, q110_22r, q110_24, q110_27, q110_28, q110_31, q110_32, q110_33i, q110_35, q110_36, q110_39, q110_41, q110_42, q110_43, q110_44, q110_45, q110_46, q110_47, q110_50, q110_52, q110_53, q110_54, q110_55, q110_58, q110_59, q110_60, q110_61, q110_64, q110_65, q110_68, q110_69, q110_70, q110_71, q110_72, q110_75, q110_77, q110_78, q110_79r, q110_82, q110_85]
      rw [if_pos (by decide)]
      exact hq R' hC
    | succ w ih =>
      intro R' l4 hw hC
      obtain ⟨⟨s1, s2, s3, s4, s5, s6, s7⟩, hst, hlo⟩ := hC
      have hp := hc.2.2 w (by omega)
      have hx := hst (c.2.2 w) hp
      have g1 := ag_G hpl (show (S.2.2).length < 2 ^ 31 by have := hrg.1; omega) (show w < k_nW s by omega)
      have g2 := ag_G hkd (show (q.2.2.2.2.2.2.2.2.2.2.2.1).length < 2 ^ 31 by omega) (show w < k_nW s by omega)
      have b1 := cn_mono (p := at_ c (c.2.2 w)) (show w + 1 ≤ k_nW s by omega)
      have b2 := cn_mono (p := lv_ s c (c.2.2 w)) (show w + 1 ≤ k_nW s by omega)
      have c1 : cn (at_ c (c.2.2 w)) (w + 1) = cn (at_ c (c.2.2 w)) w + 1 := by rw [cn, if_pos (by unfold at_; exact decide_eq_true rfl)]
      have c2 : cn (lv_ s c (c.2.2 w)) (w + 1) = cn (lv_ s c (c.2.2 w)) w + (if k_kd s w = 2 then 1 else 0) := by rw [cn]; unfold lv_; rw [decide_eq_true rfl, Bool.true_and]; simp only [decide_eq_true_eq]
      have hk4 := (ho.2.2.2.1 w (by omega)).1
      rw [q110_23, nI_pred]
      simp only [e110, q110_0, q110_1, q110_4, q110_5, q110_8, q110_9, q110_12, q110_13, q110_16, q110_17, q110_20, q110_21, q110_22r, q110_24, q110_27, q110_28, q110_31, q110_32, q110_33i, q110_35, q110_36, q110_39, q110_41, q110_42, q110_43, q110_44, q110_45, q110_46, q110_47, q110_50, q110_52, q110_53, q110_54, q110_55, q110_58, q110_59, q110_60, q110_61, q110_64, q110_65, q110_68, q110_69, q110_70, q110_71, q110_72, q110_75, q110_77, q110_78, q110_79r, q110_82, q110_85, xc_R, xg_R_0, xg_R_1, xs_R_1, xg_R_2, xs_R_2, xg_R_3, xg_R_4, xg_R_5, xs_R_5, xg_R_6, xg_R_7, xs_R_7, xg_R_8, xg_R_9, xg_R_10, xa_R_shown, xb_R_shown, xn_R_shown, xa_R_begins, xb_R_begins, xn_R_begins, xa_R_lengths, xb_R_lengths, xn_R_lengths, xa_R_order, xb_R_order, xn_R_order, xa_R_standing, xb_R_standing, xn_R_standing, xa_R_lovers, xb_R_lovers, xn_R_lovers, xa_R_lowest, xb_R_lowest, xn_R_lowest, xc_q, xg_q_0, xg_q_1, xs_q_1, xg_q_2, xg_q_3, xg_q_4, xs_q_4, xg_q_5, xg_q_6, xg_q_7, xg_q_8, xs_q_8, xg_q_9, xs_q_9, xg_q_10, xg_q_11, xg_q_12, xg_q_13, xg_q_14, xg_q_15, xg_q_16, xs_q_16, xg_q_17, xg_q_18, xs_q_18, xg_q_19, xa_q_sortNames, xb_q_sortNames, xn_q_sortNames, xa_q_colourNames, xb_q_colourNames, xn_q_colourNames, xa_q_colourSorts, xb_q_colourSorts, xn_q_colourSorts, xa_q_ruleMakes, xb_q_ruleMakes, xn_q_ruleMakes, xa_q_ruleFirsts, xb_q_ruleFirsts, xn_q_ruleFirsts, xa_q_ruleSeconds, xb_q_ruleSeconds, xn_q_ruleSeconds, xa_q_walkerNames, xb_q_walkerNames, xn_q_walkerNames, xa_q_kinds, xb_q_kinds, xn_q_kinds, xa_q_walkerColours, xb_q_walkerColours, xn_q_walkerColours, xa_q_starts, xb_q_starts, xn_q_starts, xa_q_stepRows, xb_q_stepRows, xn_q_stepRows, xa_q_stepCounts, xb_q_stepCounts, xn_q_stepCounts, xa_q_gusts, xb_q_gusts, xn_q_gusts, xc_ql, xg_ql_0, xg_ql_1, xs_ql_1, xg_ql_2, xg_ql_3, xs_ql_3, xa_q_parts, xb_q_parts, xn_q_parts, xa_q_stack, xb_q_stack, xn_q_stack, xc_S, xg_S_0, xs_S_0, xg_S_1, xs_S_1, xg_S_2, xa_S_places, xb_S_places, xn_S_places, wx_some, wx_ref, isl_i, isl_r, isl_n, g1, g2, aG_n hx.1 (show (R'.2.2.2.2.2.2.2.2.1).length < 2 ^ 31 by omega), aG_n hx.2 (show (R'.2.2.2.2.2.2.2.2.2.1).length < 2 ^ 31 by omega), aS_n (show c.2.2 w < (R'.2.2.2.2.2.2.2.2.1).length by omega) (show (R'.2.2.2.2.2.2.2.2.1).length < 2 ^ 31 by omega), aS_n (show c.2.2 w < (R'.2.2.2.2.2.2.2.2.2.1).length by omega) (show (R'.2.2.2.2.2.2.2.2.2.1).length < 2 ^ 31 by omega), aS_n (show c.2.2 w < (R'.2.2.2.2.2.2.2.2.2.2).length by omega) (show (R'.2.2.2.2.2.2.2.2.2.2).length < 2 ^ 31 by omega), nl_1, nI_add]
      rw [if_neg (nI_pos (by omega))]
      have fin : ∀ v, v = cn (lv_ s c (c.2.2 w)) (k_nW s) - cn (lv_ s c (c.2.2 w)) w → CPw s c w (R'.1, R'.2.1, R'.2.2.1, R'.2.2.2.1, R'.2.2.2.2.1, R'.2.2.2.2.2.1, R'.2.2.2.2.2.2.1, R'.2.2.2.2.2.2.2.1, (R'.2.2.2.2.2.2.2.2.1).set (c.2.2 w) (nI (cn (at_ c (c.2.2 w)) (k_nW s) - cn (at_ c (c.2.2 w)) (w + 1) + 1)), (R'.2.2.2.2.2.2.2.2.2.1).set (c.2.2 w) (nI v), (R'.2.2.2.2.2.2.2.2.2.2).set (c.2.2 w) (nI w)) := by
        intro v hv
        refine ⟨⟨s1, s2, s3, s4, by simp only [List.length_set]; exact s5, by simp only [List.length_set]; exact s6, by simp only [List.length_set]; exact s7⟩, ?_, ?_⟩
        · intro x hx10
          have hx' := hst x hx10
          simp only [List.getElem?_set]
          by_cases e : c.2.2 w = x
          · subst e
            rw [if_pos rfl, if_pos (by omega), if_pos rfl, if_pos (by omega), hv]
            exact ⟨by rw [show cn (at_ c (c.2.2 w)) (k_nW s) - cn (at_ c (c.2.2 w)) (w + 1) + 1 = cn (at_ c (c.2.2 w)) (k_nW s) - cn (at_ c (c.2.2 w)) w by omega], rfl⟩
          · rw [if_neg e, if_neg e]
            have d1 : cn (at_ c x) (w + 1) = cn (at_ c x) w := by rw [cn, if_neg (by unfold at_; rw [decide_eq_false e]; exact Bool.false_ne_true)]; rfl
            have d2 : cn (lv_ s c x) (w + 1) = cn (lv_ s c x) w := by rw [cn, if_neg (by unfold lv_; rw [decide_eq_false e]; exact Bool.false_ne_true)]; rfl
            rw [← d1, ← d2]; exact hx'
        · intro o hwo hon
          simp only [List.getElem?_set]
          by_cases e : c.2.2 w = c.2.2 o
          · rw [if_pos e, if_pos (by omega)]
            exact ⟨w, Nat.le_refl _, hwo, e, fun i h1 h2 => by omega, rfl⟩
          · rw [if_neg e]
            have hne : w ≠ o := fun z => e (by rw [z])
            obtain ⟨m, m1, m2, m3, m4, m5⟩ := hlo o (by omega) hon
            refine ⟨m, by omega, m2, m3, fun i h1 h2 => ?_, m5⟩
            by_cases ei : i = w
            · subst ei; exact e
            · exact m4 i (by omega) h2
      by_cases hk2 : k_kd s w = 2
      · rw [if_neg (by rw [hk2]; exact fun z => z rfl)]
        rw [if_pos hk2] at c2
        rw [i_m1']
        exact ih _ _ (by omega) (fin _ (by omega))
      · rw [if_pos (by rw [nl_2, nI_eq (by omega) (by omega)]; exact hk2)]
        rw [if_neg hk2] at c2
        rw [i_m1', nl_0, nI_add]
        exact ih _ _ (by omega) (fin _ (by omega))
  refine key (k_nW s) _ none (Nat.le_refl _) ⟨⟨r1, r2, r3, r4, by rw [List.length_replicate]; exact r5, by rw [List.length_replicate]; exact r6, r7⟩, ?_, fun o h1 h2 => by omega⟩
  intro x hx
  simp only [List.getElem?_replicate, Nat.sub_self]
  rw [if_pos (by omega), if_pos (by omega)]
  exact ⟨rfl, rfl⟩
theorem t_countS1 (hs : SQx q s) (ho : k_ok s) (hc : c_ok s c) (hS : SCx s S1 c) (hR : RDl R) (hq : ∀ R', CPw s c 0 R' → Q none (px_h z E M (px_l sw c2 w2 T D S S1 K (R') C W U q q1 B0 B1 B2 B3))) : wm (mp_P fx) (d + 1) 110 [.ref 75, .ref (px_ta sw), .ref 69] (px_h z E M (px_l sw c2 w2 T D S S1 K R C W U q q1 B0 B1 B2 B3)) Q := by
  have hn := hs.2.1.2.2.2.1
  have hW := ho.1.2.2.2.1
  have hkl := hs.1.2.2.2.2.2.2.2.1
  have hkd := hs.2.2.2.2.1.1
  obtain ⟨e1, e2, hrg, hpl⟩ := hS
  obtain ⟨r1, r2, r3, r4, r5, r6, r7⟩ := hR
  simp only [e110, q110_0, q110_1, q110_4, q110_5, q110_8, q110_9, q110_12, q110_13, q110_16, q110_17, q110_20, q110_21, q110_22r, q110_24, q110_27, q110_28, q110_31, q110_32, q110_33i, q110_35, q110_36, q110_39, q110_41, q110_42, q110_43, q110_44, q110_45, q110_46, q110_47, q110_50, q110_52, q110_53, q110_54, q110_55, q110_58, q110_59, q110_60, q110_61, q110_64, q110_65, q110_68, q110_69, q110_70, q110_71, q110_72, q110_75, q110_77, q110_78, q110_79r, q110_82, q110_85, xc_R, xg_R_0, xg_R_1, xs_R_1, xg_R_2, xs_R_2, xg_R_3, xg_R_4, xg_R_5, xs_R_5, xg_R_6, xg_R_7, xs_R_7, xg_R_8, xg_R_9, xg_R_10, xa_R_shown, xb_R_shown, xn_R_shown, xa_R_begins, xb_R_begins, xn_R_begins, xa_R_lengths, xb_R_lengths, xn_R_lengths, xa_R_order, xb_R_order, xn_R_order, xa_R_standing, xb_R_standing, xn_R_standing, xa_R_lovers, xb_R_lovers, xn_R_lovers, xa_R_lowest, xb_R_lowest, xn_R_lowest, xc_q, xg_q_0, xg_q_1, xs_q_1, xg_q_2, xg_q_3, xg_q_4, xs_q_4, xg_q_5, xg_q_6, xg_q_7, xg_q_8, xs_q_8, xg_q_9, xs_q_9, xg_q_10, xg_q_11, xg_q_12, xg_q_13, xg_q_14, xg_q_15, xg_q_16, xs_q_16, xg_q_17, xg_q_18, xs_q_18, xg_q_19, xa_q_sortNames, xb_q_sortNames, xn_q_sortNames, xa_q_colourNames, xb_q_colourNames, xn_q_colourNames, xa_q_colourSorts, xb_q_colourSorts, xn_q_colourSorts, xa_q_ruleMakes, xb_q_ruleMakes, xn_q_ruleMakes, xa_q_ruleFirsts, xb_q_ruleFirsts, xn_q_ruleFirsts, xa_q_ruleSeconds, xb_q_ruleSeconds, xn_q_ruleSeconds, xa_q_walkerNames, xb_q_walkerNames, xn_q_walkerNames, xa_q_kinds, xb_q_kinds, xn_q_kinds, xa_q_walkerColours, xb_q_walkerColours, xn_q_walkerColours, xa_q_starts, xb_q_starts, xn_q_starts, xa_q_stepRows, xb_q_stepRows, xn_q_stepRows, xa_q_stepCounts, xb_q_stepCounts, xn_q_stepCounts, xa_q_gusts, xb_q_gusts, xn_q_gusts, xc_ql, xg_ql_0, xg_ql_1, xs_ql_1, xg_ql_2, xg_ql_3, xs_ql_3, xa_q_parts, xb_q_parts, xn_q_parts, xa_q_stack, xb_q_stack, xn_q_stack, wx_some, wx_ref, hn, isl_i, isl_r, isl_n]
  apply t_fill (xs := R.2.2.2.2.2.2.2.2.1) (H := fun l => (px_h z E M (px_l sw c2 w2 T D S S1 K ((R.1, R.2.1, R.2.2.1, R.2.2.2.1, R.2.2.2.2.1, R.2.2.2.2.2.1, R.2.2.2.2.2.2.1, R.2.2.2.2.2.2.2.1, l, R.2.2.2.2.2.2.2.2.2.1, R.2.2.2.2.2.2.2.2.2.2)) C W U q q1 B0 B1 B2 B3))) (fun _ _ _ => xb_R_standing) (fun _ => xn_R_standing) (by omega)
  simp only [sl_n, e110, q110_0, q110_1, q110_4, q110_5, q110_8, q110_9, q110_12, q110_13, q110_16, q110_17, q110_20, q110_21, q110_22r, q110_24, q110_27, q110_28, q110_31, q110_32, q110_33i, q110_35, q110_36, q110_39, q110_41, q110_42, q110_43, q110_44, q110_45, q110_46, q110_47, q110_50, q110_52, q110_53, q110_54, q110_55, q110_58, q110_59, q110_60, q110_61, q110_64, q110_65, q110_68, q110_69, q110_70, q110_71, q110_72, q110_75, q110_77, q110_78, q110_79r, q110_82, q110_85, xc_R, xg_R_0, xg_R_1, xs_R_1, xg_R_2, xs_R_2, xg_R_3, xg_R_4, xg_R_5, xs_R_5, xg_R_6, xg_R_7, xs_R_7, xg_R_8, xg_R_9, xg_R_10, xa_R_shown, xb_R_shown, xn_R_shown, xa_R_begins, xb_R_begins, xn_R_begins, xa_R_lengths, xb_R_lengths, xn_R_lengths, xa_R_order, xb_R_order, xn_R_order, xa_R_standing, xb_R_standing, xn_R_standing, xa_R_lovers, xb_R_lovers, xn_R_lovers, xa_R_lowest, xb_R_lowest, xn_R_lowest, xc_q, xg_q_0, xg_q_1, xs_q_1, xg_q_2, xg_q_3, xg_q_4, xs_q_4, xg_q_5, xg_q_6, xg_q_7, xg_q_8, xs_q_8, xg_q_9, xs_q_9, xg_q_10, xg_q_11, xg_q_12, xg_q_13, xg_q_14, xg_q_15, xg_q_16, xs_q_16, xg_q_17, xg_q_18, xs_q_18, xg_q_19, xa_q_sortNames, xb_q_sortNames, xn_q_sortNames, xa_q_colourNames, xb_q_colourNames, xn_q_colourNames, xa_q_colourSorts, xb_q_colourSorts, xn_q_colourSorts, xa_q_ruleMakes, xb_q_ruleMakes, xn_q_ruleMakes, xa_q_ruleFirsts, xb_q_ruleFirsts, xn_q_ruleFirsts, xa_q_ruleSeconds, xb_q_ruleSeconds, xn_q_ruleSeconds, xa_q_walkerNames, xb_q_walkerNames, xn_q_walkerNames, xa_q_kinds, xb_q_kinds, xn_q_kinds, xa_q_walkerColours, xb_q_walkerColours, xn_q_walkerColours, xa_q_starts, xb_q_starts, xn_q_starts, xa_q_stepRows, xb_q_stepRows, xn_q_stepRows, xa_q_stepCounts, xb_q_stepCounts, xn_q_stepCounts, xa_q_gusts, xb_q_gusts, xn_q_gusts, xc_ql, xg_ql_0, xg_ql_1, xs_ql_1, xg_ql_2, xg_ql_3, xs_ql_3, xa_q_parts, xb_q_parts, xn_q_parts, xa_q_stack, xb_q_stack, xn_q_stack, wx_some, wx_ref, hn, isl_i, isl_r, isl_n]
  apply t_fill (xs := R.2.2.2.2.2.2.2.2.2.1) (H := fun l => (px_h z E M (px_l sw c2 w2 T D S S1 K ((R.1, R.2.1, R.2.2.1, R.2.2.2.1, R.2.2.2.2.1, R.2.2.2.2.2.1, R.2.2.2.2.2.2.1, R.2.2.2.2.2.2.2.1, List.replicate (R.2.2.2.2.2.2.2.2.1).length 0, l, R.2.2.2.2.2.2.2.2.2.2)) C W U q q1 B0 B1 B2 B3))) (fun _ _ _ => xb_R_lovers) (fun _ => xn_R_lovers) (by omega)
  simp only [sl_n, e110, q110_0, q110_1, q110_4, q110_5, q110_8, q110_9, q110_12, q110_13, q110_16, q110_17, q110_20, q110_21, q110_22r, q110_24, q110_27, q110_28, q110_31, q110_32, q110_33i, q110_35, q110_36, q110_39, q110_41, q110_42, q110_43, q110_44, q110_45, q110_46, q110_47, q110_50, q110_52, q110_53, q110_54, q110_55, q110_58, q110_59, q110_60, q110_61, q110_64, q110_65, q110_68, q110_69, q110_70, q110_71, q110_72, q110_75, q110_77, q110_78, q110_79r, q110_82, q110_85, xc_R, xg_R_0, xg_R_1, xs_R_1, xg_R_2, xs_R_2, xg_R_3, xg_R_4, xg_R_5, xs_R_5, xg_R_6, xg_R_7, xs_R_7, xg_R_8, xg_R_9, xg_R_10, xa_R_shown, xb_R_shown, xn_R_shown, xa_R_begins, xb_R_begins, xn_R_begins, xa_R_lengths, xb_R_lengths, xn_R_lengths, xa_R_order, xb_R_order, xn_R_order, xa_R_standing, xb_R_standing, xn_R_standing, xa_R_lovers, xb_R_lovers, xn_R_lovers, xa_R_lowest, xb_R_lowest, xn_R_lowest, xc_q, xg_q_0, xg_q_1, xs_q_1, xg_q_2, xg_q_3, xg_q_4, xs_q_4, xg_q_5, xg_q_6, xg_q_7, xg_q_8, xs_q_8, xg_q_9, xs_q_9, xg_q_10, xg_q_11, xg_q_12, xg_q_13, xg_q_14, xg_q_15, xg_q_16, xs_q_16, xg_q_17, xg_q_18, xs_q_18, xg_q_19, xa_q_sortNames, xb_q_sortNames, xn_q_sortNames, xa_q_colourNames, xb_q_colourNames, xn_q_colourNames, xa_q_colourSorts, xb_q_colourSorts, xn_q_colourSorts, xa_q_ruleMakes, xb_q_ruleMakes, xn_q_ruleMakes, xa_q_ruleFirsts, xb_q_ruleFirsts, xn_q_ruleFirsts, xa_q_ruleSeconds, xb_q_ruleSeconds, xn_q_ruleSeconds, xa_q_walkerNames, xb_q_walkerNames, xn_q_walkerNames, xa_q_kinds, xb_q_kinds, xn_q_kinds, xa_q_walkerColours, xb_q_walkerColours, xn_q_walkerColours, xa_q_starts, xb_q_starts, xn_q_starts, xa_q_stepRows, xb_q_stepRows, xn_q_stepRows, xa_q_stepCounts, xb_q_stepCounts, xn_q_stepCounts, xa_q_gusts, xb_q_gusts, xn_q_gusts, xc_ql, xg_ql_0, xg_ql_1, xs_ql_1, xg_ql_2, xg_ql_3, xs_ql_3, xa_q_parts, xb_q_parts, xn_q_parts, xa_q_stack, xb_q_stack, xn_q_stack, wx_some, wx_ref, hn, isl_i, isl_r, isl_n]
  have key : ∀ (w : Nat) (R' : px_R) (l4 : Option Value), w ≤ k_nW s → CPw s c w R' → ww (mp_P fx) (d + 1) 110 23 [some (.ref 75), some (.ref (px_ta sw)), some (.ref 69), some (.int (nI w - 1)), l4] [] (px_h z E M (px_l sw c2 w2 T D S S1 K (R') C W U q q1 B0 B1 B2 B3)) Q := by
    intro w
    induction w with
    | zero =>
      intro R' l4 hw hC
      rw [q110_23]
      simp only [e110, q110_0, q110_1, q110_4, q110_5, q110_8, q110_9, q110_12, q110_13, q110_16, q110_17, q110_20, q110_21, q110_22r, q110_24, q110_27, q110_28, q110_31, q110_32, q110_33i, q110_35, q110_36, q110_39, q110_41, q110_42, q110_43, q110_44, q110_45, q110_46, q110_47, q110_50, q110_52, q110_53, q110_54, q110_55, q110_58, q110_59, q110_60, q110_61, q110_64, q110_65, q110_68, q110_69, q110_70, q110_71, q110_72, q110_75, q110_77, q110_78, q110_79r, q110_82, q110_85]
      rw [if_pos (by decide)]
      exact hq R' hC
    | succ w ih =>
      intro R' l4 hw hC
      obtain ⟨⟨s1, s2, s3, s4, s5, s6, s7⟩, hst, hlo⟩ := hC
      have hp := hc.2.2 w (by omega)
      have hx := hst (c.2.2 w) hp
      have g1 := ag_G hpl (show (S1.2.2).length < 2 ^ 31 by have := hrg.1; omega) (show w < k_nW s by omega)
      have g2 := ag_G hkd (show (q.2.2.2.2.2.2.2.2.2.2.2.1).length < 2 ^ 31 by omega) (show w < k_nW s by omega)
      have b1 := cn_mono (p := at_ c (c.2.2 w)) (show w + 1 ≤ k_nW s by omega)
      have b2 := cn_mono (p := lv_ s c (c.2.2 w)) (show w + 1 ≤ k_nW s by omega)
      have c1 : cn (at_ c (c.2.2 w)) (w + 1) = cn (at_ c (c.2.2 w)) w + 1 := by rw [cn, if_pos (by unfold at_; exact decide_eq_true rfl)]
      have c2 : cn (lv_ s c (c.2.2 w)) (w + 1) = cn (lv_ s c (c.2.2 w)) w + (if k_kd s w = 2 then 1 else 0) := by rw [cn]; unfold lv_; rw [decide_eq_true rfl, Bool.true_and]; simp only [decide_eq_true_eq]
      have hk4 := (ho.2.2.2.1 w (by omega)).1
      rw [q110_23, nI_pred]
      simp only [e110, q110_0, q110_1, q110_4, q110_5, q110_8, q110_9, q110_12, q110_13, q110_16, q110_17, q110_20, q110_21, q110_22r, q110_24, q110_27, q110_28, q110_31, q110_32, q110_33i, q110_35, q110_36, q110_39, q110_41, q110_42, q110_43, q110_44, q110_45, q110_46, q110_47, q110_50, q110_52, q110_53, q110_54, q110_55, q110_58, q110_59, q110_60, q110_61, q110_64, q110_65, q110_68, q110_69, q110_70, q110_71, q110_72, q110_75, q110_77, q110_78, q110_79r, q110_82, q110_85, xc_R, xg_R_0, xg_R_1, xs_R_1, xg_R_2, xs_R_2, xg_R_3, xg_R_4, xg_R_5, xs_R_5, xg_R_6, xg_R_7, xs_R_7, xg_R_8, xg_R_9, xg_R_10, xa_R_shown, xb_R_shown, xn_R_shown, xa_R_begins, xb_R_begins, xn_R_begins, xa_R_lengths, xb_R_lengths, xn_R_lengths, xa_R_order, xb_R_order, xn_R_order, xa_R_standing, xb_R_standing, xn_R_standing, xa_R_lovers, xb_R_lovers, xn_R_lovers, xa_R_lowest, xb_R_lowest, xn_R_lowest, xc_q, xg_q_0, xg_q_1, xs_q_1, xg_q_2, xg_q_3, xg_q_4, xs_q_4, xg_q_5, xg_q_6, xg_q_7, xg_q_8, xs_q_8, xg_q_9, xs_q_9, xg_q_10, xg_q_11, xg_q_12, xg_q_13, xg_q_14, xg_q_15, xg_q_16, xs_q_16, xg_q_17, xg_q_18, xs_q_18, xg_q_19, xa_q_sortNames, xb_q_sortNames, xn_q_sortNames, xa_q_colourNames, xb_q_colourNames, xn_q_colourNames, xa_q_colourSorts, xb_q_colourSorts, xn_q_colourSorts, xa_q_ruleMakes, xb_q_ruleMakes, xn_q_ruleMakes, xa_q_ruleFirsts, xb_q_ruleFirsts, xn_q_ruleFirsts, xa_q_ruleSeconds, xb_q_ruleSeconds, xn_q_ruleSeconds, xa_q_walkerNames, xb_q_walkerNames, xn_q_walkerNames, xa_q_kinds, xb_q_kinds, xn_q_kinds, xa_q_walkerColours, xb_q_walkerColours, xn_q_walkerColours, xa_q_starts, xb_q_starts, xn_q_starts, xa_q_stepRows, xb_q_stepRows, xn_q_stepRows, xa_q_stepCounts, xb_q_stepCounts, xn_q_stepCounts, xa_q_gusts, xb_q_gusts, xn_q_gusts, xc_ql, xg_ql_0, xg_ql_1, xs_ql_1, xg_ql_2, xg_ql_3, xs_ql_3, xa_q_parts, xb_q_parts, xn_q_parts, xa_q_stack, xb_q_stack, xn_q_stack, xc_S1, xg_S1_0, xs_S1_0, xg_S1_1, xs_S1_1, xg_S1_2, xa_S1_places, xb_S1_places, xn_S1_places, wx_some, wx_ref, isl_i, isl_r, isl_n, g1, g2, aG_n hx.1 (show (R'.2.2.2.2.2.2.2.2.1).length < 2 ^ 31 by omega), aG_n hx.2 (show (R'.2.2.2.2.2.2.2.2.2.1).length < 2 ^ 31 by omega), aS_n (show c.2.2 w < (R'.2.2.2.2.2.2.2.2.1).length by omega) (show (R'.2.2.2.2.2.2.2.2.1).length < 2 ^ 31 by omega), aS_n (show c.2.2 w < (R'.2.2.2.2.2.2.2.2.2.1).length by omega) (show (R'.2.2.2.2.2.2.2.2.2.1).length < 2 ^ 31 by omega), aS_n (show c.2.2 w < (R'.2.2.2.2.2.2.2.2.2.2).length by omega) (show (R'.2.2.2.2.2.2.2.2.2.2).length < 2 ^ 31 by omega), nl_1, nI_add]
      rw [if_neg (nI_pos (by omega))]
      have fin : ∀ v, v = cn (lv_ s c (c.2.2 w)) (k_nW s) - cn (lv_ s c (c.2.2 w)) w → CPw s c w (R'.1, R'.2.1, R'.2.2.1, R'.2.2.2.1, R'.2.2.2.2.1, R'.2.2.2.2.2.1, R'.2.2.2.2.2.2.1, R'.2.2.2.2.2.2.2.1, (R'.2.2.2.2.2.2.2.2.1).set (c.2.2 w) (nI (cn (at_ c (c.2.2 w)) (k_nW s) - cn (at_ c (c.2.2 w)) (w + 1) + 1)), (R'.2.2.2.2.2.2.2.2.2.1).set (c.2.2 w) (nI v), (R'.2.2.2.2.2.2.2.2.2.2).set (c.2.2 w) (nI w)) := by
        intro v hv
        refine ⟨⟨s1, s2, s3, s4, by simp only [List.length_set]; exact s5, by simp only [List.length_set]; exact s6, by simp only [List.length_set]; exact s7⟩, ?_, ?_⟩
        · intro x hx10
          have hx' := hst x hx10
          simp only [List.getElem?_set]
          by_cases e : c.2.2 w = x
          · subst e
            rw [if_pos rfl, if_pos (by omega), if_pos rfl, if_pos (by omega), hv]
            exact ⟨by rw [show cn (at_ c (c.2.2 w)) (k_nW s) - cn (at_ c (c.2.2 w)) (w + 1) + 1 = cn (at_ c (c.2.2 w)) (k_nW s) - cn (at_ c (c.2.2 w)) w by omega], rfl⟩
          · rw [if_neg e, if_neg e]
            have d1 : cn (at_ c x) (w + 1) = cn (at_ c x) w := by rw [cn, if_neg (by unfold at_; rw [decide_eq_false e]; exact Bool.false_ne_true)]; rfl
            have d2 : cn (lv_ s c x) (w + 1) = cn (lv_ s c x) w := by rw [cn, if_neg (by unfold lv_; rw [decide_eq_false e]; exact Bool.false_ne_true)]; rfl
            rw [← d1, ← d2]; exact hx'
        · intro o hwo hon
          simp only [List.getElem?_set]
          by_cases e : c.2.2 w = c.2.2 o
          · rw [if_pos e, if_pos (by omega)]
            exact ⟨w, Nat.le_refl _, hwo, e, fun i h1 h2 => by omega, rfl⟩
          · rw [if_neg e]
            have hne : w ≠ o := fun z => e (by rw [z])
            obtain ⟨m, m1, m2, m3, m4, m5⟩ := hlo o (by omega) hon
            refine ⟨m, by omega, m2, m3, fun i h1 h2 => ?_, m5⟩
            by_cases ei : i = w
            · subst ei; exact e
            · exact m4 i (by omega) h2
      by_cases hk2 : k_kd s w = 2
      · rw [if_neg (by rw [hk2]; exact fun z => z rfl)]
        rw [if_pos hk2] at c2
        rw [i_m1']
        exact ih _ _ (by omega) (fin _ (by omega))
      · rw [if_pos (by rw [nl_2, nI_eq (by omega) (by omega)]; exact hk2)]
        rw [if_neg hk2] at c2
        rw [i_m1', nl_0, nI_add]
        exact ih _ _ (by omega) (fin _ (by omega))
  refine key (k_nW s) _ none (Nat.le_refl _) ⟨⟨r1, r2, r3, r4, by rw [List.length_replicate]; exact r5, by rw [List.length_replicate]; exact r6, r7⟩, ?_, fun o h1 h2 => by omega⟩
  intro x hx
  simp only [List.getElem?_replicate, Nat.sub_self]
  rw [if_pos (by omega), if_pos (by omega)]
  exact ⟨rfl, rfl⟩
end TR
