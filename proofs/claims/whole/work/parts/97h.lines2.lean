/-! lines of a square, of the class: rules, walkers, gusts -/
def l_nm (tp : List Nat) (mx j : Nat) : Nat → Nat → Nat × Nat
  | 0, t => if TY tp (j + t) = 2 then (if VL tp (j + t) ≤ mx then (flt tp 5 (j + t), t) else (flt tp 4 (j + t), t)) else (if t = 0 then (flt tp 1 (j + t), t) else (0, t))
  | r + 1, t => if TY tp (j + t) = 2 then (if VL tp (j + t) ≤ mx then l_nm tp mx j r (t + 1) else (flt tp 4 (j + t), t)) else (if t = 0 then (flt tp 1 (j + t), t) else (0, t))
theorem l_nm_end {tp : List Nat} {mx j r t : Nat} (h : ¬ TY tp (j + t) = 2) : l_nm tp mx j r t = if t = 0 then (flt tp 1 (j + t), t) else (0, t) := by
  cases r <;> (rw [l_nm, if_neg h])
theorem l_nm_4 {tp : List Nat} {mx j r t : Nat} (h : TY tp (j + t) = 2) (h2 : ¬ VL tp (j + t) ≤ mx) : l_nm tp mx j r t = (flt tp 4 (j + t), t) := by
  cases r <;> (rw [l_nm, if_pos h, if_neg h2])
def kdO (tp : List Nat) (i : Nat) : Option Nat := if wdB tp i 15 = true then some 0 else if wdB tp i 16 = true then some 1 else if wdB tp i 17 = true then some 2 else if wdB tp i 18 = true then some 3 else none
theorem kdO_lt {tp : List Nat} {i v : Nat} (h : kdO tp i = some v) : v < 4 := by
  unfold kdO at h
  repeat' split at h
  all_goals (cases h <;> omega)
theorem kdO_ty {tp : List Nat} {i v : Nat} (h : kdO tp i = some v) : TY tp i = 1 := by
  unfold kdO at h
  repeat' split at h
  all_goals first | (rename_i e; exact (wdB_t.mp e).1) | (cases h)
def addW (o : PS) (l : List Nat) (kd co st c : Nat) (ns : Nat → Nat) : PS := (((k_nS o.1, k_nC o.1, k_nR o.1, k_nW o.1 + 1, k_nG o.1, k_sy o.1), o.1.2.1, (up (k_kd o.1) (k_nW o.1) kd, up (k_wc o.1) (k_nW o.1) co, up (k_st o.1) (k_nW o.1) st, up (k_sc o.1) (k_nW o.1) c, k_gu o.1), (fun w i => if w = k_nW o.1 then ns i else k_sr o.1 w i), k_lw o.1), nmU o.2.1 2 (k_nW o.1) l, o.2.2)
def setG (o : PS) (c : Nat) (ns : Nat → Nat) : PS := (((k_nS o.1, k_nC o.1, k_nR o.1, k_nW o.1, c, k_sy o.1), o.1.2.1, (k_kd o.1, k_wc o.1, k_st o.1, k_sc o.1, ns), o.1.2.2.2), o.2.1, o.2.2)
def l_walk (tp : List Nat) (i : Nat) (o : PS) : PR := if 7 ≤ k_nW o.1 then (flt tp 5 i, i, o) else if c_new tp o.2.1 o.1 (i + 1) = 0 then (match kdO tp (i + 2) with
  | none => (flt tp 1 (i + 2), i, o)
  | some kd => if (c_named tp o.2.1 1 (k_nC o.1) (i + 3)).1 = 0 then (if wdB tp (i + 4) 7 = true then (if TY tp (i + 5) = 2 then (if VL tp (i + 5) ≤ 9 then (if wdB tp (i + 6) 8 = true then (if (l_nm tp 2 (i + 7) 6 0).1 = 0 then (0, i + 7 + (l_nm tp 2 (i + 7) 6 0).2, addW o (LT tp (i + 1)) kd (c_named tp o.2.1 1 (k_nC o.1) (i + 3)).2 (VL tp (i + 5)) (l_nm tp 2 (i + 7) 6 0).2 (fun t => VL tp (i + 7 + t))) else ((l_nm tp 2 (i + 7) 6 0).1, i, o)) else (flt tp 1 (i + 6), i, o)) else (flt tp 4 (i + 5), i, o)) else (flt tp 1 (i + 5), i, o)) else (flt tp 1 (i + 4), i, o)) else ((c_named tp o.2.1 1 (k_nC o.1) (i + 3)).1, i, o)) else (c_new tp o.2.1 o.1 (i + 1), i, o)
def l_gust (tp : List Nat) (i : Nat) (o : PS) : PR := if 0 < k_nG o.1 then (flt tp 3 i, i, o) else if (l_nm tp 10 (i + 1) 8 0).1 = 0 then (0, i + 1 + (l_nm tp 10 (i + 1) 8 0).2, setG o (l_nm tp 10 (i + 1) 8 0).2 (fun t => VL tp (i + 1 + t))) else ((l_nm tp 10 (i + 1) 8 0).1, i, o)
theorem ok_addW {o : PS} {l : List Nat} {kd co st c : Nat} {ns : Nat → Nat} (h : PSok o) (hn : k_nW o.1 < 7) (hl : wfl l) (h1 : kd < 4) (h2 : co < k_nC o.1) (h3 : st < 10) (h4 : 0 < c ∧ c ≤ 6) (h5 : ∀ i, i < c → ns i ≤ 2) : PSok (addW o l kd co st c ns) := by
  obtain ⟨⟨⟨a1, a2, a3, a4, a5⟩, b, c', e, f, g⟩, ⟨n1, n2, n3⟩, h3', h4'⟩ := h
  refine ⟨⟨⟨a1, a2, a3, by show k_nW o.1 + 1 ≤ 7; omega, a5⟩, b, c', fun w hw => ?_, f, g⟩, ⟨fun i hi => ?_, fun i hi => ?_, fun i hi => ?_⟩, h3', h4'⟩
  · show up (k_kd o.1) (k_nW o.1) kd w < 4 ∧ up (k_wc o.1) (k_nW o.1) co w < k_nC o.1 ∧ up (k_st o.1) (k_nW o.1) st w < 10 ∧ (0 < up (k_sc o.1) (k_nW o.1) c w ∧ up (k_sc o.1) (k_nW o.1) c w ≤ 6) ∧ ∀ i, i < up (k_sc o.1) (k_nW o.1) c w → (if w = k_nW o.1 then ns i else k_sr o.1 w i) ≤ 2
    by_cases e2 : w = k_nW o.1
    · subst e2; rw [up_eq, up_eq, up_eq, up_eq]; exact ⟨h1, h2, h3, h4, fun i hi => by rw [if_pos rfl]; exact h5 i hi⟩
    · rw [up_ne e2, up_ne e2, up_ne e2, up_ne e2]
      have := e w (by have : w < k_nW o.1 + 1 := hw; omega)
      exact ⟨this.1, this.2.1, this.2.2.1, this.2.2.2.1, fun i hi => by rw [if_neg e2]; exact this.2.2.2.2 i hi⟩
  · show wfl (nmU o.2.1 2 (k_nW o.1) l 0 i)
    rw [nmU_c (by omega)]; exact n1 i hi
  · show wfl (nmU o.2.1 2 (k_nW o.1) l 1 i)
    rw [nmU_c (by omega)]; exact n2 i hi
  · show wfl (nmU o.2.1 2 (k_nW o.1) l 2 i)
    by_cases e : i = k_nW o.1
    · subst e; rw [nmU_eq]; exact hl
    · rw [nmU_i e]; exact n3 i (by have : i < k_nW o.1 + 1 := hi; omega)
theorem ok_setG {o : PS} {c : Nat} {ns : Nat → Nat} (h : PSok o) (hc : c ≤ 8) (hn : ∀ i, i < c → ns i ≤ 10) : PSok (setG o c ns) := by
  obtain ⟨⟨⟨a1, a2, a3, a4, a5⟩, b, c', e, f, g⟩, n, h3', h4'⟩ := h
  exact ⟨⟨⟨a1, a2, a3, a4, hc⟩, b, c', e, hn, g⟩, n, h3', h4'⟩
section LY
variable {fx : List Value → mm_H → Option (List Value × mm_H)} {z : Nat} {E M : Nat → mm_C} {sw c2 w2 : Bool} {T : px_T} {D : px_D} {S : px_S} {S1 : px_S} {K : px_K} {R : px_R} {C : px_C} {W : px_W} {U : px_U} {q : px_q} {q1 : px_q} {B0 : px_K} {B1 : px_K} {B2 : px_K} {B3 : px_K} {T_signs : List Int32} {T_length : Int32} {T_fault : Int32} {T_types : List Int32} {T_starts : List Int32} {T_values : List Int64} {T_tokens : Int32} {T_at : Int32} {T_behind : Int32} {S_hour : Int32} {S_open : Int32} {S_places : List Int32} {S1_hour : Int32} {S1_open : Int32} {S1_places : List Int32} {K_lines : List Int32} {K_lineCount : Int32} {K_wishes : List Int32} {K_wishCount : Int32} {K_sights : List Int32} {K_sightCount : Int32} {R_shown : List Int32} {R_length : Int32} {R_readers : Int32} {R_begins : List Int32} {R_lengths : List Int32} {R_sentences : Int32} {R_order : List Int32} {R_able : Int32} {R_standing : List Int32} {R_lovers : List Int32} {R_lowest : List Int32} {C_ways : List Int32} {C_rows : List Int32} {C_shallower : List Int32} {C_length : Int32} {C_goal : Int32} {W_row : List Int32} {W_walkers : Int32} {W_names : Int32} {W_wanted : List Int32} {W_shown : List Int32} {W_places : List Int32} {W_rest : List Int32} {W_spent : List Int32} {W_tried : List Int32} {U_undoRows : List Int64} {U_markScenes : List Int64} {U_marksLaid : List Int32} {U_undoCount : Int32} {U_undoEnd : Int32} {q_sortNames : List Int64} {q_sortCount : Int32} {q_colourNames : List Int64} {q_colourSorts : List Int32} {q_colourCount : Int32} {q_ruleMakes : List Int32} {q_ruleFirsts : List Int32} {q_ruleSeconds : List Int32} {q_ruleCount : Int32} {q_saysSort : Int32} {q_walkerNames : List Int64} {q_kinds : List Int32} {q_walkerColours : List Int32} {q_starts : List Int32} {q_stepRows : List Int32} {q_stepCounts : List Int32} {q_walkerCount : Int32} {q_gusts : List Int32} {q_gustCount : Int32} {q_parts : List Int32} {q_count : Int32} {q_stack : List Int32} {q_height : Int32} {q1_sortNames : List Int64} {q1_sortCount : Int32} {q1_colourNames : List Int64} {q1_colourSorts : List Int32} {q1_colourCount : Int32} {q1_ruleMakes : List Int32} {q1_ruleFirsts : List Int32} {q1_ruleSeconds : List Int32} {q1_ruleCount : Int32} {q1_saysSort : Int32} {q1_walkerNames : List Int64} {q1_kinds : List Int32} {q1_walkerColours : List Int32} {q1_starts : List Int32} {q1_stepRows : List Int32} {q1_stepCounts : List Int32} {q1_walkerCount : Int32} {q1_gusts : List Int32} {q1_gustCount : Int32} {q1_parts : List Int32} {q1_count : Int32} {q1_stack : List Int32} {q1_height : Int32} {B0_lines : List Int32} {B0_lineCount : Int32} {B0_wishes : List Int32} {B0_wishCount : Int32} {B0_sights : List Int32} {B0_sightCount : Int32} {B1_lines : List Int32} {B1_lineCount : Int32} {B1_wishes : List Int32} {B1_wishCount : Int32} {B1_sights : List Int32} {B1_sightCount : Int32} {B2_lines : List Int32} {B2_lineCount : Int32} {B2_wishes : List Int32} {B2_wishCount : Int32} {B2_sights : List Int32} {B2_sightCount : Int32} {B3_lines : List Int32} {B3_lineCount : Int32} {B3_wishes : List Int32} {B3_wishCount : Int32} {B3_sights : List Int32} {B3_sightCount : Int32}
variable {d : Nat} {Q : Option Value → mm_H → Prop} {tp : List Nat} {n k : Nat} {o : PS} {s : SQ}
theorem t_hasRule {a b c : Nat} (hs : SQx q1 s) (ho : k_ok s) (ha : a < 6) (hb : b < 6) (hc : c < 6) (hq1 : hasR s a b c = true → Q (some (.int 1)) (px_h z E M (px_l sw c2 w2 T D S S1 K R C W U q q1 B0 B1 B2 B3))) (hq0 : hasR s a b c = false → Q (some (.int 0)) (px_h z E M (px_l sw c2 w2 T D S S1 K R C W U q q1 B0 B1 B2 B3))) : wm (mp_P fx) d 68 [.ref (px_ta (!sw)), .int (nI a), .int (nI b), .int (nI c)] (px_h z E M (px_l sw c2 w2 T D S S1 K R C W U q q1 B0 B1 B2 B3)) Q := by
  have hR := ho.1.2.2.1
  have hS := ho.1.1
  obtain ⟨-, hrm, hrf, hrs⟩ := hs.2.2.1
  have l1 := hs.1.2.2.2.1
  have l2 := hs.1.2.2.2.2.1
  have l3 := hs.1.2.2.2.2.2.1
  unfold hasR at hq1 hq0
  have key : ∀ (m r : Nat), r + m = k_nR s → (∀ j, j < r → (decide (k_rm s j = a) && (decide (k_rf s j = b) && decide (k_rs s j = c))) = false) → ww (mp_P fx) d 68 3 [some (.ref (px_ta (!sw))), some (.int (nI a)), some (.int (nI b)), some (.int (nI c)), some (.int (nI r))] [] (px_h z E M (px_l sw c2 w2 T D S S1 K R C W U q q1 B0 B1 B2 B3)) Q := by
    intro m
    induction m with
    | zero =>
      intro r hr hno
      rw [q68_3]
      simp only [b68_0, b68_1, bn_0 b68_0, bn_1 b68_1, q68_5, q68_6, q68_9, b68_0, b68_1, bn_0 b68_0, bn_1 b68_1, q68_53, q68_54, b68_0, b68_1, xc_q1, xg_q1_0, xg_q1_1, xs_q1_1, xg_q1_2, xg_q1_3, xg_q1_4, xs_q1_4, xg_q1_5, xg_q1_6, xg_q1_7, xg_q1_8, xs_q1_8, xg_q1_9, xs_q1_9, xg_q1_10, xg_q1_11, xg_q1_12, xg_q1_13, xg_q1_14, xg_q1_15, xg_q1_16, xs_q1_16, xg_q1_17, xg_q1_18, xs_q1_18, xg_q1_19, xa_q1_sortNames, xb_q1_sortNames, xn_q1_sortNames, xa_q1_colourNames, xb_q1_colourNames, xn_q1_colourNames, xa_q1_colourSorts, xb_q1_colourSorts, xn_q1_colourSorts, xa_q1_ruleMakes, xb_q1_ruleMakes, xn_q1_ruleMakes, xa_q1_ruleFirsts, xb_q1_ruleFirsts, xn_q1_ruleFirsts, xa_q1_ruleSeconds, xb_q1_ruleSeconds, xn_q1_ruleSeconds, xa_q1_walkerNames, xb_q1_walkerNames, xn_q1_walkerNames, xa_q1_kinds, xb_q1_kinds, xn_q1_kinds, xa_q1_walkerColours, xb_q1_walkerColours, xn_q1_walkerColours, xa_q1_starts, xb_q1_starts, xn_q1_starts, xa_q1_stepRows, xb_q1_stepRows, xn_q1_stepRows, xa_q1_stepCounts, xb_q1_stepCounts, xn_q1_stepCounts, xa_q1_gusts, xb_q1_gusts, xn_q1_gusts, xc_q1l, xg_q1l_0, xg_q1l_1, xs_q1l_1, xg_q1l_2, xg_q1l_3, xs_q1l_3, xa_q1_parts, xb_q1_parts, xn_q1_parts, xa_q1_stack, xb_q1_stack, xn_q1_stack, wx_some, wx_ref, hs.2.1.2.2.1]
      rw [if_pos (by rw [nI_leI (by omega) (by omega)]; omega)]
      exact hq0 (by rw [ffl_none _ (fun j hj => hno j (by omega))]; rfl)
    | succ m ih =>
      intro r hr hno
      have hr' : r < k_nR s := by omega
      obtain ⟨b1, b2, b3⟩ := ho.2.2.1 r hr'
      rw [q68_3]
      simp only [b68_0, b68_1, bn_0 b68_0, bn_1 b68_1, q68_5, q68_6, q68_9, q68_12, q68_13, q68_16, q68_18, q68_19, q68_20, q68_23, q68_24, q68_27, q68_29, q68_30, q68_31, q68_34, q68_35, q68_38, q68_40, q68_41, q68_42, q68_45, q68_46, q68_47i, q68_50, b68_0, b68_1, xc_q1, xg_q1_0, xg_q1_1, xs_q1_1, xg_q1_2, xg_q1_3, xg_q1_4, xs_q1_4, xg_q1_5, xg_q1_6, xg_q1_7, xg_q1_8, xs_q1_8, xg_q1_9, xs_q1_9, xg_q1_10, xg_q1_11, xg_q1_12, xg_q1_13, xg_q1_14, xg_q1_15, xg_q1_16, xs_q1_16, xg_q1_17, xg_q1_18, xs_q1_18, xg_q1_19, xa_q1_sortNames, xb_q1_sortNames, xn_q1_sortNames, xa_q1_colourNames, xb_q1_colourNames, xn_q1_colourNames, xa_q1_colourSorts, xb_q1_colourSorts, xn_q1_colourSorts, xa_q1_ruleMakes, xb_q1_ruleMakes, xn_q1_ruleMakes, xa_q1_ruleFirsts, xb_q1_ruleFirsts, xn_q1_ruleFirsts, xa_q1_ruleSeconds, xb_q1_ruleSeconds, xn_q1_ruleSeconds, xa_q1_walkerNames, xb_q1_walkerNames, xn_q1_walkerNames, xa_q1_kinds, xb_q1_kinds, xn_q1_kinds, xa_q1_walkerColours, xb_q1_walkerColours, xn_q1_walkerColours, xa_q1_starts, xb_q1_starts, xn_q1_starts, xa_q1_stepRows, xb_q1_stepRows, xn_q1_stepRows, xa_q1_stepCounts, xb_q1_stepCounts, xn_q1_stepCounts, xa_q1_gusts, xb_q1_gusts, xn_q1_gusts, xc_q1l, xg_q1l_0, xg_q1l_1, xs_q1l_1, xg_q1l_2, xg_q1l_3, xs_q1l_3, xa_q1_parts, xb_q1_parts, xn_q1_parts, xa_q1_stack, xb_q1_stack, xn_q1_stack, wx_some, wx_ref, isl_i, isl_r, isl_n, hs.2.1.2.2.1, ag_G hrm (show (q1.2.2.2.2.2.1).length < 2 ^ 31 by omega) hr', ag_G hrf (show (q1.2.2.2.2.2.2.1).length < 2 ^ 31 by omega) hr', ag_G hrs (show (q1.2.2.2.2.2.2.2.1).length < 2 ^ 31 by omega) hr', nI_1]
      rw [if_neg (by rw [nI_leI (by omega) (by omega)]; omega)]
      have hgo : (decide (k_rm s r = a) && (decide (k_rf s r = b) && decide (k_rs s r = c))) = false → ww (mp_P fx) d 68 3 [some (.ref (px_ta (!sw))), some (.int (nI a)), some (.int (nI b)), some (.int (nI c)), some (.int (nI (r + 1)))] [] (px_h z E M (px_l sw c2 w2 T D S S1 K R C W U q q1 B0 B1 B2 B3)) Q := fun hh => ih (r + 1) (by omega) (fun j hj => by
        by_cases ej : j = r
        · subst ej; exact hh
        · exact hno j (by omega))
      by_cases e1 : k_rm s r = a
      · rw [if_neg (by rw [e1]; exact fun y => y rfl)]
        by_cases e2 : k_rf s r = b
        · rw [if_neg (by rw [e2]; exact fun y => y rfl)]
          by_cases e3 : k_rs s r = c
          · rw [if_neg (by rw [e3]; exact fun y => y rfl)]
            exact hq1 (by rw [ffl_at hno (by rw [decide_eq_true e1, decide_eq_true e2, decide_eq_true e3]; rfl) _ hr']; rfl)
          · rw [if_pos (by rw [nI_eq (by omega) (by omega)]; exact e3)]
            exact hgo (by rw [decide_eq_false e3, Bool.and_false, Bool.and_false])
        · rw [if_pos (by rw [nI_eq (by omega) (by omega)]; exact e2)]
          exact hgo (by rw [decide_eq_false e2, Bool.false_and, Bool.and_false])
      · rw [if_pos (by rw [nI_eq (by omega) (by omega)]; exact e1)]
        exact hgo (by rw [decide_eq_false e1, Bool.false_and])
  simp only [e68, b68_0, b68_1, bn_0 b68_0, bn_1 b68_1, q68_0, q68_1i, isl_i, isl_r, isl_n]
  exact key (k_nR s) 0 (by omega) (fun j hj => by omega)
theorem t_addRule (hE : ELt E) (h : OKx tp n k o T q1) (hw : ¬ TY tp k = 0) (hq1 : ∀ j o' T' q', l_rule tp k o = (0, j, o') → OKx tp n j o' T' q' → Q (some (.int 1)) (px_h z E M (px_l sw c2 w2 (T') D S S1 K R C W U q (q') B0 B1 B2 B3))) (hq0 : ∀ f T' q', (l_rule tp k o).1 = f → BDx tp n f T' q' → Q (some (.int 0)) (px_h z E M (px_l sw c2 w2 (T') D S S1 K R C W U q (q') B0 B1 B2 B3))) : wm (mp_P fx) (d + 5) 67 [.ref 60, .ref (px_ta (!sw))] (px_h z E M (px_l sw c2 w2 T D S S1 K R C W U q q1 B0 B1 B2 B3)) Q := by
  obtain ⟨hT, hf, ⟨hs, hN, hy, hLD⟩, hP⟩ := id h
  obtain ⟨ho, hnm, hsy, hsl⟩ := id hP
  have h6 := ho.1.2.2.1
  have h61 := ho.1.1
  have l1 := hs.1.2.2.2.1
  have l2 := hs.1.2.2.2.2.1
  have l3 := hs.1.2.2.2.2.2.1
  unfold l_rule at hq1 hq0
  simp only [e67, b67_0, b67_1, bn_0 b67_0, bn_1 b67_1, q67_0, q67_1, q67_4r, q67_5, q67_6, q67_8, q67_11, q67_12, xc_q1, xg_q1_0, xg_q1_1, xs_q1_1, xg_q1_2, xg_q1_3, xg_q1_4, xs_q1_4, xg_q1_5, xg_q1_6, xg_q1_7, xg_q1_8, xs_q1_8, xg_q1_9, xs_q1_9, xg_q1_10, xg_q1_11, xg_q1_12, xg_q1_13, xg_q1_14, xg_q1_15, xg_q1_16, xs_q1_16, xg_q1_17, xg_q1_18, xs_q1_18, xg_q1_19, xa_q1_sortNames, xb_q1_sortNames, xn_q1_sortNames, xa_q1_colourNames, xb_q1_colourNames, xn_q1_colourNames, xa_q1_colourSorts, xb_q1_colourSorts, xn_q1_colourSorts, xa_q1_ruleMakes, xb_q1_ruleMakes, xn_q1_ruleMakes, xa_q1_ruleFirsts, xb_q1_ruleFirsts, xn_q1_ruleFirsts, xa_q1_ruleSeconds, xb_q1_ruleSeconds, xn_q1_ruleSeconds, xa_q1_walkerNames, xb_q1_walkerNames, xn_q1_walkerNames, xa_q1_kinds, xb_q1_kinds, xn_q1_kinds, xa_q1_walkerColours, xb_q1_walkerColours, xn_q1_walkerColours, xa_q1_starts, xb_q1_starts, xn_q1_starts, xa_q1_stepRows, xb_q1_stepRows, xn_q1_stepRows, xa_q1_stepCounts, xb_q1_stepCounts, xn_q1_stepCounts, xa_q1_gusts, xb_q1_gusts, xn_q1_gusts, xc_q1l, xg_q1l_0, xg_q1l_1, xs_q1l_1, xg_q1l_2, xg_q1l_3, xs_q1l_3, xa_q1_parts, xb_q1_parts, xn_q1_parts, xa_q1_stack, xb_q1_stack, xn_q1_stack, wx_some, wx_ref, isl_i, isl_r, isl_n, hs.2.1.2.2.1]
  by_cases e6 : 12 ≤ k_nR o.1
  · rw [if_pos e6] at hq0
    rw [if_neg (by rw [show (12 : Int32) = nI 12 from rfl, nI_ltI (by omega) (by omega)]; omega)]
    simp only [b67_0, b67_1, bn_0 b67_0, bn_1 b67_1, q67_13, xc_T, xg_T_0, xg_T_1, xs_T_1, xg_T_2, xs_T_2, xg_T_3, xg_T_4, xg_T_5, xg_T_6, xs_T_6, xg_T_7, xs_T_7, xg_T_8, xs_T_8, xa_T_signs, xb_T_signs, xn_T_signs, xa_T_types, xb_T_types, xn_T_types, xa_T_starts, xb_T_starts, xn_T_starts, xa_T_values, xb_T_values, xn_T_values]
    apply t_refuse (kd := 5) hT
    intro T' h2 h3
    simp only [sl_i, b67_0, b67_1, bn_0 b67_0, bn_1 b67_1, q67_16]
    exact hq0 _ T' q1 rfl ⟨flt_ne (by omega), h3, hs.1, k, h2⟩
  rw [if_neg e6] at hq1 hq0
  rw [if_pos (by rw [show (12 : Int32) = nI 12 from rfl, nI_ltI (by omega) (by omega)]; omega)]
  simp only [b67_0, b67_1, bn_0 b67_0, bn_1 b67_1, q67_17, q67_18, xc_T, xg_T_0, xg_T_1, xs_T_1, xg_T_2, xs_T_2, xg_T_3, xg_T_4, xg_T_5, xg_T_6, xs_T_6, xg_T_7, xs_T_7, xg_T_8, xs_T_8, xa_T_signs, xb_T_signs, xn_T_signs, xa_T_types, xb_T_types, xn_T_types, xa_T_starts, xb_T_starts, xn_T_starts, xa_T_values, xb_T_values, xn_T_values]
  apply t_pass hT hw
  intro hT1
  simp only [sl_i, b67_0, b67_1, bn_0 b67_0, bn_1 b67_1, q67_21, q67_22, q67_23, q67_24]
  apply t_checkSort hT1 hs ho hN hnm
  rotate_left
  · intro T' f y1 y2 y3 y4
    rw [if_neg (by rw [y1]; exact y2)] at hq0
    simp only [sl_i, b67_0, b67_1, bn_0 b67_0, bn_1 b67_1, q67_27, q67_30, q67_31]
    rw [if_neg (by decide)]
    exact hq0 f T' q1 y1 ⟨y2, y4, hs.1, _, y3⟩
  intro y1 va y2 y3
  have hva := fnd_lt y2
  rw [y3, if_pos rfl] at hq1 hq0
  simp only [sl_i, b67_0, b67_1, bn_0 b67_0, bn_1 b67_1, q67_27, b67_0, b67_1, bn_0 b67_0, bn_1 b67_1, q67_32, q67_33]
  rw [if_pos (by decide)]
  simp only [b67_0, b67_1, bn_0 b67_0, bn_1 b67_1, q67_34, xc_T, xg_T_0, xg_T_1, xs_T_1, xg_T_2, xs_T_2, xg_T_3, xg_T_4, xg_T_5, xg_T_6, xs_T_6, xg_T_7, xs_T_7, xg_T_8, xs_T_8, xa_T_signs, xb_T_signs, xn_T_signs, xa_T_types, xb_T_types, xn_T_types, xa_T_starts, xb_T_starts, xn_T_starts, xa_T_values, xb_T_values, xn_T_values]
  apply t_word hT1 y1.1
  simp only [sl_i, b67_0, b67_1, bn_0 b67_0, bn_1 b67_1, q67_37, xc_q1, xg_q1_0, xg_q1_1, xs_q1_1, xg_q1_2, xg_q1_3, xg_q1_4, xs_q1_4, xg_q1_5, xg_q1_6, xg_q1_7, xg_q1_8, xs_q1_8, xg_q1_9, xs_q1_9, xg_q1_10, xg_q1_11, xg_q1_12, xg_q1_13, xg_q1_14, xg_q1_15, xg_q1_16, xs_q1_16, xg_q1_17, xg_q1_18, xs_q1_18, xg_q1_19, xa_q1_sortNames, xb_q1_sortNames, xn_q1_sortNames, xa_q1_colourNames, xb_q1_colourNames, xn_q1_colourNames, xa_q1_colourSorts, xb_q1_colourSorts, xn_q1_colourSorts, xa_q1_ruleMakes, xb_q1_ruleMakes, xn_q1_ruleMakes, xa_q1_ruleFirsts, xb_q1_ruleFirsts, xn_q1_ruleFirsts, xa_q1_ruleSeconds, xb_q1_ruleSeconds, xn_q1_ruleSeconds, xa_q1_walkerNames, xb_q1_walkerNames, xn_q1_walkerNames, xa_q1_kinds, xb_q1_kinds, xn_q1_kinds, xa_q1_walkerColours, xb_q1_walkerColours, xn_q1_walkerColours, xa_q1_starts, xb_q1_starts, xn_q1_starts, xa_q1_stepRows, xb_q1_stepRows, xn_q1_stepRows, xa_q1_stepCounts, xb_q1_stepCounts, xn_q1_stepCounts, xa_q1_gusts, xb_q1_gusts, xn_q1_gusts, xc_q1l, xg_q1l_0, xg_q1l_1, xs_q1l_1, xg_q1l_2, xg_q1l_3, xs_q1l_3, xa_q1_parts, xb_q1_parts, xn_q1_parts, xa_q1_stack, xb_q1_stack, xn_q1_stack]
  apply t_sortNamedq1 hs ho hN hnm (isNm_wf y1)
  simp only [sl_i, b67_0, b67_1, bn_0 b67_0, bn_1 b67_1, q67_40i, q67_41, isl_i, isl_r, isl_n, y2]
  simp only [b67_0, b67_1, bn_0 b67_0, bn_1 b67_1, q67_42, xc_T, xg_T_0, xg_T_1, xs_T_1, xg_T_2, xs_T_2, xg_T_3, xg_T_4, xg_T_5, xg_T_6, xs_T_6, xg_T_7, xs_T_7, xg_T_8, xs_T_8, xa_T_signs, xb_T_signs, xn_T_signs, xa_T_types, xb_T_types, xn_T_types, xa_T_starts, xb_T_starts, xn_T_starts, xa_T_values, xb_T_values, xn_T_values]
  apply t_pass hT1 (by rw [y1.1]; decide)
  intro hT2
  simp only [sl_i, b67_0, b67_1, bn_0 b67_0, bn_1 b67_1, q67_45, q67_46, q67_47]
  simp only [b67_0, b67_1, bn_0 b67_0, bn_1 b67_1, q67_49, xc_T, xg_T_0, xg_T_1, xs_T_1, xg_T_2, xs_T_2, xg_T_3, xg_T_4, xg_T_5, xg_T_6, xs_T_6, xg_T_7, xs_T_7, xg_T_8, xs_T_8, xa_T_signs, xb_T_signs, xn_T_signs, xa_T_types, xb_T_types, xn_T_types, xa_T_starts, xb_T_starts, xn_T_starts, xa_T_values, xb_T_values, xn_T_values]
  apply t_passWord (w := 4) hE (by omega) (by omega) hT2
  rotate_left
  · intro y4 T3 hT3 hf3
    rw [if_neg (fun y => y4 (wdB_t.mp y))] at hq0
    simp only [sl_i, b67_0, b67_1, bn_0 b67_0, bn_1 b67_1, q67_52, b67_0, b67_1, bn_0 b67_0, bn_1 b67_1, q67_63, q67_64]
    rw [if_pos (by decide)]
    exact hq0 _ T3 q1 rfl ⟨flt_ne (by omega), hf3, hs.1, _, hT3⟩
  intro y4 T3 hT3 hf3
  rw [if_pos (wdB_t.mpr y4)] at hq1 hq0
  simp only [sl_i, b67_0, b67_1, bn_0 b67_0, bn_1 b67_1, q67_52, q67_55, q67_56, q67_57]
  rw [if_neg (by decide)]
  apply t_checkSort hT3 hs ho hN hnm
  rotate_left
  · intro T' f y5 y6 y7 y8
    rw [if_neg (by rw [y5]; exact y6)] at hq0
    simp only [sl_i, b67_0, b67_1, bn_0 b67_0, bn_1 b67_1, q67_60, q67_63, q67_64]
    rw [if_neg (by decide)]
    exact hq0 f T' q1 y5 ⟨y6, y8, hs.1, _, y7⟩
  intro y5 vb y6 y7
  have hvb := fnd_lt y6
  rw [y7, if_pos rfl] at hq1 hq0
  simp only [sl_i, b67_0, b67_1, bn_0 b67_0, bn_1 b67_1, q67_60, b67_0, b67_1, bn_0 b67_0, bn_1 b67_1, q67_65, q67_66]
  rw [if_pos (by decide)]
  simp only [b67_0, b67_1, bn_0 b67_0, bn_1 b67_1, q67_67, xc_T, xg_T_0, xg_T_1, xs_T_1, xg_T_2, xs_T_2, xg_T_3, xg_T_4, xg_T_5, xg_T_6, xs_T_6, xg_T_7, xs_T_7, xg_T_8, xs_T_8, xa_T_signs, xb_T_signs, xn_T_signs, xa_T_types, xb_T_types, xn_T_types, xa_T_starts, xb_T_starts, xn_T_starts, xa_T_values, xb_T_values, xn_T_values]
  apply t_word hT3 y5.1
  simp only [sl_i, b67_0, b67_1, bn_0 b67_0, bn_1 b67_1, q67_70, xc_q1, xg_q1_0, xg_q1_1, xs_q1_1, xg_q1_2, xg_q1_3, xg_q1_4, xs_q1_4, xg_q1_5, xg_q1_6, xg_q1_7, xg_q1_8, xs_q1_8, xg_q1_9, xs_q1_9, xg_q1_10, xg_q1_11, xg_q1_12, xg_q1_13, xg_q1_14, xg_q1_15, xg_q1_16, xs_q1_16, xg_q1_17, xg_q1_18, xs_q1_18, xg_q1_19, xa_q1_sortNames, xb_q1_sortNames, xn_q1_sortNames, xa_q1_colourNames, xb_q1_colourNames, xn_q1_colourNames, xa_q1_colourSorts, xb_q1_colourSorts, xn_q1_colourSorts, xa_q1_ruleMakes, xb_q1_ruleMakes, xn_q1_ruleMakes, xa_q1_ruleFirsts, xb_q1_ruleFirsts, xn_q1_ruleFirsts, xa_q1_ruleSeconds, xb_q1_ruleSeconds, xn_q1_ruleSeconds, xa_q1_walkerNames, xb_q1_walkerNames, xn_q1_walkerNames, xa_q1_kinds, xb_q1_kinds, xn_q1_kinds, xa_q1_walkerColours, xb_q1_walkerColours, xn_q1_walkerColours, xa_q1_starts, xb_q1_starts, xn_q1_starts, xa_q1_stepRows, xb_q1_stepRows, xn_q1_stepRows, xa_q1_stepCounts, xb_q1_stepCounts, xn_q1_stepCounts, xa_q1_gusts, xb_q1_gusts, xn_q1_gusts, xc_q1l, xg_q1l_0, xg_q1l_1, xs_q1l_1, xg_q1l_2, xg_q1l_3, xs_q1l_3, xa_q1_parts, xb_q1_parts, xn_q1_parts, xa_q1_stack, xb_q1_stack, xn_q1_stack]
  apply t_sortNamedq1 hs ho hN hnm (isNm_wf y5)
  simp only [sl_i, b67_0, b67_1, bn_0 b67_0, bn_1 b67_1, q67_73i, q67_75, isl_i, isl_r, isl_n, y6]
  simp only [b67_0, b67_1, bn_0 b67_0, bn_1 b67_1, q67_76, xc_T, xg_T_0, xg_T_1, xs_T_1, xg_T_2, xs_T_2, xg_T_3, xg_T_4, xg_T_5, xg_T_6, xs_T_6, xg_T_7, xs_T_7, xg_T_8, xs_T_8, xa_T_signs, xb_T_signs, xn_T_signs, xa_T_types, xb_T_types, xn_T_types, xa_T_starts, xb_T_starts, xn_T_starts, xa_T_values, xb_T_values, xn_T_values]
  apply t_pass hT3 (by rw [y5.1]; decide)
  intro hT4
  simp only [sl_i, b67_0, b67_1, bn_0 b67_0, bn_1 b67_1, q67_79, q67_80, q67_81, q67_82]
  apply t_checkSort hT4 hs ho hN hnm
  rotate_left
  · intro T' f y8 y9 y10 y11
    rw [if_neg (by rw [y8]; exact y9)] at hq0
    simp only [sl_i, b67_0, b67_1, bn_0 b67_0, bn_1 b67_1, q67_85, q67_88, q67_89]
    rw [if_neg (by decide)]
    exact hq0 f T' q1 y8 ⟨y9, y11, hs.1, _, y10⟩
  intro y8 vc y9 y10
  have hvc := fnd_lt y9
  rw [y10, if_pos rfl] at hq1 hq0
  simp only [sl_i, b67_0, b67_1, bn_0 b67_0, bn_1 b67_1, q67_85, b67_0, b67_1, bn_0 b67_0, bn_1 b67_1, q67_90, q67_91]
  rw [if_pos (by decide)]
  simp only [b67_0, b67_1, bn_0 b67_0, bn_1 b67_1, q67_92, xc_T, xg_T_0, xg_T_1, xs_T_1, xg_T_2, xs_T_2, xg_T_3, xg_T_4, xg_T_5, xg_T_6, xs_T_6, xg_T_7, xs_T_7, xg_T_8, xs_T_8, xa_T_signs, xb_T_signs, xn_T_signs, xa_T_types, xb_T_types, xn_T_types, xa_T_starts, xb_T_starts, xn_T_starts, xa_T_values, xb_T_values, xn_T_values]
  apply t_word hT4 y8.1
  simp only [sl_i, b67_0, b67_1, bn_0 b67_0, bn_1 b67_1, q67_95, xc_q1, xg_q1_0, xg_q1_1, xs_q1_1, xg_q1_2, xg_q1_3, xg_q1_4, xs_q1_4, xg_q1_5, xg_q1_6, xg_q1_7, xg_q1_8, xs_q1_8, xg_q1_9, xs_q1_9, xg_q1_10, xg_q1_11, xg_q1_12, xg_q1_13, xg_q1_14, xg_q1_15, xg_q1_16, xs_q1_16, xg_q1_17, xg_q1_18, xs_q1_18, xg_q1_19, xa_q1_sortNames, xb_q1_sortNames, xn_q1_sortNames, xa_q1_colourNames, xb_q1_colourNames, xn_q1_colourNames, xa_q1_colourSorts, xb_q1_colourSorts, xn_q1_colourSorts, xa_q1_ruleMakes, xb_q1_ruleMakes, xn_q1_ruleMakes, xa_q1_ruleFirsts, xb_q1_ruleFirsts, xn_q1_ruleFirsts, xa_q1_ruleSeconds, xb_q1_ruleSeconds, xn_q1_ruleSeconds, xa_q1_walkerNames, xb_q1_walkerNames, xn_q1_walkerNames, xa_q1_kinds, xb_q1_kinds, xn_q1_kinds, xa_q1_walkerColours, xb_q1_walkerColours, xn_q1_walkerColours, xa_q1_starts, xb_q1_starts, xn_q1_starts, xa_q1_stepRows, xb_q1_stepRows, xn_q1_stepRows, xa_q1_stepCounts, xb_q1_stepCounts, xn_q1_stepCounts, xa_q1_gusts, xb_q1_gusts, xn_q1_gusts, xc_q1l, xg_q1l_0, xg_q1l_1, xs_q1l_1, xg_q1l_2, xg_q1l_3, xs_q1l_3, xa_q1_parts, xb_q1_parts, xn_q1_parts, xa_q1_stack, xb_q1_stack, xn_q1_stack]
  apply t_sortNamedq1 hs ho hN hnm (isNm_wf y8)
  simp only [sl_i, b67_0, b67_1, bn_0 b67_0, bn_1 b67_1, q67_98i, q67_100, q67_101, q67_102, q67_104, isl_i, isl_r, isl_n, y9]
  simp only [b67_0, b67_1, bn_0 b67_0, bn_1 b67_1, q67_106, xc_q1, xg_q1_0, xg_q1_1, xs_q1_1, xg_q1_2, xg_q1_3, xg_q1_4, xs_q1_4, xg_q1_5, xg_q1_6, xg_q1_7, xg_q1_8, xs_q1_8, xg_q1_9, xs_q1_9, xg_q1_10, xg_q1_11, xg_q1_12, xg_q1_13, xg_q1_14, xg_q1_15, xg_q1_16, xs_q1_16, xg_q1_17, xg_q1_18, xs_q1_18, xg_q1_19, xa_q1_sortNames, xb_q1_sortNames, xn_q1_sortNames, xa_q1_colourNames, xb_q1_colourNames, xn_q1_colourNames, xa_q1_colourSorts, xb_q1_colourSorts, xn_q1_colourSorts, xa_q1_ruleMakes, xb_q1_ruleMakes, xn_q1_ruleMakes, xa_q1_ruleFirsts, xb_q1_ruleFirsts, xn_q1_ruleFirsts, xa_q1_ruleSeconds, xb_q1_ruleSeconds, xn_q1_ruleSeconds, xa_q1_walkerNames, xb_q1_walkerNames, xn_q1_walkerNames, xa_q1_kinds, xb_q1_kinds, xn_q1_kinds, xa_q1_walkerColours, xb_q1_walkerColours, xn_q1_walkerColours, xa_q1_starts, xb_q1_starts, xn_q1_starts, xa_q1_stepRows, xb_q1_stepRows, xn_q1_stepRows, xa_q1_stepCounts, xb_q1_stepCounts, xn_q1_stepCounts, xa_q1_gusts, xb_q1_gusts, xn_q1_gusts, xc_q1l, xg_q1l_0, xg_q1l_1, xs_q1l_1, xg_q1l_2, xg_q1l_3, xs_q1l_3, xa_q1_parts, xb_q1_parts, xn_q1_parts, xa_q1_stack, xb_q1_stack, xn_q1_stack]
  apply t_hasRule (a := va) (b := vb) (c := vc) hs ho (by omega) (by omega) (by omega)
  · intro y11
    rw [if_pos y11] at hq0
    simp only [sl_i, b67_0, b67_1, bn_0 b67_0, bn_1 b67_1, q67_109, q67_112, q67_113]
    rw [if_neg (by decide)]
    simp only [b67_0, b67_1, bn_0 b67_0, bn_1 b67_1, q67_114, xc_T, xg_T_0, xg_T_1, xs_T_1, xg_T_2, xs_T_2, xg_T_3, xg_T_4, xg_T_5, xg_T_6, xs_T_6, xg_T_7, xs_T_7, xg_T_8, xs_T_8, xa_T_signs, xb_T_signs, xn_T_signs, xa_T_types, xb_T_types, xn_T_types, xa_T_starts, xb_T_starts, xn_T_starts, xa_T_values, xb_T_values, xn_T_values]
    apply t_refuse (kd := 3) hT4
    intro T' h2 h3
    simp only [sl_i, b67_0, b67_1, bn_0 b67_0, bn_1 b67_1, q67_117]
    exact hq0 _ T' q1 rfl ⟨flt_ne (by omega), h3, hs.1, _, h2⟩
  · intro y11
    rw [if_neg (by rw [y11]; exact Bool.false_ne_true)] at hq1
    simp only [sl_i, b67_0, b67_1, bn_0 b67_0, bn_1 b67_1, q67_109, b67_0, b67_1, bn_0 b67_0, bn_1 b67_1, q67_118, q67_119, q67_122, q67_123, q67_124, q67_125, q67_126, q67_129, q67_130, q67_132, q67_133, q67_134, q67_137, q67_138, q67_140, q67_141, q67_142, q67_143, q67_146, q67_147, q67_148, q67_151, xc_q1, xg_q1_0, xg_q1_1, xs_q1_1, xg_q1_2, xg_q1_3, xg_q1_4, xs_q1_4, xg_q1_5, xg_q1_6, xg_q1_7, xg_q1_8, xs_q1_8, xg_q1_9, xs_q1_9, xg_q1_10, xg_q1_11, xg_q1_12, xg_q1_13, xg_q1_14, xg_q1_15, xg_q1_16, xs_q1_16, xg_q1_17, xg_q1_18, xs_q1_18, xg_q1_19, xa_q1_sortNames, xb_q1_sortNames, xn_q1_sortNames, xa_q1_colourNames, xb_q1_colourNames, xn_q1_colourNames, xa_q1_colourSorts, xb_q1_colourSorts, xn_q1_colourSorts, xa_q1_ruleMakes, xb_q1_ruleMakes, xn_q1_ruleMakes, xa_q1_ruleFirsts, xb_q1_ruleFirsts, xn_q1_ruleFirsts, xa_q1_ruleSeconds, xb_q1_ruleSeconds, xn_q1_ruleSeconds, xa_q1_walkerNames, xb_q1_walkerNames, xn_q1_walkerNames, xa_q1_kinds, xb_q1_kinds, xn_q1_kinds, xa_q1_walkerColours, xb_q1_walkerColours, xn_q1_walkerColours, xa_q1_starts, xb_q1_starts, xn_q1_starts, xa_q1_stepRows, xb_q1_stepRows, xn_q1_stepRows, xa_q1_stepCounts, xb_q1_stepCounts, xn_q1_stepCounts, xa_q1_gusts, xb_q1_gusts, xn_q1_gusts, xc_q1l, xg_q1l_0, xg_q1l_1, xs_q1l_1, xg_q1l_2, xg_q1l_3, xs_q1l_3, xa_q1_parts, xb_q1_parts, xn_q1_parts, xa_q1_stack, xb_q1_stack, xn_q1_stack, wx_some, wx_ref, isl_i, isl_r, isl_n, show ∀ v : Nat, io (some v) = nI v from fun _ => rfl, hs.2.1.2.2.1, nI_1, aS_n (show k_nR o.1 < (q1.2.2.2.2.2.1).length by omega) (show (q1.2.2.2.2.2.1).length < 2 ^ 31 by omega), aS_n (show k_nR o.1 < (q1.2.2.2.2.2.2.1).length by omega) (show (q1.2.2.2.2.2.2.1).length < 2 ^ 31 by omega), aS_n (show k_nR o.1 < (q1.2.2.2.2.2.2.2.1).length by omega) (show (q1.2.2.2.2.2.2.2.1).length < 2 ^ 31 by omega)]
    rw [if_pos (by decide)]
    simp only [b67_0, b67_1, bn_0 b67_0, bn_1 b67_1, q67_152, xc_T, xg_T_0, xg_T_1, xs_T_1, xg_T_2, xs_T_2, xg_T_3, xg_T_4, xg_T_5, xg_T_6, xs_T_6, xg_T_7, xs_T_7, xg_T_8, xs_T_8, xa_T_signs, xb_T_signs, xn_T_signs, xa_T_types, xb_T_types, xn_T_types, xa_T_starts, xb_T_starts, xn_T_starts, xa_T_values, xb_T_values, xn_T_values]
    apply t_pass hT4 (by rw [y8.1]; decide)
    intro hT5
    simp only [sl_i, b67_0, b67_1, bn_0 b67_0, bn_1 b67_1, q67_155]
    have upd : ∀ (xs : List Int32) (f : Nat → Nat) (v : Nat), xs.length = 12 → ag xs (k_nR o.1) f → ag (xs.set (k_nR o.1) (nI v)) (k_nR o.1 + 1) (up f (k_nR o.1) v) := fun xs f v hl ha i hi => by
      by_cases e : i = k_nR o.1
      · subst e; rw [up_eq, List.getElem?_set_self (by omega)]
      · rw [up_ne e, List.getElem?_set_ne (by omega)]; exact ha i (by omega)
    obtain ⟨c1, c2', c3, c4⟩ := hs.2.2.1
    exact hq1 _ _ _ (q1.1, q1.2.1, q1.2.2.1, q1.2.2.2.1, q1.2.2.2.2.1, (q1.2.2.2.2.2.1).set (k_nR o.1) (nI va), (q1.2.2.2.2.2.2.1).set (k_nR o.1) (nI vb), (q1.2.2.2.2.2.2.2.1).set (k_nR o.1) (nI vc), nI (k_nR o.1 + 1), q1.2.2.2.2.2.2.2.2.2.1, q1.2.2.2.2.2.2.2.2.2.2.1, q1.2.2.2.2.2.2.2.2.2.2.2.1, q1.2.2.2.2.2.2.2.2.2.2.2.2.1, q1.2.2.2.2.2.2.2.2.2.2.2.2.2.1, q1.2.2.2.2.2.2.2.2.2.2.2.2.2.2.1, q1.2.2.2.2.2.2.2.2.2.2.2.2.2.2.2.1, q1.2.2.2.2.2.2.2.2.2.2.2.2.2.2.2.2.1, q1.2.2.2.2.2.2.2.2.2.2.2.2.2.2.2.2.2.1, q1.2.2.2.2.2.2.2.2.2.2.2.2.2.2.2.2.2.2.1, q1.2.2.2.2.2.2.2.2.2.2.2.2.2.2.2.2.2.2.2.1, q1.2.2.2.2.2.2.2.2.2.2.2.2.2.2.2.2.2.2.2.2.1, q1.2.2.2.2.2.2.2.2.2.2.2.2.2.2.2.2.2.2.2.2.2.1, q1.2.2.2.2.2.2.2.2.2.2.2.2.2.2.2.2.2.2.2.2.2.2) rfl ⟨hT5, hf3.trans hf, ⟨⟨⟨hs.1.1, hs.1.2.1, hs.1.2.2.1, by show (List.set _ _ _).length = 12; rw [List.length_set]; exact l1, by show (List.set _ _ _).length = 12; rw [List.length_set]; exact l2, by show (List.set _ _ _).length = 12; rw [List.length_set]; exact l3, hs.1.2.2.2.2.2.2⟩, ⟨hs.2.1.1, hs.2.1.2.1, rfl, hs.2.1.2.2.2⟩, ⟨c1, upd _ _ _ l1 c2', upd _ _ _ l2 c3, upd _ _ _ l3 c4⟩, hs.2.2.2⟩, hN, hy, hLD⟩, ok_addR hP (by omega) hva hvb hvc⟩
end LY
