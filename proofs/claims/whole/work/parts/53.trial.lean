/-! looking ahead, of the class -/
theorem cpl_take {xs ys : List Int32} {n : Nat} (hy : ys.length = n) (hx : n ≤ xs.length) : mm_cpl xs ys 0 0 n = xs.take n := by
  unfold mm_cpl
  apply List.ext_getElem?
  intro j
  rw [hy, List.getElem?_map]
  by_cases e : j < n
  · rw [List.getElem?_range e, List.getElem?_take_of_lt e]
    show some (if 0 ≤ j ∧ j < 0 + n then xs.getD (0 + (j - 0)) 0 else ys.getD j 0) = _
    rw [if_pos (by omega), Nat.sub_zero, Nat.zero_add, List.getD, List.getElem?_eq_getElem (show j < xs.length by omega)]; rfl
  · rw [List.getElem?_eq_none (by rw [List.length_range]; omega), List.getElem?_eq_none (by rw [List.length_take]; omega)]; rfl
theorem cpy_x {h h' : mm_H} {a b n : Nat} {xs ys : List Int32} (hb : h.2.2 b = mm_I 0 xs) (ha : h.2.2 a = mm_I 0 ys) (hy : ys.length = n) (hx : n ≤ xs.length) (hn : n < 2 ^ 31) (hw : mm_hs h a (mm_I 0 (xs.take n)) = h') : mm_cpy h b 0 a 0 (nI n) = some h' := by
  unfold mm_cpy
  rw [hb, ha]
  simp only []
  have hc := nI_clamp hn
  have h0 : (0 : Int32).toNatClampNeg = 0 := rfl
  rw [hc, h0, if_pos ⟨trivial, trivial, by decide, by decide, by rw [nl_0, nI_ltI hn (by omega)]; omega, by omega, by omega⟩, cpl_take hy hx]
  exact congrArg some hw
def sp_onk (s : SQ) : Nat → SC → SC
  | 0, c => c
  | n + 1, c => sp_on s (sp_onk s n c)
theorem c_on {s : SQ} {c : SC} (hc : c_ok s c) (hh : c.1 + 1 < 2 ^ 20) : c_ok s (sp_on s c) := ⟨hh, hc.2.1, fun w hw => sp_behind_lt (hc.2.2 w hw)⟩
theorem c_onk {s : SQ} {c : SC} (hc : c_ok s c) : ∀ n, c.1 + n < 2 ^ 20 → c_ok s (sp_onk s n c) ∧ (sp_onk s n c).1 = c.1 + n := by
  intro n
  induction n with
  | zero => intro _; exact ⟨hc, rfl⟩
  | succ n ih =>
    intro h
    obtain ⟨h1, h2⟩ := ih (by omega)
    refine ⟨c_on h1 (by omega), ?_⟩
    show (sp_onk s n c).1 + 1 = _
    omega
def sp_sd (s : SQ) (c : SC) : Nat := sp_said s (sp_now s c)
def sp_when (s : SQ) : Nat → Nat → SC → Int32
  | 0, _, _ => -1
  | f + 1, t, c => if 0 < sp_sd s c then nI t else sp_when s f (t + 1) (sp_on s c)
def sp_most (s : SQ) : Nat → Nat → Nat → Int32 → SC → Nat
  | 0, _, b, _, _ => b
  | f + 1, t, b, h, c => if nI (sp_sd s c) ≤ h then sp_most s f (t + 1) b h (sp_on s c) else sp_most s f (t + 1) t (nI (sp_sd s c)) (sp_on s c)
def sp_talk (s : SQ) : Nat → Nat → SC → Nat
  | 0, a, _ => a
  | n + 1, a, c => sp_talk s n (a + sp_sd s (sp_on s c)) (sp_on s c)
theorem sp_sd_le {s : SQ} {c : SC} (hc : c_ok s c) (ho : k_ok s) : sp_sd s c ≤ 7 := by
  unfold sp_sd sp_said
  have h1 := cn_le (p := fun k => decide (0 < sp_ways s (sp_now s c) k)) (n := (snk (sp_now s c) (sp_now s c).length).1)
  have h2 := (snk_ok (sp_now s c) (sp_now s c).length).1
  have h3 : (sp_now s c).length ≤ _ := sp_list_len hc
  have := ho.1.2.2.2.1
  omega
section TT
variable {fx : List Value → mm_H → Option (List Value × mm_H)} {z : Nat} {E M : Nat → mm_C} {sw c2 w2 : Bool} {T : px_T} {D : px_D} {S : px_S} {S1 : px_S} {K : px_K} {R : px_R} {C : px_C} {W : px_W} {U : px_U} {q : px_q} {q1 : px_q} {B0 : px_K} {B1 : px_K} {B2 : px_K} {B3 : px_K} {T_signs : List Int32} {T_length : Int32} {T_fault : Int32} {T_types : List Int32} {T_starts : List Int32} {T_values : List Int64} {T_tokens : Int32} {T_at : Int32} {T_behind : Int32} {S_hour : Int32} {S_open : Int32} {S_places : List Int32} {S1_hour : Int32} {S1_open : Int32} {S1_places : List Int32} {K_lines : List Int32} {K_lineCount : Int32} {K_wishes : List Int32} {K_wishCount : Int32} {K_sights : List Int32} {K_sightCount : Int32} {R_shown : List Int32} {R_length : Int32} {R_readers : Int32} {R_begins : List Int32} {R_lengths : List Int32} {R_sentences : Int32} {R_order : List Int32} {R_able : Int32} {R_standing : List Int32} {R_lovers : List Int32} {R_lowest : List Int32} {C_ways : List Int32} {C_rows : List Int32} {C_shallower : List Int32} {C_length : Int32} {C_goal : Int32} {W_row : List Int32} {W_walkers : Int32} {W_names : Int32} {W_wanted : List Int32} {W_shown : List Int32} {W_places : List Int32} {W_rest : List Int32} {W_spent : List Int32} {W_tried : List Int32} {U_undoRows : List Int64} {U_markScenes : List Int64} {U_marksLaid : List Int32} {U_undoCount : Int32} {U_undoEnd : Int32} {q_sortNames : List Int64} {q_sortCount : Int32} {q_colourNames : List Int64} {q_colourSorts : List Int32} {q_colourCount : Int32} {q_ruleMakes : List Int32} {q_ruleFirsts : List Int32} {q_ruleSeconds : List Int32} {q_ruleCount : Int32} {q_saysSort : Int32} {q_walkerNames : List Int64} {q_kinds : List Int32} {q_walkerColours : List Int32} {q_starts : List Int32} {q_stepRows : List Int32} {q_stepCounts : List Int32} {q_walkerCount : Int32} {q_gusts : List Int32} {q_gustCount : Int32} {q_parts : List Int32} {q_count : Int32} {q_stack : List Int32} {q_height : Int32} {q1_sortNames : List Int64} {q1_sortCount : Int32} {q1_colourNames : List Int64} {q1_colourSorts : List Int32} {q1_colourCount : Int32} {q1_ruleMakes : List Int32} {q1_ruleFirsts : List Int32} {q1_ruleSeconds : List Int32} {q1_ruleCount : Int32} {q1_saysSort : Int32} {q1_walkerNames : List Int64} {q1_kinds : List Int32} {q1_walkerColours : List Int32} {q1_starts : List Int32} {q1_stepRows : List Int32} {q1_stepCounts : List Int32} {q1_walkerCount : Int32} {q1_gusts : List Int32} {q1_gustCount : Int32} {q1_parts : List Int32} {q1_count : Int32} {q1_stack : List Int32} {q1_height : Int32} {B0_lines : List Int32} {B0_lineCount : Int32} {B0_wishes : List Int32} {B0_wishCount : Int32} {B0_sights : List Int32} {B0_sightCount : Int32} {B1_lines : List Int32} {B1_lineCount : Int32} {B1_wishes : List Int32} {B1_wishCount : Int32} {B1_sights : List Int32} {B1_sightCount : Int32} {B2_lines : List Int32} {B2_lineCount : Int32} {B2_wishes : List Int32} {B2_wishCount : Int32} {B2_sights : List Int32} {B2_sightCount : Int32} {B3_lines : List Int32} {B3_lineCount : Int32} {B3_wishes : List Int32} {B3_wishCount : Int32} {B3_sights : List Int32} {B3_sightCount : Int32}
variable {d : Nat} {Q : Option Value → mm_H → Prop} {s : SQ} {c : SC} {nm : NMs}
theorem t_copy (hl : (S.2.2).length = 7) (hl1 : (S1.2.2).length = 7) (hq : Q none (px_h z E M (px_l sw c2 w2 T D S (S) K R C W U q q1 B0 B1 B2 B3))) : wm (mp_P fx) d 167 [.ref 69, .ref 67] (px_h z E M (px_l sw c2 w2 T D S S1 K R C W U q q1 B0 B1 B2 B3)) Q := by
  have hcp : mm_cpy (px_h z E M (px_l sw c2 w2 T D S ((S.1, S.2.1, S1.2.2)) K R C W U q q1 B0 B1 B2 B3)) 68 0 70 0 7 = some (px_h z E M (px_l sw c2 w2 T D S ((S.1, S.2.1, (S.2.2).take 7)) K R C W U q q1 B0 B1 B2 B3)) := cpy_x (n := 7) pk_S_places pk_S1_places hl1 (by omega) (by omega) (px_set (i := 11) (by decide) px_ll)
  rw [List.take_of_length_le (by omega)] at hcp
  simp only [e167, q167_0, q167_1, q167_2, q167_5, q167_8, q167_9, q167_10, q167_13, q167_16, q167_17, q167_20, q167_21, q167_22, q167_25, q167_26, q167_28, q167_31, xc_S, xg_S_0, xs_S_0, xg_S_1, xs_S_1, xg_S_2, xa_S_places, xb_S_places, xn_S_places, xc_S1, xg_S1_0, xs_S1_0, xg_S1_1, xs_S1_1, xg_S1_2, xa_S1_places, xb_S1_places, xn_S1_places, wx_some, wx_ref, hcp]
  exact hq
theorem t_when (hK : KX nm s q R C) (hc : c_ok s c) (hh : c.1 + 100 < 2 ^ 20) (hS : SCx s S c) (hl1 : (S1.2.2).length = 7) (hq : ∀ q' R' C' S1', KX nm s q' R' C' → (S1'.2.2).length = 7 → Q (some (.int (sp_when s 61 0 c))) (px_h z E M (px_l sw c2 w2 T D S (S1') K (R') (C') W U (q') q1 B0 B1 B2 B3))) : wm (mp_P fx) (d + 6) 166 [.ref 59] (px_h z E M (px_l sw c2 w2 T D S S1 K R C W U q q1 B0 B1 B2 B3)) Q := by
  simp only [e166, q166_0, q166_1, q166_4, q166_5, q166_8, xc_x, xg_x_0, xg_x_1, xg_x_2, xg_x_3, xg_x_4, xg_x_5, xg_x_6, xg_x_7, xg_x_8, xg_x_9, xg_x_10, xg_x_11, xg_x_12, xg_x_13, xg_x_14, xs_x_14, xg_x_15, xs_x_15, xc_S1, xg_S1_0, xs_S1_0, xg_S1_1, xs_S1_1, xg_S1_2, xa_S1_places, xb_S1_places, xn_S1_places, wx_some, wx_ref, isl_i, isl_r, isl_n]
  apply t_copy hS.2.2.1.1 hl1
  simp only [sl_n, q166_11, q166_12r, isl_i, isl_r, isl_n]
  have key : ∀ (m t : Nat) (c1 : SC) (S1' : px_S) (q' : px_q) (R' : px_R) (C' : px_C), t + m = 61 → c_ok s c1 → c1.1 + m < 2 ^ 20 → SCx s S1' c1 → KX nm s q' R' C' → sp_when s m t c1 = sp_when s 61 0 c → ww (mp_P fx) (d + 6) 166 13 [some (.ref 59), some (.int (nI t))] [] (px_h z E M (px_l sw c2 w2 T D S (S1') K (R') (C') W U (q') q1 B0 B1 B2 B3)) Q := by
    intro m
    induction m with
    | zero =>
      intro t c1 S1' q' R' C' ht hc1 hh1 hS1 hK1 he
      have ht2 : t = 61 := by omega
      subst ht2
      rw [q166_13]
      simp only [q166_14, q166_16, q166_49, q166_50]
      rw [if_pos (by decide)]
      have := hq q' R' C' S1' hK1 hS1.2.2.1.1
      rw [← he] at this
      exact this
    | succ m ih =>
      intro t c1 S1' q' R' C' ht hc1 hh1 hS1 hK1 he
      rw [sp_when] at he
      have h7 := sp_sd_le hc1 hK.2.2.1
      rw [q166_13]
      simp only [q166_14, q166_16, q166_19, q166_20, q166_21, q166_24, xc_x, xg_x_0, xg_x_1, xg_x_2, xg_x_3, xg_x_4, xg_x_5, xg_x_6, xg_x_7, xg_x_8, xg_x_9, xg_x_10, xg_x_11, xg_x_12, xg_x_13, xg_x_14, xs_x_14, xg_x_15, xs_x_15, wx_some, wx_ref]
      rw [show (60 : Int32) = nI 60 from rfl, if_neg (by rw [nI_ltI (by omega) (by omega)]; omega)]
      apply t_sdS1 hK1 hc1 hS1
      intro q2 R2 C2 hK2 _
      simp only [sl_i, q166_27, q166_30, q166_31, q166_32, q166_33, q166_36, q166_37, q166_40, xc_x, xg_x_0, xg_x_1, xg_x_2, xg_x_3, xg_x_4, xg_x_5, xg_x_6, xg_x_7, xg_x_8, xg_x_9, xg_x_10, xg_x_11, xg_x_12, xg_x_13, xg_x_14, xs_x_14, xg_x_15, xs_x_15, xc_q, xg_q_0, xg_q_1, xs_q_1, xg_q_2, xg_q_3, xg_q_4, xs_q_4, xg_q_5, xg_q_6, xg_q_7, xg_q_8, xs_q_8, xg_q_9, xs_q_9, xg_q_10, xg_q_11, xg_q_12, xg_q_13, xg_q_14, xg_q_15, xg_q_16, xs_q_16, xg_q_17, xg_q_18, xs_q_18, xg_q_19, xa_q_sortNames, xb_q_sortNames, xn_q_sortNames, xa_q_colourNames, xb_q_colourNames, xn_q_colourNames, xa_q_colourSorts, xb_q_colourSorts, xn_q_colourSorts, xa_q_ruleMakes, xb_q_ruleMakes, xn_q_ruleMakes, xa_q_ruleFirsts, xb_q_ruleFirsts, xn_q_ruleFirsts, xa_q_ruleSeconds, xb_q_ruleSeconds, xn_q_ruleSeconds, xa_q_walkerNames, xb_q_walkerNames, xn_q_walkerNames, xa_q_kinds, xb_q_kinds, xn_q_kinds, xa_q_walkerColours, xb_q_walkerColours, xn_q_walkerColours, xa_q_starts, xb_q_starts, xn_q_starts, xa_q_stepRows, xb_q_stepRows, xn_q_stepRows, xa_q_stepCounts, xb_q_stepCounts, xn_q_stepCounts, xa_q_gusts, xb_q_gusts, xn_q_gusts, xc_ql, xg_ql_0, xg_ql_1, xs_ql_1, xg_ql_2, xg_ql_3, xs_ql_3, xa_q_parts, xb_q_parts, xn_q_parts, xa_q_stack, xb_q_stack, xn_q_stack, xc_S1, xg_S1_0, xs_S1_0, xg_S1_1, xs_S1_1, xg_S1_2, xa_S1_places, xb_S1_places, xn_S1_places, wx_some, wx_ref]
      by_cases e : 0 < sp_sd s c1
      · rw [if_pos e] at he
        rw [if_neg (show ¬ nI (sp_said s (sp_now s c1)) ≤ 0 from nI_nle e (by unfold sp_sd at h7; omega))]
        have := hq q2 R2 C2 S1' hK2 hS1.2.2.1.1
        rw [← he] at this
        exact this
      · rw [if_neg e] at he
        rw [if_pos (by rw [show sp_said s (sp_now s c1) = 0 from by unfold sp_sd at e; omega]; decide)]
        apply t_goOnS1 hK2.1 hK2.2.2.1 hc1 hS1
        intro S2 hS2
        simp only [sl_n, q166_43r, q166_46, isl_i, isl_r, isl_n, nl_1, nI_add]
        exact ih (t + 1) (sp_on s c1) S2 q2 R2 C2 (by omega) (c_on hc1 (by omega)) (by show c1.1 + 1 + m < _; omega) hS2 hK2 he
  exact key 61 0 c S q R C (by omega) hc (by omega) hS hK rfl
theorem t_most (hK : KX nm s q R C) (hc : c_ok s c) (hh : c.1 + 100 < 2 ^ 20) (hS : SCx s S c) (hl1 : (S1.2.2).length = 7) (hq : ∀ q' R' C' S1', KX nm s q' R' C' → (S1'.2.2).length = 7 → Q (some (.int (nI (sp_most s 61 0 0 (-1) c)))) (px_h z E M (px_l sw c2 w2 T D S (S1') K (R') (C') W U (q') q1 B0 B1 B2 B3))) : wm (mp_P fx) (d + 6) 168 [.ref 59] (px_h z E M (px_l sw c2 w2 T D S S1 K R C W U q q1 B0 B1 B2 B3)) Q := by
  simp only [e168, q168_0, q168_1, q168_4, q168_5, q168_8, xc_x, xg_x_0, xg_x_1, xg_x_2, xg_x_3, xg_x_4, xg_x_5, xg_x_6, xg_x_7, xg_x_8, xg_x_9, xg_x_10, xg_x_11, xg_x_12, xg_x_13, xg_x_14, xs_x_14, xg_x_15, xs_x_15, xc_S1, xg_S1_0, xs_S1_0, xg_S1_1, xs_S1_1, xg_S1_2, xa_S1_places, xb_S1_places, xn_S1_places, wx_some, wx_ref, isl_i, isl_r, isl_n]
  apply t_copy hS.2.2.1.1 hl1
  simp only [sl_n, q168_11, q168_12r, q168_13, q168_14i, q168_15, q168_16i, isl_i, isl_r, isl_n]
  have key : ∀ (m t b : Nat) (h : Int32) (l4 : Option Value) (c1 : SC) (S1' : px_S) (q' : px_q) (R' : px_R) (C' : px_C), t + m = 61 → c_ok s c1 → c1.1 + m < 2 ^ 20 → SCx s S1' c1 → KX nm s q' R' C' → sp_most s m t b h c1 = sp_most s 61 0 0 (-1) c → ww (mp_P fx) (d + 6) 168 17 [some (.ref 59), some (.int (nI b)), some (.int h), some (.int (nI t)), l4] [] (px_h z E M (px_l sw c2 w2 T D S (S1') K (R') (C') W U (q') q1 B0 B1 B2 B3)) Q := by
    intro m
    induction m with
    | zero =>
      intro t b h l4 c1 S1' q' R' C' ht hc1 hh1 hS1 hK1 he
      have ht2 : t = 61 := by omega
      subst ht2
      rw [q168_17]
      simp only [q168_18, q168_20, q168_61, q168_62]
      rw [if_pos (by decide)]
      have := hq q' R' C' S1' hK1 hS1.2.2.1.1
      rw [← he] at this
      exact this
    | succ m ih =>
      intro t b h l4 c1 S1' q' R' C' ht hc1 hh1 hS1 hK1 he
      rw [sp_most] at he
      rw [q168_17]
      simp only [q168_18, q168_20, q168_23, q168_24, q168_25, q168_28, xc_x, xg_x_0, xg_x_1, xg_x_2, xg_x_3, xg_x_4, xg_x_5, xg_x_6, xg_x_7, xg_x_8, xg_x_9, xg_x_10, xg_x_11, xg_x_12, xg_x_13, xg_x_14, xs_x_14, xg_x_15, xs_x_15, wx_some, wx_ref]
      rw [show (60 : Int32) = nI 60 from rfl, if_neg (by rw [nI_ltI (by omega) (by omega)]; omega)]
      apply t_sdS1 hK1 hc1 hS1
      intro q2 R2 C2 hK2 _
      have hgo : ∀ (b' : Nat) (h' : Int32) (l4 : Option Value), sp_most s m (t + 1) b' h' (sp_on s c1) = sp_most s 61 0 0 (-1) c → ww (mp_P fx) (d + 6) 168 44 [some (.ref 59), some (.int (nI b')), some (.int h'), some (.int (nI t)), l4] [] (px_h z E M (px_l sw c2 w2 T D S (S1') K (R2) (C2) W U (q2) q1 B0 B1 B2 B3)) Q := by
        intro b' h' l4 he'
        simp only [q168_44, q168_45, q168_48, q168_49, q168_52, xc_x, xg_x_0, xg_x_1, xg_x_2, xg_x_3, xg_x_4, xg_x_5, xg_x_6, xg_x_7, xg_x_8, xg_x_9, xg_x_10, xg_x_11, xg_x_12, xg_x_13, xg_x_14, xs_x_14, xg_x_15, xs_x_15, xc_q, xg_q_0, xg_q_1, xs_q_1, xg_q_2, xg_q_3, xg_q_4, xs_q_4, xg_q_5, xg_q_6, xg_q_7, xg_q_8, xs_q_8, xg_q_9, xs_q_9, xg_q_10, xg_q_11, xg_q_12, xg_q_13, xg_q_14, xg_q_15, xg_q_16, xs_q_16, xg_q_17, xg_q_18, xs_q_18, xg_q_19, xa_q_sortNames, xb_q_sortNames, xn_q_sortNames, xa_q_colourNames, xb_q_colourNames, xn_q_colourNames, xa_q_colourSorts, xb_q_colourSorts, xn_q_colourSorts, xa_q_ruleMakes, xb_q_ruleMakes, xn_q_ruleMakes, xa_q_ruleFirsts, xb_q_ruleFirsts, xn_q_ruleFirsts, xa_q_ruleSeconds, xb_q_ruleSeconds, xn_q_ruleSeconds, xa_q_walkerNames, xb_q_walkerNames, xn_q_walkerNames, xa_q_kinds, xb_q_kinds, xn_q_kinds, xa_q_walkerColours, xb_q_walkerColours, xn_q_walkerColours, xa_q_starts, xb_q_starts, xn_q_starts, xa_q_stepRows, xb_q_stepRows, xn_q_stepRows, xa_q_stepCounts, xb_q_stepCounts, xn_q_stepCounts, xa_q_gusts, xb_q_gusts, xn_q_gusts, xc_ql, xg_ql_0, xg_ql_1, xs_ql_1, xg_ql_2, xg_ql_3, xs_ql_3, xa_q_parts, xb_q_parts, xn_q_parts, xa_q_stack, xb_q_stack, xn_q_stack, xc_S1, xg_S1_0, xs_S1_0, xg_S1_1, xs_S1_1, xg_S1_2, xa_S1_places, xb_S1_places, xn_S1_places, wx_some, wx_ref]
        apply t_goOnS1 hK2.1 hK2.2.2.1 hc1 hS1
        intro S2 hS2
        simp only [sl_n, q168_55i, q168_58, isl_i, isl_r, isl_n, nl_1, nI_add]
        exact ih (t + 1) b' h' _ (sp_on s c1) S2 q2 R2 C2 (by omega) (c_on hc1 (by omega)) (by show c1.1 + 1 + m < _; omega) hS2 hK2 he'
      simp only [sl_i, q168_31i, q168_33, q168_35, q168_36, q168_39, q168_41i, q168_42, q168_43r, isl_i, isl_r, isl_n]
      by_cases e : nI (sp_sd s c1) ≤ h
      · rw [if_pos e] at he
        rw [if_pos (show nI (sp_said s (sp_now s c1)) ≤ h from e)]
        exact hgo b h _ he
      · rw [if_neg e] at he
        rw [if_neg (show ¬ nI (sp_said s (sp_now s c1)) ≤ h from e)]
        exact hgo t _ _ he
  exact key 61 0 0 (-1) none c S q R C (by omega) hc (by omega) hS hK rfl
theorem t_talk {v : Int32} (hK : KX nm s q R C) (hc : c_ok s c) (hh : c.1 + 100 < 2 ^ 20) (hS : SCx s S c) (hl1 : (S1.2.2).length = 7) (hq : ∀ q' R' C' S1', KX nm s q' R' C' → (S1'.2.2).length = 7 → Q (some (.int (if v < 1 ∨ 60 < v then -1 else nI (sp_talk s v.toNatClampNeg 0 c)))) (px_h z E M (px_l sw c2 w2 T D S (S1') K (R') (C') W U (q') q1 B0 B1 B2 B3))) : wm (mp_P fx) (d + 6) 169 [.ref 59, .int v] (px_h z E M (px_l sw c2 w2 T D S S1 K R C W U q q1 B0 B1 B2 B3)) Q := by
  simp only [e169, q169_0, q169_1, q169_2, q169_5, q169_6, q169_8, q169_11, q169_12, q169_13, q169_14, q169_17, q169_18, q169_21, xc_x, xg_x_0, xg_x_1, xg_x_2, xg_x_3, xg_x_4, xg_x_5, xg_x_6, xg_x_7, xg_x_8, xg_x_9, xg_x_10, xg_x_11, xg_x_12, xg_x_13, xg_x_14, xs_x_14, xg_x_15, xs_x_15, xc_S1, xg_S1_0, xs_S1_0, xg_S1_1, xs_S1_1, xg_S1_2, xa_S1_places, xb_S1_places, xn_S1_places, wx_some, wx_ref, isl_i, isl_r, isl_n]
  by_cases h1 : v < 1
  · rw [if_pos h1]
    have := hq q R C S1 hK hl1
    rw [if_pos (Or.inl h1)] at this
    exact this
  rw [if_neg h1]
  by_cases h2 : 60 < v
  · rw [if_neg (Int32.not_le.mpr h2)]
    have := hq q R C S1 hK hl1
    rw [if_pos (Or.inr h2)] at this
    exact this
  rw [if_pos (Int32.not_lt.mp h2)]
  rcases iv v with hv | ⟨n, hn, rfl⟩
  · exact absurd (Int32.lt_of_lt_of_le hv (by decide : (0 : Int32) ≤ 1)) h1
  have hn60 : n ≤ 60 := by
    have := Int32.not_lt.mp h2
    rw [show (60 : Int32) = nI 60 from rfl, nI_leI (by omega) (by omega)] at this
    exact this
  have hq2 : ∀ q' R' C' S1', KX nm s q' R' C' → (S1'.2.2).length = 7 → Q (some (.int (nI (sp_talk s n 0 c)))) (px_h z E M (px_l sw c2 w2 T D S (S1') K (R') (C') W U (q') q1 B0 B1 B2 B3)) := by
    intro q' R' C' S1' h3 h4
    have := hq q' R' C' S1' h3 h4
    rw [if_neg (fun z => z.elim h1 h2), nI_clamp (by omega)] at this
    exact this
  apply t_copy hS.2.2.1.1 hl1
  simp only [sl_n, q169_24, q169_25i, q169_26, q169_27i, isl_i, isl_r, isl_n]
  have key : ∀ (m t a : Nat) (c1 : SC) (S1' : px_S) (q' : px_q) (R' : px_R) (C' : px_C), t + m = n → c_ok s c1 → c1.1 + m < 2 ^ 20 → SCx s S1' c1 → KX nm s q' R' C' → sp_talk s m a c1 = sp_talk s n 0 c → ww (mp_P fx) (d + 6) 169 28 [some (.ref 59), some (.int (nI n)), some (.int (nI a)), some (.int (nI t))] [] (px_h z E M (px_l sw c2 w2 T D S (S1') K (R') (C') W U (q') q1 B0 B1 B2 B3)) Q := by
    intro m
    induction m with
    | zero =>
      intro t a c1 S1' q' R' C' ht hc1 hh1 hS1 hK1 he
      rw [q169_28]
      simp only [q169_29, q169_30, q169_61, q169_62]
      rw [if_pos (by rw [nI_leI (by omega) (by omega)]; omega)]
      have := hq2 q' R' C' S1' hK1 hS1.2.2.1.1
      rw [← he] at this
      exact this
    | succ m ih =>
      intro t a c1 S1' q' R' C' ht hc1 hh1 hS1 hK1 he
      rw [sp_talk] at he
      have hc2 := c_on hc1 (by omega)
      rw [q169_28]
      simp only [q169_29, q169_30, q169_33, q169_34, q169_37, q169_38, q169_41, xc_x, xg_x_0, xg_x_1, xg_x_2, xg_x_3, xg_x_4, xg_x_5, xg_x_6, xg_x_7, xg_x_8, xg_x_9, xg_x_10, xg_x_11, xg_x_12, xg_x_13, xg_x_14, xs_x_14, xg_x_15, xs_x_15, xc_q, xg_q_0, xg_q_1, xs_q_1, xg_q_2, xg_q_3, xg_q_4, xs_q_4, xg_q_5, xg_q_6, xg_q_7, xg_q_8, xs_q_8, xg_q_9, xs_q_9, xg_q_10, xg_q_11, xg_q_12, xg_q_13, xg_q_14, xg_q_15, xg_q_16, xs_q_16, xg_q_17, xg_q_18, xs_q_18, xg_q_19, xa_q_sortNames, xb_q_sortNames, xn_q_sortNames, xa_q_colourNames, xb_q_colourNames, xn_q_colourNames, xa_q_colourSorts, xb_q_colourSorts, xn_q_colourSorts, xa_q_ruleMakes, xb_q_ruleMakes, xn_q_ruleMakes, xa_q_ruleFirsts, xb_q_ruleFirsts, xn_q_ruleFirsts, xa_q_ruleSeconds, xb_q_ruleSeconds, xn_q_ruleSeconds, xa_q_walkerNames, xb_q_walkerNames, xn_q_walkerNames, xa_q_kinds, xb_q_kinds, xn_q_kinds, xa_q_walkerColours, xb_q_walkerColours, xn_q_walkerColours, xa_q_starts, xb_q_starts, xn_q_starts, xa_q_stepRows, xb_q_stepRows, xn_q_stepRows, xa_q_stepCounts, xb_q_stepCounts, xn_q_stepCounts, xa_q_gusts, xb_q_gusts, xn_q_gusts, xc_ql, xg_ql_0, xg_ql_1, xs_ql_1, xg_ql_2, xg_ql_3, xs_ql_3, xa_q_parts, xb_q_parts, xn_q_parts, xa_q_stack, xb_q_stack, xn_q_stack, xc_S1, xg_S1_0, xs_S1_0, xg_S1_1, xs_S1_1, xg_S1_2, xa_S1_places, xb_S1_places, xn_S1_places, wx_some, wx_ref]
      rw [if_neg (by rw [nI_leI (by omega) (by omega)]; omega)]
      apply t_goOnS1 hK1.1 hK1.2.2.1 hc1 hS1
      intro S2 hS2
      simp only [sl_n, q169_44, q169_45, q169_46, q169_47, q169_50, xc_x, xg_x_0, xg_x_1, xg_x_2, xg_x_3, xg_x_4, xg_x_5, xg_x_6, xg_x_7, xg_x_8, xg_x_9, xg_x_10, xg_x_11, xg_x_12, xg_x_13, xg_x_14, xs_x_14, xg_x_15, xs_x_15, wx_some, wx_ref]
      apply t_sdS1 hK1 hc2 hS2
      intro q2 R2 C2 hK2 _
      simp only [sl_i, q169_53, q169_54i, q169_55i, q169_58, isl_i, isl_r, isl_n, nl_1, nI_add]
      exact ih (t + 1) (a + sp_sd s (sp_on s c1)) (sp_on s c1) S2 q2 R2 C2 (by omega) hc2 (by show c1.1 + 1 + m < _; omega) hS2 hK2 he
  exact key n 0 0 c S q R C (by omega) hc (by omega) hS hK rfl
theorem t_isWalker {v : Int32} (hs : SQx q s) (ho : k_ok s) (hq0 : sx (k_nW s) v = none → Q (some (.int 0)) (px_h z E M (px_l sw c2 w2 T D S S1 K R C W U q q1 B0 B1 B2 B3))) (hq1 : ∀ w, w < k_nW s → v = nI w → sx (k_nW s) v = some w → Q (some (.int 1)) (px_h z E M (px_l sw c2 w2 T D S S1 K R C W U q q1 B0 B1 B2 B3))) : wm (mp_P fx) d 105 [.ref 59, .int v] (px_h z E M (px_l sw c2 w2 T D S S1 K R C W U q q1 B0 B1 B2 B3)) Q := by
  have h7 := ho.1.2.2.2.1
  simp only [e105, b105_0, b105_1, bn_0 b105_0, bn_1 b105_1, q105_0, q105_1, q105_4, q105_5, q105_6, q105_9, q105_12, q105_15, q105_16, q105_19, q105_20, xc_x, xg_x_0, xg_x_1, xg_x_2, xg_x_3, xg_x_4, xg_x_5, xg_x_6, xg_x_7, xg_x_8, xg_x_9, xg_x_10, xg_x_11, xg_x_12, xg_x_13, xg_x_14, xs_x_14, xg_x_15, xs_x_15, xc_q, xg_q_0, xg_q_1, xs_q_1, xg_q_2, xg_q_3, xg_q_4, xs_q_4, xg_q_5, xg_q_6, xg_q_7, xg_q_8, xs_q_8, xg_q_9, xs_q_9, xg_q_10, xg_q_11, xg_q_12, xg_q_13, xg_q_14, xg_q_15, xg_q_16, xs_q_16, xg_q_17, xg_q_18, xs_q_18, xg_q_19, xa_q_sortNames, xb_q_sortNames, xn_q_sortNames, xa_q_colourNames, xb_q_colourNames, xn_q_colourNames, xa_q_colourSorts, xb_q_colourSorts, xn_q_colourSorts, xa_q_ruleMakes, xb_q_ruleMakes, xn_q_ruleMakes, xa_q_ruleFirsts, xb_q_ruleFirsts, xn_q_ruleFirsts, xa_q_ruleSeconds, xb_q_ruleSeconds, xn_q_ruleSeconds, xa_q_walkerNames, xb_q_walkerNames, xn_q_walkerNames, xa_q_kinds, xb_q_kinds, xn_q_kinds, xa_q_walkerColours, xb_q_walkerColours, xn_q_walkerColours, xa_q_starts, xb_q_starts, xn_q_starts, xa_q_stepRows, xb_q_stepRows, xn_q_stepRows, xa_q_stepCounts, xb_q_stepCounts, xn_q_stepCounts, xa_q_gusts, xb_q_gusts, xn_q_gusts, xc_ql, xg_ql_0, xg_ql_1, xs_ql_1, xg_ql_2, xg_ql_3, xs_ql_3, xa_q_parts, xb_q_parts, xn_q_parts, xa_q_stack, xb_q_stack, xn_q_stack, wx_some, wx_ref, hs.2.1.2.2.2.1]
  rcases sx_c (k_nW s) v (by omega) with ⟨e, h1⟩ | ⟨k, hk, rfl, e⟩
  · rcases h1 with h1 | ⟨h1, h2⟩
    · rw [if_pos h1]; exact hq0 e
    · rw [if_neg h1, if_pos h2]; exact hq0 e
  · rw [if_neg (by rw [nl_0, nI_ltI (by omega) (by omega)]; omega), if_neg (by rw [nI_leI (by omega) (by omega)]; omega)]
    exact hq1 k hk rfl e
theorem t_placeLater {w n : Nat} (hs : SQx q s) (ho : k_ok s) (hc : c_ok s c) (hn : c.1 + n < 2 ^ 20) (hS : SCx s S c) (hw : w < k_nW s) (hq : Q (some (.int (nI ((sp_onk s n c).2.2 w)))) (px_h z E M (px_l sw c2 w2 T D S S1 K R C W U q q1 B0 B1 B2 B3))) : wm (mp_P fx) (d + 1) 165 [.ref 59, .int (nI w), .int (nI n)] (px_h z E M (px_l sw c2 w2 T D S S1 K R C W U q q1 B0 B1 B2 B3)) Q := by
  obtain ⟨e1, e2, hrg, hpl⟩ := id hS
  have h7 := ho.1.2.2.2.1
  have g1 := ag_G hpl (show (S.2.2).length < 2 ^ 31 by have := hrg.1; omega) hw
  simp only [e165, q165_0, q165_1, q165_4, q165_7, q165_8, q165_9i, q165_10, q165_11i, xc_x, xg_x_0, xg_x_1, xg_x_2, xg_x_3, xg_x_4, xg_x_5, xg_x_6, xg_x_7, xg_x_8, xg_x_9, xg_x_10, xg_x_11, xg_x_12, xg_x_13, xg_x_14, xs_x_14, xg_x_15, xs_x_15, xc_S, xg_S_0, xs_S_0, xg_S_1, xs_S_1, xg_S_2, xa_S_places, xb_S_places, xn_S_places, wx_some, wx_ref, isl_i, isl_r, isl_n, g1]
  have key : ∀ (m t : Nat), t + m = n → ww (mp_P fx) (d + 1) 165 13 [some (.ref 59), some (.int (nI w)), some (.int (nI n)), some (.int (nI ((sp_onk s t c).2.2 w))), some (.int (nI t))] [] (px_h z E M (px_l sw c2 w2 T D S S1 K R C W U q q1 B0 B1 B2 B3)) Q := by
    intro m
    induction m with
    | zero =>
      intro t ht
      have ht2 : t = n := by omega
      subst ht2
      rw [q165_13]
      simp only [q165_15, q165_16, q165_48, q165_49]
      rw [if_pos (by rw [nI_leI (by omega) (by omega)]; omega)]
      exact hq
    | succ m ih =>
      intro t ht
      obtain ⟨hct, hht⟩ := c_onk hc t (by omega)
      have hp := hct.2.2 w hw
      have h2 := sp_step_le (hr := c.1 + t) ho hw
      rw [q165_13]
      simp only [q165_15, q165_16, q165_19, q165_20, q165_21, q165_24, q165_25, q165_26, q165_29, q165_32, q165_34, q165_35, xc_x, xg_x_0, xg_x_1, xg_x_2, xg_x_3, xg_x_4, xg_x_5, xg_x_6, xg_x_7, xg_x_8, xg_x_9, xg_x_10, xg_x_11, xg_x_12, xg_x_13, xg_x_14, xs_x_14, xg_x_15, xs_x_15, xc_S, xg_S_0, xs_S_0, xg_S_1, xs_S_1, xg_S_2, xa_S_places, xb_S_places, xn_S_places, xc_q, xg_q_0, xg_q_1, xs_q_1, xg_q_2, xg_q_3, xg_q_4, xs_q_4, xg_q_5, xg_q_6, xg_q_7, xg_q_8, xs_q_8, xg_q_9, xs_q_9, xg_q_10, xg_q_11, xg_q_12, xg_q_13, xg_q_14, xg_q_15, xg_q_16, xs_q_16, xg_q_17, xg_q_18, xs_q_18, xg_q_19, xa_q_sortNames, xb_q_sortNames, xn_q_sortNames, xa_q_colourNames, xb_q_colourNames, xn_q_colourNames, xa_q_colourSorts, xb_q_colourSorts, xn_q_colourSorts, xa_q_ruleMakes, xb_q_ruleMakes, xn_q_ruleMakes, xa_q_ruleFirsts, xb_q_ruleFirsts, xn_q_ruleFirsts, xa_q_ruleSeconds, xb_q_ruleSeconds, xn_q_ruleSeconds, xa_q_walkerNames, xb_q_walkerNames, xn_q_walkerNames, xa_q_kinds, xb_q_kinds, xn_q_kinds, xa_q_walkerColours, xb_q_walkerColours, xn_q_walkerColours, xa_q_starts, xb_q_starts, xn_q_starts, xa_q_stepRows, xb_q_stepRows, xn_q_stepRows, xa_q_stepCounts, xb_q_stepCounts, xn_q_stepCounts, xa_q_gusts, xb_q_gusts, xn_q_gusts, xc_ql, xg_ql_0, xg_ql_1, xs_ql_1, xg_ql_2, xg_ql_3, xs_ql_3, xa_q_parts, xb_q_parts, xn_q_parts, xa_q_stack, xb_q_stack, xn_q_stack, wx_some, wx_ref, e1, nI_add]
      rw [if_neg (by rw [nI_leI (by omega) (by omega)]; omega)]
      apply t_stepOf hs ho hw (by omega)
      simp only [sl_i, q165_38]
      apply t_behind (by omega) (by omega)
      simp only [sl_i, q165_41i, q165_42i, q165_45, isl_i, isl_r, isl_n, nl_1, nI_add]
      have := ih (t + 1) (by omega)
      have hv : (sp_onk s (t + 1) c).2.2 w = sp_behind ((sp_onk s t c).2.2 w) (sp_step s w (c.1 + t)) := by rw [← hht]; rfl
      rw [hv] at this
      exact this
  exact key n 0 (by omega)
theorem t_later {u v : Int32} (hK : KX nm s q R C) (hc : c_ok s c) (hh : c.1 + 100 < 2 ^ 20) (hS : SCx s S c) (hq : Q (some (.int (match sx (k_nW s) u, sx 61 v with
    | some w, some n => nI ((sp_onk s n c).2.2 w)
    | _, _ => -1))) (px_h z E M (px_l sw c2 w2 T D S S1 K R C W U q q1 B0 B1 B2 B3))) : wm (mp_P fx) (d + 2) 164 [.ref 59, .int u, .int v] (px_h z E M (px_l sw c2 w2 T D S S1 K R C W U q q1 B0 B1 B2 B3)) Q := by
  have h7 := hK.2.2.1.1.2.2.2.1
  simp only [e164, q164_0, q164_1, q164_2, q164_5, q164_8, q164_9, q164_12, q164_13, q164_15, q164_18, q164_19, q164_20, q164_21, q164_22, q164_23, q164_26, xc_x, xg_x_0, xg_x_1, xg_x_2, xg_x_3, xg_x_4, xg_x_5, xg_x_6, xg_x_7, xg_x_8, xg_x_9, xg_x_10, xg_x_11, xg_x_12, xg_x_13, xg_x_14, xs_x_14, xg_x_15, xs_x_15]
  apply t_isWalker hK.1 hK.2.2.1
  · intro e
    simp only [sl_i, e164, q164_0, q164_1, q164_2, q164_5, q164_8, q164_9, q164_12, q164_13, q164_15, q164_18, q164_19, q164_20, q164_21, q164_22, q164_23, q164_26]
    rw [e] at hq
    rw [if_pos (by decide)]; exact hq
  intro w hw hu e
  subst hu
  simp only [sl_i, e164, q164_0, q164_1, q164_2, q164_5, q164_8, q164_9, q164_12, q164_13, q164_15, q164_18, q164_19, q164_20, q164_21, q164_22, q164_23, q164_26, xc_x, xg_x_0, xg_x_1, xg_x_2, xg_x_3, xg_x_4, xg_x_5, xg_x_6, xg_x_7, xg_x_8, xg_x_9, xg_x_10, xg_x_11, xg_x_12, xg_x_13, xg_x_14, xs_x_14, xg_x_15, xs_x_15]
  rw [e] at hq
  rw [if_neg (by decide)]
  rcases sx_c 61 v (by omega) with ⟨e2, h1⟩ | ⟨n, hn, rfl, e2⟩
  · rw [e2] at hq
    rcases h1 with h1 | ⟨h1, h2⟩
    · rw [if_pos h1]; exact hq
    · rw [if_neg h1, if_neg (Int32.not_le.mpr (Int32.lt_of_lt_of_le (by decide : (60 : Int32) < nI 61) h2))]; exact hq
  · rw [e2] at hq
    rw [if_neg (by rw [nl_0, nI_ltI (by omega) (by omega)]; omega), show (60 : Int32) = nI 60 from rfl, if_pos (by rw [nI_leI (by omega) (by omega)]; omega)]
    apply t_placeLater hK.1 hK.2.2.1 hc (by omega) hS hw
    simp only [sl_i, e164, q164_0, q164_1, q164_2, q164_5, q164_8, q164_9, q164_12, q164_13, q164_15, q164_18, q164_19, q164_20, q164_21, q164_22, q164_23, q164_26]
    exact hq
end TT
