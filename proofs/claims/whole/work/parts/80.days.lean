/-! days by draws -/
def sp_dr (g : Nat) : Nat := (g * 1103515245 + 12345) % 2147483648
def sp_stir (s : SQ) (g : Nat) (c : SC) : Nat × SC := if k_nW s = 0 then (g, c) else if sp_dr (sp_dr g) / 65536 % 6 = 0 then (sp_dr (sp_dr (sp_dr g)), sp_put c (sp_dr g / 65536 % k_nW s) (sp_behind (c.2.2 (sp_dr g / 65536 % k_nW s)) (sp_dr (sp_dr (sp_dr g)) / 65536 % 2 + 1))) else if sp_dr (sp_dr g) / 65536 % 6 = 1 then (sp_dr (sp_dr g), (c.1, c.2.1 &&& (127 ^^^ 2 ^ (sp_dr g / 65536 % k_nW s)), c.2.2)) else if sp_dr (sp_dr g) / 65536 % 6 = 2 then (sp_dr (sp_dr g), (c.1, c.2.1 ||| 2 ^ (sp_dr g / 65536 % k_nW s), c.2.2)) else (sp_dr (sp_dr g), c)
theorem sp_dr_lt (g : Nat) : sp_dr g < 2 ^ 31 := Nat.mod_lt _ (by omega)
theorem c_stir {s : SQ} {c : SC} {g : Nat} (hg : g < 2 ^ 31) (hc : c_ok s c) : c_ok s (sp_stir s g c).2 ∧ (sp_stir s g c).2.1 = c.1 ∧ (sp_stir s g c).1 < 2 ^ 31 := by
  unfold sp_stir
  by_cases e : k_nW s = 0
  · rw [if_pos e]; exact ⟨hc, rfl, hg⟩
  rw [if_neg e]
  have hw : sp_dr g / 65536 % k_nW s < k_nW s := Nat.mod_lt _ (by omega)
  by_cases e0 : sp_dr (sp_dr g) / 65536 % 6 = 0
  · rw [if_pos e0]; exact ⟨c_put hc (sp_behind_lt (hc.2.2 _ hw)), rfl, sp_dr_lt _⟩
  rw [if_neg e0]
  by_cases e1 : sp_dr (sp_dr g) / 65536 % 6 = 1
  · rw [if_pos e1]; exact ⟨c_shut hc, rfl, sp_dr_lt _⟩
  rw [if_neg e1]
  by_cases e2 : sp_dr (sp_dr g) / 65536 % 6 = 2
  · rw [if_pos e2]; exact ⟨c_or hc hw, rfl, sp_dr_lt _⟩
  rw [if_neg e2]; exact ⟨hc, rfl, sp_dr_lt _⟩
def sp_lv (s : SQ) (g : Nat) (c : SC) : Nat → Nat × SC
  | 0 => (g, c)
  | n + 1 => ((sp_stir s (sp_lv s g c n).1 (sp_lv s g c n).2).1, sp_on s (sp_stir s (sp_lv s g c n).1 (sp_lv s g c n).2).2)
theorem c_lv {s : SQ} {c : SC} {g : Nat} (hg : g < 2 ^ 31) (hc : c_ok s c) : ∀ n, c.1 + n < 2 ^ 20 → c_ok s (sp_lv s g c n).2 ∧ (sp_lv s g c n).2.1 = c.1 + n ∧ (sp_lv s g c n).1 < 2 ^ 31 := by
  intro n
  induction n with
  | zero => intro _; exact ⟨hc, rfl, hg⟩
  | succ n ih =>
    intro h
    obtain ⟨h1, h2, h3⟩ := ih (by omega)
    obtain ⟨g1, g2, g3⟩ := c_stir h3 h1
    refine ⟨c_on g1 (by omega), ?_, g3⟩
    show (sp_stir s (sp_lv s g c n).1 (sp_lv s g c n).2).2.1 + 1 = _
    omega
def sp_dsum (s : SQ) (g : Nat) (c : SC) : Nat → Nat
  | 0 => 0
  | n + 1 => sp_dsum s g c n + sp_sd s (sp_lv s g c (n + 1)).2
def sp_days (s : SQ) (c : SC) (g n k : Nat) : Nat := if k = 0 then sp_dsum s g c n else if k = 1 then (sp_lv s g c n).2.2.1 else sm (sp_lv s g c n).2.2.2 (k_nW s)
def sp_dq (s : SQ) (c : SC) (a b v : Int32) : Int32 := match sx 10000 a, sx 100 b, sx 3 v with
  | some g, some n, some k => if n = 0 then -1 else nI (sp_days s c g n k)
  | _, _, _ => -1
section TY
variable {fx : List Value → mm_H → Option (List Value × mm_H)} {z : Nat} {E M : Nat → mm_C} {sw c2 w2 : Bool} {T : px_T} {D : px_D} {S : px_S} {S1 : px_S} {K : px_K} {R : px_R} {C : px_C} {W : px_W} {U : px_U} {q : px_q} {q1 : px_q} {B0 : px_K} {B1 : px_K} {B2 : px_K} {B3 : px_K} {T_signs : List Int32} {T_length : Int32} {T_fault : Int32} {T_types : List Int32} {T_starts : List Int32} {T_values : List Int64} {T_tokens : Int32} {T_at : Int32} {T_behind : Int32} {S_hour : Int32} {S_open : Int32} {S_places : List Int32} {S1_hour : Int32} {S1_open : Int32} {S1_places : List Int32} {K_lines : List Int32} {K_lineCount : Int32} {K_wishes : List Int32} {K_wishCount : Int32} {K_sights : List Int32} {K_sightCount : Int32} {R_shown : List Int32} {R_length : Int32} {R_readers : Int32} {R_begins : List Int32} {R_lengths : List Int32} {R_sentences : Int32} {R_order : List Int32} {R_able : Int32} {R_standing : List Int32} {R_lovers : List Int32} {R_lowest : List Int32} {C_ways : List Int32} {C_rows : List Int32} {C_shallower : List Int32} {C_length : Int32} {C_goal : Int32} {W_row : List Int32} {W_walkers : Int32} {W_names : Int32} {W_wanted : List Int32} {W_shown : List Int32} {W_places : List Int32} {W_rest : List Int32} {W_spent : List Int32} {W_tried : List Int32} {U_undoRows : List Int64} {U_markScenes : List Int64} {U_marksLaid : List Int32} {U_undoCount : Int32} {U_undoEnd : Int32} {q_sortNames : List Int64} {q_sortCount : Int32} {q_colourNames : List Int64} {q_colourSorts : List Int32} {q_colourCount : Int32} {q_ruleMakes : List Int32} {q_ruleFirsts : List Int32} {q_ruleSeconds : List Int32} {q_ruleCount : Int32} {q_saysSort : Int32} {q_walkerNames : List Int64} {q_kinds : List Int32} {q_walkerColours : List Int32} {q_starts : List Int32} {q_stepRows : List Int32} {q_stepCounts : List Int32} {q_walkerCount : Int32} {q_gusts : List Int32} {q_gustCount : Int32} {q_parts : List Int32} {q_count : Int32} {q_stack : List Int32} {q_height : Int32} {q1_sortNames : List Int64} {q1_sortCount : Int32} {q1_colourNames : List Int64} {q1_colourSorts : List Int32} {q1_colourCount : Int32} {q1_ruleMakes : List Int32} {q1_ruleFirsts : List Int32} {q1_ruleSeconds : List Int32} {q1_ruleCount : Int32} {q1_saysSort : Int32} {q1_walkerNames : List Int64} {q1_kinds : List Int32} {q1_walkerColours : List Int32} {q1_starts : List Int32} {q1_stepRows : List Int32} {q1_stepCounts : List Int32} {q1_walkerCount : Int32} {q1_gusts : List Int32} {q1_gustCount : Int32} {q1_parts : List Int32} {q1_count : Int32} {q1_stack : List Int32} {q1_height : Int32} {B0_lines : List Int32} {B0_lineCount : Int32} {B0_wishes : List Int32} {B0_wishCount : Int32} {B0_sights : List Int32} {B0_sightCount : Int32} {B1_lines : List Int32} {B1_lineCount : Int32} {B1_wishes : List Int32} {B1_wishCount : Int32} {B1_sights : List Int32} {B1_sightCount : Int32} {B2_lines : List Int32} {B2_lineCount : Int32} {B2_wishes : List Int32} {B2_wishCount : Int32} {B2_sights : List Int32} {B2_sightCount : Int32} {B3_lines : List Int32} {B3_lineCount : Int32} {B3_wishes : List Int32} {B3_wishCount : Int32} {B3_sights : List Int32} {B3_sightCount : Int32}
variable {d : Nat} {Q : Option Value → mm_H → Prop} {s : SQ} {c : SC} {nm : NMs}
theorem t_drawn {h : mm_H} {g : Nat} (hg : g < 2 ^ 31) (hq : Q (some (.long (lN (sp_dr g)))) h) : wm (mp_P fx) d 200 [.long (lN g)] h Q := by
  simp only [e200, q200_0, q200_1, q200_4, q200_5, q200_8, q200_9, q200_12, q200_13, show (1103515245 : Int64) = lN 1103515245 from rfl, show (12345 : Int64) = lN 12345 from rfl, lN_mul, lN_add, if_neg (show ¬ (2147483648 : Int64) = 0 by decide)]
  rw [show (2147483648 : Int64) = lN 2147483648 from rfl, pk_lRem (by omega) (by omega) (by omega)]
  exact hq
theorem lN_dm {g m : Nat} (hg : g < 2 ^ 31) (hm : m < 2 ^ 31) (h0 : 0 < m) : (lN g / 65536 - lN g / 65536 / lN m * lN m).toInt32 = nI (g / 65536 % m) := by
  rw [show (65536 : Int64) = lN 65536 from rfl, pk_lDiv (by omega) (by omega) (by omega), pk_lRem (by omega) h0 (by omega), lN_w]
theorem t_stir {g : Nat} (hK : KX nm s q R C) (hc : c_ok s c) (hg : g < 2 ^ 31) (hS : SCx s S1 c) (hq : ∀ S', SCx s S' (sp_stir s g c).2 → Q (some (.long (lN (sp_stir s g c).1))) (px_h z E M (px_l sw c2 w2 T D S (S') K R C W U q q1 B0 B1 B2 B3))) : wm (mp_P fx) (d + 2) 199 [.ref 59, .long (lN g)] (px_h z E M (px_l sw c2 w2 T D S S1 K R C W U q q1 B0 B1 B2 B3)) Q := by
  have ho := hK.2.2.1
  have h7 := ho.1.2.2.2.1
  unfold sp_stir at hq
  simp only [e199, q199_0, q199_1, q199_4, q199_7n, q199_8, q199_9, q199_10, q199_13, q199_14, q199_15, xc_x, xg_x_0, xg_x_1, xg_x_2, xg_x_3, xg_x_4, xg_x_5, xg_x_6, xg_x_7, xg_x_8, xg_x_9, xg_x_10, xg_x_11, xg_x_12, xg_x_13, xg_x_14, xs_x_14, xg_x_15, xs_x_15, xc_q, xg_q_0, xg_q_1, xs_q_1, xg_q_2, xg_q_3, xg_q_4, xs_q_4, xg_q_5, xg_q_6, xg_q_7, xg_q_8, xs_q_8, xg_q_9, xs_q_9, xg_q_10, xg_q_11, xg_q_12, xg_q_13, xg_q_14, xg_q_15, xg_q_16, xs_q_16, xg_q_17, xg_q_18, xs_q_18, xg_q_19, xa_q_sortNames, xb_q_sortNames, xn_q_sortNames, xa_q_colourNames, xb_q_colourNames, xn_q_colourNames, xa_q_colourSorts, xb_q_colourSorts, xn_q_colourSorts, xa_q_ruleMakes, xb_q_ruleMakes, xn_q_ruleMakes, xa_q_ruleFirsts, xb_q_ruleFirsts, xn_q_ruleFirsts, xa_q_ruleSeconds, xb_q_ruleSeconds, xn_q_ruleSeconds, xa_q_walkerNames, xb_q_walkerNames, xn_q_walkerNames, xa_q_kinds, xb_q_kinds, xn_q_kinds, xa_q_walkerColours, xb_q_walkerColours, xn_q_walkerColours, xa_q_starts, xb_q_starts, xn_q_starts, xa_q_stepRows, xb_q_stepRows, xn_q_stepRows, xa_q_stepCounts, xb_q_stepCounts, xn_q_stepCounts, xa_q_gusts, xb_q_gusts, xn_q_gusts, xc_ql, xg_ql_0, xg_ql_1, xs_ql_1, xg_ql_2, xg_ql_3, xs_ql_3, xa_q_parts, xb_q_parts, xn_q_parts, xa_q_stack, xb_q_stack, xn_q_stack, wx_some, wx_ref, isl_i, isl_r, isl_n, hK.1.2.1.2.2.2.1]
  by_cases e : k_nW s = 0
  · rw [if_pos e] at hq
    rw [if_neg (by rw [e]; decide)]
    exact hq S1 hS
  rw [if_neg e] at hq
  rw [nl_1, if_pos (by rw [nI_leI (by omega) (by omega)]; omega)]
  simp only [q199_16]
  apply t_drawn hg
  have hg1 := sp_dr_lt g
  have hg2 := sp_dr_lt (sp_dr g)
  have hg3 := sp_dr_lt (sp_dr (sp_dr g))
  have hw : sp_dr g / 65536 % k_nW s < k_nW s := Nat.mod_lt _ (by omega)
  have hd6 : sp_dr (sp_dr g) / 65536 % 6 < 6 := Nat.mod_lt _ (by omega)
  simp only [sl_i, q199_19i, q199_21, q199_23, q199_26, q199_27, q199_28, q199_29, q199_30, q199_31n, q199_33, isl_i, isl_r, isl_n, if_neg (show ¬ (65536 : Int64) = 0 by decide), nI_l (show k_nW s < 2 ^ 31 by omega)]
  rw [if_neg (by rw [show (0 : Int64) = lN 0 from rfl, pk_lEQ (by omega) (by omega)]; exact e), lN_dm hg1 (by omega) (by omega)]
  generalize sp_dr g / 65536 % k_nW s = w at *
  simp only [q199_31n, q199_33, q199_35, isl_i, isl_r, isl_n]
  apply t_drawn hg1
  simp only [sl_i, q199_38i, q199_40, q199_42, q199_45, q199_46, q199_49, q199_50, q199_51i, q199_53, q199_55, isl_i, isl_r, isl_n, if_neg (show ¬ (65536 : Int64) = 0 by decide), if_neg (show ¬ (6 : Int64) = 0 by decide), show (lN (sp_dr (sp_dr g)) / 65536 - lN (sp_dr (sp_dr g)) / 65536 / 6 * 6).toInt32 = nI (sp_dr (sp_dr g) / 65536 % 6) from lN_dm (m := 6) hg2 (by omega) (by omega)]
  by_cases e0 : sp_dr (sp_dr g) / 65536 % 6 = 0
  · rw [if_pos e0] at hq
    rw [if_neg (by rw [e0]; exact fun z => z rfl)]
    simp only [q199_58, q199_60]
    apply t_drawn hg2
    simp only [sl_i, q199_63i, q199_65, q199_67, q199_70, q199_71, q199_74, q199_75, q199_76, q199_77, q199_78i, q199_80, q199_81, q199_84, q199_86, xc_x, xg_x_0, xg_x_1, xg_x_2, xg_x_3, xg_x_4, xg_x_5, xg_x_6, xg_x_7, xg_x_8, xg_x_9, xg_x_10, xg_x_11, xg_x_12, xg_x_13, xg_x_14, xs_x_14, xg_x_15, xs_x_15, xc_S1, xg_S1_0, xs_S1_0, xg_S1_1, xs_S1_1, xg_S1_2, xa_S1_places, xb_S1_places, xn_S1_places, wx_some, wx_ref, isl_i, isl_r, isl_n, if_neg (show ¬ (65536 : Int64) = 0 by decide), if_neg (show ¬ (2 : Int64) = 0 by decide), show (lN (sp_dr (sp_dr (sp_dr g))) / 65536 - lN (sp_dr (sp_dr (sp_dr g))) / 65536 / 2 * 2).toInt32 = nI (sp_dr (sp_dr (sp_dr g)) / 65536 % 2) from lN_dm (m := 2) hg3 (by omega) (by omega), nI_1]
    have hst : sp_dr (sp_dr (sp_dr g)) / 65536 % 2 = 0 ∨ sp_dr (sp_dr (sp_dr g)) / 65536 % 2 = 1 := by omega
    generalize sp_dr (sp_dr (sp_dr g)) / 65536 % 2 = st at *
    have hbeh : sp_beh (c.2.2 w) (nI (st + 1)) = sp_behind (c.2.2 w) (st + 1) := by
      rcases hst with h | h
      · subst h; exact if_pos rfl
      · subst h; exact (if_neg (by decide)).trans (if_pos rfl)
    simp only [q199_88, xc_S1, xg_S1_0, xs_S1_0, xg_S1_1, xs_S1_1, xg_S1_2, xa_S1_places, xb_S1_places, xn_S1_places]
    apply t_stepAsideS1 hc hS hw h7
    intro S' hS'
    rw [hbeh] at hS'
    simp only [sl_n, q199_91, q199_127, q199_129]
    exact hq S' hS'
  rw [if_neg e0] at hq
  rw [if_pos (nI_ne0 (by omega) (by omega))]
  simp only [q199_94, q199_96, q199_97, q199_100, q199_101, q199_104, xc_x, xg_x_0, xg_x_1, xg_x_2, xg_x_3, xg_x_4, xg_x_5, xg_x_6, xg_x_7, xg_x_8, xg_x_9, xg_x_10, xg_x_11, xg_x_12, xg_x_13, xg_x_14, xs_x_14, xg_x_15, xs_x_15, xc_S1, xg_S1_0, xs_S1_0, xg_S1_1, xs_S1_1, xg_S1_2, xa_S1_places, xb_S1_places, xn_S1_places, wx_some, wx_ref]
  by_cases e1 : sp_dr (sp_dr g) / 65536 % 6 = 1
  · rw [if_pos e1] at hq
    rw [if_neg (by rw [e1]; exact fun z => z rfl)]
    simp only [q199_106, xc_S1, xg_S1_0, xs_S1_0, xg_S1_1, xs_S1_1, xg_S1_2, xa_S1_places, xb_S1_places, xn_S1_places]
    apply t_closeS1 ho hc hS hw
    intro S' hS'
    simp only [sl_n, q199_109, q199_127, q199_129]
    exact hq S' hS'
  rw [if_neg e1] at hq
  rw [nl_1, if_pos (by rw [nI_eq (by omega) (by omega)]; exact e1)]
  simp only [q199_112, q199_114, q199_115, q199_118, q199_119, q199_122, xc_x, xg_x_0, xg_x_1, xg_x_2, xg_x_3, xg_x_4, xg_x_5, xg_x_6, xg_x_7, xg_x_8, xg_x_9, xg_x_10, xg_x_11, xg_x_12, xg_x_13, xg_x_14, xs_x_14, xg_x_15, xs_x_15, xc_S1, xg_S1_0, xs_S1_0, xg_S1_1, xs_S1_1, xg_S1_2, xa_S1_places, xb_S1_places, xn_S1_places, wx_some, wx_ref]
  by_cases e2 : sp_dr (sp_dr g) / 65536 % 6 = 2
  · rw [if_pos e2] at hq
    rw [if_neg (by rw [e2]; exact fun z => z rfl)]
    simp only [q199_124, xc_S1, xg_S1_0, xs_S1_0, xg_S1_1, xs_S1_1, xg_S1_2, xa_S1_places, xb_S1_places, xn_S1_places]
    apply t_putUpS1 ho hc hS hw
    intro S' hS'
    simp only [sl_n, q199_127, q199_129]
    exact hq S' hS'
  rw [if_neg e2] at hq
  rw [nl_2, if_pos (by rw [nI_eq (by omega) (by omega)]; exact e2)]
  simp only [q199_127, q199_129]
  exact hq S1 hS
theorem t_sumOf {n : Nat} (ho : k_ok s) (hS : SCx s S1 c) (hn : n = k_nW s) (hq : Q (some (.int (nI (sm c.2.2 (k_nW s))))) (px_h z E M (px_l sw c2 w2 T D S S1 K R C W U q q1 B0 B1 B2 B3))) : wm (mp_P fx) d 201 [.ref 69, .int (nI n)] (px_h z E M (px_l sw c2 w2 T D S S1 K R C W U q q1 B0 B1 B2 B3)) Q := by
  subst hn
  have h7 := ho.1.2.2.2.1
  obtain ⟨e1, e2, hrg, hpl⟩ := id hS
  have hl := hrg.1
  simp only [e201, q201_0, q201_1i, q201_2, q201_3i, isl_i, isl_r, isl_n]
  have key : ∀ (m w : Nat), w + m = k_nW s → ww (mp_P fx) d 201 4 [some (.ref 69), some (.int (nI (k_nW s))), some (.int (nI (sm c.2.2 w))), some (.int (nI w))] [] (px_h z E M (px_l sw c2 w2 T D S S1 K R C W U q q1 B0 B1 B2 B3)) Q := by
    intro m
    induction m with
    | zero =>
      intro w hw
      have hw2 : w = k_nW s := by omega
      subst hw2
      rw [q201_4]
      simp only [q201_5, q201_6, q201_24, q201_25]
      rw [if_pos (by rw [nI_leI (by omega) (by omega)]; omega)]
      exact hq
    | succ m ih =>
      intro w hw
      have g1 := ag_G hpl (show (S1.2.2).length < 2 ^ 31 by omega) (show w < k_nW s by omega)
      rw [q201_4]
      simp only [q201_5, q201_6, q201_9, q201_10, q201_11, q201_14, q201_15, q201_16, q201_17i, q201_18i, q201_21, xc_S1, xg_S1_0, xs_S1_0, xg_S1_1, xs_S1_1, xg_S1_2, xa_S1_places, xb_S1_places, xn_S1_places, wx_some, wx_ref, isl_i, isl_r, isl_n, g1, nI_1, nI_add]
      rw [if_neg (by rw [nI_leI (by omega) (by omega)]; omega)]
      exact ih (w + 1) (by omega)
  exact key (k_nW s) 0 (by omega)
theorem t_days {a b v : Int32} (hK : KX nm s q R C) (hc : c_ok s c) (hh : c.1 + 100 < 2 ^ 20) (hS : SCx s S c) (hl1 : (S1.2.2).length = 7) (hq : ∀ q' R' C' S1', KX nm s q' R' C' → (S1'.2.2).length = 7 → Q (some (.int (sp_dq s c a b v))) (px_h z E M (px_l sw c2 w2 T D S (S1') K (R') (C') W U (q') q1 B0 B1 B2 B3))) : wm (mp_P fx) (d + 6) 198 [.ref 59, .int a, .int b, .int v] (px_h z E M (px_l sw c2 w2 T D S S1 K R C W U q q1 B0 B1 B2 B3)) Q := by
  have ho := hK.2.2.1
  have hq0 : sp_dq s c a b v = -1 → Q (some (.int (-1))) (px_h z E M (px_l sw c2 w2 T D S S1 K R C W U q q1 B0 B1 B2 B3)) := fun h => by have := hq q R C S1 hK hl1; rw [h] at this; exact this
  simp only [e198, q198_0, q198_1, q198_4, q198_5, q198_8, q198_11, q198_12, q198_13, q198_16, q198_17, q198_19, q198_22, q198_23, q198_26, q198_27, q198_28, q198_31, q198_32, q198_33, q198_34, q198_37, q198_38, xc_x, xg_x_0, xg_x_1, xg_x_2, xg_x_3, xg_x_4, xg_x_5, xg_x_6, xg_x_7, xg_x_8, xg_x_9, xg_x_10, xg_x_11, xg_x_12, xg_x_13, xg_x_14, xs_x_14, xg_x_15, xs_x_15, xc_S1, xg_S1_0, xs_S1_0, xg_S1_1, xs_S1_1, xg_S1_2, xa_S1_places, xb_S1_places, xn_S1_places, wx_some, wx_ref, isl_i, isl_r, isl_n]
  unfold sp_dq at hq0 hq
  rcases sx_c 10000 a (by omega) with ⟨e, ha⟩ | ⟨g, hg, rfl, e⟩
  · rw [e] at hq0
    rcases ha with ha | ⟨ha, ha2⟩
    · rw [if_pos ha]; exact hq0 rfl
    · rw [if_neg ha, if_pos (Int32.lt_of_lt_of_le (by decide : (9999 : Int32) < nI 10000) ha2)]; exact hq0 rfl
  rw [e] at hq0 hq
  rw [if_neg (by rw [nl_0, nI_ltI (by omega) (by omega)]; omega), show (9999 : Int32) = nI 9999 from rfl, if_neg (by rw [nI_ltI (by omega) (by omega)]; omega)]
  rcases sx_c 100 b (by omega) with ⟨e2, hb⟩ | ⟨n, hn, rfl, e2⟩
  · rw [e2] at hq0
    rcases hb with hb | ⟨hb, hb2⟩
    · rw [if_pos (Int32.lt_of_lt_of_le hb (by decide : (0 : Int32) ≤ 1))]; exact hq0 rfl
    · by_cases hb1 : b < 1
      · rw [if_pos hb1]; exact hq0 rfl
      · rw [if_neg hb1, if_pos (Int32.lt_of_lt_of_le (by decide : (99 : Int32) < nI 100) hb2)]; exact hq0 rfl
  rw [e2] at hq0 hq
  by_cases hn0 : n = 0
  · rw [if_pos (by rw [hn0]; decide)]
    apply hq0
    cases sx 3 v with
    | none => rfl
    | some k => simp only []; rw [if_pos hn0]
  rw [nl_1, if_neg (by rw [nI_ltI (by omega) (by omega)]; omega), show (99 : Int32) = nI 99 from rfl, if_neg (by rw [nI_ltI (by omega) (by omega)]; omega)]
  rcases sx_c 3 v (by omega) with ⟨e3, hv⟩ | ⟨k, hk, rfl, e3⟩
  · rw [e3] at hq0
    rcases hv with hv | ⟨hv, hv2⟩
    · rw [if_pos hv]; exact hq0 rfl
    · rw [if_neg hv, if_neg (Int32.not_le.mpr (Int32.lt_of_lt_of_le (by decide : (2 : Int32) < nI 3) hv2))]; exact hq0 rfl
  rw [e3] at hq
  simp only [] at hq
  rw [if_neg hn0] at hq
  unfold sp_days at hq
  rw [if_neg (by rw [nl_0, nI_ltI (by omega) (by omega)]; omega), nl_2, if_pos (by rw [nI_leI (by omega) (by omega)]; omega)]
  simp only [q198_41, xc_S1, xg_S1_0, xs_S1_0, xg_S1_1, xs_S1_1, xg_S1_2, xa_S1_places, xb_S1_places, xn_S1_places]
  apply t_copy hS.2.2.1.1 hl1
  simp only [sl_n, q198_44, q198_45, q198_46i, q198_48, q198_49n, q198_51, q198_52i, isl_i, isl_r, isl_n, nI_l (show g < 2 ^ 31 by omega)]
  have key : ∀ (m t : Nat) (S1' : px_S) (q' : px_q) (R' : px_R) (C' : px_C), t + m = n → KX nm s q' R' C' → SCx s S1' (sp_lv s g c t).2 → ww (mp_P fx) (d + 6) 198 54 [some (.ref 59), some (.int (nI g)), some (.int (nI n)), some (.int (nI k)), some (.long (lN (sp_lv s g c t).1)), none, some (.int (nI (if k = 0 then sp_dsum s g c t else 0))), some (.int (nI t))] [] (px_h z E M (px_l sw c2 w2 T D S (S1') K (R') (C') W U (q') q1 B0 B1 B2 B3)) Q := by
    intro m
    induction m with
    | zero =>
      intro t S1' q' R' C' ht hK1 hS1
      have ht2 : t = n := by omega
      subst ht2
      have hqq := hq q' R' C' S1' hK1 hS1.2.2.1.1
      rw [q198_54]
      simp only [q198_56, q198_57, q198_106, q198_107, q198_110, q198_112, q198_113, q198_114, q198_115, q198_118, q198_119, q198_122, q198_125, q198_128, q198_129, q198_132, q198_133, q198_136, xc_x, xg_x_0, xg_x_1, xg_x_2, xg_x_3, xg_x_4, xg_x_5, xg_x_6, xg_x_7, xg_x_8, xg_x_9, xg_x_10, xg_x_11, xg_x_12, xg_x_13, xg_x_14, xs_x_14, xg_x_15, xs_x_15, xc_S1, xg_S1_0, xs_S1_0, xg_S1_1, xs_S1_1, xg_S1_2, xa_S1_places, xb_S1_places, xn_S1_places, xc_q, xg_q_0, xg_q_1, xs_q_1, xg_q_2, xg_q_3, xg_q_4, xs_q_4, xg_q_5, xg_q_6, xg_q_7, xg_q_8, xs_q_8, xg_q_9, xs_q_9, xg_q_10, xg_q_11, xg_q_12, xg_q_13, xg_q_14, xg_q_15, xg_q_16, xs_q_16, xg_q_17, xg_q_18, xs_q_18, xg_q_19, xa_q_sortNames, xb_q_sortNames, xn_q_sortNames, xa_q_colourNames, xb_q_colourNames, xn_q_colourNames, xa_q_colourSorts, xb_q_colourSorts, xn_q_colourSorts, xa_q_ruleMakes, xb_q_ruleMakes, xn_q_ruleMakes, xa_q_ruleFirsts, xb_q_ruleFirsts, xn_q_ruleFirsts, xa_q_ruleSeconds, xb_q_ruleSeconds, xn_q_ruleSeconds, xa_q_walkerNames, xb_q_walkerNames, xn_q_walkerNames, xa_q_kinds, xb_q_kinds, xn_q_kinds, xa_q_walkerColours, xb_q_walkerColours, xn_q_walkerColours, xa_q_starts, xb_q_starts, xn_q_starts, xa_q_stepRows, xb_q_stepRows, xn_q_stepRows, xa_q_stepCounts, xb_q_stepCounts, xn_q_stepCounts, xa_q_gusts, xb_q_gusts, xn_q_gusts, xc_ql, xg_ql_0, xg_ql_1, xs_ql_1, xg_ql_2, xg_ql_3, xs_ql_3, xa_q_parts, xb_q_parts, xn_q_parts, xa_q_stack, xb_q_stack, xn_q_stack, wx_some, wx_ref, hS1.2.1, hK1.1.2.1.2.2.2.1]
      rw [if_pos (by rw [nI_leI (by omega) (by omega)]; omega)]
      have hk3 : k = 0 ∨ k = 1 ∨ k = 2 := by omega
      rcases hk3 with h | h | h
      · subst h
        rw [if_pos rfl] at hqq
        rw [if_neg (fun z => z rfl), if_pos rfl]
        exact hqq
      · subst h
        rw [if_neg (by omega), if_pos rfl] at hqq
        rw [if_pos (by decide), if_neg (fun z => z rfl)]
        simp only [q198_142]
        exact hqq
      · subst h
        rw [if_neg (by omega), if_neg (by omega)] at hqq
        rw [if_pos (by decide), if_pos (by decide)]
        simp only [q198_139, xc_S1, xg_S1_0, xs_S1_0, xg_S1_1, xs_S1_1, xg_S1_2, xa_S1_places, xb_S1_places, xn_S1_places]
        apply t_sumOf ho hS1 rfl
        simp only [sl_i, q198_142]
        exact hqq
    | succ m ih =>
      intro t S1' q' R' C' ht hK1 hS1
      obtain ⟨h1, h2, h3⟩ := c_lv (show g < 2 ^ 31 by omega) hc t (by omega)
      obtain ⟨j1, j2, j3⟩ := c_stir h3 h1
      have hcn := (c_lv (show g < 2 ^ 31 by omega) hc (t + 1) (by omega)).1
      have hgo := fun S1' q' R' C' => ih (t + 1) S1' q' R' C' (by omega)
      rw [q198_54]
      simp only [q198_56, q198_57, q198_60, q198_61, q198_63, xc_x, xg_x_0, xg_x_1, xg_x_2, xg_x_3, xg_x_4, xg_x_5, xg_x_6, xg_x_7, xg_x_8, xg_x_9, xg_x_10, xg_x_11, xg_x_12, xg_x_13, xg_x_14, xs_x_14, xg_x_15, xs_x_15]
      rw [if_neg (by rw [nI_leI (by omega) (by omega)]; omega)]
      apply t_stir hK1 h1 h3 hS1
      intro S2 hS2
      simp only [sl_i, q198_66i, q198_68, q198_69, q198_72, q198_73, q198_76, xc_x, xg_x_0, xg_x_1, xg_x_2, xg_x_3, xg_x_4, xg_x_5, xg_x_6, xg_x_7, xg_x_8, xg_x_9, xg_x_10, xg_x_11, xg_x_12, xg_x_13, xg_x_14, xs_x_14, xg_x_15, xs_x_15, xc_S1, xg_S1_0, xs_S1_0, xg_S1_1, xs_S1_1, xg_S1_2, xa_S1_places, xb_S1_places, xn_S1_places, xc_q, xg_q_0, xg_q_1, xs_q_1, xg_q_2, xg_q_3, xg_q_4, xs_q_4, xg_q_5, xg_q_6, xg_q_7, xg_q_8, xs_q_8, xg_q_9, xs_q_9, xg_q_10, xg_q_11, xg_q_12, xg_q_13, xg_q_14, xg_q_15, xg_q_16, xs_q_16, xg_q_17, xg_q_18, xs_q_18, xg_q_19, xa_q_sortNames, xb_q_sortNames, xn_q_sortNames, xa_q_colourNames, xb_q_colourNames, xn_q_colourNames, xa_q_colourSorts, xb_q_colourSorts, xn_q_colourSorts, xa_q_ruleMakes, xb_q_ruleMakes, xn_q_ruleMakes, xa_q_ruleFirsts, xb_q_ruleFirsts, xn_q_ruleFirsts, xa_q_ruleSeconds, xb_q_ruleSeconds, xn_q_ruleSeconds, xa_q_walkerNames, xb_q_walkerNames, xn_q_walkerNames, xa_q_kinds, xb_q_kinds, xn_q_kinds, xa_q_walkerColours, xb_q_walkerColours, xn_q_walkerColours, xa_q_starts, xb_q_starts, xn_q_starts, xa_q_stepRows, xb_q_stepRows, xn_q_stepRows, xa_q_stepCounts, xb_q_stepCounts, xn_q_stepCounts, xa_q_gusts, xb_q_gusts, xn_q_gusts, xc_ql, xg_ql_0, xg_ql_1, xs_ql_1, xg_ql_2, xg_ql_3, xs_ql_3, xa_q_parts, xb_q_parts, xn_q_parts, xa_q_stack, xb_q_stack, xn_q_stack, wx_some, wx_ref, isl_i, isl_r, isl_n]
      apply t_goOnS1 hK1.1 ho j1 hS2
      intro S3 hS3
      have hS3 : SCx s S3 (sp_lv s g c (t + 1)).2 := hS3
      simp only [sl_n, q198_79, q198_81, q198_82, q198_85, q198_86, q198_87, q198_90, xc_x, xg_x_0, xg_x_1, xg_x_2, xg_x_3, xg_x_4, xg_x_5, xg_x_6, xg_x_7, xg_x_8, xg_x_9, xg_x_10, xg_x_11, xg_x_12, xg_x_13, xg_x_14, xs_x_14, xg_x_15, xs_x_15, wx_some, wx_ref]
      by_cases ek : k = 0
      · subst ek
        rw [if_pos rfl] at hgo ⊢
        rw [if_neg (fun z => z rfl)]
        apply t_sdS1 hK1 hcn hS3
        intro q2 R2 C2 hK2 _
        simp only [sl_i, q198_93, q198_96, q198_97, q198_98n, q198_100i, q198_103, isl_i, isl_r, isl_n, nI_1, nI_add]
        exact hgo S3 q2 R2 C2 hK2 hS3
      · rw [if_neg ek] at hgo ⊢
        rw [if_pos (nI_ne0 (by omega) (by omega))]
        simp only [q198_96, q198_97, q198_98n, q198_100i, q198_103, isl_i, isl_r, isl_n, nI_1]
        rw [Int32.add_zero]
        exact hgo S3 q' R' C' hK1 hS3
  have h0 := key n 0 S q R C (by omega) hK hS
  rw [show (if k = 0 then sp_dsum s g c 0 else 0) = 0 by split <;> rfl] at h0
  exact h0
end TY
