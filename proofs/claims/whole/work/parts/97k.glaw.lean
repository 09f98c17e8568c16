/-! the law: its grammar; its reader of the class -/
abbrev V4 : Type := Int32 → Int32 → Int32 → Int32 → Int32
abbrev GR : Type := Nat × Nat × List Int32 × List Nat × V4
def g_bad (f : Nat) : GR := (f, 0, [], [], fun _ _ _ _ => 0)
def g_jn (x : GR) (p : Int32) (c : Nat) (r : GR) : GR := (0, r.2.1, x.2.2.1 ++ (r.2.2.1 ++ [p]), x.2.2.2.1 ++ c :: r.2.2.2.1, fun a b c f => lx_op p (x.2.2.2.2 a b c f) (r.2.2.2.2 a b c f))
def g_lp (sub : Nat → GR) (op : Nat → Option (Int32 × Nat)) : Nat → GR → GR
  | 0, x => x
  | m + 1, x => match op x.2.1 with
    | none => x
    | some pc => if (sub (x.2.1 + 1)).1 = 0 then g_lp sub op m (g_jn x pc.1 pc.2 (sub (x.2.1 + 1))) else g_bad (sub (x.2.1 + 1)).1
theorem g_lp_s {sub : Nat → GR} {op : Nat → Option (Int32 × Nat)} {m : Nat} {x : GR} : g_lp sub op (m + 1) x = match op x.2.1 with
    | none => x
    | some pc => if (sub (x.2.1 + 1)).1 = 0 then g_lp sub op m (g_jn x pc.1 pc.2 (sub (x.2.1 + 1))) else g_bad (sub (x.2.1 + 1)).1 := rfl
def opM (tp : List Nat) (j : Nat) : Option (Int32 × Nat) := if snB tp j 42 = true then some (-12, 22) else none
def opS (tp : List Nat) (j : Nat) : Option (Int32 × Nat) := if snB tp j 43 = true then some (-10, 20) else if snB tp j 45 = true then some (-11, 21) else none
def opT (tp : List Nat) (j : Nat) : Option (Int32 × Nat) := if snB tp j 60 = true then some (-8, 24) else if snB tp j 61 = true then some (-9, 25) else none
def opE (tp : List Nat) (j : Nat) : Option (Int32 × Nat) := if wdB tp j 20 = true then some (-6, 26) else if wdB tp j 21 = true then some (-7, 27) else none
def g_P (tp : List Nat) (pt : Nat → GR) (i : Nat) : GR := if (pt i).1 = 0 then g_lp pt (opM tp) 1000 (pt i) else g_bad (pt i).1
def g_S (tp : List Nat) (pt : Nat → GR) (i : Nat) : GR := if (g_P tp pt i).1 = 0 then g_lp (g_P tp pt) (opS tp) 1000 (g_P tp pt i) else g_bad (g_P tp pt i).1
def g_T (tp : List Nat) (pt : Nat → GR) (i : Nat) : GR := if (g_S tp pt i).1 = 0 then (match opT tp (g_S tp pt i).2.1 with
  | none => g_S tp pt i
  | some pc => if (g_S tp pt ((g_S tp pt i).2.1 + 1)).1 = 0 then g_jn (g_S tp pt i) pc.1 pc.2 (g_S tp pt ((g_S tp pt i).2.1 + 1)) else g_bad (g_S tp pt ((g_S tp pt i).2.1 + 1)).1) else g_bad (g_S tp pt i).1
def g_E (tp : List Nat) (pt : Nat → GR) (i : Nat) : GR := if (g_T tp pt i).1 = 0 then g_lp (g_T tp pt) (opE tp) 1000 (g_T tp pt i) else g_bad (g_T tp pt i).1
def g_fc (tp : List Nat) (i : Nat) : Nat := if wdB tp i 23 = true then 1 else if wdB tp i 24 = true then 2 else if wdB tp i 25 = true then 3 else if wdB tp i 26 = true then 4 else 0
def g_pj (f : Nat) : V4 := fun a b c e => if f = 1 then a else if f = 2 then b else if f = 3 then c else e
/-- a token at which a part may begin -/
def g_st (tp : List Nat) (i : Nat) : Bool := !decide (g_fc tp i = 0) || (wdB tp i 19 || (snB tp i 40 || decide (TY tp i = 2)))
def g_part (tp : List Nat) : Nat → Nat → GR
  | 0, i => if g_st tp i = true then g_bad (flt tp 5 i) else g_bad (flt tp 1 i)
  | k + 1, i => if g_st tp i = true then (if wdB tp i 19 = true then (if (g_part tp k (i + 1)).1 = 0 then (0, (g_part tp k (i + 1)).2.1, (g_part tp k (i + 1)).2.2.1 ++ [-5], 30 :: (g_part tp k (i + 1)).2.2.2.1, fun a b c f => if (g_part tp k (i + 1)).2.2.2.2 a b c f = 0 then 1 else 0) else g_bad (g_part tp k (i + 1)).1)
    else if snB tp i 40 = true then (if (g_E tp (g_part tp k) (i + 1)).1 = 0 then (if snB tp (g_E tp (g_part tp k) (i + 1)).2.1 41 = true then (0, (g_E tp (g_part tp k) (i + 1)).2.1 + 1, (g_E tp (g_part tp k) (i + 1)).2.2.1, 28 :: ((g_E tp (g_part tp k) (i + 1)).2.2.2.1 ++ [29]), (g_E tp (g_part tp k) (i + 1)).2.2.2.2) else g_bad (flt tp 1 (g_E tp (g_part tp k) (i + 1)).2.1)) else g_bad (g_E tp (g_part tp k) (i + 1)).1)
    else if g_fc tp i = 0 then (0, i + 1, [nI (VL tp i)], [100 + VL tp i], fun _ _ _ _ => nI (VL tp i)) else (0, i + 1, [0 - nI (g_fc tp i)], [g_fc tp i], g_pj (g_fc tp i))) else g_bad (flt tp 1 i)
def LQx (q1 : px_q) (ps : List Int32) (q' : px_q) : Prop := (∃ xs c, q' = (q1.1, q1.2.1, q1.2.2.1, q1.2.2.2.1, q1.2.2.2.2.1, q1.2.2.2.2.2.1, q1.2.2.2.2.2.2.1, q1.2.2.2.2.2.2.2.1, q1.2.2.2.2.2.2.2.2.1, q1.2.2.2.2.2.2.2.2.2.1, q1.2.2.2.2.2.2.2.2.2.2.1, q1.2.2.2.2.2.2.2.2.2.2.2.1, q1.2.2.2.2.2.2.2.2.2.2.2.2.1, q1.2.2.2.2.2.2.2.2.2.2.2.2.2.1, q1.2.2.2.2.2.2.2.2.2.2.2.2.2.2.1, q1.2.2.2.2.2.2.2.2.2.2.2.2.2.2.2.1, q1.2.2.2.2.2.2.2.2.2.2.2.2.2.2.2.2.1, q1.2.2.2.2.2.2.2.2.2.2.2.2.2.2.2.2.2.1, q1.2.2.2.2.2.2.2.2.2.2.2.2.2.2.2.2.2.2.1, xs, c, q1.2.2.2.2.2.2.2.2.2.2.2.2.2.2.2.2.2.2.2.2.2.1, q1.2.2.2.2.2.2.2.2.2.2.2.2.2.2.2.2.2.2.2.2.2.2)) ∧ (q'.2.2.2.2.2.2.2.2.2.2.2.2.2.2.2.2.2.2.2.1).length = 1000 ∧ q'.2.2.2.2.2.2.2.2.2.2.2.2.2.2.2.2.2.2.2.2.1 = nI ps.length ∧ ps.length ≤ 1000 ∧ (q'.2.2.2.2.2.2.2.2.2.2.2.2.2.2.2.2.2.2.2.1).take ps.length = ps
def PTx (fx : List Value → mm_H → Option (List Value × mm_H)) (z : Nat) (E M : Nat → mm_C) (sw c2 w2 : Bool) (D : px_D) (S S1 : px_S) (K : px_K) (R : px_R) (C : px_C) (W : px_W) (U : px_U) (q q1 : px_q) (B0 B1 B2 B3 : px_K) (tp : List Nat) (n meth dep dp : Nat) (g : Nat → GR) : Prop :=
  ∀ (Q : Option Value → mm_H → Prop) (ps : List Int32) (q' : px_q) (T : px_T) (i : Nat), TKx tp n i T → T.2.2.1 = 0 → LQx q1 ps q' → ps.length ≤ i → (∀ T' q2, (g i).1 = 0 → TKx tp n (g i).2.1 T' → T'.2.2.1 = 0 → LQx q1 (ps ++ (g i).2.2.1) q2 → i + (g i).2.2.1.length ≤ (g i).2.1 → Q (some (.int 1)) (px_h z E M (px_l sw c2 w2 (T') D S S1 K R C W U q (q2) B0 B1 B2 B3))) → (∀ T' q2 ps', ¬ (g i).1 = 0 → (∃ k, TKx tp n k T') → T'.2.2.1 = nI (g i).1 → LQx q1 ps' q2 → Q (some (.int 0)) (px_h z E M (px_l sw c2 w2 (T') D S S1 K R C W U q (q2) B0 B1 B2 B3))) → wm (mp_P fx) dep meth [.ref 60, .ref (px_ta (!sw) + 14), .int (nI dp)] (px_h z E M (px_l sw c2 w2 (T) D S S1 K R C W U q (q') B0 B1 B2 B3)) Q
section GL
variable {fx : List Value → mm_H → Option (List Value × mm_H)} {z : Nat} {E M : Nat → mm_C} {sw c2 w2 : Bool} {T : px_T} {D : px_D} {S : px_S} {S1 : px_S} {K : px_K} {R : px_R} {C : px_C} {W : px_W} {U : px_U} {q : px_q} {q1 : px_q} {B0 : px_K} {B1 : px_K} {B2 : px_K} {B3 : px_K} {T_signs : List Int32} {T_length : Int32} {T_fault : Int32} {T_types : List Int32} {T_starts : List Int32} {T_values : List Int64} {T_tokens : Int32} {T_at : Int32} {T_behind : Int32} {S_hour : Int32} {S_open : Int32} {S_places : List Int32} {S1_hour : Int32} {S1_open : Int32} {S1_places : List Int32} {K_lines : List Int32} {K_lineCount : Int32} {K_wishes : List Int32} {K_wishCount : Int32} {K_sights : List Int32} {K_sightCount : Int32} {R_shown : List Int32} {R_length : Int32} {R_readers : Int32} {R_begins : List Int32} {R_lengths : List Int32} {R_sentences : Int32} {R_order : List Int32} {R_able : Int32} {R_standing : List Int32} {R_lovers : List Int32} {R_lowest : List Int32} {C_ways : List Int32} {C_rows : List Int32} {C_shallower : List Int32} {C_length : Int32} {C_goal : Int32} {W_row : List Int32} {W_walkers : Int32} {W_names : Int32} {W_wanted : List Int32} {W_shown : List Int32} {W_places : List Int32} {W_rest : List Int32} {W_spent : List Int32} {W_tried : List Int32} {U_undoRows : List Int64} {U_markScenes : List Int64} {U_marksLaid : List Int32} {U_undoCount : Int32} {U_undoEnd : Int32} {q_sortNames : List Int64} {q_sortCount : Int32} {q_colourNames : List Int64} {q_colourSorts : List Int32} {q_colourCount : Int32} {q_ruleMakes : List Int32} {q_ruleFirsts : List Int32} {q_ruleSeconds : List Int32} {q_ruleCount : Int32} {q_saysSort : Int32} {q_walkerNames : List Int64} {q_kinds : List Int32} {q_walkerColours : List Int32} {q_starts : List Int32} {q_stepRows : List Int32} {q_stepCounts : List Int32} {q_walkerCount : Int32} {q_gusts : List Int32} {q_gustCount : Int32} {q_parts : List Int32} {q_count : Int32} {q_stack : List Int32} {q_height : Int32} {q1_sortNames : List Int64} {q1_sortCount : Int32} {q1_colourNames : List Int64} {q1_colourSorts : List Int32} {q1_colourCount : Int32} {q1_ruleMakes : List Int32} {q1_ruleFirsts : List Int32} {q1_ruleSeconds : List Int32} {q1_ruleCount : Int32} {q1_saysSort : Int32} {q1_walkerNames : List Int64} {q1_kinds : List Int32} {q1_walkerColours : List Int32} {q1_starts : List Int32} {q1_stepRows : List Int32} {q1_stepCounts : List Int32} {q1_walkerCount : Int32} {q1_gusts : List Int32} {q1_gustCount : Int32} {q1_parts : List Int32} {q1_count : Int32} {q1_stack : List Int32} {q1_height : Int32} {B0_lines : List Int32} {B0_lineCount : Int32} {B0_wishes : List Int32} {B0_wishCount : Int32} {B0_sights : List Int32} {B0_sightCount : Int32} {B1_lines : List Int32} {B1_lineCount : Int32} {B1_wishes : List Int32} {B1_wishCount : Int32} {B1_sights : List Int32} {B1_sightCount : Int32} {B2_lines : List Int32} {B2_lineCount : Int32} {B2_wishes : List Int32} {B2_wishCount : Int32} {B2_sights : List Int32} {B2_sightCount : Int32} {B3_lines : List Int32} {B3_lineCount : Int32} {B3_wishes : List Int32} {B3_wishCount : Int32} {B3_sights : List Int32} {B3_sightCount : Int32}
variable {d : Nat} {Q : Option Value → mm_H → Prop} {tp : List Nat} {n k dp : Nat}
theorem t_lawAdd {p : Int32} {ps : List Int32} {q' : px_q} (h : LQx q1 ps q') (hl : ps.length < 1000) (hq : ∀ q2, LQx q1 (ps ++ [p]) q2 → Q (some (.int 1)) (px_h z E M (px_l sw c2 w2 T D S S1 K R C W U q (q2) B0 B1 B2 B3))) : wm (mp_P fx) d 88 [.ref (px_ta (!sw) + 14), .int p] (px_h z E M (px_l sw c2 w2 T D S S1 K R C W U q (q') B0 B1 B2 B3)) Q := by
  obtain ⟨⟨xs, c, e⟩, h1, h2, h3, h4⟩ := h
  simp only [e88, b88_0, b88_1, bn_0 b88_0, bn_1 b88_1, q88_0, q88_1, q88_4, q88_5, q88_8, q88_9, q88_12, q88_13, q88_16, q88_17, q88_20, q88_21, q88_22, q88_23, q88_24, q88_27, q88_28, q88_29, q88_32, q88_33, xc_q1, xg_q1_0, xg_q1_1, xs_q1_1, xg_q1_2, xg_q1_3, xg_q1_4, xs_q1_4, xg_q1_5, xg_q1_6, xg_q1_7, xg_q1_8, xs_q1_8, xg_q1_9, xs_q1_9, xg_q1_10, xg_q1_11, xg_q1_12, xg_q1_13, xg_q1_14, xg_q1_15, xg_q1_16, xs_q1_16, xg_q1_17, xg_q1_18, xs_q1_18, xg_q1_19, xa_q1_sortNames, xb_q1_sortNames, xn_q1_sortNames, xa_q1_colourNames, xb_q1_colourNames, xn_q1_colourNames, xa_q1_colourSorts, xb_q1_colourSorts, xn_q1_colourSorts, xa_q1_ruleMakes, xb_q1_ruleMakes, xn_q1_ruleMakes, xa_q1_ruleFirsts, xb_q1_ruleFirsts, xn_q1_ruleFirsts, xa_q1_ruleSeconds, xb_q1_ruleSeconds, xn_q1_ruleSeconds, xa_q1_walkerNames, xb_q1_walkerNames, xn_q1_walkerNames, xa_q1_kinds, xb_q1_kinds, xn_q1_kinds, xa_q1_walkerColours, xb_q1_walkerColours, xn_q1_walkerColours, xa_q1_starts, xb_q1_starts, xn_q1_starts, xa_q1_stepRows, xb_q1_stepRows, xn_q1_stepRows, xa_q1_stepCounts, xb_q1_stepCounts, xn_q1_stepCounts, xa_q1_gusts, xb_q1_gusts, xn_q1_gusts, xc_q1l, xg_q1l_0, xg_q1l_1, xs_q1l_1, xg_q1l_2, xg_q1l_3, xs_q1l_3, xa_q1_parts, xb_q1_parts, xn_q1_parts, xa_q1_stack, xb_q1_stack, xn_q1_stack, wx_some, wx_ref, h1, h2, nI_1, aS_n (show ps.length < (q'.2.2.2.2.2.2.2.2.2.2.2.2.2.2.2.2.2.2.2.1).length by omega) (show (q'.2.2.2.2.2.2.2.2.2.2.2.2.2.2.2.2.2.2.2.1).length < 2 ^ 31 by omega)]
  rw [if_neg (by rw [nI_leI (by omega) (by omega)]; omega)]
  subst e
  refine hq (q1.1, q1.2.1, q1.2.2.1, q1.2.2.2.1, q1.2.2.2.2.1, q1.2.2.2.2.2.1, q1.2.2.2.2.2.2.1, q1.2.2.2.2.2.2.2.1, q1.2.2.2.2.2.2.2.2.1, q1.2.2.2.2.2.2.2.2.2.1, q1.2.2.2.2.2.2.2.2.2.2.1, q1.2.2.2.2.2.2.2.2.2.2.2.1, q1.2.2.2.2.2.2.2.2.2.2.2.2.1, q1.2.2.2.2.2.2.2.2.2.2.2.2.2.1, q1.2.2.2.2.2.2.2.2.2.2.2.2.2.2.1, q1.2.2.2.2.2.2.2.2.2.2.2.2.2.2.2.1, q1.2.2.2.2.2.2.2.2.2.2.2.2.2.2.2.2.1, q1.2.2.2.2.2.2.2.2.2.2.2.2.2.2.2.2.2.1, q1.2.2.2.2.2.2.2.2.2.2.2.2.2.2.2.2.2.2.1, xs.set ps.length p, nI (ps.length + 1), q1.2.2.2.2.2.2.2.2.2.2.2.2.2.2.2.2.2.2.2.2.2.1, q1.2.2.2.2.2.2.2.2.2.2.2.2.2.2.2.2.2.2.2.2.2.2) ⟨⟨_, _, rfl⟩, by show (List.set _ _ _).length = 1000; rw [List.length_set]; exact h1, by rw [List.length_append]; rfl, by rw [List.length_append, List.length_singleton]; omega, ?_⟩
  show (xs.set ps.length p).take (ps ++ [p]).length = ps ++ [p]
  have h1 : xs.length = 1000 := h1
  have h4 : xs.take ps.length = ps := h4
  rw [List.length_append, List.length_singleton, List.take_add_one, List.getElem?_set_self (by omega), List.take_set_of_le (Nat.le_refl _), h4]; rfl
theorem t_lsum {dep : Nat} {pt : Nat → GR} (hsub : PTx fx z E M sw c2 w2 D S S1 K R C W U q q1 B0 B1 B2 B3 tp n 84 (dep + 3) dp (g_P tp pt)) : PTx fx z E M sw c2 w2 D S S1 K R C W U q q1 B0 B1 B2 B3 tp n 83 (dep + 4) dp (g_S tp pt) := by
  intro Q ps q' T i hT hf hL hps hq1 hq0
  unfold g_S at hq1 hq0
  have fail : ∀ (T4 : px_T) (q4 : px_q) (l4 : Int32) (l5 : Option Value), Q (some (.int 0)) (px_h z E M (px_l sw c2 w2 (T4) D S S1 K R C W U q (q4) B0 B1 B2 B3)) → ww (mp_P fx) (dep + 4) 83 10 [some (.ref 60), some (.ref (px_ta (!sw) + 14)), some (.int (nI dp)), some (.int 0), some (.int l4), l5] [] (px_h z E M (px_l sw c2 w2 (T4) D S S1 K R C W U q (q4) B0 B1 B2 B3)) Q := by
    intro T4 q4 l4 l5 hh
    rw [q83_10]
    simp only [b83_0, b83_1, bn_0 b83_0, bn_1 b83_1, q83_11, b83_0, b83_1, bn_0 b83_0, bn_1 b83_1, q83_95, q83_96]
    rw [if_pos (by decide)]
    exact hh
  have key : (g_P tp pt i).1 = 0 → ∀ (m t : Nat) (x : GR) (q2 : px_q) (T2 : px_T) (l5 : Option Value), t + m = 1000 → x.1 = 0 → TKx tp n x.2.1 T2 → T2.2.2.1 = 0 → LQx q1 (ps ++ x.2.2.1) q2 → i + x.2.2.1.length ≤ x.2.1 → g_lp (g_P tp pt) (opS tp) 1000 (g_P tp pt i) = g_lp (g_P tp pt) (opS tp) m x → ww (mp_P fx) (dep + 4) 83 10 [some (.ref 60), some (.ref (px_ta (!sw) + 14)), some (.int (nI dp)), some (.int 1), some (.int (nI t)), l5] [] (px_h z E M (px_l sw c2 w2 (T2) D S S1 K R C W U q (q2) B0 B1 B2 B3)) Q := by
    intro g0 m
    rw [if_pos g0] at hq1 hq0
    induction m with
    | zero =>
      intro t x q2 T2 l5 ht hx hT2 hf2 hL2 hl2 hlp
      rw [g_lp] at hlp
      rw [hlp] at hq1
      rw [q83_10]
      simp only [b83_0, b83_1, bn_0 b83_0, bn_1 b83_1, q83_11, q83_14, q83_16, q83_19, b83_0, b83_1, bn_0 b83_0, bn_1 b83_1, q83_95, q83_96]
      rw [if_neg (by decide), if_pos (by rw [show (1000 : Int32) = nI 1000 from rfl, nI_leI (by omega) (by omega)]; omega)]
      exact hq1 T2 q2 hx hT2 hf2 hL2 hl2
    | succ m ih =>
      intro t x q2 T2 l5 ht hx hT2 hf2 hL2 hl2 hlp
      have h1000 := hT2.2.2.2.1
      have hxn := hT2.2.2.2.2.1
      rw [g_lp_s (m := m) (x := x)] at hlp
      have hcont : ∀ (p : Int32) (cc : Nat) (l5 : Option Value), opS tp x.2.1 = some (p, cc) → ¬ TY tp x.2.1 = 0 → ww (mp_P fx) (dep + 4) 83 56 [some (.ref 60), some (.ref (px_ta (!sw) + 14)), some (.int (nI dp)), some (.int 1), some (.int (nI t)), l5] [.int p] (px_h z E M (px_l sw c2 w2 (T2) D S S1 K R C W U q (q2) B0 B1 B2 B3)) Q := by
        intro p cc l5 hop hty
        rw [hop] at hlp
        simp only [] at hlp
        simp only [b83_0, b83_1, bn_0 b83_0, bn_1 b83_1, q83_56i, q83_58, q83_59, xc_T, xg_T_0, xg_T_1, xs_T_1, xg_T_2, xs_T_2, xg_T_3, xg_T_4, xg_T_5, xg_T_6, xs_T_6, xg_T_7, xs_T_7, xg_T_8, xs_T_8, xa_T_signs, xb_T_signs, xn_T_signs, xa_T_types, xb_T_types, xn_T_types, xa_T_starts, xb_T_starts, xn_T_starts, xa_T_values, xb_T_values, xn_T_values, isl_i, isl_r, isl_n]
        apply t_pass hT2 hty
        intro hT3
        simp only [sl_i, b83_0, b83_1, bn_0 b83_0, bn_1 b83_1, q83_62, q83_65, q83_66, q83_67]
        rw [if_neg (by decide)]
        simp only [b83_0, b83_1, bn_0 b83_0, bn_1 b83_1, q83_68]
        apply hsub _ (ps ++ x.2.2.1) q2 _ (x.2.1 + 1) hT3 hf2 hL2 (by rw [List.length_append]; omega)
        · intro T4 q4 a0 hT4 hf4 hL4 hl4
          rw [if_pos a0] at hlp
          have hn4 := hT4.2.2.2.2.1
          have hn4' := hT4.2.2.2.1
          simp only [sl_i, b83_0, b83_1, bn_0 b83_0, bn_1 b83_1, q83_71, q83_74, q83_75]
          rw [if_neg (by decide)]
          simp only [b83_0, b83_1, bn_0 b83_0, bn_1 b83_1, q83_77, xc_q1, xg_q1_0, xg_q1_1, xs_q1_1, xg_q1_2, xg_q1_3, xg_q1_4, xs_q1_4, xg_q1_5, xg_q1_6, xg_q1_7, xg_q1_8, xs_q1_8, xg_q1_9, xs_q1_9, xg_q1_10, xg_q1_11, xg_q1_12, xg_q1_13, xg_q1_14, xg_q1_15, xg_q1_16, xs_q1_16, xg_q1_17, xg_q1_18, xs_q1_18, xg_q1_19, xa_q1_sortNames, xb_q1_sortNames, xn_q1_sortNames, xa_q1_colourNames, xb_q1_colourNames, xn_q1_colourNames, xa_q1_colourSorts, xb_q1_colourSorts, xn_q1_colourSorts, xa_q1_ruleMakes, xb_q1_ruleMakes, xn_q1_ruleMakes, xa_q1_ruleFirsts, xb_q1_ruleFirsts, xn_q1_ruleFirsts, xa_q1_ruleSeconds, xb_q1_ruleSeconds, xn_q1_ruleSeconds, xa_q1_walkerNames, xb_q1_walkerNames, xn_q1_walkerNames, xa_q1_kinds, xb_q1_kinds, xn_q1_kinds, xa_q1_walkerColours, xb_q1_walkerColours, xn_q1_walkerColours, xa_q1_starts, xb_q1_starts, xn_q1_starts, xa_q1_stepRows, xb_q1_stepRows, xn_q1_stepRows, xa_q1_stepCounts, xb_q1_stepCounts, xn_q1_stepCounts, xa_q1_gusts, xb_q1_gusts, xn_q1_gusts, xc_q1l, xg_q1l_0, xg_q1l_1, xs_q1l_1, xg_q1l_2, xg_q1l_3, xs_q1l_3, xa_q1_parts, xb_q1_parts, xn_q1_parts, xa_q1_stack, xb_q1_stack, xn_q1_stack]
          apply t_lawAdd hL4 (by rw [List.length_append, List.length_append]; omega)
          intro q5 hL5
          rw [List.append_assoc, List.append_assoc, ← List.append_assoc x.2.2.1] at hL5
          rw [List.append_assoc x.2.2.1] at hL5
          simp only [sl_i, b83_0, b83_1, bn_0 b83_0, bn_1 b83_1, q83_80, q83_83, q83_84, b83_0, b83_1, bn_0 b83_0, bn_1 b83_1, q83_88i, q83_89i, q83_92, isl_i, isl_r, isl_n, nI_1]
          rw [if_neg (by decide)]
          refine ih (t + 1) (g_jn x p cc (g_P tp pt (x.2.1 + 1))) q5 T4 _ (by omega) rfl hT4 hf4 hL5 ?_ hlp
          show i + (x.2.2.1 ++ ((g_P tp pt (x.2.1 + 1)).2.2.1 ++ [p])).length ≤ (g_P tp pt (x.2.1 + 1)).2.1
          rw [List.length_append, List.length_append, List.length_singleton]; omega
        · intro T4 q4 ps4 a0 hk4 hf4 hL4
          rw [if_neg a0] at hlp
          rw [hlp] at hq0
          simp only [sl_i, b83_0, b83_1, bn_0 b83_0, bn_1 b83_1, q83_71, b83_0, b83_1, bn_0 b83_0, bn_1 b83_1, q83_87, q83_88i, q83_89i, q83_92, isl_i, isl_r, isl_n]
          rw [if_pos (by decide)]
          exact fail T4 q4 _ _ (hq0 T4 q4 ps4 a0 hk4 hf4 hL4)
      have hstop : opS tp x.2.1 = none → Q (some (.int 1)) (px_h z E M (px_l sw c2 w2 (T2) D S S1 K R C W U q (q2) B0 B1 B2 B3)) := by
        intro hop
        rw [hop] at hlp
        simp only [] at hlp
        rw [hlp] at hq1
        exact hq1 T2 q2 hx hT2 hf2 hL2 hl2
      have hagain : ∀ (l5 : Option Value), ¬ TY tp x.2.1 = 0 → ¬ opS tp x.2.1 = none → ww (mp_P fx) (dep + 4) 83 40 [some (.ref 60), some (.ref (px_ta (!sw) + 14)), some (.int (nI dp)), some (.int 1), some (.int (nI t)), l5] [] (px_h z E M (px_l sw c2 w2 (T2) D S S1 K R C W U q (q2) B0 B1 B2 B3)) Q := by
        intro l5 hty hnn
        simp only [b83_0, b83_1, bn_0 b83_0, bn_1 b83_1, q83_40, q83_41]
        simp only [b83_0, b83_1, bn_0 b83_0, bn_1 b83_1, q83_43, xc_T, xg_T_0, xg_T_1, xs_T_1, xg_T_2, xs_T_2, xg_T_3, xg_T_4, xg_T_5, xg_T_6, xs_T_6, xg_T_7, xs_T_7, xg_T_8, xs_T_8, xa_T_signs, xb_T_signs, xn_T_signs, xa_T_types, xb_T_types, xn_T_types, xa_T_starts, xb_T_starts, xn_T_starts, xa_T_values, xb_T_values, xn_T_values]
        apply t_atSign (c := 43) (by omega) hT2
        · intro y
          simp only [sl_i, b83_0, b83_1, bn_0 b83_0, bn_1 b83_1, q83_46, q83_49, q83_51, q83_54]
          rw [if_neg (by decide)]
          exact hcont (-10) 20 l5 (by unfold opS; rw [if_pos (snB_t.mpr y)]) hty
        · intro y
          simp only [sl_i, b83_0, b83_1, bn_0 b83_0, bn_1 b83_1, q83_46, b83_0, b83_1, bn_0 b83_0, bn_1 b83_1, q83_54]
          rw [if_pos (by decide)]
          refine hcont (-11) 21 l5 ?_ hty
          unfold opS at hnn ⊢
          rw [if_neg (fun e => y (snB_t.mp e))] at hnn ⊢
          split at hnn
          · rename_i e; rw [if_pos e]
          · exact absurd rfl hnn
      rw [q83_10]
      simp only [b83_0, b83_1, bn_0 b83_0, bn_1 b83_1, q83_11, q83_14, q83_16, q83_19, q83_22, q83_23]
      rw [if_neg (by decide), if_neg (by rw [show (1000 : Int32) = nI 1000 from rfl, nI_leI (by omega) (by omega)]; omega)]
      simp only [b83_0, b83_1, bn_0 b83_0, bn_1 b83_1, q83_25, xc_T, xg_T_0, xg_T_1, xs_T_1, xg_T_2, xs_T_2, xg_T_3, xg_T_4, xg_T_5, xg_T_6, xs_T_6, xg_T_7, xs_T_7, xg_T_8, xs_T_8, xa_T_signs, xb_T_signs, xn_T_signs, xa_T_types, xb_T_types, xn_T_types, xa_T_starts, xb_T_starts, xn_T_starts, xa_T_values, xb_T_values, xn_T_values]
      apply t_atSign (c := 43) (by omega) hT2
      · intro y
        simp only [sl_i, b83_0, b83_1, bn_0 b83_0, bn_1 b83_1, q83_28]
        rw [if_pos (by decide)]
        exact hagain l5 (by rw [y.1]; decide) (fun e => by unfold opS at e; rw [if_pos (snB_t.mpr y)] at e; cases e)
      · intro y
        simp only [sl_i, b83_0, b83_1, bn_0 b83_0, bn_1 b83_1, q83_28, q83_31, q83_32]
        rw [if_neg (by decide)]
        simp only [b83_0, b83_1, bn_0 b83_0, bn_1 b83_1, q83_34, xc_T, xg_T_0, xg_T_1, xs_T_1, xg_T_2, xs_T_2, xg_T_3, xg_T_4, xg_T_5, xg_T_6, xs_T_6, xg_T_7, xs_T_7, xg_T_8, xs_T_8, xa_T_signs, xb_T_signs, xn_T_signs, xa_T_types, xb_T_types, xn_T_types, xa_T_starts, xb_T_starts, xn_T_starts, xa_T_values, xb_T_values, xn_T_values]
        apply t_atSign (c := 45) (by omega) hT2
        · intro y2
          simp only [sl_i, b83_0, b83_1, bn_0 b83_0, bn_1 b83_1, q83_37]
          rw [if_neg (by decide)]
          exact hagain l5 (by rw [y2.1]; decide) (fun e => by unfold opS at e; rw [if_neg (fun e => y (snB_t.mp e)), if_pos (snB_t.mpr y2)] at e; cases e)
        · intro y2
          simp only [sl_i, b83_0, b83_1, bn_0 b83_0, bn_1 b83_1, q83_37, b83_0, b83_1, bn_0 b83_0, bn_1 b83_1, q83_95, q83_96]
          rw [if_pos (by decide)]
          exact hstop (by unfold opS; rw [if_neg (fun e => y (snB_t.mp e)), if_neg (fun e => y2 (snB_t.mp e))])
  simp only [e83, b83_0, b83_1, bn_0 b83_0, bn_1 b83_1, q83_0, q83_1, q83_2]
  simp only [b83_0, b83_1, bn_0 b83_0, bn_1 b83_1, q83_3]
  apply hsub _ ps q' T i hT hf hL hps
  · intro T2 q2 g0 hT2 hf2 hL2 hl2
    simp only [sl_i, b83_0, b83_1, bn_0 b83_0, bn_1 b83_1, q83_6i, q83_7, q83_8i, isl_i, isl_r, isl_n]
    exact key g0 1000 0 _ q2 T2 none (by omega) g0 hT2 hf2 hL2 hl2 rfl
  · intro T2 q2 ps2 g0 hk2 hf2 hL2
    rw [if_neg g0] at hq0
    simp only [sl_i, b83_0, b83_1, bn_0 b83_0, bn_1 b83_1, q83_6i, q83_7, q83_8i, isl_i, isl_r, isl_n]
    exact fail T2 q2 _ _ (hq0 T2 q2 ps2 g0 hk2 hf2 hL2)
theorem t_lfill {dep : Nat} {pt : Nat → GR} (hE : ELt E) (hsub : PTx fx z E M sw c2 w2 D S S1 K R C W U q q1 B0 B1 B2 B3 tp n 82 (dep + 3) dp (g_T tp pt)) : PTx fx z E M sw c2 w2 D S S1 K R C W U q q1 B0 B1 B2 B3 tp n 81 (dep + 4) dp (g_E tp pt) := by
  intro Q ps q' T i hT hf hL hps hq1 hq0
  unfold g_E at hq1 hq0
  have fail : ∀ (T4 : px_T) (q4 : px_q) (l4 : Int32) (l5 : Option Value), Q (some (.int 0)) (px_h z E M (px_l sw c2 w2 (T4) D S S1 K R C W U q (q4) B0 B1 B2 B3)) → ww (mp_P fx) (dep + 4) 81 10 [some (.ref 60), some (.ref (px_ta (!sw) + 14)), some (.int (nI dp)), some (.int 0), some (.int l4), l5] [] (px_h z E M (px_l sw c2 w2 (T4) D S S1 K R C W U q (q4) B0 B1 B2 B3)) Q := by
    intro T4 q4 l4 l5 hh
    rw [q81_10]
    simp only [b81_0, b81_1, bn_0 b81_0, bn_1 b81_1, q81_11, b81_0, b81_1, bn_0 b81_0, bn_1 b81_1, q81_95, q81_96]
    rw [if_pos (by decide)]
    exact hh
  have key : (g_T tp pt i).1 = 0 → ∀ (m t : Nat) (x : GR) (q2 : px_q) (T2 : px_T) (l5 : Option Value), t + m = 1000 → x.1 = 0 → TKx tp n x.2.1 T2 → T2.2.2.1 = 0 → LQx q1 (ps ++ x.2.2.1) q2 → i + x.2.2.1.length ≤ x.2.1 → g_lp (g_T tp pt) (opE tp) 1000 (g_T tp pt i) = g_lp (g_T tp pt) (opE tp) m x → ww (mp_P fx) (dep + 4) 81 10 [some (.ref 60), some (.ref (px_ta (!sw) + 14)), some (.int (nI dp)), some (.int 1), some (.int (nI t)), l5] [] (px_h z E M (px_l sw c2 w2 (T2) D S S1 K R C W U q (q2) B0 B1 B2 B3)) Q := by
    intro g0 m
    rw [if_pos g0] at hq1 hq0
    induction m with
    | zero =>
      intro t x q2 T2 l5 ht hx hT2 hf2 hL2 hl2 hlp
      rw [g_lp] at hlp
      rw [hlp] at hq1
      rw [q81_10]
      simp only [b81_0, b81_1, bn_0 b81_0, bn_1 b81_1, q81_11, q81_14, q81_16, q81_19, b81_0, b81_1, bn_0 b81_0, bn_1 b81_1, q81_95, q81_96]
      rw [if_neg (by decide), if_pos (by rw [show (1000 : Int32) = nI 1000 from rfl, nI_leI (by omega) (by omega)]; omega)]
      exact hq1 T2 q2 hx hT2 hf2 hL2 hl2
    | succ m ih =>
      intro t x q2 T2 l5 ht hx hT2 hf2 hL2 hl2 hlp
      have h1000 := hT2.2.2.2.1
      have hxn := hT2.2.2.2.2.1
      rw [g_lp_s (m := m) (x := x)] at hlp
      have hcont : ∀ (p : Int32) (cc : Nat) (l5 : Option Value), opE tp x.2.1 = some (p, cc) → ¬ TY tp x.2.1 = 0 → ww (mp_P fx) (dep + 4) 81 56 [some (.ref 60), some (.ref (px_ta (!sw) + 14)), some (.int (nI dp)), some (.int 1), some (.int (nI t)), l5] [.int p] (px_h z E M (px_l sw c2 w2 (T2) D S S1 K R C W U q (q2) B0 B1 B2 B3)) Q := by
        intro p cc l5 hop hty
        rw [hop] at hlp
        simp only [] at hlp
        simp only [b81_0, b81_1, bn_0 b81_0, bn_1 b81_1, q81_56i, q81_58, q81_59, xc_T, xg_T_0, xg_T_1, xs_T_1, xg_T_2, xs_T_2, xg_T_3, xg_T_4, xg_T_5, xg_T_6, xs_T_6, xg_T_7, xs_T_7, xg_T_8, xs_T_8, xa_T_signs, xb_T_signs, xn_T_signs, xa_T_types, xb_T_types, xn_T_types, xa_T_starts, xb_T_starts, xn_T_starts, xa_T_values, xb_T_values, xn_T_values, isl_i, isl_r, isl_n]
        apply t_pass hT2 hty
        intro hT3
        simp only [sl_i, b81_0, b81_1, bn_0 b81_0, bn_1 b81_1, q81_62, q81_65, q81_66, q81_67]
        rw [if_neg (by decide)]
        simp only [b81_0, b81_1, bn_0 b81_0, bn_1 b81_1, q81_68]
        apply hsub _ (ps ++ x.2.2.1) q2 _ (x.2.1 + 1) hT3 hf2 hL2 (by rw [List.length_append]; omega)
        · intro T4 q4 a0 hT4 hf4 hL4 hl4
          rw [if_pos a0] at hlp
          have hn4 := hT4.2.2.2.2.1
          have hn4' := hT4.2.2.2.1
          simp only [sl_i, b81_0, b81_1, bn_0 b81_0, bn_1 b81_1, q81_71, q81_74, q81_75]
          rw [if_neg (by decide)]
          simp only [b81_0, b81_1, bn_0 b81_0, bn_1 b81_1, q81_77, xc_q1, xg_q1_0, xg_q1_1, xs_q1_1, xg_q1_2, xg_q1_3, xg_q1_4, xs_q1_4, xg_q1_5, xg_q1_6, xg_q1_7, xg_q1_8, xs_q1_8, xg_q1_9, xs_q1_9, xg_q1_10, xg_q1_11, xg_q1_12, xg_q1_13, xg_q1_14, xg_q1_15, xg_q1_16, xs_q1_16, xg_q1_17, xg_q1_18, xs_q1_18, xg_q1_19, xa_q1_sortNames, xb_q1_sortNames, xn_q1_sortNames, xa_q1_colourNames, xb_q1_colourNames, xn_q1_colourNames, xa_q1_colourSorts, xb_q1_colourSorts, xn_q1_colourSorts, xa_q1_ruleMakes, xb_q1_ruleMakes, xn_q1_ruleMakes, xa_q1_ruleFirsts, xb_q1_ruleFirsts, xn_q1_ruleFirsts, xa_q1_ruleSeconds, xb_q1_ruleSeconds, xn_q1_ruleSeconds, xa_q1_walkerNames, xb_q1_walkerNames, xn_q1_walkerNames, xa_q1_kinds, xb_q1_kinds, xn_q1_kinds, xa_q1_walkerColours, xb_q1_walkerColours, xn_q1_walkerColours, xa_q1_starts, xb_q1_starts, xn_q1_starts, xa_q1_stepRows, xb_q1_stepRows, xn_q1_stepRows, xa_q1_stepCounts, xb_q1_stepCounts, xn_q1_stepCounts, xa_q1_gusts, xb_q1_gusts, xn_q1_gusts, xc_q1l, xg_q1l_0, xg_q1l_1, xs_q1l_1, xg_q1l_2, xg_q1l_3, xs_q1l_3, xa_q1_parts, xb_q1_parts, xn_q1_parts, xa_q1_stack, xb_q1_stack, xn_q1_stack]
          apply t_lawAdd hL4 (by rw [List.length_append, List.length_append]; omega)
          intro q5 hL5
          rw [List.append_assoc, List.append_assoc, ← List.append_assoc x.2.2.1] at hL5
          rw [List.append_assoc x.2.2.1] at hL5
          simp only [sl_i, b81_0, b81_1, bn_0 b81_0, bn_1 b81_1, q81_80, q81_83, q81_84, b81_0, b81_1, bn_0 b81_0, bn_1 b81_1, q81_88i, q81_89i, q81_92, isl_i, isl_r, isl_n, nI_1]
          rw [if_neg (by decide)]
          refine ih (t + 1) (g_jn x p cc (g_T tp pt (x.2.1 + 1))) q5 T4 _ (by omega) rfl hT4 hf4 hL5 ?_ hlp
          show i + (x.2.2.1 ++ ((g_T tp pt (x.2.1 + 1)).2.2.1 ++ [p])).length ≤ (g_T tp pt (x.2.1 + 1)).2.1
          rw [List.length_append, List.length_append, List.length_singleton]; omega
        · intro T4 q4 ps4 a0 hk4 hf4 hL4
          rw [if_neg a0] at hlp
          rw [hlp] at hq0
          simp only [sl_i, b81_0, b81_1, bn_0 b81_0, bn_1 b81_1, q81_71, b81_0, b81_1, bn_0 b81_0, bn_1 b81_1, q81_87, q81_88i, q81_89i, q81_92, isl_i, isl_r, isl_n]
          rw [if_pos (by decide)]
          exact fail T4 q4 _ _ (hq0 T4 q4 ps4 a0 hk4 hf4 hL4)
      have hstop : opE tp x.2.1 = none → Q (some (.int 1)) (px_h z E M (px_l sw c2 w2 (T2) D S S1 K R C W U q (q2) B0 B1 B2 B3)) := by
        intro hop
        rw [hop] at hlp
        simp only [] at hlp
        rw [hlp] at hq1
        exact hq1 T2 q2 hx hT2 hf2 hL2 hl2
      have hagain : ∀ (l5 : Option Value), ¬ TY tp x.2.1 = 0 → ¬ opE tp x.2.1 = none → ww (mp_P fx) (dep + 4) 81 40 [some (.ref 60), some (.ref (px_ta (!sw) + 14)), some (.int (nI dp)), some (.int 1), some (.int (nI t)), l5] [] (px_h z E M (px_l sw c2 w2 (T2) D S S1 K R C W U q (q2) B0 B1 B2 B3)) Q := by
        intro l5 hty hnn
        simp only [b81_0, b81_1, bn_0 b81_0, bn_1 b81_1, q81_40, q81_41]
        simp only [b81_0, b81_1, bn_0 b81_0, bn_1 b81_1, q81_43, xc_T, xg_T_0, xg_T_1, xs_T_1, xg_T_2, xs_T_2, xg_T_3, xg_T_4, xg_T_5, xg_T_6, xs_T_6, xg_T_7, xs_T_7, xg_T_8, xs_T_8, xa_T_signs, xb_T_signs, xn_T_signs, xa_T_types, xb_T_types, xn_T_types, xa_T_starts, xb_T_starts, xn_T_starts, xa_T_values, xb_T_values, xn_T_values]
        apply t_atWord (w := 20) hE (by omega) (by omega) hT2
        · intro y
          simp only [sl_i, b81_0, b81_1, bn_0 b81_0, bn_1 b81_1, q81_46, q81_49, q81_51, q81_54]
          rw [if_neg (by decide)]
          exact hcont (-6) 26 l5 (by unfold opE; rw [if_pos (wdB_t.mpr y)]) hty
        · intro y
          simp only [sl_i, b81_0, b81_1, bn_0 b81_0, bn_1 b81_1, q81_46, b81_0, b81_1, bn_0 b81_0, bn_1 b81_1, q81_54]
          rw [if_pos (by decide)]
          refine hcont (-7) 27 l5 ?_ hty
          unfold opE at hnn ⊢
          rw [if_neg (fun e => y (wdB_t.mp e))] at hnn ⊢
          split at hnn
          · rename_i e; rw [if_pos e]
          · exact absurd rfl hnn
      rw [q81_10]
      simp only [b81_0, b81_1, bn_0 b81_0, bn_1 b81_1, q81_11, q81_14, q81_16, q81_19, q81_22, q81_23]
      rw [if_neg (by decide), if_neg (by rw [show (1000 : Int32) = nI 1000 from rfl, nI_leI (by omega) (by omega)]; omega)]
      simp only [b81_0, b81_1, bn_0 b81_0, bn_1 b81_1, q81_25, xc_T, xg_T_0, xg_T_1, xs_T_1, xg_T_2, xs_T_2, xg_T_3, xg_T_4, xg_T_5, xg_T_6, xs_T_6, xg_T_7, xs_T_7, xg_T_8, xs_T_8, xa_T_signs, xb_T_signs, xn_T_signs, xa_T_types, xb_T_types, xn_T_types, xa_T_starts, xb_T_starts, xn_T_starts, xa_T_values, xb_T_values, xn_T_values]
      apply t_atWord (w := 20) hE (by omega) (by omega) hT2
      · intro y
        simp only [sl_i, b81_0, b81_1, bn_0 b81_0, bn_1 b81_1, q81_28]
        rw [if_pos (by decide)]
        exact hagain l5 (by rw [y.1]; decide) (fun e => by unfold opE at e; rw [if_pos (wdB_t.mpr y)] at e; cases e)
      · intro y
        simp only [sl_i, b81_0, b81_1, bn_0 b81_0, bn_1 b81_1, q81_28, q81_31, q81_32]
        rw [if_neg (by decide)]
        simp only [b81_0, b81_1, bn_0 b81_0, bn_1 b81_1, q81_34, xc_T, xg_T_0, xg_T_1, xs_T_1, xg_T_2, xs_T_2, xg_T_3, xg_T_4, xg_T_5, xg_T_6, xs_T_6, xg_T_7, xs_T_7, xg_T_8, xs_T_8, xa_T_signs, xb_T_signs, xn_T_signs, xa_T_types, xb_T_types, xn_T_types, xa_T_starts, xb_T_starts, xn_T_starts, xa_T_values, xb_T_values, xn_T_values]
        apply t_atWord (w := 21) hE (by omega) (by omega) hT2
        · intro y2
          simp only [sl_i, b81_0, b81_1, bn_0 b81_0, bn_1 b81_1, q81_37]
          rw [if_neg (by decide)]
          exact hagain l5 (by rw [y2.1]; decide) (fun e => by unfold opE at e; rw [if_neg (fun e => y (wdB_t.mp e)), if_pos (wdB_t.mpr y2)] at e; cases e)
        · intro y2
          simp only [sl_i, b81_0, b81_1, bn_0 b81_0, bn_1 b81_1, q81_37, b81_0, b81_1, bn_0 b81_0, bn_1 b81_1, q81_95, q81_96]
          rw [if_pos (by decide)]
          exact hstop (by unfold opE; rw [if_neg (fun e => y (wdB_t.mp e)), if_neg (fun e => y2 (wdB_t.mp e))])
  simp only [e81, b81_0, b81_1, bn_0 b81_0, bn_1 b81_1, q81_0, q81_1, q81_2]
  simp only [b81_0, b81_1, bn_0 b81_0, bn_1 b81_1, q81_3]
  apply hsub _ ps q' T i hT hf hL hps
  · intro T2 q2 g0 hT2 hf2 hL2 hl2
    simp only [sl_i, b81_0, b81_1, bn_0 b81_0, bn_1 b81_1, q81_6i, q81_7, q81_8i, isl_i, isl_r, isl_n]
    exact key g0 1000 0 _ q2 T2 none (by omega) g0 hT2 hf2 hL2 hl2 rfl
  · intro T2 q2 ps2 g0 hk2 hf2 hL2
    rw [if_neg g0] at hq0
    simp only [sl_i, b81_0, b81_1, bn_0 b81_0, bn_1 b81_1, q81_6i, q81_7, q81_8i, isl_i, isl_r, isl_n]
    exact fail T2 q2 _ _ (hq0 T2 q2 ps2 g0 hk2 hf2 hL2)
end GL
