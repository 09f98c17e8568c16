/-! a square, of the class -/
def GV (g : Nat → GR) (h : Nat) : Prop := ∀ (i : Nat) (a b c f : Int32) (st : List Int32), (g i).1 = 0 → st.length ≤ h → lx_run a b c f (g i).2.2.1 st = some ((g i).2.2.2.2 a b c f :: st)
def GX (x : GR) (h : Nat) : Prop := ∀ (a b c f : Int32) (st : List Int32), st.length ≤ h → lx_run a b c f x.2.2.1 st = some (x.2.2.2.2 a b c f :: st)
def opk (p : Int32) : Prop := p = -6 ∨ p = -7 ∨ p = -8 ∨ p = -9 ∨ p = -10 ∨ p = -11 ∨ p = -12
theorem lx_bin {a b c f p x y : Int32} {st : List Int32} (h : opk p) : lx_run a b c f [p] (y :: x :: st) = some (lx_op p x y :: st) := by
  rcases h with rfl | rfl | rfl | rfl | rfl | rfl | rfl <;> rfl
theorem GX_jn {x r : GR} {p : Int32} {cc h : Nat} (hx : GX x h) (hr : GX r (h + 1)) (hp : opk p) : GX (g_jn x p cc r) h := by
  intro a b c f st hst
  show lx_run a b c f (x.2.2.1 ++ (r.2.2.1 ++ [p])) st = _
  rw [lx_app (hx a b c f st hst), lx_app (hr a b c f _ (by rw [List.length_cons]; omega)), lx_bin hp]; rfl
theorem g_bad_1 {f : Nat} : (g_bad f).1 = f := rfl
theorem GX_lp {sub : Nat → GR} {op : Nat → Option (Int32 × Nat)} {h : Nat} (hs : GV sub (h + 1)) (ho : ∀ j pc, op j = some pc → opk pc.1) : ∀ m x, GX x h → (g_lp sub op m x).1 = 0 → GX (g_lp sub op m x) h := by
  intro m
  induction m with
  | zero => intro x hx _; exact hx
  | succ m ih =>
    intro x hx h0
    rw [g_lp_s] at h0 ⊢
    cases e : op x.2.1 with
    | none => exact hx
    | some pc =>
      rw [e] at h0
      simp only [] at h0 ⊢
      by_cases e2 : (sub (x.2.1 + 1)).1 = 0
      · rw [if_pos e2] at h0 ⊢
        exact ih _ (GX_jn hx (fun a b c f st hst => hs _ a b c f st e2 hst) (ho _ _ e)) h0
      · rw [if_neg e2] at h0
        exact absurd h0 e2
theorem GV_P {tp : List Nat} {pt : Nat → GR} {h : Nat} (hp : GV pt (h + 1)) : GV (g_P tp pt) h := by
  intro i a b c f st h0 hst
  unfold g_P at h0 ⊢
  by_cases e : (pt i).1 = 0
  · rw [if_pos e] at h0 ⊢
    refine GX_lp hp (fun j pc hj => ?_) 1000 (pt i) (fun a b c f st hst => hp i a b c f st e (by omega)) h0 a b c f st hst
    unfold opM at hj
    split at hj
    · cases hj; unfold opk; decide
    · cases hj
  · rw [if_neg e] at h0; exact absurd h0 e
theorem GV_S {tp : List Nat} {pt : Nat → GR} {h : Nat} (hp : GV pt (h + 2)) : GV (g_S tp pt) h := by
  intro i a b c f st h0 hst
  have hP : GV (g_P tp pt) (h + 1) := GV_P hp
  unfold g_S at h0 ⊢
  by_cases e : (g_P tp pt i).1 = 0
  · rw [if_pos e] at h0 ⊢
    refine GX_lp hP (fun j pc hj => ?_) 1000 (g_P tp pt i) (fun a b c f st hst => hP i a b c f st e (by omega)) h0 a b c f st hst
    unfold opS at hj
    split at hj
    · cases hj; unfold opk; decide
    · split at hj
      · cases hj; unfold opk; decide
      · cases hj
  · rw [if_neg e] at h0; exact absurd h0 e
theorem GV_T {tp : List Nat} {pt : Nat → GR} {h : Nat} (hp : GV pt (h + 3)) : GV (g_T tp pt) h := by
  intro i a b c f st h0 hst
  have hS : GV (g_S tp pt) (h + 1) := GV_S hp
  unfold g_T at h0 ⊢
  by_cases e : (g_S tp pt i).1 = 0
  · rw [if_pos e] at h0 ⊢
    cases eo : opT tp (g_S tp pt i).2.1 with
    | none => exact hS i a b c f st e (by omega)
    | some pc =>
      rw [eo] at h0
      simp only [] at h0 ⊢
      by_cases e2 : (g_S tp pt ((g_S tp pt i).2.1 + 1)).1 = 0
      · rw [if_pos e2]
        refine GX_jn (h := h) (fun a b c f st hst => hS i a b c f st e (by omega)) (fun a b c f st hst => hS _ a b c f st e2 hst) ?_ a b c f st hst
        unfold opT at eo
        split at eo
        · cases eo; unfold opk; decide
        · split at eo
          · cases eo; unfold opk; decide
          · cases eo
      · rw [if_neg e2] at h0; exact absurd h0 e2
  · rw [if_neg e] at h0; exact absurd h0 e
theorem GV_E {tp : List Nat} {pt : Nat → GR} {h : Nat} (hp : GV pt (h + 4)) : GV (g_E tp pt) h := by
  intro i a b c f st h0 hst
  have hT : GV (g_T tp pt) (h + 1) := GV_T hp
  unfold g_E at h0 ⊢
  by_cases e : (g_T tp pt i).1 = 0
  · rw [if_pos e] at h0 ⊢
    refine GX_lp hT (fun j pc hj => ?_) 1000 (g_T tp pt i) (fun a b c f st hst => hT i a b c f st e (by omega)) h0 a b c f st hst
    unfold opE at hj
    split at hj
    · cases hj; unfold opk; decide
    · split at hj
      · cases hj; unfold opk; decide
      · cases hj
  · rw [if_neg e] at h0; exact absurd h0 e
theorem lx_num {a b c f : Int32} {st : List Int32} {v : Nat} (hv : v < 2 ^ 31) (hst : st.length < 32) : lx_run a b c f [nI v] st = some (nI v :: st) := by
  have hn : ¬ nI v < 0 := by rw [nl_0, nI_ltI hv (by omega)]; omega
  have hj : ∀ j : Int32, j < 0 → ¬ nI v = j := fun j h e => hn (by rw [e]; exact h)
  rw [lx_run]
  unfold lx_1
  rw [if_neg (hj _ (by decide)), if_neg (hj _ (by decide)), if_neg (hj _ (by decide)), if_neg (hj _ (by decide)), if_neg (hj _ (by decide)), if_neg hn]
  unfold lx_p
  rw [if_pos hst]; rfl
theorem lx_fct {a b c f : Int32} {st : List Int32} {v : Nat} (h0 : ¬ v = 0) (hv : v < 5) (hst : st.length < 32) : lx_run a b c f [0 - nI v] st = some (g_pj v a b c f :: st) := by
  have : v = 1 ∨ v = 2 ∨ v = 3 ∨ v = 4 := by omega
  have key : ∀ x : Int32, lx_p st x = some (x :: st) := fun x => by unfold lx_p; rw [if_pos hst]
  rcases this with rfl | rfl | rfl | rfl
  · show (match lx_p st a with
      | none => none
      | some st' => lx_run a b c f [] st') = _
    rw [key]; rfl
  · show (match lx_p st b with
      | none => none
      | some st' => lx_run a b c f [] st') = _
    rw [key]; rfl
  · show (match lx_p st c with
      | none => none
      | some st' => lx_run a b c f [] st') = _
    rw [key]; rfl
  · show (match lx_p st f with
      | none => none
      | some st' => lx_run a b c f [] st') = _
    rw [key]; rfl
theorem g_st_num {tp : List Nat} {i : Nat} (y : g_st tp i = true) (e1 : ¬ wdB tp i 19 = true) (e2 : ¬ snB tp i 40 = true) (e3 : g_fc tp i = 0) : TY tp i = 2 := by
  unfold g_st at y
  rw [Bool.not_eq_true] at e1 e2
  rw [decide_eq_true e3, e1, e2] at y
  exact of_decide_eq_true y
theorem GV_part {tp : List Nat} : ∀ k, k ≤ 5 → GV (g_part tp k) (24 - 4 * k) := by
  intro k
  induction k with
  | zero =>
    intro _ i a b c f st h0 hst
    rw [g_part] at h0
    split at h0
    · exact absurd h0 (flt_ne (by omega))
    · exact absurd h0 (flt_ne (by omega))
  | succ k ih =>
    intro hk i a b c f st h0 hst
    have ih := ih (by omega)
    rw [g_part] at h0 ⊢
    by_cases y : g_st tp i = true
    · rw [if_pos y] at h0 ⊢
      by_cases e1 : wdB tp i 19 = true
      · rw [if_pos e1] at h0 ⊢
        by_cases e : (g_part tp k (i + 1)).1 = 0
        · rw [if_pos e]
          show lx_run a b c f ((g_part tp k (i + 1)).2.2.1 ++ [-5]) st = _
          rw [lx_app (ih (i + 1) a b c f st e (by omega))]; rfl
        · rw [if_neg e] at h0; exact absurd h0 e
      rw [if_neg e1] at h0 ⊢
      by_cases e2 : snB tp i 40 = true
      · rw [if_pos e2] at h0 ⊢
        by_cases e : (g_E tp (g_part tp k) (i + 1)).1 = 0
        · rw [if_pos e] at h0 ⊢
          by_cases e3 : snB tp (g_E tp (g_part tp k) (i + 1)).2.1 41 = true
          · rw [if_pos e3]
            exact GV_E (h := 24 - 4 * (k + 1)) (by rw [show 24 - 4 * (k + 1) + 4 = 24 - 4 * k by omega]; exact ih) (i + 1) a b c f st e hst
          · rw [if_neg e3] at h0; exact absurd h0 (flt_ne (by omega))
        · rw [if_neg e] at h0; exact absurd h0 e
      rw [if_neg e2]
      by_cases e3 : g_fc tp i = 0
      · have hv := VL_lt (g_st_num y e1 e2 e3)
        rw [if_pos e3]
        exact lx_num (by omega) (by omega)
      · rw [if_neg e3]
        exact lx_fct e3 g_fc_lt (by omega)
    · rw [if_neg y] at h0; exact absurd h0 (flt_ne (by omega))
def setL (o : PS) (v : V4) : PS := ((o.1.1, o.1.2.1, o.1.2.2.1, k_sr o.1, v), o.2.1, o.2.2.1, true)
theorem ok_setL {o : PS} {v : V4} (h : PSok o) : PSok (setL o v) := h
def l_reads (tp : List Nat) (i : Nat) (o : PS) : PR := if o.2.2.2 = true then (flt tp 3 i, i, o) else if (g_E tp (g_part tp 5) (i + 1)).1 = 0 then (0, (g_E tp (g_part tp 5) (i + 1)).2.1, setL o (g_E tp (g_part tp 5) (i + 1)).2.2.2.2) else ((g_E tp (g_part tp 5) (i + 1)).1, i, o)
def sp_line (tp : List Nat) (i : Nat) (o : PS) : PR := if wdB tp i 0 = true then l_sort tp i o else if wdB tp i 1 = true then l_col tp i o else if wdB tp i 3 = true then l_rule tp i o else if wdB tp i 5 = true then l_says tp i o else if wdB tp i 6 = true then l_walk tp i o else if wdB tp i 9 = true then l_gust tp i o else if wdB tp i 10 = true then l_reads tp i o else (flt tp 1 i, i, o)
def sp_cl (tp : List Nat) (r : PR) : PR := if r.1 = 0 then (if snB tp r.2.1 59 = true then (0, r.2.1 + 1, r.2.2) else (flt tp 1 r.2.1, r.2)) else r
def sp_sq (tp : List Nat) : Nat → Nat → PS → Nat × PS
  | 0, _, o => (0, o)
  | m + 1, i, o => if TY tp i = 0 then (0, o) else if (sp_cl tp (sp_line tp i o)).1 = 0 then sp_sq tp m (sp_cl tp (sp_line tp i o)).2.1 (sp_cl tp (sp_line tp i o)).2.2 else ((sp_cl tp (sp_line tp i o)).1, o)
theorem sp_sq_s {tp : List Nat} {m i : Nat} {o : PS} : sp_sq tp (m + 1) i o = if TY tp i = 0 then (0, o) else if (sp_cl tp (sp_line tp i o)).1 = 0 then sp_sq tp m (sp_cl tp (sp_line tp i o)).2.1 (sp_cl tp (sp_line tp i o)).2.2 else ((sp_cl tp (sp_line tp i o)).1, o) := rfl
def ps0 : PS := (((0, 0, 0, 0, 0, 0), (fun _ => 0, fun _ => 0, fun _ => 0, fun _ => 0), (fun _ => 0, fun _ => 0, fun _ => 0, fun _ => 0, fun _ => 0), fun _ _ => 0, fun _ _ _ f => f), fun _ _ => [], none, false)
theorem ps0_ok : PSok ps0 := ⟨⟨⟨by decide, by decide, by decide, by decide, by decide⟩, fun i hi => absurd hi (Nat.not_lt_zero _), fun i hi => absurd hi (Nat.not_lt_zero _), fun i hi => absurd hi (Nat.not_lt_zero _), fun i hi => absurd hi (Nat.not_lt_zero _), by decide⟩, ⟨fun i hi => absurd hi (Nat.not_lt_zero _), fun i hi => absurd hi (Nat.not_lt_zero _), fun i hi => absurd hi (Nat.not_lt_zero _)⟩, rfl, fun y hy => by cases hy⟩
section SX2
variable {fx : List Value → mm_H → Option (List Value × mm_H)} {z : Nat} {E M : Nat → mm_C} {sw c2 w2 : Bool} {T : px_T} {D : px_D} {S : px_S} {S1 : px_S} {K : px_K} {R : px_R} {C : px_C} {W : px_W} {U : px_U} {q : px_q} {q1 : px_q} {B0 : px_K} {B1 : px_K} {B2 : px_K} {B3 : px_K} {T_signs : List Int32} {T_length : Int32} {T_fault : Int32} {T_types : List Int32} {T_starts : List Int32} {T_values : List Int64} {T_tokens : Int32} {T_at : Int32} {T_behind : Int32} {S_hour : Int32} {S_open : Int32} {S_places : List Int32} {S1_hour : Int32} {S1_open : Int32} {S1_places : List Int32} {K_lines : List Int32} {K_lineCount : Int32} {K_wishes : List Int32} {K_wishCount : Int32} {K_sights : List Int32} {K_sightCount : Int32} {R_shown : List Int32} {R_length : Int32} {R_readers : Int32} {R_begins : List Int32} {R_lengths : List Int32} {R_sentences : Int32} {R_order : List Int32} {R_able : Int32} {R_standing : List Int32} {R_lovers : List Int32} {R_lowest : List Int32} {C_ways : List Int32} {C_rows : List Int32} {C_shallower : List Int32} {C_length : Int32} {C_goal : Int32} {W_row : List Int32} {W_walkers : Int32} {W_names : Int32} {W_wanted : List Int32} {W_shown : List Int32} {W_places : List Int32} {W_rest : List Int32} {W_spent : List Int32} {W_tried : List Int32} {U_undoRows : List Int64} {U_markScenes : List Int64} {U_marksLaid : List Int32} {U_undoCount : Int32} {U_undoEnd : Int32} {q_sortNames : List Int64} {q_sortCount : Int32} {q_colourNames : List Int64} {q_colourSorts : List Int32} {q_colourCount : Int32} {q_ruleMakes : List Int32} {q_ruleFirsts : List Int32} {q_ruleSeconds : List Int32} {q_ruleCount : Int32} {q_saysSort : Int32} {q_walkerNames : List Int64} {q_kinds : List Int32} {q_walkerColours : List Int32} {q_starts : List Int32} {q_stepRows : List Int32} {q_stepCounts : List Int32} {q_walkerCount : Int32} {q_gusts : List Int32} {q_gustCount : Int32} {q_parts : List Int32} {q_count : Int32} {q_stack : List Int32} {q_height : Int32} {q1_sortNames : List Int64} {q1_sortCount : Int32} {q1_colourNames : List Int64} {q1_colourSorts : List Int32} {q1_colourCount : Int32} {q1_ruleMakes : List Int32} {q1_ruleFirsts : List Int32} {q1_ruleSeconds : List Int32} {q1_ruleCount : Int32} {q1_saysSort : Int32} {q1_walkerNames : List Int64} {q1_kinds : List Int32} {q1_walkerColours : List Int32} {q1_starts : List Int32} {q1_stepRows : List Int32} {q1_stepCounts : List Int32} {q1_walkerCount : Int32} {q1_gusts : List Int32} {q1_gustCount : Int32} {q1_parts : List Int32} {q1_count : Int32} {q1_stack : List Int32} {q1_height : Int32} {B0_lines : List Int32} {B0_lineCount : Int32} {B0_wishes : List Int32} {B0_wishCount : Int32} {B0_sights : List Int32} {B0_sightCount : Int32} {B1_lines : List Int32} {B1_lineCount : Int32} {B1_wishes : List Int32} {B1_wishCount : Int32} {B1_sights : List Int32} {B1_sightCount : Int32} {B2_lines : List Int32} {B2_lineCount : Int32} {B2_wishes : List Int32} {B2_wishCount : Int32} {B2_sights : List Int32} {B2_sightCount : Int32} {B3_lines : List Int32} {B3_lineCount : Int32} {B3_wishes : List Int32} {B3_wishCount : Int32} {B3_sights : List Int32} {B3_sightCount : Int32}
variable {d : Nat} {Q : Option Value → mm_H → Prop} {tp : List Nat} {n k : Nat} {o : PS}
theorem t_addReads (hE : ELt E) (h : OKx tp n k o T q1) (hw : ¬ TY tp k = 0) (hq1 : ∀ j o' T' q', l_reads tp k o = (0, j, o') → OKx tp n j o' T' q' → Q (some (.int 1)) (px_h z E M (px_l sw c2 w2 (T') D S S1 K R C W U q (q') B0 B1 B2 B3))) (hq0 : ∀ f T' q', (l_reads tp k o).1 = f → BDx tp n f T' q' → Q (some (.int 0)) (px_h z E M (px_l sw c2 w2 (T') D S S1 K R C W U q (q') B0 B1 B2 B3))) : wm (mp_P fx) (d + 38) 79 [.ref 60, .ref (px_ta (!sw))] (px_h z E M (px_l sw c2 w2 T D S S1 K R C W U q q1 B0 B1 B2 B3)) Q := by
  obtain ⟨hT, hf, ⟨hs, hN, hy, hLD⟩, hP⟩ := id h
  obtain ⟨m, m1, m2, m3, m4⟩ := hLD
  have hpl := hs.1.2.2.2.2.2.2.2.2.2.2.2.2.1
  unfold l_reads at hq1 hq0
  simp only [e79, b79_0, b79_1, bn_0 b79_0, bn_1 b79_1, q79_0, q79_1, xc_q1, xg_q1_0, xg_q1_1, xs_q1_1, xg_q1_2, xg_q1_3, xg_q1_4, xs_q1_4, xg_q1_5, xg_q1_6, xg_q1_7, xg_q1_8, xs_q1_8, xg_q1_9, xs_q1_9, xg_q1_10, xg_q1_11, xg_q1_12, xg_q1_13, xg_q1_14, xg_q1_15, xg_q1_16, xs_q1_16, xg_q1_17, xg_q1_18, xs_q1_18, xg_q1_19, xa_q1_sortNames, xb_q1_sortNames, xn_q1_sortNames, xa_q1_colourNames, xb_q1_colourNames, xn_q1_colourNames, xa_q1_colourSorts, xb_q1_colourSorts, xn_q1_colourSorts, xa_q1_ruleMakes, xb_q1_ruleMakes, xn_q1_ruleMakes, xa_q1_ruleFirsts, xb_q1_ruleFirsts, xn_q1_ruleFirsts, xa_q1_ruleSeconds, xb_q1_ruleSeconds, xn_q1_ruleSeconds, xa_q1_walkerNames, xb_q1_walkerNames, xn_q1_walkerNames, xa_q1_kinds, xb_q1_kinds, xn_q1_kinds, xa_q1_walkerColours, xb_q1_walkerColours, xn_q1_walkerColours, xa_q1_starts, xb_q1_starts, xn_q1_starts, xa_q1_stepRows, xb_q1_stepRows, xn_q1_stepRows, xa_q1_stepCounts, xb_q1_stepCounts, xn_q1_stepCounts, xa_q1_gusts, xb_q1_gusts, xn_q1_gusts, xc_q1l, xg_q1l_0, xg_q1l_1, xs_q1l_1, xg_q1l_2, xg_q1l_3, xs_q1l_3, xa_q1_parts, xb_q1_parts, xn_q1_parts, xa_q1_stack, xb_q1_stack, xn_q1_stack, wx_some, wx_ref]
  simp only [b79_0, b79_1, bn_0 b79_0, bn_1 b79_1, q79_4, e80, b80_0, b80_1, bn_0 b80_0, bn_1 b80_1, q80_0, q80_1, q80_4, q80_7, q80_8, q80_11, q80_12, xc_q1, xg_q1_0, xg_q1_1, xs_q1_1, xg_q1_2, xg_q1_3, xg_q1_4, xs_q1_4, xg_q1_5, xg_q1_6, xg_q1_7, xg_q1_8, xs_q1_8, xg_q1_9, xs_q1_9, xg_q1_10, xg_q1_11, xg_q1_12, xg_q1_13, xg_q1_14, xg_q1_15, xg_q1_16, xs_q1_16, xg_q1_17, xg_q1_18, xs_q1_18, xg_q1_19, xa_q1_sortNames, xb_q1_sortNames, xn_q1_sortNames, xa_q1_colourNames, xb_q1_colourNames, xn_q1_colourNames, xa_q1_colourSorts, xb_q1_colourSorts, xn_q1_colourSorts, xa_q1_ruleMakes, xb_q1_ruleMakes, xn_q1_ruleMakes, xa_q1_ruleFirsts, xb_q1_ruleFirsts, xn_q1_ruleFirsts, xa_q1_ruleSeconds, xb_q1_ruleSeconds, xn_q1_ruleSeconds, xa_q1_walkerNames, xb_q1_walkerNames, xn_q1_walkerNames, xa_q1_kinds, xb_q1_kinds, xn_q1_kinds, xa_q1_walkerColours, xb_q1_walkerColours, xn_q1_walkerColours, xa_q1_starts, xb_q1_starts, xn_q1_starts, xa_q1_stepRows, xb_q1_stepRows, xn_q1_stepRows, xa_q1_stepCounts, xb_q1_stepCounts, xn_q1_stepCounts, xa_q1_gusts, xb_q1_gusts, xn_q1_gusts, xc_q1l, xg_q1l_0, xg_q1l_1, xs_q1l_1, xg_q1l_2, xg_q1l_3, xs_q1l_3, xa_q1_parts, xb_q1_parts, xn_q1_parts, xa_q1_stack, xb_q1_stack, xn_q1_stack, wx_some, wx_ref, m2]
  by_cases e : o.2.2.2 = true
  · rw [if_pos e] at hq0
    have hm : ¬ m = 0 := fun y => by have := m3.mpr y; rw [e] at this; cases this
    rw [if_neg (nI_nle (by omega) (by omega))]
    simp only [sl_i, b79_0, b79_1, bn_0 b79_0, bn_1 b79_1, q79_7, q79_10, q79_11]
    rw [if_neg (by decide)]
    simp only [b79_0, b79_1, bn_0 b79_0, bn_1 b79_1, q79_12, xc_T, xg_T_0, xg_T_1, xs_T_1, xg_T_2, xs_T_2, xg_T_3, xg_T_4, xg_T_5, xg_T_6, xs_T_6, xg_T_7, xs_T_7, xg_T_8, xs_T_8, xa_T_signs, xb_T_signs, xn_T_signs, xa_T_types, xb_T_types, xn_T_types, xa_T_starts, xb_T_starts, xn_T_starts, xa_T_values, xb_T_values, xn_T_values]
    apply t_refuse (kd := 3) hT
    intro T' h2 h3
    simp only [sl_i, b79_0, b79_1, bn_0 b79_0, bn_1 b79_1, q79_15]
    exact hq0 _ T' q1 rfl ⟨flt_ne (by omega), h3, hs.1, k, h2⟩
  rw [if_neg e] at hq1 hq0
  have hm : m = 0 := m3.mp (Bool.eq_false_iff.mpr e)
  subst hm
  rw [if_pos (by decide)]
  simp only [sl_i, b79_0, b79_1, bn_0 b79_0, bn_1 b79_1, q79_7, b79_0, b79_1, bn_0 b79_0, bn_1 b79_1, q79_16]
  rw [if_pos (by decide)]
  simp only [b79_0, b79_1, bn_0 b79_0, bn_1 b79_1, q79_17, xc_T, xg_T_0, xg_T_1, xs_T_1, xg_T_2, xs_T_2, xg_T_3, xg_T_4, xg_T_5, xg_T_6, xs_T_6, xg_T_7, xs_T_7, xg_T_8, xs_T_8, xa_T_signs, xb_T_signs, xn_T_signs, xa_T_types, xb_T_types, xn_T_types, xa_T_starts, xb_T_starts, xn_T_starts, xa_T_values, xb_T_values, xn_T_values]
  apply t_pass hT hw
  intro hT1
  simp only [sl_i, b79_0, b79_1, bn_0 b79_0, bn_1 b79_1, q79_20, q79_21, q79_22, q79_23, q79_26, xc_q1, xg_q1_0, xg_q1_1, xs_q1_1, xg_q1_2, xg_q1_3, xg_q1_4, xs_q1_4, xg_q1_5, xg_q1_6, xg_q1_7, xg_q1_8, xs_q1_8, xg_q1_9, xs_q1_9, xg_q1_10, xg_q1_11, xg_q1_12, xg_q1_13, xg_q1_14, xg_q1_15, xg_q1_16, xs_q1_16, xg_q1_17, xg_q1_18, xs_q1_18, xg_q1_19, xa_q1_sortNames, xb_q1_sortNames, xn_q1_sortNames, xa_q1_colourNames, xb_q1_colourNames, xn_q1_colourNames, xa_q1_colourSorts, xb_q1_colourSorts, xn_q1_colourSorts, xa_q1_ruleMakes, xb_q1_ruleMakes, xn_q1_ruleMakes, xa_q1_ruleFirsts, xb_q1_ruleFirsts, xn_q1_ruleFirsts, xa_q1_ruleSeconds, xb_q1_ruleSeconds, xn_q1_ruleSeconds, xa_q1_walkerNames, xb_q1_walkerNames, xn_q1_walkerNames, xa_q1_kinds, xb_q1_kinds, xn_q1_kinds, xa_q1_walkerColours, xb_q1_walkerColours, xn_q1_walkerColours, xa_q1_starts, xb_q1_starts, xn_q1_starts, xa_q1_stepRows, xb_q1_stepRows, xn_q1_stepRows, xa_q1_stepCounts, xb_q1_stepCounts, xn_q1_stepCounts, xa_q1_gusts, xb_q1_gusts, xn_q1_gusts, xc_q1l, xg_q1l_0, xg_q1l_1, xs_q1l_1, xg_q1l_2, xg_q1l_3, xs_q1l_3, xa_q1_parts, xb_q1_parts, xn_q1_parts, xa_q1_stack, xb_q1_stack, xn_q1_stack, wx_some, wx_ref]
  simp only [b79_0, b79_1, bn_0 b79_0, bn_1 b79_1, q79_27]
  have hfill := t_lfill (dp := 0) hE (t_ltest (t_lsum (t_lprod (dep := d + 5 * 5 + 5) (t_lpart (fx := fx) (z := z) (M := M) (sw := sw) (c2 := c2) (w2 := w2) (D := D) (S := S) (S1 := S1) (K := K) (R := R) (C := C) (W := W) (U := U) (q := q) (q1 := q1) (B0 := B0) (B1 := B1) (B2 := B2) (B3 := B3) (tp := tp) (n := n) hE 5 0 d (by omega)))))
  have hL0 : LQx q1 [] q1 := ⟨⟨_, _, rfl⟩, hpl, m2, by decide, rfl⟩
  apply hfill _ [] q1 _ (k + 1) hT1 hf hL0 (Nat.zero_le _)
  · intro T4 q4 a0 hT4 hf4 hL4 hl4
    rw [if_pos a0] at hq1
    simp only [sl_i, b79_0, b79_1, bn_0 b79_0, bn_1 b79_1, q79_30]
    obtain ⟨⟨xs, cc, e4⟩, b1, b2, b3, b4⟩ := hL4
    rw [List.nil_append] at b2 b3 b4
    have hv := fun a b c f => GV_E (h := 0) (GV_part 5 (by omega)) (k + 1) a b c f [] a0 (Nat.le_refl _)
    have hne : 0 < (g_E tp (g_part tp 5) (k + 1)).2.2.1.length := by
      rcases Nat.eq_zero_or_pos (g_E tp (g_part tp 5) (k + 1)).2.2.1.length with e5 | e5
      · have := hv 0 0 0 0
        rw [List.eq_nil_of_length_eq_zero e5] at this
        cases this
      · exact e5
    subst e4
    refine hq1 _ _ T4 _ rfl ⟨hT4, hf4, ⟨⟨⟨hs.1.1, hs.1.2.1, hs.1.2.2.1, hs.1.2.2.2.1, hs.1.2.2.2.2.1, hs.1.2.2.2.2.2.1, hs.1.2.2.2.2.2.2.1, hs.1.2.2.2.2.2.2.2.1, hs.1.2.2.2.2.2.2.2.2.1, hs.1.2.2.2.2.2.2.2.2.2.1, hs.1.2.2.2.2.2.2.2.2.2.2.1, hs.1.2.2.2.2.2.2.2.2.2.2.2.1, b1, hs.1.2.2.2.2.2.2.2.2.2.2.2.2.2⟩, hs.2⟩, hN, hy, _, b3, b2, ⟨fun y => (by cases y), fun y => (by omega)⟩, fun a b c f => ?_⟩, ok_setL hP⟩
    rw [if_neg (by omega), b4]
    exact hv a b c f
  · intro T4 q4 ps4 a0 hk4 hf4 hL4
    rw [if_neg a0] at hq0
    obtain ⟨⟨xs, cc, e4⟩, b1, -⟩ := hL4
    subst e4
    simp only [sl_i, b79_0, b79_1, bn_0 b79_0, bn_1 b79_1, q79_30]
    exact hq0 _ T4 _ rfl ⟨a0, hf4, ⟨hs.1.1, hs.1.2.1, hs.1.2.2.1, hs.1.2.2.2.1, hs.1.2.2.2.2.1, hs.1.2.2.2.2.2.1, hs.1.2.2.2.2.2.2.1, hs.1.2.2.2.2.2.2.2.1, hs.1.2.2.2.2.2.2.2.2.1, hs.1.2.2.2.2.2.2.2.2.2.1, hs.1.2.2.2.2.2.2.2.2.2.2.1, hs.1.2.2.2.2.2.2.2.2.2.2.2.1, b1, hs.1.2.2.2.2.2.2.2.2.2.2.2.2.2⟩, hk4⟩
end SX2
