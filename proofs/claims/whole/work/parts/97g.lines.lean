/-! lines of a square: what they tell; of the class -/
abbrev PS : Type := SQ × NMs × Option Nat × Bool
abbrev PR : Type := Nat × Nat × PS
def nmU (nm : NMs) (c i : Nat) (l : List Nat) : NMs := fun c' i' => if c' = c ∧ i' = i then l else nm c' i'
theorem nmU_eq {nm : NMs} {c i : Nat} {l : List Nat} : nmU nm c i l c i = l := if_pos ⟨rfl, rfl⟩
theorem nmU_i {nm : NMs} {c i j : Nat} {l : List Nat} (h : ¬ j = i) : nmU nm c i l c j = nm c j := if_neg (fun z => h z.2)
theorem nmU_c {nm : NMs} {c c' i j : Nat} {l : List Nat} (h : ¬ c' = c) : nmU nm c i l c' j = nm c' j := if_neg (fun z => h z.1)
def addS (o : PS) (l : List Nat) : PS := (((k_nS o.1 + 1, k_nC o.1, k_nR o.1, k_nW o.1, k_nG o.1, k_sy o.1), o.1.2), nmU o.2.1 0 (k_nS o.1) l, o.2.2)
def addC (o : PS) (l : List Nat) (v : Nat) : PS := (((k_nS o.1, k_nC o.1 + 1, k_nR o.1, k_nW o.1, k_nG o.1, k_sy o.1), (up (k_cs o.1) (k_nC o.1) v, o.1.2.1.2), o.1.2.2), nmU o.2.1 1 (k_nC o.1) l, o.2.2)
def addR (o : PS) (a b c : Nat) : PS := (((k_nS o.1, k_nC o.1, k_nR o.1 + 1, k_nW o.1, k_nG o.1, k_sy o.1), (k_cs o.1, up (k_rm o.1) (k_nR o.1) a, up (k_rf o.1) (k_nR o.1) b, up (k_rs o.1) (k_nR o.1) c), o.1.2.2), o.2.1, o.2.2)
def setY (o : PS) (v : Nat) : PS := (((k_nS o.1, k_nC o.1, k_nR o.1, k_nW o.1, k_nG o.1, v), o.1.2), o.2.1, some v, o.2.2.2)
def PSok (o : PS) : Prop := k_ok o.1 ∧ nmok o.2.1 o.1 ∧ k_sy o.1 = o.2.2.1.getD 0 ∧ (∀ y, o.2.2.1 = some y → y < k_nS o.1)
def hasR (s : SQ) (a b c : Nat) : Bool := (ffl (fun r => decide (k_rm s r = a) && (decide (k_rf s r = b) && decide (k_rs s r = c))) (k_nR s)).isSome
def l_sort (tp : List Nat) (i : Nat) (o : PS) : PR := if 6 ≤ k_nS o.1 then (flt tp 5 i, i, o) else if c_new tp o.2.1 o.1 (i + 1) = 0 then (0, i + 2, addS o (LT tp (i + 1))) else (c_new tp o.2.1 o.1 (i + 1), i, o)
def l_col (tp : List Nat) (i : Nat) (o : PS) : PR := if 6 ≤ k_nC o.1 then (flt tp 5 i, i, o) else if c_new tp o.2.1 o.1 (i + 1) = 0 then (if wdB tp (i + 2) 2 = true then (if (c_named tp o.2.1 0 (k_nS o.1) (i + 3)).1 = 0 then (0, i + 4, addC o (LT tp (i + 1)) (c_named tp o.2.1 0 (k_nS o.1) (i + 3)).2) else ((c_named tp o.2.1 0 (k_nS o.1) (i + 3)).1, i, o)) else (flt tp 1 (i + 2), i, o)) else (c_new tp o.2.1 o.1 (i + 1), i, o)
def l_says (tp : List Nat) (i : Nat) (o : PS) : PR := if o.2.2.1.isSome = true then (flt tp 3 i, i, o) else if (c_named tp o.2.1 0 (k_nS o.1) (i + 1)).1 = 0 then (0, i + 2, setY o (c_named tp o.2.1 0 (k_nS o.1) (i + 1)).2) else ((c_named tp o.2.1 0 (k_nS o.1) (i + 1)).1, i, o)
def l_rule (tp : List Nat) (i : Nat) (o : PS) : PR := if 12 ≤ k_nR o.1 then (flt tp 5 i, i, o) else if (c_named tp o.2.1 0 (k_nS o.1) (i + 1)).1 = 0 then (if wdB tp (i + 2) 4 = true then (if (c_named tp o.2.1 0 (k_nS o.1) (i + 3)).1 = 0 then (if (c_named tp o.2.1 0 (k_nS o.1) (i + 4)).1 = 0 then (if hasR o.1 (c_named tp o.2.1 0 (k_nS o.1) (i + 1)).2 (c_named tp o.2.1 0 (k_nS o.1) (i + 3)).2 (c_named tp o.2.1 0 (k_nS o.1) (i + 4)).2 = true then (flt tp 3 (i + 4), i, o) else (0, i + 5, addR o (c_named tp o.2.1 0 (k_nS o.1) (i + 1)).2 (c_named tp o.2.1 0 (k_nS o.1) (i + 3)).2 (c_named tp o.2.1 0 (k_nS o.1) (i + 4)).2)) else ((c_named tp o.2.1 0 (k_nS o.1) (i + 4)).1, i, o)) else ((c_named tp o.2.1 0 (k_nS o.1) (i + 3)).1, i, o)) else (flt tp 1 (i + 2), i, o)) else ((c_named tp o.2.1 0 (k_nS o.1) (i + 1)).1, i, o)
theorem ok_addS {o : PS} {l : List Nat} (h : PSok o) (hn : k_nS o.1 < 6) (hl : wfl l) : PSok (addS o l) := by
  obtain ⟨⟨⟨a1, a2, a3, a4, a5⟩, b, c, e, f, g⟩, ⟨n1, n2, n3⟩, h3, h4⟩ := h
  refine ⟨⟨⟨by show k_nS o.1 + 1 ≤ 6; omega, a2, a3, a4, a5⟩, fun i hi => Nat.lt_succ_of_lt (b i hi), fun i hi => ⟨Nat.lt_succ_of_lt (c i hi).1, Nat.lt_succ_of_lt (c i hi).2.1, Nat.lt_succ_of_lt (c i hi).2.2⟩, e, f, g⟩, ⟨fun i hi => ?_, fun i hi => ?_, fun i hi => ?_⟩, h3, fun y hy => Nat.lt_succ_of_lt (h4 y hy)⟩
  · show wfl (nmU o.2.1 0 (k_nS o.1) l 0 i)
    by_cases e : i = k_nS o.1
    · subst e; rw [nmU_eq]; exact hl
    · rw [nmU_i e]; exact n1 i (by have : i < k_nS o.1 + 1 := hi; omega)
  · show wfl (nmU o.2.1 0 (k_nS o.1) l 1 i)
    rw [nmU_c (by omega)]; exact n2 i hi
  · show wfl (nmU o.2.1 0 (k_nS o.1) l 2 i)
    rw [nmU_c (by omega)]; exact n3 i hi
theorem ok_addC {o : PS} {l : List Nat} {v : Nat} (h : PSok o) (hn : k_nC o.1 < 6) (hl : wfl l) (hv : v < k_nS o.1) : PSok (addC o l v) := by
  obtain ⟨⟨⟨a1, a2, a3, a4, a5⟩, b, c, e, f, g⟩, ⟨n1, n2, n3⟩, h3, h4⟩ := h
  refine ⟨⟨⟨a1, by show k_nC o.1 + 1 ≤ 6; omega, a3, a4, a5⟩, fun i hi => ?_, c, fun w hw => ⟨(e w hw).1, Nat.lt_succ_of_lt (e w hw).2.1, (e w hw).2.2⟩, f, g⟩, ⟨fun i hi => ?_, fun i hi => ?_, fun i hi => ?_⟩, h3, h4⟩
  · show up (k_cs o.1) (k_nC o.1) v i < k_nS o.1
    by_cases e : i = k_nC o.1
    · subst e; rw [up_eq]; exact hv
    · rw [up_ne e]; exact b i (by have : i < k_nC o.1 + 1 := hi; omega)
  · show wfl (nmU o.2.1 1 (k_nC o.1) l 0 i)
    rw [nmU_c (by omega)]; exact n1 i hi
  · show wfl (nmU o.2.1 1 (k_nC o.1) l 1 i)
    by_cases e : i = k_nC o.1
    · subst e; rw [nmU_eq]; exact hl
    · rw [nmU_i e]; exact n2 i (by have : i < k_nC o.1 + 1 := hi; omega)
  · show wfl (nmU o.2.1 1 (k_nC o.1) l 2 i)
    rw [nmU_c (by omega)]; exact n3 i hi
theorem ok_addR {o : PS} {a b c : Nat} (h : PSok o) (hn : k_nR o.1 < 12) (ha : a < k_nS o.1) (hb : b < k_nS o.1) (hc : c < k_nS o.1) : PSok (addR o a b c) := by
  obtain ⟨⟨⟨a1, a2, a3, a4, a5⟩, b', c', e, f, g⟩, n, h3, h4⟩ := h
  refine ⟨⟨⟨a1, a2, by show k_nR o.1 + 1 ≤ 12; omega, a4, a5⟩, b', fun i hi => ?_, e, f, g⟩, n, h3, h4⟩
  show up (k_rm o.1) (k_nR o.1) a i < k_nS o.1 ∧ up (k_rf o.1) (k_nR o.1) b i < k_nS o.1 ∧ up (k_rs o.1) (k_nR o.1) c i < k_nS o.1
  by_cases e : i = k_nR o.1
  · subst e; rw [up_eq, up_eq, up_eq]; exact ⟨ha, hb, hc⟩
  · rw [up_ne e, up_ne e, up_ne e]; exact c' i (by have : i < k_nR o.1 + 1 := hi; omega)
theorem ok_setY {o : PS} {v : Nat} (h : PSok o) (hv : v < k_nS o.1) : PSok (setY o v) := by
  obtain ⟨⟨⟨a1, a2, a3, a4, a5⟩, b', c', e, f, g⟩, n, h3, h4⟩ := h
  exact ⟨⟨⟨a1, a2, a3, a4, a5⟩, b', c', e, f, by show v < 6; omega⟩, n, rfl, fun y hy => by cases hy; exact hv⟩
theorem c_named_lt {tp : List Nat} {nm : NMs} {c n i : Nat} (h : (c_named tp nm c n i).1 = 0) : (c_named tp nm c n i).2 < n := by
  unfold c_named at h ⊢
  split at h
  · rename_i e
    rw [if_pos e]
    split at h
    · exact absurd h (flt_ne (by omega))
    · rename_i v hv; exact fnd_lt hv
  · exact absurd h (flt_ne (by omega))
section LX
variable {fx : List Value → mm_H → Option (List Value × mm_H)} {z : Nat} {E M : Nat → mm_C} {sw c2 w2 : Bool} {T : px_T} {D : px_D} {S : px_S} {S1 : px_S} {K : px_K} {R : px_R} {C : px_C} {W : px_W} {U : px_U} {q : px_q} {q1 : px_q} {B0 : px_K} {B1 : px_K} {B2 : px_K} {B3 : px_K} {T_signs : List Int32} {T_length : Int32} {T_fault : Int32} {T_types : List Int32} {T_starts : List Int32} {T_values : List Int64} {T_tokens : Int32} {T_at : Int32} {T_behind : Int32} {S_hour : Int32} {S_open : Int32} {S_places : List Int32} {S1_hour : Int32} {S1_open : Int32} {S1_places : List Int32} {K_lines : List Int32} {K_lineCount : Int32} {K_wishes : List Int32} {K_wishCount : Int32} {K_sights : List Int32} {K_sightCount : Int32} {R_shown : List Int32} {R_length : Int32} {R_readers : Int32} {R_begins : List Int32} {R_lengths : List Int32} {R_sentences : Int32} {R_order : List Int32} {R_able : Int32} {R_standing : List Int32} {R_lovers : List Int32} {R_lowest : List Int32} {C_ways : List Int32} {C_rows : List Int32} {C_shallower : List Int32} {C_length : Int32} {C_goal : Int32} {W_row : List Int32} {W_walkers : Int32} {W_names : Int32} {W_wanted : List Int32} {W_shown : List Int32} {W_places : List Int32} {W_rest : List Int32} {W_spent : List Int32} {W_tried : List Int32} {U_undoRows : List Int64} {U_markScenes : List Int64} {U_marksLaid : List Int32} {U_undoCount : Int32} {U_undoEnd : Int32} {q_sortNames : List Int64} {q_sortCount : Int32} {q_colourNames : List Int64} {q_colourSorts : List Int32} {q_colourCount : Int32} {q_ruleMakes : List Int32} {q_ruleFirsts : List Int32} {q_ruleSeconds : List Int32} {q_ruleCount : Int32} {q_saysSort : Int32} {q_walkerNames : List Int64} {q_kinds : List Int32} {q_walkerColours : List Int32} {q_starts : List Int32} {q_stepRows : List Int32} {q_stepCounts : List Int32} {q_walkerCount : Int32} {q_gusts : List Int32} {q_gustCount : Int32} {q_parts : List Int32} {q_count : Int32} {q_stack : List Int32} {q_height : Int32} {q1_sortNames : List Int64} {q1_sortCount : Int32} {q1_colourNames : List Int64} {q1_colourSorts : List Int32} {q1_colourCount : Int32} {q1_ruleMakes : List Int32} {q1_ruleFirsts : List Int32} {q1_ruleSeconds : List Int32} {q1_ruleCount : Int32} {q1_saysSort : Int32} {q1_walkerNames : List Int64} {q1_kinds : List Int32} {q1_walkerColours : List Int32} {q1_starts : List Int32} {q1_stepRows : List Int32} {q1_stepCounts : List Int32} {q1_walkerCount : Int32} {q1_gusts : List Int32} {q1_gustCount : Int32} {q1_parts : List Int32} {q1_count : Int32} {q1_stack : List Int32} {q1_height : Int32} {B0_lines : List Int32} {B0_lineCount : Int32} {B0_wishes : List Int32} {B0_wishCount : Int32} {B0_sights : List Int32} {B0_sightCount : Int32} {B1_lines : List Int32} {B1_lineCount : Int32} {B1_wishes : List Int32} {B1_wishCount : Int32} {B1_sights : List Int32} {B1_sightCount : Int32} {B2_lines : List Int32} {B2_lineCount : Int32} {B2_wishes : List Int32} {B2_wishCount : Int32} {B2_sights : List Int32} {B2_sightCount : Int32} {B3_lines : List Int32} {B3_lineCount : Int32} {B3_wishes : List Int32} {B3_wishCount : Int32} {B3_sights : List Int32} {B3_sightCount : Int32}
variable {d : Nat} {Q : Option Value → mm_H → Prop} {tp : List Nat} {n k : Nat} {o : PS}
def QLx (q : px_q) : Prop := (q.1).length = 6 ∧ (q.2.2.1).length = 6 ∧ (q.2.2.2.1).length = 6 ∧ (q.2.2.2.2.2.1).length = 12 ∧ (q.2.2.2.2.2.2.1).length = 12 ∧ (q.2.2.2.2.2.2.2.1).length = 12 ∧ (q.2.2.2.2.2.2.2.2.2.2.1).length = 7 ∧ (q.2.2.2.2.2.2.2.2.2.2.2.1).length = 7 ∧ (q.2.2.2.2.2.2.2.2.2.2.2.2.1).length = 7 ∧ (q.2.2.2.2.2.2.2.2.2.2.2.2.2.2.1).length = 42 ∧ (q.2.2.2.2.2.2.2.2.2.2.2.2.2.2.2.1).length = 7 ∧ (q.2.2.2.2.2.2.2.2.2.2.2.2.2.2.2.2.2.1).length = 8 ∧ (q.2.2.2.2.2.2.2.2.2.2.2.2.2.2.2.2.2.2.2.1).length = 1000 ∧ (q.2.2.2.2.2.2.2.2.2.2.2.2.2.2.2.2.2.2.2.2.2.1).length = 32 ∧ rg q.2.2.2.2.2.2.2.2.2.2.2.2.2.1 7 10
def LDx (o : PS) (q : px_q) : Prop := ∃ m, m ≤ 1000 ∧ q.2.2.2.2.2.2.2.2.2.2.2.2.2.2.2.2.2.2.2.2.1 = nI m ∧ (o.2.2.2 = false ↔ m = 0) ∧ ∀ a b c f : Int32, if m = 0 then k_lw o.1 a b c f = f else lx_run a b c f ((q.2.2.2.2.2.2.2.2.2.2.2.2.2.2.2.2.2.2.2.1).take m) [] = some [k_lw o.1 a b c f]
def DRx (o : PS) (q : px_q) : Prop := SQx q o.1 ∧ NMx o.2.1 o.1 q ∧ q.2.2.2.2.2.2.2.2.2.1 = io o.2.2.1 ∧ LDx o q
def OKx (tp : List Nat) (n j : Nat) (o : PS) (T : px_T) (q : px_q) : Prop := TKx tp n j T ∧ T.2.2.1 = 0 ∧ DRx o q ∧ PSok o
def BDx (tp : List Nat) (n f : Nat) (T : px_T) (q : px_q) : Prop := ¬ f = 0 ∧ T.2.2.1 = nI f ∧ QLx q ∧ ∃ k, TKx tp n k T
theorem t_addSort (h : OKx tp n k o T q1) (hw : ¬ TY tp k = 0) (hq1 : ∀ j o' T' q', l_sort tp k o = (0, j, o') → OKx tp n j o' T' q' → Q (some (.int 1)) (px_h z E M (px_l sw c2 w2 (T') D S S1 K R C W U q (q') B0 B1 B2 B3))) (hq0 : ∀ f T' q', (l_sort tp k o).1 = f → BDx tp n f T' q' → Q (some (.int 0)) (px_h z E M (px_l sw c2 w2 (T') D S S1 K R C W U q (q') B0 B1 B2 B3))) : wm (mp_P fx) (d + 4) 53 [.ref 60, .ref (px_ta (!sw))] (px_h z E M (px_l sw c2 w2 T D S S1 K R C W U q q1 B0 B1 B2 B3)) Q := by
  obtain ⟨hT, hf, ⟨hs, hN, hy, hLD⟩, hP⟩ := id h
  obtain ⟨ho, hnm, hsy, hsl⟩ := id hP
  have h6 := ho.1.1
  have hll := hs.1.1
  unfold l_sort at hq1 hq0
  simp only [e53, b53_0, b53_1, bn_0 b53_0, bn_1 b53_1, q53_0, q53_1, q53_4r, q53_5, q53_6, q53_8, q53_11, q53_12, xc_q1, xg_q1_0, xg_q1_1, xs_q1_1, xg_q1_2, xg_q1_3, xg_q1_4, xs_q1_4, xg_q1_5, xg_q1_6, xg_q1_7, xg_q1_8, xs_q1_8, xg_q1_9, xs_q1_9, xg_q1_10, xg_q1_11, xg_q1_12, xg_q1_13, xg_q1_14, xg_q1_15, xg_q1_16, xs_q1_16, xg_q1_17, xg_q1_18, xs_q1_18, xg_q1_19, xa_q1_sortNames, xb_q1_sortNames, xn_q1_sortNames, xa_q1_colourNames, xb_q1_colourNames, xn_q1_colourNames, xa_q1_colourSorts, xb_q1_colourSorts, xn_q1_colourSorts, xa_q1_ruleMakes, xb_q1_ruleMakes, xn_q1_ruleMakes, xa_q1_ruleFirsts, xb_q1_ruleFirsts, xn_q1_ruleFirsts, xa_q1_ruleSeconds, xb_q1_ruleSeconds, xn_q1_ruleSeconds, xa_q1_walkerNames, xb_q1_walkerNames, xn_q1_walkerNames, xa_q1_kinds, xb_q1_kinds, xn_q1_kinds, xa_q1_walkerColours, xb_q1_walkerColours, xn_q1_walkerColours, xa_q1_starts, xb_q1_starts, xn_q1_starts, xa_q1_stepRows, xb_q1_stepRows, xn_q1_stepRows, xa_q1_stepCounts, xb_q1_stepCounts, xn_q1_stepCounts, xa_q1_gusts, xb_q1_gusts, xn_q1_gusts, xc_q1l, xg_q1l_0, xg_q1l_1, xs_q1l_1, xg_q1l_2, xg_q1l_3, xs_q1l_3, xa_q1_parts, xb_q1_parts, xn_q1_parts, xa_q1_stack, xb_q1_stack, xn_q1_stack, wx_some, wx_ref, isl_i, isl_r, isl_n, hs.2.1.1]
  by_cases e6 : 6 ≤ k_nS o.1
  · rw [if_pos e6] at hq0
    rw [if_neg (by rw [nl_6, nI_ltI (by omega) (by omega)]; omega)]
    simp only [b53_0, b53_1, bn_0 b53_0, bn_1 b53_1, q53_13, xc_T, xg_T_0, xg_T_1, xs_T_1, xg_T_2, xs_T_2, xg_T_3, xg_T_4, xg_T_5, xg_T_6, xs_T_6, xg_T_7, xs_T_7, xg_T_8, xs_T_8, xa_T_signs, xb_T_signs, xn_T_signs, xa_T_types, xb_T_types, xn_T_types, xa_T_starts, xb_T_starts, xn_T_starts, xa_T_values, xb_T_values, xn_T_values]
    apply t_refuse (kd := 5) hT
    intro T' h2 h3
    simp only [sl_i, b53_0, b53_1, bn_0 b53_0, bn_1 b53_1, q53_16]
    exact hq0 _ T' q1 rfl ⟨flt_ne (by omega), h3, hs.1, k, h2⟩
  rw [if_neg e6] at hq1 hq0
  rw [if_pos (by rw [nl_6, nI_ltI (by omega) (by omega)]; omega)]
  simp only [b53_0, b53_1, bn_0 b53_0, bn_1 b53_1, q53_17, q53_18, xc_T, xg_T_0, xg_T_1, xs_T_1, xg_T_2, xs_T_2, xg_T_3, xg_T_4, xg_T_5, xg_T_6, xs_T_6, xg_T_7, xs_T_7, xg_T_8, xs_T_8, xa_T_signs, xb_T_signs, xn_T_signs, xa_T_types, xb_T_types, xn_T_types, xa_T_starts, xb_T_starts, xn_T_starts, xa_T_values, xb_T_values, xn_T_values]
  apply t_pass hT hw
  intro hT1
  simp only [sl_i, b53_0, b53_1, bn_0 b53_0, bn_1 b53_1, q53_21, q53_22, q53_23, q53_24]
  apply t_newName hT1 hs ho hN hnm
  · intro y1 y2
    rw [if_pos y2] at hq1
    simp only [sl_i, b53_0, b53_1, bn_0 b53_0, bn_1 b53_1, q53_27, b53_0, b53_1, bn_0 b53_0, bn_1 b53_1, q53_32, q53_33, q53_36, q53_37, xc_q1, xg_q1_0, xg_q1_1, xs_q1_1, xg_q1_2, xg_q1_3, xg_q1_4, xs_q1_4, xg_q1_5, xg_q1_6, xg_q1_7, xg_q1_8, xs_q1_8, xg_q1_9, xs_q1_9, xg_q1_10, xg_q1_11, xg_q1_12, xg_q1_13, xg_q1_14, xg_q1_15, xg_q1_16, xs_q1_16, xg_q1_17, xg_q1_18, xs_q1_18, xg_q1_19, xa_q1_sortNames, xb_q1_sortNames, xn_q1_sortNames, xa_q1_colourNames, xb_q1_colourNames, xn_q1_colourNames, xa_q1_colourSorts, xb_q1_colourSorts, xn_q1_colourSorts, xa_q1_ruleMakes, xb_q1_ruleMakes, xn_q1_ruleMakes, xa_q1_ruleFirsts, xb_q1_ruleFirsts, xn_q1_ruleFirsts, xa_q1_ruleSeconds, xb_q1_ruleSeconds, xn_q1_ruleSeconds, xa_q1_walkerNames, xb_q1_walkerNames, xn_q1_walkerNames, xa_q1_kinds, xb_q1_kinds, xn_q1_kinds, xa_q1_walkerColours, xb_q1_walkerColours, xn_q1_walkerColours, xa_q1_starts, xb_q1_starts, xn_q1_starts, xa_q1_stepRows, xb_q1_stepRows, xn_q1_stepRows, xa_q1_stepCounts, xb_q1_stepCounts, xn_q1_stepCounts, xa_q1_gusts, xb_q1_gusts, xn_q1_gusts, xc_q1l, xg_q1l_0, xg_q1l_1, xs_q1l_1, xg_q1l_2, xg_q1l_3, xs_q1l_3, xa_q1_parts, xb_q1_parts, xn_q1_parts, xa_q1_stack, xb_q1_stack, xn_q1_stack, wx_some, wx_ref]
    rw [if_pos (by decide)]
    simp only [b53_0, b53_1, bn_0 b53_0, bn_1 b53_1, q53_38, xc_T, xg_T_0, xg_T_1, xs_T_1, xg_T_2, xs_T_2, xg_T_3, xg_T_4, xg_T_5, xg_T_6, xs_T_6, xg_T_7, xs_T_7, xg_T_8, xs_T_8, xa_T_signs, xb_T_signs, xn_T_signs, xa_T_types, xb_T_types, xn_T_types, xa_T_starts, xb_T_starts, xn_T_starts, xa_T_values, xb_T_values, xn_T_values]
    apply t_word hT1 y1.1
    simp only [sl_i, b53_0, b53_1, bn_0 b53_0, bn_1 b53_1, q53_41, q53_42, q53_43, q53_44, q53_47, q53_48, q53_49, q53_52, xc_q1, xg_q1_0, xg_q1_1, xs_q1_1, xg_q1_2, xg_q1_3, xg_q1_4, xs_q1_4, xg_q1_5, xg_q1_6, xg_q1_7, xg_q1_8, xs_q1_8, xg_q1_9, xs_q1_9, xg_q1_10, xg_q1_11, xg_q1_12, xg_q1_13, xg_q1_14, xg_q1_15, xg_q1_16, xs_q1_16, xg_q1_17, xg_q1_18, xs_q1_18, xg_q1_19, xa_q1_sortNames, xb_q1_sortNames, xn_q1_sortNames, xa_q1_colourNames, xb_q1_colourNames, xn_q1_colourNames, xa_q1_colourSorts, xb_q1_colourSorts, xn_q1_colourSorts, xa_q1_ruleMakes, xb_q1_ruleMakes, xn_q1_ruleMakes, xa_q1_ruleFirsts, xb_q1_ruleFirsts, xn_q1_ruleFirsts, xa_q1_ruleSeconds, xb_q1_ruleSeconds, xn_q1_ruleSeconds, xa_q1_walkerNames, xb_q1_walkerNames, xn_q1_walkerNames, xa_q1_kinds, xb_q1_kinds, xn_q1_kinds, xa_q1_walkerColours, xb_q1_walkerColours, xn_q1_walkerColours, xa_q1_starts, xb_q1_starts, xn_q1_starts, xa_q1_stepRows, xb_q1_stepRows, xn_q1_stepRows, xa_q1_stepCounts, xb_q1_stepCounts, xn_q1_stepCounts, xa_q1_gusts, xb_q1_gusts, xn_q1_gusts, xc_q1l, xg_q1l_0, xg_q1l_1, xs_q1l_1, xg_q1l_2, xg_q1l_3, xs_q1l_3, xa_q1_parts, xb_q1_parts, xn_q1_parts, xa_q1_stack, xb_q1_stack, xn_q1_stack, wx_some, wx_ref, hs.2.1.1, nI_1, aS_n (show k_nS o.1 < (q1.1).length by omega) (show (q1.1).length < 2 ^ 31 by omega)]
    simp only [b53_0, b53_1, bn_0 b53_0, bn_1 b53_1, q53_53, xc_T, xg_T_0, xg_T_1, xs_T_1, xg_T_2, xs_T_2, xg_T_3, xg_T_4, xg_T_5, xg_T_6, xs_T_6, xg_T_7, xs_T_7, xg_T_8, xs_T_8, xa_T_signs, xb_T_signs, xn_T_signs, xa_T_types, xb_T_types, xn_T_types, xa_T_starts, xb_T_starts, xn_T_starts, xa_T_values, xb_T_values, xn_T_values]
    apply t_pass hT1 (by rw [y1.1]; decide)
    intro hT2
    simp only [sl_i, b53_0, b53_1, bn_0 b53_0, bn_1 b53_1, q53_56]
    refine hq1 _ _ _ ((q1.1).set (k_nS o.1) (w_x (LT tp (k + 1))), nI (k_nS o.1 + 1), q1.2.2.1, q1.2.2.2.1, q1.2.2.2.2.1, q1.2.2.2.2.2.1, q1.2.2.2.2.2.2.1, q1.2.2.2.2.2.2.2.1, q1.2.2.2.2.2.2.2.2.1, q1.2.2.2.2.2.2.2.2.2.1, q1.2.2.2.2.2.2.2.2.2.2.1, q1.2.2.2.2.2.2.2.2.2.2.2.1, q1.2.2.2.2.2.2.2.2.2.2.2.2.1, q1.2.2.2.2.2.2.2.2.2.2.2.2.2.1, q1.2.2.2.2.2.2.2.2.2.2.2.2.2.2.1, q1.2.2.2.2.2.2.2.2.2.2.2.2.2.2.2.1, q1.2.2.2.2.2.2.2.2.2.2.2.2.2.2.2.2.1, q1.2.2.2.2.2.2.2.2.2.2.2.2.2.2.2.2.2.1, q1.2.2.2.2.2.2.2.2.2.2.2.2.2.2.2.2.2.2.1, q1.2.2.2.2.2.2.2.2.2.2.2.2.2.2.2.2.2.2.2.1, q1.2.2.2.2.2.2.2.2.2.2.2.2.2.2.2.2.2.2.2.2.1, q1.2.2.2.2.2.2.2.2.2.2.2.2.2.2.2.2.2.2.2.2.2.1, q1.2.2.2.2.2.2.2.2.2.2.2.2.2.2.2.2.2.2.2.2.2.2) rfl ⟨hT2, hf, ⟨⟨⟨by show (List.set _ _ _).length = 6; rw [List.length_set]; exact hll, hs.1.2⟩, ⟨rfl, hs.2.1.2⟩, hs.2.2⟩, ⟨fun i hi => ?_, fun i hi => ?_, fun i hi => ?_⟩, hy, hLD⟩, ok_addS hP (by omega) (isNm_wf y1)⟩
    · show ((q1.1).set (k_nS o.1) (w_x (LT tp (k + 1))))[i]? = some (w_x (nmU o.2.1 0 (k_nS o.1) (LT tp (k + 1)) 0 i))
      by_cases e : i = k_nS o.1
      · subst e; rw [nmU_eq, List.getElem?_set_self (by omega)]
      · rw [nmU_i e, List.getElem?_set_ne (by omega)]; exact hN.1 i (by have : i < k_nS o.1 + 1 := hi; omega)
    · show _ = some (w_x (nmU o.2.1 0 (k_nS o.1) (LT tp (k + 1)) 1 i))
      rw [nmU_c (by omega)]; exact hN.2.1 i hi
    · show _ = some (w_x (nmU o.2.1 0 (k_nS o.1) (LT tp (k + 1)) 2 i))
      rw [nmU_c (by omega)]; exact hN.2.2 i hi
  · intro T' f y1 y2 y3 y4
    rw [if_neg (by rw [y1]; exact y2)] at hq0
    simp only [sl_i, b53_0, b53_1, bn_0 b53_0, bn_1 b53_1, q53_27, q53_30, q53_31]
    rw [if_neg (by decide)]
    exact hq0 f T' q1 y1 ⟨y2, y4, hs.1, _, y3⟩
theorem t_addSays (h : OKx tp n k o T q1) (hw : ¬ TY tp k = 0) (hq1 : ∀ j o' T' q', l_says tp k o = (0, j, o') → OKx tp n j o' T' q' → Q (some (.int 1)) (px_h z E M (px_l sw c2 w2 (T') D S S1 K R C W U q (q') B0 B1 B2 B3))) (hq0 : ∀ f T' q', (l_says tp k o).1 = f → BDx tp n f T' q' → Q (some (.int 0)) (px_h z E M (px_l sw c2 w2 (T') D S S1 K R C W U q (q') B0 B1 B2 B3))) : wm (mp_P fx) (d + 4) 69 [.ref 60, .ref (px_ta (!sw))] (px_h z E M (px_l sw c2 w2 T D S S1 K R C W U q q1 B0 B1 B2 B3)) Q := by
  obtain ⟨hT, hf, ⟨hs, hN, hy, hLD⟩, hP⟩ := id h
  obtain ⟨ho, hnm, hsy, hsl⟩ := id hP
  have h6 := ho.1.1
  unfold l_says at hq1 hq0
  simp only [e69, b69_0, b69_1, bn_0 b69_0, bn_1 b69_1, q69_0, q69_1, q69_4, q69_5, q69_8, q69_9, xc_q1, xg_q1_0, xg_q1_1, xs_q1_1, xg_q1_2, xg_q1_3, xg_q1_4, xs_q1_4, xg_q1_5, xg_q1_6, xg_q1_7, xg_q1_8, xs_q1_8, xg_q1_9, xs_q1_9, xg_q1_10, xg_q1_11, xg_q1_12, xg_q1_13, xg_q1_14, xg_q1_15, xg_q1_16, xs_q1_16, xg_q1_17, xg_q1_18, xs_q1_18, xg_q1_19, xa_q1_sortNames, xb_q1_sortNames, xn_q1_sortNames, xa_q1_colourNames, xb_q1_colourNames, xn_q1_colourNames, xa_q1_colourSorts, xb_q1_colourSorts, xn_q1_colourSorts, xa_q1_ruleMakes, xb_q1_ruleMakes, xn_q1_ruleMakes, xa_q1_ruleFirsts, xb_q1_ruleFirsts, xn_q1_ruleFirsts, xa_q1_ruleSeconds, xb_q1_ruleSeconds, xn_q1_ruleSeconds, xa_q1_walkerNames, xb_q1_walkerNames, xn_q1_walkerNames, xa_q1_kinds, xb_q1_kinds, xn_q1_kinds, xa_q1_walkerColours, xb_q1_walkerColours, xn_q1_walkerColours, xa_q1_starts, xb_q1_starts, xn_q1_starts, xa_q1_stepRows, xb_q1_stepRows, xn_q1_stepRows, xa_q1_stepCounts, xb_q1_stepCounts, xn_q1_stepCounts, xa_q1_gusts, xb_q1_gusts, xn_q1_gusts, xc_q1l, xg_q1l_0, xg_q1l_1, xs_q1l_1, xg_q1l_2, xg_q1l_3, xs_q1l_3, xa_q1_parts, xb_q1_parts, xn_q1_parts, xa_q1_stack, xb_q1_stack, xn_q1_stack, wx_some, wx_ref, isl_i, isl_r, isl_n, hy]
  cases e6 : o.2.2.1 with
  | some y =>
    have := hsl y e6
    rw [e6, if_pos (show (some y).isSome = true from rfl)] at hq0
    rw [if_neg (io_some_ne (by omega))]
    simp only [b69_0, b69_1, bn_0 b69_0, bn_1 b69_1, q69_10, xc_T, xg_T_0, xg_T_1, xs_T_1, xg_T_2, xs_T_2, xg_T_3, xg_T_4, xg_T_5, xg_T_6, xs_T_6, xg_T_7, xs_T_7, xg_T_8, xs_T_8, xa_T_signs, xb_T_signs, xn_T_signs, xa_T_types, xb_T_types, xn_T_types, xa_T_starts, xb_T_starts, xn_T_starts, xa_T_values, xb_T_values, xn_T_values]
    apply t_refuse (kd := 3) hT
    intro T' h2 h3
    simp only [sl_i, b69_0, b69_1, bn_0 b69_0, bn_1 b69_1, q69_13]
    exact hq0 _ T' q1 rfl ⟨flt_ne (by omega), h3, hs.1, k, h2⟩
  | none =>
  rw [e6, if_neg (fun z => by cases z)] at hq1 hq0
  rw [if_pos (show io none = -1 from rfl)]
  simp only [b69_0, b69_1, bn_0 b69_0, bn_1 b69_1, q69_14, q69_15, xc_T, xg_T_0, xg_T_1, xs_T_1, xg_T_2, xs_T_2, xg_T_3, xg_T_4, xg_T_5, xg_T_6, xs_T_6, xg_T_7, xs_T_7, xg_T_8, xs_T_8, xa_T_signs, xb_T_signs, xn_T_signs, xa_T_types, xb_T_types, xn_T_types, xa_T_starts, xb_T_starts, xn_T_starts, xa_T_values, xb_T_values, xn_T_values]
  apply t_pass hT hw
  intro hT1
  simp only [sl_i, b69_0, b69_1, bn_0 b69_0, bn_1 b69_1, q69_18, q69_19, q69_20, q69_21]
  apply t_checkSort hT1 hs ho hN hnm
  · intro y1 v y2 y3
    have hv := fnd_lt y2
    rw [y3, if_pos rfl] at hq1
    simp only [sl_i, b69_0, b69_1, bn_0 b69_0, bn_1 b69_1, q69_24, b69_0, b69_1, bn_0 b69_0, bn_1 b69_1, q69_29, q69_30, q69_31]
    rw [if_pos (by decide)]
    simp only [b69_0, b69_1, bn_0 b69_0, bn_1 b69_1, q69_32, xc_T, xg_T_0, xg_T_1, xs_T_1, xg_T_2, xs_T_2, xg_T_3, xg_T_4, xg_T_5, xg_T_6, xs_T_6, xg_T_7, xs_T_7, xg_T_8, xs_T_8, xa_T_signs, xb_T_signs, xn_T_signs, xa_T_types, xb_T_types, xn_T_types, xa_T_starts, xb_T_starts, xn_T_starts, xa_T_values, xb_T_values, xn_T_values]
    apply t_word hT1 y1.1
    simp only [sl_i, b69_0, b69_1, bn_0 b69_0, bn_1 b69_1, q69_35, xc_q1, xg_q1_0, xg_q1_1, xs_q1_1, xg_q1_2, xg_q1_3, xg_q1_4, xs_q1_4, xg_q1_5, xg_q1_6, xg_q1_7, xg_q1_8, xs_q1_8, xg_q1_9, xs_q1_9, xg_q1_10, xg_q1_11, xg_q1_12, xg_q1_13, xg_q1_14, xg_q1_15, xg_q1_16, xs_q1_16, xg_q1_17, xg_q1_18, xs_q1_18, xg_q1_19, xa_q1_sortNames, xb_q1_sortNames, xn_q1_sortNames, xa_q1_colourNames, xb_q1_colourNames, xn_q1_colourNames, xa_q1_colourSorts, xb_q1_colourSorts, xn_q1_colourSorts, xa_q1_ruleMakes, xb_q1_ruleMakes, xn_q1_ruleMakes, xa_q1_ruleFirsts, xb_q1_ruleFirsts, xn_q1_ruleFirsts, xa_q1_ruleSeconds, xb_q1_ruleSeconds, xn_q1_ruleSeconds, xa_q1_walkerNames, xb_q1_walkerNames, xn_q1_walkerNames, xa_q1_kinds, xb_q1_kinds, xn_q1_kinds, xa_q1_walkerColours, xb_q1_walkerColours, xn_q1_walkerColours, xa_q1_starts, xb_q1_starts, xn_q1_starts, xa_q1_stepRows, xb_q1_stepRows, xn_q1_stepRows, xa_q1_stepCounts, xb_q1_stepCounts, xn_q1_stepCounts, xa_q1_gusts, xb_q1_gusts, xn_q1_gusts, xc_q1l, xg_q1l_0, xg_q1l_1, xs_q1l_1, xg_q1l_2, xg_q1l_3, xs_q1l_3, xa_q1_parts, xb_q1_parts, xn_q1_parts, xa_q1_stack, xb_q1_stack, xn_q1_stack]
    apply t_sortNamedq1 hs ho hN hnm (isNm_wf y1)
    simp only [sl_i, b69_0, b69_1, bn_0 b69_0, bn_1 b69_1, q69_38, q69_41, xc_q1, xg_q1_0, xg_q1_1, xs_q1_1, xg_q1_2, xg_q1_3, xg_q1_4, xs_q1_4, xg_q1_5, xg_q1_6, xg_q1_7, xg_q1_8, xs_q1_8, xg_q1_9, xs_q1_9, xg_q1_10, xg_q1_11, xg_q1_12, xg_q1_13, xg_q1_14, xg_q1_15, xg_q1_16, xs_q1_16, xg_q1_17, xg_q1_18, xs_q1_18, xg_q1_19, xa_q1_sortNames, xb_q1_sortNames, xn_q1_sortNames, xa_q1_colourNames, xb_q1_colourNames, xn_q1_colourNames, xa_q1_colourSorts, xb_q1_colourSorts, xn_q1_colourSorts, xa_q1_ruleMakes, xb_q1_ruleMakes, xn_q1_ruleMakes, xa_q1_ruleFirsts, xb_q1_ruleFirsts, xn_q1_ruleFirsts, xa_q1_ruleSeconds, xb_q1_ruleSeconds, xn_q1_ruleSeconds, xa_q1_walkerNames, xb_q1_walkerNames, xn_q1_walkerNames, xa_q1_kinds, xb_q1_kinds, xn_q1_kinds, xa_q1_walkerColours, xb_q1_walkerColours, xn_q1_walkerColours, xa_q1_starts, xb_q1_starts, xn_q1_starts, xa_q1_stepRows, xb_q1_stepRows, xn_q1_stepRows, xa_q1_stepCounts, xb_q1_stepCounts, xn_q1_stepCounts, xa_q1_gusts, xb_q1_gusts, xn_q1_gusts, xc_q1l, xg_q1l_0, xg_q1l_1, xs_q1l_1, xg_q1l_2, xg_q1l_3, xs_q1l_3, xa_q1_parts, xb_q1_parts, xn_q1_parts, xa_q1_stack, xb_q1_stack, xn_q1_stack, wx_some, wx_ref, y2]
    simp only [b69_0, b69_1, bn_0 b69_0, bn_1 b69_1, q69_42, xc_T, xg_T_0, xg_T_1, xs_T_1, xg_T_2, xs_T_2, xg_T_3, xg_T_4, xg_T_5, xg_T_6, xs_T_6, xg_T_7, xs_T_7, xg_T_8, xs_T_8, xa_T_signs, xb_T_signs, xn_T_signs, xa_T_types, xb_T_types, xn_T_types, xa_T_starts, xb_T_starts, xn_T_starts, xa_T_values, xb_T_values, xn_T_values]
    apply t_pass hT1 (by rw [y1.1]; decide)
    intro hT2
    simp only [sl_i, b69_0, b69_1, bn_0 b69_0, bn_1 b69_1, q69_45]
    refine hq1 _ _ _ (q1.1, q1.2.1, q1.2.2.1, q1.2.2.2.1, q1.2.2.2.2.1, q1.2.2.2.2.2.1, q1.2.2.2.2.2.2.1, q1.2.2.2.2.2.2.2.1, q1.2.2.2.2.2.2.2.2.1, io (some v), q1.2.2.2.2.2.2.2.2.2.2.1, q1.2.2.2.2.2.2.2.2.2.2.2.1, q1.2.2.2.2.2.2.2.2.2.2.2.2.1, q1.2.2.2.2.2.2.2.2.2.2.2.2.2.1, q1.2.2.2.2.2.2.2.2.2.2.2.2.2.2.1, q1.2.2.2.2.2.2.2.2.2.2.2.2.2.2.2.1, q1.2.2.2.2.2.2.2.2.2.2.2.2.2.2.2.2.1, q1.2.2.2.2.2.2.2.2.2.2.2.2.2.2.2.2.2.1, q1.2.2.2.2.2.2.2.2.2.2.2.2.2.2.2.2.2.2.1, q1.2.2.2.2.2.2.2.2.2.2.2.2.2.2.2.2.2.2.2.1, q1.2.2.2.2.2.2.2.2.2.2.2.2.2.2.2.2.2.2.2.2.1, q1.2.2.2.2.2.2.2.2.2.2.2.2.2.2.2.2.2.2.2.2.2.1, q1.2.2.2.2.2.2.2.2.2.2.2.2.2.2.2.2.2.2.2.2.2.2) rfl ⟨hT2, hf, ⟨⟨hs.1, hs.2.1, hs.2.2.1, ?_, hs.2.2.2.2⟩, hN, rfl, hLD⟩, ok_setY hP hv⟩
    show (if io (some v) = -1 then 0 else io (some v)) = nI v
    rw [if_neg (io_some_ne (by omega))]; rfl
  · intro T' f y1 y2 y3 y4
    rw [if_neg (by rw [y1]; exact y2)] at hq0
    simp only [sl_i, b69_0, b69_1, bn_0 b69_0, bn_1 b69_1, q69_24, q69_27, q69_28]
    rw [if_neg (by decide)]
    exact hq0 f T' q1 y1 ⟨y2, y4, hs.1, _, y3⟩
theorem t_addColour (hE : ELt E) (h : OKx tp n k o T q1) (hw : ¬ TY tp k = 0) (hq1 : ∀ j o' T' q', l_col tp k o = (0, j, o') → OKx tp n j o' T' q' → Q (some (.int 1)) (px_h z E M (px_l sw c2 w2 (T') D S S1 K R C W U q (q') B0 B1 B2 B3))) (hq0 : ∀ f T' q', (l_col tp k o).1 = f → BDx tp n f T' q' → Q (some (.int 0)) (px_h z E M (px_l sw c2 w2 (T') D S S1 K R C W U q (q') B0 B1 B2 B3))) : wm (mp_P fx) (d + 5) 64 [.ref 60, .ref (px_ta (!sw))] (px_h z E M (px_l sw c2 w2 T D S S1 K R C W U q q1 B0 B1 B2 B3)) Q := by
  obtain ⟨hT, hf, ⟨hs, hN, hy, hLD⟩, hP⟩ := id h
  obtain ⟨ho, hnm, hsy, hsl⟩ := id hP
  have h6 := ho.1.2.1
  have h61 := ho.1.1
  have hll := hs.1.2.1
  have hll2 := hs.1.2.2.1
  unfold l_col at hq1 hq0
  simp only [e64, b64_0, b64_1, bn_0 b64_0, bn_1 b64_1, q64_0, q64_1, q64_4r, q64_5, q64_6, q64_8, q64_11, q64_12, xc_q1, xg_q1_0, xg_q1_1, xs_q1_1, xg_q1_2, xg_q1_3, xg_q1_4, xs_q1_4, xg_q1_5, xg_q1_6, xg_q1_7, xg_q1_8, xs_q1_8, xg_q1_9, xs_q1_9, xg_q1_10, xg_q1_11, xg_q1_12, xg_q1_13, xg_q1_14, xg_q1_15, xg_q1_16, xs_q1_16, xg_q1_17, xg_q1_18, xs_q1_18, xg_q1_19, xa_q1_sortNames, xb_q1_sortNames, xn_q1_sortNames, xa_q1_colourNames, xb_q1_colourNames, xn_q1_colourNames, xa_q1_colourSorts, xb_q1_colourSorts, xn_q1_colourSorts, xa_q1_ruleMakes, xb_q1_ruleMakes, xn_q1_ruleMakes, xa_q1_ruleFirsts, xb_q1_ruleFirsts, xn_q1_ruleFirsts, xa_q1_ruleSeconds, xb_q1_ruleSeconds, xn_q1_ruleSeconds, xa_q1_walkerNames, xb_q1_walkerNames, xn_q1_walkerNames, xa_q1_kinds, xb_q1_kinds, xn_q1_kinds, xa_q1_walkerColours, xb_q1_walkerColours, xn_q1_walkerColours, xa_q1_starts, xb_q1_starts, xn_q1_starts, xa_q1_stepRows, xb_q1_stepRows, xn_q1_stepRows, xa_q1_stepCounts, xb_q1_stepCounts, xn_q1_stepCounts, xa_q1_gusts, xb_q1_gusts, xn_q1_gusts, xc_q1l, xg_q1l_0, xg_q1l_1, xs_q1l_1, xg_q1l_2, xg_q1l_3, xs_q1l_3, xa_q1_parts, xb_q1_parts, xn_q1_parts, xa_q1_stack, xb_q1_stack, xn_q1_stack, wx_some, wx_ref, isl_i, isl_r, isl_n, hs.2.1.2.1]
  by_cases e6 : 6 ≤ k_nC o.1
  · rw [if_pos e6] at hq0
    rw [if_neg (by rw [nl_6, nI_ltI (by omega) (by omega)]; omega)]
    simp only [b64_0, b64_1, bn_0 b64_0, bn_1 b64_1, q64_13, xc_T, xg_T_0, xg_T_1, xs_T_1, xg_T_2, xs_T_2, xg_T_3, xg_T_4, xg_T_5, xg_T_6, xs_T_6, xg_T_7, xs_T_7, xg_T_8, xs_T_8, xa_T_signs, xb_T_signs, xn_T_signs, xa_T_types, xb_T_types, xn_T_types, xa_T_starts, xb_T_starts, xn_T_starts, xa_T_values, xb_T_values, xn_T_values]
    apply t_refuse (kd := 5) hT
    intro T' h2 h3
    simp only [sl_i, b64_0, b64_1, bn_0 b64_0, bn_1 b64_1, q64_16]
    exact hq0 _ T' q1 rfl ⟨flt_ne (by omega), h3, hs.1, k, h2⟩
  rw [if_neg e6] at hq1 hq0
  rw [if_pos (by rw [nl_6, nI_ltI (by omega) (by omega)]; omega)]
  simp only [b64_0, b64_1, bn_0 b64_0, bn_1 b64_1, q64_17, q64_18, xc_T, xg_T_0, xg_T_1, xs_T_1, xg_T_2, xs_T_2, xg_T_3, xg_T_4, xg_T_5, xg_T_6, xs_T_6, xg_T_7, xs_T_7, xg_T_8, xs_T_8, xa_T_signs, xb_T_signs, xn_T_signs, xa_T_types, xb_T_types, xn_T_types, xa_T_starts, xb_T_starts, xn_T_starts, xa_T_values, xb_T_values, xn_T_values]
  apply t_pass hT hw
  intro hT1
  simp only [sl_i, b64_0, b64_1, bn_0 b64_0, bn_1 b64_1, q64_21, q64_22, q64_23, q64_24]
  apply t_newName hT1 hs ho hN hnm
  · intro y1 y2
    rw [if_pos y2] at hq1 hq0
    simp only [sl_i, b64_0, b64_1, bn_0 b64_0, bn_1 b64_1, q64_27, b64_0, b64_1, bn_0 b64_0, bn_1 b64_1, q64_32, q64_33, q64_36, q64_37, xc_q1, xg_q1_0, xg_q1_1, xs_q1_1, xg_q1_2, xg_q1_3, xg_q1_4, xs_q1_4, xg_q1_5, xg_q1_6, xg_q1_7, xg_q1_8, xs_q1_8, xg_q1_9, xs_q1_9, xg_q1_10, xg_q1_11, xg_q1_12, xg_q1_13, xg_q1_14, xg_q1_15, xg_q1_16, xs_q1_16, xg_q1_17, xg_q1_18, xs_q1_18, xg_q1_19, xa_q1_sortNames, xb_q1_sortNames, xn_q1_sortNames, xa_q1_colourNames, xb_q1_colourNames, xn_q1_colourNames, xa_q1_colourSorts, xb_q1_colourSorts, xn_q1_colourSorts, xa_q1_ruleMakes, xb_q1_ruleMakes, xn_q1_ruleMakes, xa_q1_ruleFirsts, xb_q1_ruleFirsts, xn_q1_ruleFirsts, xa_q1_ruleSeconds, xb_q1_ruleSeconds, xn_q1_ruleSeconds, xa_q1_walkerNames, xb_q1_walkerNames, xn_q1_walkerNames, xa_q1_kinds, xb_q1_kinds, xn_q1_kinds, xa_q1_walkerColours, xb_q1_walkerColours, xn_q1_walkerColours, xa_q1_starts, xb_q1_starts, xn_q1_starts, xa_q1_stepRows, xb_q1_stepRows, xn_q1_stepRows, xa_q1_stepCounts, xb_q1_stepCounts, xn_q1_stepCounts, xa_q1_gusts, xb_q1_gusts, xn_q1_gusts, xc_q1l, xg_q1l_0, xg_q1l_1, xs_q1l_1, xg_q1l_2, xg_q1l_3, xs_q1l_3, xa_q1_parts, xb_q1_parts, xn_q1_parts, xa_q1_stack, xb_q1_stack, xn_q1_stack, wx_some, wx_ref]
    rw [if_pos (by decide)]
    simp only [b64_0, b64_1, bn_0 b64_0, bn_1 b64_1, q64_38, xc_T, xg_T_0, xg_T_1, xs_T_1, xg_T_2, xs_T_2, xg_T_3, xg_T_4, xg_T_5, xg_T_6, xs_T_6, xg_T_7, xs_T_7, xg_T_8, xs_T_8, xa_T_signs, xb_T_signs, xn_T_signs, xa_T_types, xb_T_types, xn_T_types, xa_T_starts, xb_T_starts, xn_T_starts, xa_T_values, xb_T_values, xn_T_values]
    apply t_word hT1 y1.1
    simp only [sl_i, b64_0, b64_1, bn_0 b64_0, bn_1 b64_1, q64_41, q64_42, xc_q1, xg_q1_0, xg_q1_1, xs_q1_1, xg_q1_2, xg_q1_3, xg_q1_4, xs_q1_4, xg_q1_5, xg_q1_6, xg_q1_7, xg_q1_8, xs_q1_8, xg_q1_9, xs_q1_9, xg_q1_10, xg_q1_11, xg_q1_12, xg_q1_13, xg_q1_14, xg_q1_15, xg_q1_16, xs_q1_16, xg_q1_17, xg_q1_18, xs_q1_18, xg_q1_19, xa_q1_sortNames, xb_q1_sortNames, xn_q1_sortNames, xa_q1_colourNames, xb_q1_colourNames, xn_q1_colourNames, xa_q1_colourSorts, xb_q1_colourSorts, xn_q1_colourSorts, xa_q1_ruleMakes, xb_q1_ruleMakes, xn_q1_ruleMakes, xa_q1_ruleFirsts, xb_q1_ruleFirsts, xn_q1_ruleFirsts, xa_q1_ruleSeconds, xb_q1_ruleSeconds, xn_q1_ruleSeconds, xa_q1_walkerNames, xb_q1_walkerNames, xn_q1_walkerNames, xa_q1_kinds, xb_q1_kinds, xn_q1_kinds, xa_q1_walkerColours, xb_q1_walkerColours, xn_q1_walkerColours, xa_q1_starts, xb_q1_starts, xn_q1_starts, xa_q1_stepRows, xb_q1_stepRows, xn_q1_stepRows, xa_q1_stepCounts, xb_q1_stepCounts, xn_q1_stepCounts, xa_q1_gusts, xb_q1_gusts, xn_q1_gusts, xc_q1l, xg_q1l_0, xg_q1l_1, xs_q1l_1, xg_q1l_2, xg_q1l_3, xs_q1l_3, xa_q1_parts, xb_q1_parts, xn_q1_parts, xa_q1_stack, xb_q1_stack, xn_q1_stack, wx_some, wx_ref, aS_n (show k_nC o.1 < (q1.2.2.1).length by omega) (show (q1.2.2.1).length < 2 ^ 31 by omega)]
    have hql : QLx (q1.1, q1.2.1, (q1.2.2.1).set (k_nC o.1) (w_x (LT tp (k + 1))), q1.2.2.2.1, q1.2.2.2.2.1, q1.2.2.2.2.2.1, q1.2.2.2.2.2.2.1, q1.2.2.2.2.2.2.2.1, q1.2.2.2.2.2.2.2.2.1, q1.2.2.2.2.2.2.2.2.2.1, q1.2.2.2.2.2.2.2.2.2.2.1, q1.2.2.2.2.2.2.2.2.2.2.2.1, q1.2.2.2.2.2.2.2.2.2.2.2.2.1, q1.2.2.2.2.2.2.2.2.2.2.2.2.2.1, q1.2.2.2.2.2.2.2.2.2.2.2.2.2.2.1, q1.2.2.2.2.2.2.2.2.2.2.2.2.2.2.2.1, q1.2.2.2.2.2.2.2.2.2.2.2.2.2.2.2.2.1, q1.2.2.2.2.2.2.2.2.2.2.2.2.2.2.2.2.2.1, q1.2.2.2.2.2.2.2.2.2.2.2.2.2.2.2.2.2.2.1, q1.2.2.2.2.2.2.2.2.2.2.2.2.2.2.2.2.2.2.2.1, q1.2.2.2.2.2.2.2.2.2.2.2.2.2.2.2.2.2.2.2.2.1, q1.2.2.2.2.2.2.2.2.2.2.2.2.2.2.2.2.2.2.2.2.2.1, q1.2.2.2.2.2.2.2.2.2.2.2.2.2.2.2.2.2.2.2.2.2.2) := ⟨hs.1.1, by show (List.set _ _ _).length = 6; rw [List.length_set]; exact hll, hs.1.2.2⟩
    have hs2 : SQx (q1.1, q1.2.1, (q1.2.2.1).set (k_nC o.1) (w_x (LT tp (k + 1))), q1.2.2.2.1, q1.2.2.2.2.1, q1.2.2.2.2.2.1, q1.2.2.2.2.2.2.1, q1.2.2.2.2.2.2.2.1, q1.2.2.2.2.2.2.2.2.1, q1.2.2.2.2.2.2.2.2.2.1, q1.2.2.2.2.2.2.2.2.2.2.1, q1.2.2.2.2.2.2.2.2.2.2.2.1, q1.2.2.2.2.2.2.2.2.2.2.2.2.1, q1.2.2.2.2.2.2.2.2.2.2.2.2.2.1, q1.2.2.2.2.2.2.2.2.2.2.2.2.2.2.1, q1.2.2.2.2.2.2.2.2.2.2.2.2.2.2.2.1, q1.2.2.2.2.2.2.2.2.2.2.2.2.2.2.2.2.1, q1.2.2.2.2.2.2.2.2.2.2.2.2.2.2.2.2.2.1, q1.2.2.2.2.2.2.2.2.2.2.2.2.2.2.2.2.2.2.1, q1.2.2.2.2.2.2.2.2.2.2.2.2.2.2.2.2.2.2.2.1, q1.2.2.2.2.2.2.2.2.2.2.2.2.2.2.2.2.2.2.2.2.1, q1.2.2.2.2.2.2.2.2.2.2.2.2.2.2.2.2.2.2.2.2.2.1, q1.2.2.2.2.2.2.2.2.2.2.2.2.2.2.2.2.2.2.2.2.2.2) o.1 := ⟨hql, hs.2⟩
    have hN2 : NMx o.2.1 o.1 (q1.1, q1.2.1, (q1.2.2.1).set (k_nC o.1) (w_x (LT tp (k + 1))), q1.2.2.2.1, q1.2.2.2.2.1, q1.2.2.2.2.2.1, q1.2.2.2.2.2.2.1, q1.2.2.2.2.2.2.2.1, q1.2.2.2.2.2.2.2.2.1, q1.2.2.2.2.2.2.2.2.2.1, q1.2.2.2.2.2.2.2.2.2.2.1, q1.2.2.2.2.2.2.2.2.2.2.2.1, q1.2.2.2.2.2.2.2.2.2.2.2.2.1, q1.2.2.2.2.2.2.2.2.2.2.2.2.2.1, q1.2.2.2.2.2.2.2.2.2.2.2.2.2.2.1, q1.2.2.2.2.2.2.2.2.2.2.2.2.2.2.2.1, q1.2.2.2.2.2.2.2.2.2.2.2.2.2.2.2.2.1, q1.2.2.2.2.2.2.2.2.2.2.2.2.2.2.2.2.2.1, q1.2.2.2.2.2.2.2.2.2.2.2.2.2.2.2.2.2.2.1, q1.2.2.2.2.2.2.2.2.2.2.2.2.2.2.2.2.2.2.2.1, q1.2.2.2.2.2.2.2.2.2.2.2.2.2.2.2.2.2.2.2.2.1, q1.2.2.2.2.2.2.2.2.2.2.2.2.2.2.2.2.2.2.2.2.2.1, q1.2.2.2.2.2.2.2.2.2.2.2.2.2.2.2.2.2.2.2.2.2.2) := ⟨hN.1, fun i hi => (List.getElem?_set_ne (by omega)).trans (hN.2.1 i hi), hN.2.2⟩
    simp only [b64_0, b64_1, bn_0 b64_0, bn_1 b64_1, q64_43, xc_T, xg_T_0, xg_T_1, xs_T_1, xg_T_2, xs_T_2, xg_T_3, xg_T_4, xg_T_5, xg_T_6, xs_T_6, xg_T_7, xs_T_7, xg_T_8, xs_T_8, xa_T_signs, xb_T_signs, xn_T_signs, xa_T_types, xb_T_types, xn_T_types, xa_T_starts, xb_T_starts, xn_T_starts, xa_T_values, xb_T_values, xn_T_values]
    apply t_pass hT1 (by rw [y1.1]; decide)
    intro hT2
    simp only [sl_i, b64_0, b64_1, bn_0 b64_0, bn_1 b64_1, q64_46, q64_47, q64_48]
    simp only [b64_0, b64_1, bn_0 b64_0, bn_1 b64_1, q64_50, xc_T, xg_T_0, xg_T_1, xs_T_1, xg_T_2, xs_T_2, xg_T_3, xg_T_4, xg_T_5, xg_T_6, xs_T_6, xg_T_7, xs_T_7, xg_T_8, xs_T_8, xa_T_signs, xb_T_signs, xn_T_signs, xa_T_types, xb_T_types, xn_T_types, xa_T_starts, xb_T_starts, xn_T_starts, xa_T_values, xb_T_values, xn_T_values]
    apply t_passWord (w := 2) hE (by omega) (by omega) hT2
    · intro y3 T3 hT3 hf3
      rw [if_pos (wdB_t.mpr y3)] at hq1 hq0
      simp only [sl_i, b64_0, b64_1, bn_0 b64_0, bn_1 b64_1, q64_53, q64_56, q64_57, q64_58]
      rw [if_neg (by decide)]
      apply t_checkSort hT3 hs2 ho hN2 hnm
      · intro y4 v y5 y6
        have hv := fnd_lt y5
        rw [y6, if_pos rfl] at hq1
        simp only [sl_i, b64_0, b64_1, bn_0 b64_0, bn_1 b64_1, q64_61, b64_0, b64_1, bn_0 b64_0, bn_1 b64_1, q64_66, q64_67, q64_70, q64_71, q64_72, xc_q1, xg_q1_0, xg_q1_1, xs_q1_1, xg_q1_2, xg_q1_3, xg_q1_4, xs_q1_4, xg_q1_5, xg_q1_6, xg_q1_7, xg_q1_8, xs_q1_8, xg_q1_9, xs_q1_9, xg_q1_10, xg_q1_11, xg_q1_12, xg_q1_13, xg_q1_14, xg_q1_15, xg_q1_16, xs_q1_16, xg_q1_17, xg_q1_18, xs_q1_18, xg_q1_19, xa_q1_sortNames, xb_q1_sortNames, xn_q1_sortNames, xa_q1_colourNames, xb_q1_colourNames, xn_q1_colourNames, xa_q1_colourSorts, xb_q1_colourSorts, xn_q1_colourSorts, xa_q1_ruleMakes, xb_q1_ruleMakes, xn_q1_ruleMakes, xa_q1_ruleFirsts, xb_q1_ruleFirsts, xn_q1_ruleFirsts, xa_q1_ruleSeconds, xb_q1_ruleSeconds, xn_q1_ruleSeconds, xa_q1_walkerNames, xb_q1_walkerNames, xn_q1_walkerNames, xa_q1_kinds, xb_q1_kinds, xn_q1_kinds, xa_q1_walkerColours, xb_q1_walkerColours, xn_q1_walkerColours, xa_q1_starts, xb_q1_starts, xn_q1_starts, xa_q1_stepRows, xb_q1_stepRows, xn_q1_stepRows, xa_q1_stepCounts, xb_q1_stepCounts, xn_q1_stepCounts, xa_q1_gusts, xb_q1_gusts, xn_q1_gusts, xc_q1l, xg_q1l_0, xg_q1l_1, xs_q1l_1, xg_q1l_2, xg_q1l_3, xs_q1l_3, xa_q1_parts, xb_q1_parts, xn_q1_parts, xa_q1_stack, xb_q1_stack, xn_q1_stack, wx_some, wx_ref]
        rw [if_pos (by decide)]
        simp only [b64_0, b64_1, bn_0 b64_0, bn_1 b64_1, q64_73, xc_T, xg_T_0, xg_T_1, xs_T_1, xg_T_2, xs_T_2, xg_T_3, xg_T_4, xg_T_5, xg_T_6, xs_T_6, xg_T_7, xs_T_7, xg_T_8, xs_T_8, xa_T_signs, xb_T_signs, xn_T_signs, xa_T_types, xb_T_types, xn_T_types, xa_T_starts, xb_T_starts, xn_T_starts, xa_T_values, xb_T_values, xn_T_values]
        apply t_word hT3 y4.1
        simp only [sl_i, b64_0, b64_1, bn_0 b64_0, bn_1 b64_1, q64_76, xc_q1, xg_q1_0, xg_q1_1, xs_q1_1, xg_q1_2, xg_q1_3, xg_q1_4, xs_q1_4, xg_q1_5, xg_q1_6, xg_q1_7, xg_q1_8, xs_q1_8, xg_q1_9, xs_q1_9, xg_q1_10, xg_q1_11, xg_q1_12, xg_q1_13, xg_q1_14, xg_q1_15, xg_q1_16, xs_q1_16, xg_q1_17, xg_q1_18, xs_q1_18, xg_q1_19, xa_q1_sortNames, xb_q1_sortNames, xn_q1_sortNames, xa_q1_colourNames, xb_q1_colourNames, xn_q1_colourNames, xa_q1_colourSorts, xb_q1_colourSorts, xn_q1_colourSorts, xa_q1_ruleMakes, xb_q1_ruleMakes, xn_q1_ruleMakes, xa_q1_ruleFirsts, xb_q1_ruleFirsts, xn_q1_ruleFirsts, xa_q1_ruleSeconds, xb_q1_ruleSeconds, xn_q1_ruleSeconds, xa_q1_walkerNames, xb_q1_walkerNames, xn_q1_walkerNames, xa_q1_kinds, xb_q1_kinds, xn_q1_kinds, xa_q1_walkerColours, xb_q1_walkerColours, xn_q1_walkerColours, xa_q1_starts, xb_q1_starts, xn_q1_starts, xa_q1_stepRows, xb_q1_stepRows, xn_q1_stepRows, xa_q1_stepCounts, xb_q1_stepCounts, xn_q1_stepCounts, xa_q1_gusts, xb_q1_gusts, xn_q1_gusts, xc_q1l, xg_q1l_0, xg_q1l_1, xs_q1l_1, xg_q1l_2, xg_q1l_3, xs_q1l_3, xa_q1_parts, xb_q1_parts, xn_q1_parts, xa_q1_stack, xb_q1_stack, xn_q1_stack]
        apply t_sortNamedq1 hs2 ho hN2 hnm (isNm_wf y4)
        simp only [sl_i, b64_0, b64_1, bn_0 b64_0, bn_1 b64_1, q64_79, q64_80, q64_81, q64_82, q64_85, q64_86, q64_87, q64_90, xc_q1, xg_q1_0, xg_q1_1, xs_q1_1, xg_q1_2, xg_q1_3, xg_q1_4, xs_q1_4, xg_q1_5, xg_q1_6, xg_q1_7, xg_q1_8, xs_q1_8, xg_q1_9, xs_q1_9, xg_q1_10, xg_q1_11, xg_q1_12, xg_q1_13, xg_q1_14, xg_q1_15, xg_q1_16, xs_q1_16, xg_q1_17, xg_q1_18, xs_q1_18, xg_q1_19, xa_q1_sortNames, xb_q1_sortNames, xn_q1_sortNames, xa_q1_colourNames, xb_q1_colourNames, xn_q1_colourNames, xa_q1_colourSorts, xb_q1_colourSorts, xn_q1_colourSorts, xa_q1_ruleMakes, xb_q1_ruleMakes, xn_q1_ruleMakes, xa_q1_ruleFirsts, xb_q1_ruleFirsts, xn_q1_ruleFirsts, xa_q1_ruleSeconds, xb_q1_ruleSeconds, xn_q1_ruleSeconds, xa_q1_walkerNames, xb_q1_walkerNames, xn_q1_walkerNames, xa_q1_kinds, xb_q1_kinds, xn_q1_kinds, xa_q1_walkerColours, xb_q1_walkerColours, xn_q1_walkerColours, xa_q1_starts, xb_q1_starts, xn_q1_starts, xa_q1_stepRows, xb_q1_stepRows, xn_q1_stepRows, xa_q1_stepCounts, xb_q1_stepCounts, xn_q1_stepCounts, xa_q1_gusts, xb_q1_gusts, xn_q1_gusts, xc_q1l, xg_q1l_0, xg_q1l_1, xs_q1l_1, xg_q1l_2, xg_q1l_3, xs_q1l_3, xa_q1_parts, xb_q1_parts, xn_q1_parts, xa_q1_stack, xb_q1_stack, xn_q1_stack, wx_some, wx_ref, y5, hs.2.1.2.1, nI_1, aS_n (show k_nC o.1 < (q1.2.2.2.1).length by omega) (show (q1.2.2.2.1).length < 2 ^ 31 by omega)]
        simp only [b64_0, b64_1, bn_0 b64_0, bn_1 b64_1, q64_91, xc_T, xg_T_0, xg_T_1, xs_T_1, xg_T_2, xs_T_2, xg_T_3, xg_T_4, xg_T_5, xg_T_6, xs_T_6, xg_T_7, xs_T_7, xg_T_8, xs_T_8, xa_T_signs, xb_T_signs, xn_T_signs, xa_T_types, xb_T_types, xn_T_types, xa_T_starts, xb_T_starts, xn_T_starts, xa_T_values, xb_T_values, xn_T_values]
        apply t_pass hT3 (by rw [y4.1]; decide)
        intro hT4
        simp only [sl_i, b64_0, b64_1, bn_0 b64_0, bn_1 b64_1, q64_94]
        refine hq1 _ _ _ (q1.1, q1.2.1, (q1.2.2.1).set (k_nC o.1) (w_x (LT tp (k + 1))), (q1.2.2.2.1).set (k_nC o.1) (nI v), nI (k_nC o.1 + 1), q1.2.2.2.2.2.1, q1.2.2.2.2.2.2.1, q1.2.2.2.2.2.2.2.1, q1.2.2.2.2.2.2.2.2.1, q1.2.2.2.2.2.2.2.2.2.1, q1.2.2.2.2.2.2.2.2.2.2.1, q1.2.2.2.2.2.2.2.2.2.2.2.1, q1.2.2.2.2.2.2.2.2.2.2.2.2.1, q1.2.2.2.2.2.2.2.2.2.2.2.2.2.1, q1.2.2.2.2.2.2.2.2.2.2.2.2.2.2.1, q1.2.2.2.2.2.2.2.2.2.2.2.2.2.2.2.1, q1.2.2.2.2.2.2.2.2.2.2.2.2.2.2.2.2.1, q1.2.2.2.2.2.2.2.2.2.2.2.2.2.2.2.2.2.1, q1.2.2.2.2.2.2.2.2.2.2.2.2.2.2.2.2.2.2.1, q1.2.2.2.2.2.2.2.2.2.2.2.2.2.2.2.2.2.2.2.1, q1.2.2.2.2.2.2.2.2.2.2.2.2.2.2.2.2.2.2.2.2.1, q1.2.2.2.2.2.2.2.2.2.2.2.2.2.2.2.2.2.2.2.2.2.1, q1.2.2.2.2.2.2.2.2.2.2.2.2.2.2.2.2.2.2.2.2.2.2) rfl ⟨hT4, hf3.trans hf, ⟨⟨⟨hs.1.1, by show (List.set _ _ _).length = 6; rw [List.length_set]; exact hll, by show (List.set _ _ _).length = 6; rw [List.length_set]; exact hll2, hs.1.2.2.2⟩, ⟨hs.2.1.1, rfl, hs.2.1.2.2⟩, ⟨fun i hi => ?_, hs.2.2.1.2⟩, hs.2.2.2⟩, ⟨fun i hi => ?_, fun i hi => ?_, fun i hi => ?_⟩, hy, hLD⟩, ok_addC hP (by omega) (isNm_wf y1) hv⟩
        · show ((q1.2.2.2.1).set (k_nC o.1) (nI v))[i]? = some (nI (up (k_cs o.1) (k_nC o.1) v i))
          by_cases e : i = k_nC o.1
          · subst e; rw [up_eq, List.getElem?_set_self (by omega)]
          · rw [up_ne e, List.getElem?_set_ne (by omega)]; exact hs.2.2.1.1 i (by have : i < k_nC o.1 + 1 := hi; omega)
        · show _ = some (w_x (nmU o.2.1 1 (k_nC o.1) (LT tp (k + 1)) 0 i))
          rw [nmU_c (by omega)]; exact hN.1 i hi
        · show ((q1.2.2.1).set (k_nC o.1) (w_x (LT tp (k + 1))))[i]? = some (w_x (nmU o.2.1 1 (k_nC o.1) (LT tp (k + 1)) 1 i))
          by_cases e : i = k_nC o.1
          · subst e; rw [nmU_eq, List.getElem?_set_self (by omega)]
          · rw [nmU_i e, List.getElem?_set_ne (by omega)]; exact hN.2.1 i (by have : i < k_nC o.1 + 1 := hi; omega)
        · show _ = some (w_x (nmU o.2.1 1 (k_nC o.1) (LT tp (k + 1)) 2 i))
          rw [nmU_c (by omega)]; exact hN.2.2 i hi
      · intro T' f y4 y5 y6 y7
        rw [if_neg (by rw [y4]; exact y5)] at hq0
        simp only [sl_i, b64_0, b64_1, bn_0 b64_0, bn_1 b64_1, q64_61, q64_64, q64_65]
        rw [if_neg (by decide)]
        exact hq0 f T' _ y4 ⟨y5, y7, hql, _, y6⟩
    · intro y3 T3 hT3 hf3
      rw [if_neg (fun z => y3 (wdB_t.mp z))] at hq0
      simp only [sl_i, b64_0, b64_1, bn_0 b64_0, bn_1 b64_1, q64_53, b64_0, b64_1, bn_0 b64_0, bn_1 b64_1, q64_64, q64_65]
      rw [if_pos (by decide)]
      exact hq0 _ T3 _ rfl ⟨flt_ne (by omega), hf3, hql, _, hT3⟩
  · intro T' f y1 y2 y3 y4
    rw [if_neg (by rw [y1]; exact y2)] at hq0
    simp only [sl_i, b64_0, b64_1, bn_0 b64_0, bn_1 b64_1, q64_27, q64_30, q64_31]
    rw [if_neg (by decide)]
    exact hq0 f T' q1 y1 ⟨y2, y4, hs.1, _, y3⟩
end LX
