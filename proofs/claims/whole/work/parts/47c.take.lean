/-! the reading, of the class: look, take -/
def up (f : Nat → Nat) (i v : Nat) : Nat → Nat := fun j => if j = i then v else f j
theorem up_eq {f : Nat → Nat} {i v : Nat} : up f i v i = v := if_pos rfl
theorem up_ne {f : Nat → Nat} {i v j : Nat} (h : j ≠ i) : up f i v j = f j := if_neg h
theorem ag_up {xs : List Int32} {n i v : Nat} {f : Nat → Nat} (h : ag xs n f) (hi : i < xs.length) (hn : i ≤ n) : ag (xs.set i (nI v)) (if i = n then n + 1 else n) (up f i v) := by
  intro j hj
  rw [List.getElem?_set]
  by_cases e : i = j
  · subst e; rw [if_pos rfl, if_pos hi, up_eq]
  · rw [if_neg e, up_ne (fun z => e z.symm)]
    apply h j
    split at hj <;> omega
/-- sentences: how many, where they begin, how long they are, whether one is open -/
abbrev SN : Type := Nat × (Nat → Nat) × (Nat → Nat) × Bool
def sn1 (k x : Nat) (t : SN) : SN := if x = 6 then (t.1, t.2.1, t.2.2.1, false) else if t.2.2.2 = true then (t.1, t.2.1, up t.2.2.1 (t.1 - 1) (t.2.2.1 (t.1 - 1) + 1), true) else (t.1 + 1, up t.2.1 t.1 k, up t.2.2.1 t.1 1, true)
def snk (L : List Nat) : Nat → SN
  | 0 => (0, fun _ => 0, fun _ => 0, false)
  | k + 1 => sn1 k (L.getD k 0) (snk L k)
/-- each sentence lies within the row, holds no stop, and is not empty -/
theorem snk_ok (L : List Nat) : ∀ k, (snk L k).1 ≤ k ∧ ((snk L k).2.2.2 = true → 0 < (snk L k).1 ∧ (snk L k).2.1 ((snk L k).1 - 1) + (snk L k).2.2.1 ((snk L k).1 - 1) = k) ∧ ∀ i, i < (snk L k).1 → 1 ≤ (snk L k).2.2.1 i ∧ (snk L k).2.1 i + (snk L k).2.2.1 i ≤ k ∧ ∀ j, (snk L k).2.1 i ≤ j → j < (snk L k).2.1 i + (snk L k).2.2.1 i → ¬ L.getD j 0 = 6 := by
  intro k
  induction k with
  | zero => exact ⟨Nat.le_refl _, (fun h => by cases h), fun i hi => absurd hi (Nat.not_lt_zero _)⟩
  | succ k ih =>
    obtain ⟨h1, h2, h3⟩ := ih
    rw [snk]
    generalize snk L k = t at h1 h2 h3
    unfold sn1
    by_cases e6 : L.getD k 0 = 6
    · rw [if_pos e6]
      refine ⟨by show t.1 ≤ k + 1; omega, (fun h => by cases h), fun i hi => ?_⟩
      obtain ⟨a, b, c⟩ := h3 i hi
      exact ⟨a, by show t.2.1 i + t.2.2.1 i ≤ k + 1; omega, c⟩
    · rw [if_neg e6]
      by_cases eb : t.2.2.2 = true
      · rw [if_pos eb]
        obtain ⟨p1, p2⟩ := h2 eb
        refine ⟨by show t.1 ≤ k + 1; omega, fun _ => ⟨p1, ?_⟩, fun i hi => ?_⟩
        · show t.2.1 (t.1 - 1) + up t.2.2.1 (t.1 - 1) (t.2.2.1 (t.1 - 1) + 1) (t.1 - 1) = k + 1
          rw [up_eq]; omega
        · show 1 ≤ up t.2.2.1 (t.1 - 1) (t.2.2.1 (t.1 - 1) + 1) i ∧ t.2.1 i + up t.2.2.1 (t.1 - 1) (t.2.2.1 (t.1 - 1) + 1) i ≤ k + 1 ∧ ∀ j, t.2.1 i ≤ j → j < t.2.1 i + up t.2.2.1 (t.1 - 1) (t.2.2.1 (t.1 - 1) + 1) i → ¬ L.getD j 0 = 6
          obtain ⟨a, b, c⟩ := h3 i hi
          by_cases e : i = t.1 - 1
          · rw [e, up_eq]
            refine ⟨by omega, by omega, fun j j1 j2 => ?_⟩
            by_cases ej : j = k
            · rw [ej]; exact e6
            · rw [e] at c; exact c j j1 (by omega)
          · rw [up_ne e]; exact ⟨a, by omega, c⟩
      · rw [if_neg eb]
        refine ⟨by show t.1 + 1 ≤ k + 1; omega, fun _ => ⟨by show 0 < t.1 + 1; omega, ?_⟩, fun i hi => ?_⟩
        · show up t.2.1 t.1 k (t.1 + 1 - 1) + up t.2.2.1 t.1 1 (t.1 + 1 - 1) = k + 1
          rw [Nat.add_sub_cancel, up_eq, up_eq]
        · show 1 ≤ up t.2.2.1 t.1 1 i ∧ up t.2.1 t.1 k i + up t.2.2.1 t.1 1 i ≤ k + 1 ∧ ∀ j, up t.2.1 t.1 k i ≤ j → j < up t.2.1 t.1 k i + up t.2.2.1 t.1 1 i → ¬ L.getD j 0 = 6
          by_cases e : i = t.1
          · rw [e, up_eq, up_eq]
            refine ⟨Nat.le_refl _, Nat.le_refl _, fun j j1 j2 => ?_⟩
            rw [show j = k by omega]; exact e6
          · have hi' : i < t.1 := by have : i < t.1 + 1 := hi; omega
            rw [up_ne e, up_ne e]
            obtain ⟨a, b, c⟩ := h3 i hi'
            exact ⟨a, by omega, c⟩
section TR4
variable {fx : List Value → mm_H → Option (List Value × mm_H)} {z : Nat} {E M : Nat → mm_C} {sw c2 w2 : Bool} {T : px_T} {D : px_D} {S : px_S} {S1 : px_S} {K : px_K} {R : px_R} {C : px_C} {W : px_W} {U : px_U} {q : px_q} {q1 : px_q} {B0 : px_K} {B1 : px_K} {B2 : px_K} {B3 : px_K} {T_signs : List Int32} {T_length : Int32} {T_fault : Int32} {T_types : List Int32} {T_starts : List Int32} {T_values : List Int64} {T_tokens : Int32} {T_at : Int32} {T_behind : Int32} {S_hour : Int32} {S_open : Int32} {S_places : List Int32} {S1_hour : Int32} {S1_open : Int32} {S1_places : List Int32} {K_lines : List Int32} {K_lineCount : Int32} {K_wishes : List Int32} {K_wishCount : Int32} {K_sights : List Int32} {K_sightCount : Int32} {R_shown : List Int32} {R_length : Int32} {R_readers : Int32} {R_begins : List Int32} {R_lengths : List Int32} {R_sentences : Int32} {R_order : List Int32} {R_able : Int32} {R_standing : List Int32} {R_lovers : List Int32} {R_lowest : List Int32} {C_ways : List Int32} {C_rows : List Int32} {C_shallower : List Int32} {C_length : Int32} {C_goal : Int32} {W_row : List Int32} {W_walkers : Int32} {W_names : Int32} {W_wanted : List Int32} {W_shown : List Int32} {W_places : List Int32} {W_rest : List Int32} {W_spent : List Int32} {W_tried : List Int32} {U_undoRows : List Int64} {U_markScenes : List Int64} {U_marksLaid : List Int32} {U_undoCount : Int32} {U_undoEnd : Int32} {q_sortNames : List Int64} {q_sortCount : Int32} {q_colourNames : List Int64} {q_colourSorts : List Int32} {q_colourCount : Int32} {q_ruleMakes : List Int32} {q_ruleFirsts : List Int32} {q_ruleSeconds : List Int32} {q_ruleCount : Int32} {q_saysSort : Int32} {q_walkerNames : List Int64} {q_kinds : List Int32} {q_walkerColours : List Int32} {q_starts : List Int32} {q_stepRows : List Int32} {q_stepCounts : List Int32} {q_walkerCount : Int32} {q_gusts : List Int32} {q_gustCount : Int32} {q_parts : List Int32} {q_count : Int32} {q_stack : List Int32} {q_height : Int32} {q1_sortNames : List Int64} {q1_sortCount : Int32} {q1_colourNames : List Int64} {q1_colourSorts : List Int32} {q1_colourCount : Int32} {q1_ruleMakes : List Int32} {q1_ruleFirsts : List Int32} {q1_ruleSeconds : List Int32} {q1_ruleCount : Int32} {q1_saysSort : Int32} {q1_walkerNames : List Int64} {q1_kinds : List Int32} {q1_walkerColours : List Int32} {q1_starts : List Int32} {q1_stepRows : List Int32} {q1_stepCounts : List Int32} {q1_walkerCount : Int32} {q1_gusts : List Int32} {q1_gustCount : Int32} {q1_parts : List Int32} {q1_count : Int32} {q1_stack : List Int32} {q1_height : Int32} {B0_lines : List Int32} {B0_lineCount : Int32} {B0_wishes : List Int32} {B0_wishCount : Int32} {B0_sights : List Int32} {B0_sightCount : Int32} {B1_lines : List Int32} {B1_lineCount : Int32} {B1_wishes : List Int32} {B1_wishCount : Int32} {B1_sights : List Int32} {B1_sightCount : Int32} {B2_lines : List Int32} {B2_lineCount : Int32} {B2_wishes : List Int32} {B2_wishCount : Int32} {B2_sights : List Int32} {B2_sightCount : Int32} {B3_lines : List Int32} {B3_lineCount : Int32} {B3_wishes : List Int32} {B3_wishCount : Int32} {B3_sights : List Int32} {B3_sightCount : Int32}
variable {d : Nat} {Q : Option Value → mm_H → Prop} {s : SQ} {c : SC}
/-- what a walker shows -/
def sp_show (s : SQ) (w : Nat) : Nat := if k_kd s w = 1 then 6 else if k_kd s w = 3 then (if k_wc s w + 1 < k_nC s then k_wc s w + 1 else 0) else k_wc s w
theorem sp_show_lt {w : Nat} (ho : k_ok s) (hw : w < k_nW s) (h6 : ¬ sp_show s w = 6) : sp_show s w < k_nC s := by
  have h := ho.2.2.2.1 w hw
  unfold sp_show at h6 ⊢
  split
  · rename_i e; rw [if_pos e] at h6; exact absurd rfl h6
  · split
    · split <;> omega
    · exact h.2.1
theorem sp_show_le {w : Nat} (ho : k_ok s) (hw : w < k_nW s) : sp_show s w ≤ 6 := by
  have h := ho.2.2.2.1 w hw
  have := ho.1.2.1
  unfold sp_show
  split
  · omega
  · split
    · split <;> omega
    · omega
theorem t_shownBy {w : Nat} (hs : SQx q s) (ho : k_ok s) (hw : w < k_nW s) (hq : Q (some (.int (nI (sp_show s w)))) (px_h z E M (px_l sw c2 w2 T D S S1 K R C W U q q1 B0 B1 B2 B3))) : wm (mp_P fx) d 120 [.ref (px_ta sw), .int (nI w)] (px_h z E M (px_l sw c2 w2 T D S S1 K R C W U q q1 B0 B1 B2 B3)) Q := by
  have h := ho.2.2.2.1 w hw
  have hC := ho.1.2.1
  have hW := ho.1.2.2.2.1
  obtain ⟨hkd, hwc, -⟩ := hs.2.2.2.2.1
  have hk1 := hs.1.2.2.2.2.2.2.2.1
  have hk2 := hs.1.2.2.2.2.2.2.2.2.1
  unfold sp_show at hq
  simp only [e120, q120_0, q120_1, q120_4, q120_5, q120_6i, q120_7, q120_8, q120_11, q120_12, q120_13, q120_14, q120_17, q120_19, q120_20, q120_21, q120_24, q120_25, q120_26, q120_27, q120_30, q120_31, q120_32, q120_33, q120_34, q120_37, q120_40, q120_41, q120_42, q120_43, q120_46, q120_47, q120_48, q120_49, xc_q, xg_q_0, xg_q_1, xs_q_1, xg_q_2, xg_q_3, xg_q_4, xs_q_4, xg_q_5, xg_q_6, xg_q_7, xg_q_8, xs_q_8, xg_q_9, xs_q_9, xg_q_10, xg_q_11, xg_q_12, xg_q_13, xg_q_14, xg_q_15, xg_q_16, xs_q_16, xg_q_17, xg_q_18, xs_q_18, xg_q_19, xa_q_sortNames, xb_q_sortNames, xn_q_sortNames, xa_q_colourNames, xb_q_colourNames, xn_q_colourNames, xa_q_colourSorts, xb_q_colourSorts, xn_q_colourSorts, xa_q_ruleMakes, xb_q_ruleMakes, xn_q_ruleMakes, xa_q_ruleFirsts, xb_q_ruleFirsts, xn_q_ruleFirsts, xa_q_ruleSeconds, xb_q_ruleSeconds, xn_q_ruleSeconds, xa_q_walkerNames, xb_q_walkerNames, xn_q_walkerNames, xa_q_kinds, xb_q_kinds, xn_q_kinds, xa_q_walkerColours, xb_q_walkerColours, xn_q_walkerColours, xa_q_starts, xb_q_starts, xn_q_starts, xa_q_stepRows, xb_q_stepRows, xn_q_stepRows, xa_q_stepCounts, xb_q_stepCounts, xn_q_stepCounts, xa_q_gusts, xb_q_gusts, xn_q_gusts, xc_ql, xg_ql_0, xg_ql_1, xs_ql_1, xg_ql_2, xg_ql_3, xs_ql_3, xa_q_parts, xb_q_parts, xn_q_parts, xa_q_stack, xb_q_stack, xn_q_stack, wx_some, wx_ref, isl_i, isl_r, isl_n, ag_G hkd (show (q.2.2.2.2.2.2.2.2.2.2.2.1).length < 2 ^ 31 by omega) hw, ag_G hwc (show (q.2.2.2.2.2.2.2.2.2.2.2.2.1).length < 2 ^ 31 by omega) hw, hs.2.1.2.1, nl_1, nl_3, nI_add]
  by_cases e1 : k_kd s w = 1
  · rw [if_pos e1] at hq; rw [if_neg (by rw [e1]; exact fun z => z rfl)]; exact hq
  · rw [if_neg e1] at hq; rw [if_pos (by rw [nI_eq (by omega) (by omega)]; exact e1)]
    by_cases e3 : k_kd s w = 3
    · rw [if_pos e3] at hq; rw [if_neg (by rw [e3]; exact fun z => z rfl)]
      by_cases e4 : k_wc s w + 1 < k_nC s
      · rw [if_pos e4] at hq; rw [if_neg (by rw [nI_leI (by omega) (by omega)]; omega)]; exact hq
      · rw [if_neg e4] at hq; rw [if_pos (by rw [nI_leI (by omega) (by omega)]; omega)]; exact hq
    · rw [if_neg e3] at hq; rw [if_pos (by rw [nI_eq (by omega) (by omega)]; exact e3)]; exact hq
/-- k are shown, in the sentences t -/
def RDs (L : List Nat) (k : Nat) (R : px_R) : Prop := RDl R ∧ R.2.1 = nI k ∧ ag R.1 k (fun i => L.getD i 0) ∧ R.2.2.2.2.2.1 = nI (snk L k).1 ∧ ag R.2.2.2.1 (snk L k).1 (snk L k).2.1 ∧ ag R.2.2.2.2.1 (snk L k).1 (snk L k).2.2.1
theorem t_add {L : List Nat} {k x : Nat} {wi : Int32} (hk : k < 7) (hx : x = L.getD k 0) (hx6 : x ≤ 6) (hR : RDs L k R) (hwi : wi = if (snk L k).2.2.2 = true then 1 else 0) (hq : ∀ R' : px_R, RDs L (k + 1) R' → R'.2.2.2.2.2.2.1 = R.2.2.2.2.2.2.1 → R'.2.2.2.2.2.2.2.1 = R.2.2.2.2.2.2.2.1 → R'.2.2.1 = R.2.2.1 → Q (some (.int (if (snk L (k + 1)).2.2.2 = true then 1 else 0))) (px_h z E M (px_l sw c2 w2 T D S S1 K (R') C W U q q1 B0 B1 B2 B3))) :
    wm (mp_P fx) d 121 [.ref 75, .int (nI x), .int wi] (px_h z E M (px_l sw c2 w2 T D S S1 K R C W U q q1 B0 B1 B2 B3)) Q := by
  obtain ⟨⟨r1, r2, r3, r4, r5, r6, r7⟩, h1, h2, h3, h4, h5⟩ := hR
  obtain ⟨k1, k2, k3⟩ := snk_ok L k
  have hsn : snk L (k + 1) = sn1 k x (snk L k) := by rw [snk, hx]
  unfold RDs at hq
  rw [hsn] at hq
  generalize snk L k = t at *
  have hsh : ∀ (Z : List Int32), Z = (R.1).set k (nI x) → ag Z (k + 1) (fun i => L.getD i 0) := by
    intro Z hZ
    rw [hZ]
    intro j hj
    rw [List.getElem?_set]
    by_cases e : k = j
    · subst e; rw [if_pos rfl, if_pos (by omega), hx]
    · rw [if_neg e]; exact h2 j (by omega)
  unfold sn1 at hq
  by_cases e6 : x = 6
  · rw [if_pos e6] at hq
    simp only [e121, b121_0, b121_1, bn_0 b121_0, bn_1 b121_1, q121_0, q121_1, q121_3, q121_6, q121_7, q121_10, q121_11, q121_14, q121_15, q121_18, q121_19, q121_22, q121_23, q121_24, q121_27, q121_28, q121_31, q121_32, q121_33, q121_34, q121_35, q121_38, q121_39, q121_40, q121_43, q121_44, q121_47, q121_48, q121_51, q121_52, q121_53, q121_54, q121_55, q121_56, q121_57, q121_58, q121_59, q121_62, q121_63, q121_66, q121_67, q121_68, q121_69, q121_70, q121_73, q121_74, q121_75, q121_78, q121_79, q121_81, q121_84, q121_85, q121_88, q121_89, xc_R, xg_R_0, xg_R_1, xs_R_1, xg_R_2, xs_R_2, xg_R_3, xg_R_4, xg_R_5, xs_R_5, xg_R_6, xg_R_7, xs_R_7, xg_R_8, xg_R_9, xg_R_10, xa_R_shown, xb_R_shown, xn_R_shown, xa_R_begins, xb_R_begins, xn_R_begins, xa_R_lengths, xb_R_lengths, xn_R_lengths, xa_R_order, xb_R_order, xn_R_order, xa_R_standing, xb_R_standing, xn_R_standing, xa_R_lovers, xb_R_lovers, xn_R_lovers, xa_R_lowest, xb_R_lowest, xn_R_lowest, wx_some, wx_ref, isl_i, isl_r, isl_n, h1, aS_n (show k < (R.1).length by omega) (show (R.1).length < 2 ^ 31 by omega), nl_1, nl_6, nI_add]
    rw [if_pos (by rw [e6]), if_pos (by rw [e6])]
    apply hq
    · exact ⟨⟨by rw [List.length_set]; exact r1, r2, r3, r4, r5, r6, r7⟩, rfl, hsh _ rfl, h3, h4, h5⟩
    · rfl
    · rfl
    · rfl
  · rw [if_neg e6] at hq
    by_cases eb : t.2.2.2 = true
    · rw [if_pos eb] at hq hwi
      obtain ⟨p1, p2⟩ := k2 eb
      have g1 := h5 (t.1 - 1) (by omega)
      subst hwi
      simp only [e121, b121_0, b121_1, bn_0 b121_0, bn_1 b121_1, q121_0, q121_1, q121_3, q121_6, q121_7, q121_10, q121_11, q121_14, q121_15, q121_18, q121_19, q121_22, q121_23, q121_24, q121_27, q121_28, q121_31, q121_32, q121_33, q121_34, q121_35, q121_38, q121_39, q121_40, q121_43, q121_44, q121_47, q121_48, q121_51, q121_52, q121_53, q121_54, q121_55, q121_56, q121_57, q121_58, q121_59, q121_62, q121_63, q121_66, q121_67, q121_68, q121_69, q121_70, q121_73, q121_74, q121_75, q121_78, q121_79, q121_81, q121_84, q121_85, q121_88, q121_89, xc_R, xg_R_0, xg_R_1, xs_R_1, xg_R_2, xs_R_2, xg_R_3, xg_R_4, xg_R_5, xs_R_5, xg_R_6, xg_R_7, xs_R_7, xg_R_8, xg_R_9, xg_R_10, xa_R_shown, xb_R_shown, xn_R_shown, xa_R_begins, xb_R_begins, xn_R_begins, xa_R_lengths, xb_R_lengths, xn_R_lengths, xa_R_order, xb_R_order, xn_R_order, xa_R_standing, xb_R_standing, xn_R_standing, xa_R_lovers, xb_R_lovers, xn_R_lovers, xa_R_lowest, xb_R_lowest, xn_R_lowest, wx_some, wx_ref, isl_i, isl_r, isl_n, h1, h3]
      rw [if_neg (by rw [nl_6, nI_eq (by omega) (by omega)]; exact e6), if_pos (by decide)]
      simp only [e121, b121_0, b121_1, bn_0 b121_0, bn_1 b121_1, q121_0, q121_1, q121_3, q121_6, q121_7, q121_10, q121_11, q121_14, q121_15, q121_18, q121_19, q121_22, q121_23, q121_24, q121_27, q121_28, q121_31, q121_32, q121_33, q121_34, q121_35, q121_38, q121_39, q121_40, q121_43, q121_44, q121_47, q121_48, q121_51, q121_52, q121_53, q121_54, q121_55, q121_56, q121_57, q121_58, q121_59, q121_62, q121_63, q121_66, q121_67, q121_68, q121_69, q121_70, q121_73, q121_74, q121_75, q121_78, q121_79, q121_81, q121_84, q121_85, q121_88, q121_89, xc_R, xg_R_0, xg_R_1, xs_R_1, xg_R_2, xs_R_2, xg_R_3, xg_R_4, xg_R_5, xs_R_5, xg_R_6, xg_R_7, xs_R_7, xg_R_8, xg_R_9, xg_R_10, xa_R_shown, xb_R_shown, xn_R_shown, xa_R_begins, xb_R_begins, xn_R_begins, xa_R_lengths, xb_R_lengths, xn_R_lengths, xa_R_order, xb_R_order, xn_R_order, xa_R_standing, xb_R_standing, xn_R_standing, xa_R_lovers, xb_R_lovers, xn_R_lovers, xa_R_lowest, xb_R_lowest, xn_R_lowest, wx_some, wx_ref, isl_i, isl_r, isl_n, h1, h3, nl_1, nI_sub (show 1 ≤ t.1 by omega), aG_n g1 (show (R.2.2.2.2.1).length < 2 ^ 31 by omega), aS_n (show t.1 - 1 < (R.2.2.2.2.1).length by omega) (show (R.2.2.2.2.1).length < 2 ^ 31 by omega), aS_n (show k < (R.1).length by omega) (show (R.1).length < 2 ^ 31 by omega), nI_add]
      rw [if_neg (by rw [nl_6, nI_eq (by omega) (by omega)]; exact e6)]
      have hup := ag_up (v := t.2.2.1 (t.1 - 1) + 1) h5 (show t.1 - 1 < (R.2.2.2.2.1).length by omega) (by omega)
      rw [if_neg (by omega)] at hup
      apply hq
      · exact ⟨⟨by rw [List.length_set]; exact r1, r2, by rw [List.length_set]; exact r3, r4, r5, r6, r7⟩, rfl, hsh _ rfl, rfl, h4, hup⟩
      · rfl
      · rfl
      · rfl
    · rw [if_neg eb] at hq hwi
      subst hwi
      simp only [e121, b121_0, b121_1, bn_0 b121_0, bn_1 b121_1, q121_0, q121_1, q121_3, q121_6, q121_7, q121_10, q121_11, q121_14, q121_15, q121_18, q121_19, q121_22, q121_23, q121_24, q121_27, q121_28, q121_31, q121_32, q121_33, q121_34, q121_35, q121_38, q121_39, q121_40, q121_43, q121_44, q121_47, q121_48, q121_51, q121_52, q121_53, q121_54, q121_55, q121_56, q121_57, q121_58, q121_59, q121_62, q121_63, q121_66, q121_67, q121_68, q121_69, q121_70, q121_73, q121_74, q121_75, q121_78, q121_79, q121_81, q121_84, q121_85, q121_88, q121_89, xc_R, xg_R_0, xg_R_1, xs_R_1, xg_R_2, xs_R_2, xg_R_3, xg_R_4, xg_R_5, xs_R_5, xg_R_6, xg_R_7, xs_R_7, xg_R_8, xg_R_9, xg_R_10, xa_R_shown, xb_R_shown, xn_R_shown, xa_R_begins, xb_R_begins, xn_R_begins, xa_R_lengths, xb_R_lengths, xn_R_lengths, xa_R_order, xb_R_order, xn_R_order, xa_R_standing, xb_R_standing, xn_R_standing, xa_R_lovers, xb_R_lovers, xn_R_lovers, xa_R_lowest, xb_R_lowest, xn_R_lowest, wx_some, wx_ref, isl_i, isl_r, isl_n, h1, h3]
      rw [if_neg (by rw [nl_6, nI_eq (by omega) (by omega)]; exact e6), if_neg (by decide)]
      simp only [e121, b121_0, b121_1, bn_0 b121_0, bn_1 b121_1, q121_0, q121_1, q121_3, q121_6, q121_7, q121_10, q121_11, q121_14, q121_15, q121_18, q121_19, q121_22, q121_23, q121_24, q121_27, q121_28, q121_31, q121_32, q121_33, q121_34, q121_35, q121_38, q121_39, q121_40, q121_43, q121_44, q121_47, q121_48, q121_51, q121_52, q121_53, q121_54, q121_55, q121_56, q121_57, q121_58, q121_59, q121_62, q121_63, q121_66, q121_67, q121_68, q121_69, q121_70, q121_73, q121_74, q121_75, q121_78, q121_79, q121_81, q121_84, q121_85, q121_88, q121_89, xc_R, xg_R_0, xg_R_1, xs_R_1, xg_R_2, xs_R_2, xg_R_3, xg_R_4, xg_R_5, xs_R_5, xg_R_6, xg_R_7, xs_R_7, xg_R_8, xg_R_9, xg_R_10, xa_R_shown, xb_R_shown, xn_R_shown, xa_R_begins, xb_R_begins, xn_R_begins, xa_R_lengths, xb_R_lengths, xn_R_lengths, xa_R_order, xb_R_order, xn_R_order, xa_R_standing, xb_R_standing, xn_R_standing, xa_R_lovers, xb_R_lovers, xn_R_lovers, xa_R_lowest, xb_R_lowest, xn_R_lowest, wx_some, wx_ref, isl_i, isl_r, isl_n, h1, h3, aS_n (show t.1 < (R.2.2.2.1).length by omega) (show (R.2.2.2.1).length < 2 ^ 31 by omega), aS_n (show t.1 < (R.2.2.2.2.1).length by omega) (show (R.2.2.2.2.1).length < 2 ^ 31 by omega), nl_1, nI_add, nI_sub (show 1 ≤ t.1 + 1 by omega), Nat.add_sub_cancel, aG_n (show ((R.2.2.2.2.1).set t.1 0)[t.1]? = some (nI 0) by rw [List.getElem?_set_self (by omega)]; rfl) (show ((R.2.2.2.2.1).set t.1 0).length < 2 ^ 31 by rw [List.length_set]; omega), aS_n (show t.1 < ((R.2.2.2.2.1).set t.1 0).length by rw [List.length_set]; omega) (show ((R.2.2.2.2.1).set t.1 0).length < 2 ^ 31 by rw [List.length_set]; omega), aS_n (show k < (R.1).length by omega) (show (R.1).length < 2 ^ 31 by omega)]
      rw [if_neg (by rw [nl_6, nI_eq (by omega) (by omega)]; exact e6)]
      have hu1 := ag_up (v := k) h4 (show t.1 < (R.2.2.2.1).length by omega) (Nat.le_refl _)
      rw [if_pos rfl] at hu1
      have hu2 := ag_up (v := 1) h5 (show t.1 < (R.2.2.2.2.1).length by omega) (Nat.le_refl _)
      rw [if_pos rfl] at hu2
      simp only [List.set_set]
      apply hq
      · exact ⟨⟨by rw [List.length_set]; exact r1, by rw [List.length_set]; exact r2, by rw [List.length_set]; exact r3, r4, r5, r6, r7⟩, rfl, hsh _ rfl, rfl, hu1, hu2⟩
      · rfl
      · rfl
      · rfl
end TR4
