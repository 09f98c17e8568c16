/-! a reader at a token, of the class -/
def flt (tp : List Nat) (k i : Nat) : Nat := k + 16 * tk tp i
def isNm (tp : List Nat) (i : Nat) : Prop := TY tp i = 1 ∧ kept (LT tp i) = false
def isWd (tp : List Nat) (i n : Nat) : Prop := TY tp i = 1 ∧ LT tp i = kw n
def isSg (tp : List Nat) (i c : Nat) : Prop := TY tp i = 3 ∧ SG tp i = c
theorem TY_le {tp : List Nat} {i : Nat} : TY tp i ≤ 4 := by
  unfold TY lx_t
  repeat' split
  all_goals omega
theorem tyx_lt {tp : List Nat} {i : Nat} : tyx tp i ≤ 5 := by
  unfold tyx
  repeat' split
  all_goals omega
theorem tyx_0 {tp : List Nat} {i : Nat} : tyx tp i = 0 ↔ TY tp i = 0 := by
  have := TY_le (tp := tp) (i := i)
  unfold tyx
  repeat' split
  all_goals omega
theorem tyx_3 {tp : List Nat} {i : Nat} : tyx tp i = 3 ↔ isNm tp i := by
  have := TY_le (tp := tp) (i := i)
  unfold tyx isNm
  repeat' split
  · omega
  · rename_i h; rw [h]; exact ⟨fun z => by omega, fun z => by cases z.2⟩
  · rename_i h1 h; exact ⟨fun _ => ⟨h1, Bool.eq_false_iff.mpr h⟩, fun _ => rfl⟩
  all_goals omega
theorem tyx_4 {tp : List Nat} {i : Nat} : tyx tp i = 4 ↔ TY tp i = 2 := by
  have := TY_le (tp := tp) (i := i)
  unfold tyx
  repeat' split
  all_goals omega
theorem tyx_5 {tp : List Nat} {i : Nat} : tyx tp i = 5 ↔ TY tp i = 3 := by
  have := TY_le (tp := tp) (i := i)
  unfold tyx
  repeat' split
  all_goals omega
theorem tyx_23 {tp : List Nat} {i : Nat} : (tyx tp i = 2 ∨ tyx tp i = 3) ↔ TY tp i = 1 := by
  have := TY_le (tp := tp) (i := i)
  unfold tyx
  repeat' split
  all_goals omega
section XA
variable {fx : List Value → mm_H → Option (List Value × mm_H)} {z : Nat} {E M : Nat → mm_C} {sw c2 w2 : Bool} {T : px_T} {D : px_D} {S : px_S} {S1 : px_S} {K : px_K} {R : px_R} {C : px_C} {W : px_W} {U : px_U} {q : px_q} {q1 : px_q} {B0 : px_K} {B1 : px_K} {B2 : px_K} {B3 : px_K} {T_signs : List Int32} {T_length : Int32} {T_fault : Int32} {T_types : List Int32} {T_starts : List Int32} {T_values : List Int64} {T_tokens : Int32} {T_at : Int32} {T_behind : Int32} {S_hour : Int32} {S_open : Int32} {S_places : List Int32} {S1_hour : Int32} {S1_open : Int32} {S1_places : List Int32} {K_lines : List Int32} {K_lineCount : Int32} {K_wishes : List Int32} {K_wishCount : Int32} {K_sights : List Int32} {K_sightCount : Int32} {R_shown : List Int32} {R_length : Int32} {R_readers : Int32} {R_begins : List Int32} {R_lengths : List Int32} {R_sentences : Int32} {R_order : List Int32} {R_able : Int32} {R_standing : List Int32} {R_lovers : List Int32} {R_lowest : List Int32} {C_ways : List Int32} {C_rows : List Int32} {C_shallower : List Int32} {C_length : Int32} {C_goal : Int32} {W_row : List Int32} {W_walkers : Int32} {W_names : Int32} {W_wanted : List Int32} {W_shown : List Int32} {W_places : List Int32} {W_rest : List Int32} {W_spent : List Int32} {W_tried : List Int32} {U_undoRows : List Int64} {U_markScenes : List Int64} {U_marksLaid : List Int32} {U_undoCount : Int32} {U_undoEnd : Int32} {q_sortNames : List Int64} {q_sortCount : Int32} {q_colourNames : List Int64} {q_colourSorts : List Int32} {q_colourCount : Int32} {q_ruleMakes : List Int32} {q_ruleFirsts : List Int32} {q_ruleSeconds : List Int32} {q_ruleCount : Int32} {q_saysSort : Int32} {q_walkerNames : List Int64} {q_kinds : List Int32} {q_walkerColours : List Int32} {q_starts : List Int32} {q_stepRows : List Int32} {q_stepCounts : List Int32} {q_walkerCount : Int32} {q_gusts : List Int32} {q_gustCount : Int32} {q_parts : List Int32} {q_count : Int32} {q_stack : List Int32} {q_height : Int32} {q1_sortNames : List Int64} {q1_sortCount : Int32} {q1_colourNames : List Int64} {q1_colourSorts : List Int32} {q1_colourCount : Int32} {q1_ruleMakes : List Int32} {q1_ruleFirsts : List Int32} {q1_ruleSeconds : List Int32} {q1_ruleCount : Int32} {q1_saysSort : Int32} {q1_walkerNames : List Int64} {q1_kinds : List Int32} {q1_walkerColours : List Int32} {q1_starts : List Int32} {q1_stepRows : List Int32} {q1_stepCounts : List Int32} {q1_walkerCount : Int32} {q1_gusts : List Int32} {q1_gustCount : Int32} {q1_parts : List Int32} {q1_count : Int32} {q1_stack : List Int32} {q1_height : Int32} {B0_lines : List Int32} {B0_lineCount : Int32} {B0_wishes : List Int32} {B0_wishCount : Int32} {B0_sights : List Int32} {B0_sightCount : Int32} {B1_lines : List Int32} {B1_lineCount : Int32} {B1_wishes : List Int32} {B1_wishCount : Int32} {B1_sights : List Int32} {B1_sightCount : Int32} {B2_lines : List Int32} {B2_lineCount : Int32} {B2_wishes : List Int32} {B2_wishCount : Int32} {B2_sights : List Int32} {B2_sightCount : Int32} {B3_lines : List Int32} {B3_lineCount : Int32} {B3_wishes : List Int32} {B3_wishCount : Int32} {B3_sights : List Int32} {B3_sightCount : Int32}
variable {d : Nat} {Q : Option Value → mm_H → Prop} {tp : List Nat} {n k : Nat}
theorem TKx_g (h : TKx tp n k T) : aG T.2.2.2.1 (nI k) = some (nI (tyx tp k)) ∧ aG T.2.2.2.2.1 (nI k) = some (nI (tk tp k)) ∧ (TY tp k = 1 → aG T.2.2.2.2.2.1 (nI k) = some (w_x (LT tp k))) ∧ (TY tp k = 2 → aG T.2.2.2.2.2.1 (nI k) = some (lN (VL tp k))) ∧ (TY tp k = 3 → aG T.2.2.2.2.2.1 (nI k) = some (lN (SG tp k))) := by
  obtain ⟨⟨⟨l1, l2, l3, l4⟩, hs, hc⟩, -, hN, h1000, hk, ht⟩ := h
  obtain ⟨a1, a2, a3, a4, a5⟩ := hc k (by omega)
  exact ⟨aG_n a1 (by omega), aG_n a2 (by omega), fun z => aG_n (a3 z) (by omega), fun z => aG_n (a4 z) (by omega), fun z => aG_n (a5 z) (by omega)⟩
theorem TKx_at {f : Int32} (h : TKx tp n k T) (hk : k < n) : TKx tp n (k + 1) (T.1, T.2.1, f, T.2.2.2.1, T.2.2.2.2.1, T.2.2.2.2.2.1, T.2.2.2.2.2.2.1, nI (k + 1), T.2.2.2.2.2.2.2.2) := ⟨h.1, ⟨h.2.1.1, rfl, h.2.1.2.2⟩, h.2.2.1, h.2.2.2.1, by omega, h.2.2.2.2.2⟩
theorem TKx_ft {f : Int32} (h : TKx tp n k T) : TKx tp n k (T.1, T.2.1, f, T.2.2.2.1, T.2.2.2.2.1, T.2.2.2.2.2.1, T.2.2.2.2.2.2.1, T.2.2.2.2.2.2.2.1, T.2.2.2.2.2.2.2.2) := ⟨h.1, h.2.1, h.2.2⟩
theorem t_atEnd (h : TKx tp n k T) (hq1 : TY tp k = 0 → Q (some (.int 1)) (px_h z E M (px_l sw c2 w2 T D S S1 K R C W U q q1 B0 B1 B2 B3))) (hq0 : ¬ TY tp k = 0 → Q (some (.int 0)) (px_h z E M (px_l sw c2 w2 T D S S1 K R C W U q q1 B0 B1 B2 B3))) : wm (mp_P fx) d 50 [.ref 60] (px_h z E M (px_l sw c2 w2 T D S S1 K R C W U q q1 B0 B1 B2 B3)) Q := by
  have g := TKx_g h
  have hl := tyx_lt (tp := tp) (i := k)
  simp only [e50, b50_0, b50_1, bn_0 b50_0, bn_1 b50_1, q50_0, q50_1, q50_4, q50_5, q50_8, q50_9, q50_12, q50_13, q50_16, q50_17, xc_T, xg_T_0, xg_T_1, xs_T_1, xg_T_2, xs_T_2, xg_T_3, xg_T_4, xg_T_5, xg_T_6, xs_T_6, xg_T_7, xs_T_7, xg_T_8, xs_T_8, xa_T_signs, xb_T_signs, xn_T_signs, xa_T_types, xb_T_types, xn_T_types, xa_T_starts, xb_T_starts, xn_T_starts, xa_T_values, xb_T_values, xn_T_values, wx_some, wx_ref, h.2.1.2.1, g.1]
  by_cases e : TY tp k = 0
  · rw [if_neg (by rw [tyx_0.mpr e]; exact fun z => z rfl)]; exact hq1 e
  · rw [if_pos (by rw [nl_0, nI_eq (by omega) (by omega), tyx_0]; exact e)]; exact hq0 e
theorem t_atName (h : TKx tp n k T) (hq1 : isNm tp k → Q (some (.int 1)) (px_h z E M (px_l sw c2 w2 T D S S1 K R C W U q q1 B0 B1 B2 B3))) (hq0 : ¬ isNm tp k → Q (some (.int 0)) (px_h z E M (px_l sw c2 w2 T D S S1 K R C W U q q1 B0 B1 B2 B3))) : wm (mp_P fx) d 57 [.ref 60] (px_h z E M (px_l sw c2 w2 T D S S1 K R C W U q q1 B0 B1 B2 B3)) Q := by
  have g := TKx_g h
  have hl := tyx_lt (tp := tp) (i := k)
  simp only [e57, b57_0, b57_1, bn_0 b57_0, bn_1 b57_1, q57_0, q57_1, q57_4, q57_5, q57_8, q57_9, q57_10, q57_13, q57_14, q57_17, q57_18, xc_T, xg_T_0, xg_T_1, xs_T_1, xg_T_2, xs_T_2, xg_T_3, xg_T_4, xg_T_5, xg_T_6, xs_T_6, xg_T_7, xs_T_7, xg_T_8, xs_T_8, xa_T_signs, xb_T_signs, xn_T_signs, xa_T_types, xb_T_types, xn_T_types, xa_T_starts, xb_T_starts, xn_T_starts, xa_T_values, xb_T_values, xn_T_values, wx_some, wx_ref, h.2.1.2.1, g.1]
  by_cases e : isNm tp k
  · rw [if_neg (by rw [tyx_3.mpr e]; exact fun z => z rfl)]; exact hq1 e
  · rw [if_pos (by rw [nl_3, nI_eq (by omega) (by omega), tyx_3]; exact e)]; exact hq0 e
theorem t_atNumber (h : TKx tp n k T) (hq1 : TY tp k = 2 → Q (some (.int 1)) (px_h z E M (px_l sw c2 w2 T D S S1 K R C W U q q1 B0 B1 B2 B3))) (hq0 : ¬ TY tp k = 2 → Q (some (.int 0)) (px_h z E M (px_l sw c2 w2 T D S S1 K R C W U q q1 B0 B1 B2 B3))) : wm (mp_P fx) d 75 [.ref 60] (px_h z E M (px_l sw c2 w2 T D S S1 K R C W U q q1 B0 B1 B2 B3)) Q := by
  have g := TKx_g h
  have hl := tyx_lt (tp := tp) (i := k)
  simp only [e75, b75_0, b75_1, bn_0 b75_0, bn_1 b75_1, q75_0, q75_1, q75_4, q75_5, q75_8, q75_9, q75_10, q75_13, q75_14, q75_17, q75_18, xc_T, xg_T_0, xg_T_1, xs_T_1, xg_T_2, xs_T_2, xg_T_3, xg_T_4, xg_T_5, xg_T_6, xs_T_6, xg_T_7, xs_T_7, xg_T_8, xs_T_8, xa_T_signs, xb_T_signs, xn_T_signs, xa_T_types, xb_T_types, xn_T_types, xa_T_starts, xb_T_starts, xn_T_starts, xa_T_values, xb_T_values, xn_T_values, wx_some, wx_ref, h.2.1.2.1, g.1]
  by_cases e : TY tp k = 2
  · rw [if_neg (by rw [tyx_4.mpr e]; exact fun z => z rfl)]; exact hq1 e
  · rw [if_pos (by rw [nl_4, nI_eq (by omega) (by omega), tyx_4]; exact e)]; exact hq0 e
theorem t_atSign {c : Nat} (hc : c < 127) (h : TKx tp n k T) (hq1 : isSg tp k c → Q (some (.int 1)) (px_h z E M (px_l sw c2 w2 T D S S1 K R C W U q q1 B0 B1 B2 B3))) (hq0 : ¬ isSg tp k c → Q (some (.int 0)) (px_h z E M (px_l sw c2 w2 T D S S1 K R C W U q q1 B0 B1 B2 B3))) : wm (mp_P fx) d 87 [.ref 60, .int (nI c)] (px_h z E M (px_l sw c2 w2 T D S S1 K R C W U q q1 B0 B1 B2 B3)) Q := by
  have g := TKx_g h
  have hl := tyx_lt (tp := tp) (i := k)
  have ht := h.2.2.2.2.2
  have hsl : SG tp k < 127 := tp_lt ht _
  by_cases e : TY tp k = 3
  · simp only [e87, b87_0, b87_1, bn_0 b87_0, bn_1 b87_1, q87_0, q87_1, q87_4, q87_5, q87_8, q87_9, q87_10, q87_13, q87_14, q87_17, q87_18, q87_21, q87_22, q87_23, q87_24, q87_25, q87_28, q87_29, q87_32, q87_33, xc_T, xg_T_0, xg_T_1, xs_T_1, xg_T_2, xs_T_2, xg_T_3, xg_T_4, xg_T_5, xg_T_6, xs_T_6, xg_T_7, xs_T_7, xg_T_8, xs_T_8, xa_T_signs, xb_T_signs, xn_T_signs, xa_T_types, xb_T_types, xn_T_types, xa_T_starts, xb_T_starts, xn_T_starts, xa_T_values, xb_T_values, xn_T_values, wx_some, wx_ref, h.2.1.2.1, g.1, g.2.2.2.2 e, nI_l (show c < 2 ^ 31 by omega)]
    rw [if_neg (by rw [tyx_5.mpr e]; exact fun z => z rfl)]
    by_cases e2 : SG tp k = c
    · rw [if_neg (fun z => z ((lg_cmp_eq _ _).mpr (by rw [e2])))]
      exact hq1 ⟨e, e2⟩
    · rw [if_pos (fun z => e2 (by
        have := congrArg Int64.toInt ((lg_cmp_eq _ _).mp z)
        rw [lN_t (by omega), lN_t (by omega)] at this
        omega))]
      exact hq0 (fun z => e2 z.2)
  · simp only [b87_0, b87_1, bn_0 b87_0, bn_1 b87_1, q87_0, q87_1, q87_4, q87_5, q87_8, q87_9, q87_10, b87_0, b87_1, bn_0 b87_0, bn_1 b87_1, q87_32, q87_33, e87, b87_0, b87_1, xc_T, xg_T_0, xg_T_1, xs_T_1, xg_T_2, xs_T_2, xg_T_3, xg_T_4, xg_T_5, xg_T_6, xs_T_6, xg_T_7, xs_T_7, xg_T_8, xs_T_8, xa_T_signs, xb_T_signs, xn_T_signs, xa_T_types, xb_T_types, xn_T_types, xa_T_starts, xb_T_starts, xn_T_starts, xa_T_values, xb_T_values, xn_T_values, wx_some, wx_ref, h.2.1.2.1, g.1]
    rw [if_pos (by rw [nl_5, nI_eq (by omega) (by omega), tyx_5]; exact e)]
    exact hq0 (fun z => e z.1)
theorem t_atWord {w : Nat} (hE : ELt E) (hw : w < 27) (h22 : ¬ w = 22) (h : TKx tp n k T) (hq1 : isWd tp k w → Q (some (.int 1)) (px_h z E M (px_l sw c2 w2 T D S S1 K R C W U q q1 B0 B1 B2 B3))) (hq0 : ¬ isWd tp k w → Q (some (.int 0)) (px_h z E M (px_l sw c2 w2 T D S S1 K R C W U q q1 B0 B1 B2 B3))) : wm (mp_P fx) (d + 3) 52 [.ref 60, .ref (2 * w + 1)] (px_h z E M (px_l sw c2 w2 T D S S1 K R C W U q q1 B0 B1 B2 B3)) Q := by
  have g := TKx_g h
  have hl := tyx_lt (tp := tp) (i := k)
  have ht := h.2.2.2.2.2
  obtain ⟨⟨hTl, hs, hc⟩, ⟨-, hat, -⟩, hN, h1000, hk, -⟩ := id h
  obtain ⟨a1, a2, a3, -, -⟩ := hc k (by omega)
  have hsp : TY tp k = 1 → ww (mp_P fx) (d + 3) 52 32 [some (.ref 60), some (.ref (2 * w + 1))] [.ref (2 * w + 1), .int (nI k), .ref 60] (px_h z E M (px_l sw c2 w2 T D S S1 K R C W U q q1 B0 B1 B2 B3)) Q := by
    intro e
    simp only [b52_0, b52_1, bn_0 b52_0, bn_1 b52_1, q52_32, xc_T, xg_T_0, xg_T_1, xs_T_1, xg_T_2, xs_T_2, xg_T_3, xg_T_4, xg_T_5, xg_T_6, xs_T_6, xg_T_7, xs_T_7, xg_T_8, xs_T_8, xa_T_signs, xb_T_signs, xn_T_signs, xa_T_types, xb_T_types, xn_T_types, xa_T_starts, xb_T_starts, xn_T_starts, xa_T_values, xb_T_values, xn_T_values]
    apply t_spells hE ht hw h22 hTl hs (by omega) e (a3 e) a2
    · intro z
      simp only [sl_i, b52_0, b52_1, bn_0 b52_0, bn_1 b52_1, q52_35, q52_38, q52_39, q52_42, q52_43, b52_0, b52_1]
      rw [if_neg (by decide)]
      exact hq1 ⟨e, z⟩
    · intro z
      simp only [sl_i, b52_0, b52_1, bn_0 b52_0, bn_1 b52_1, q52_35, b52_0, b52_1, bn_0 b52_0, bn_1 b52_1, q52_42, q52_43, b52_0, b52_1]
      rw [if_pos (by decide)]
      exact hq0 (fun y => z y.2)
  simp only [e52, b52_0, b52_1, bn_0 b52_0, bn_1 b52_1, q52_0, q52_1, q52_4, q52_5, q52_8, q52_9, q52_10, q52_13, q52_14, q52_17, q52_18, q52_21, q52_22, q52_23, q52_26, q52_27, q52_28, q52_31, b52_0, b52_1, bn_0 b52_0, bn_1 b52_1, q52_42, q52_43, b52_0, b52_1, xc_T, xg_T_0, xg_T_1, xs_T_1, xg_T_2, xs_T_2, xg_T_3, xg_T_4, xg_T_5, xg_T_6, xs_T_6, xg_T_7, xs_T_7, xg_T_8, xs_T_8, xa_T_signs, xb_T_signs, xn_T_signs, xa_T_types, xb_T_types, xn_T_types, xa_T_starts, xb_T_starts, xn_T_starts, xa_T_values, xb_T_values, xn_T_values, wx_some, wx_ref, hat, g.1]
  by_cases e2 : tyx tp k = 2
  · rw [if_pos (by rw [e2]; rfl)]
    exact hsp (tyx_23.mp (Or.inl e2))
  · rw [if_neg (by rw [nl_2, nI_eq (by omega) (by omega)]; exact e2)]
    by_cases e3 : tyx tp k = 3
    · rw [if_neg (by rw [e3]; exact fun z => z rfl)]
      exact hsp (tyx_23.mp (Or.inr e3))
    · rw [if_pos (by rw [nl_3, nI_eq (by omega) (by omega)]; exact e3)]
      exact hq0 (fun y => by
        rcases tyx_23.mpr y.1 with z | z
        · exact e2 z
        · exact e3 z)
theorem t_word (h : TKx tp n k T) (h1 : TY tp k = 1) (hq : Q (some (.long (w_x (LT tp k)))) (px_h z E M (px_l sw c2 w2 T D S S1 K R C W U q q1 B0 B1 B2 B3))) : wm (mp_P fx) d 58 [.ref 60] (px_h z E M (px_l sw c2 w2 T D S S1 K R C W U q q1 B0 B1 B2 B3)) Q := by
  simp only [e58, q58_0, q58_1, q58_4, q58_5, q58_8, q58_9, xc_T, xg_T_0, xg_T_1, xs_T_1, xg_T_2, xs_T_2, xg_T_3, xg_T_4, xg_T_5, xg_T_6, xs_T_6, xg_T_7, xs_T_7, xg_T_8, xs_T_8, xa_T_signs, xb_T_signs, xn_T_signs, xa_T_types, xb_T_types, xn_T_types, xa_T_starts, xb_T_starts, xn_T_starts, xa_T_values, xb_T_values, xn_T_values, wx_some, wx_ref, h.2.1.2.1, (TKx_g h).2.2.1 h1]
  exact hq
theorem VL_lt {i : Nat} (h : TY tp i = 2) : VL tp i < 10000 := by
  unfold TY lx_t at h
  split at h
  · omega
  · rename_i e0
    split at h
    · split at h <;> omega
    · rename_i e1
      split at h
      · rename_i e2
        split at h
        · rename_i e3
          unfold VL
          have he : lx_e tp (tk tp i) = run_ (lx_dg tp) 1001 (tk tp i) := by unfold lx_e; rw [if_neg e0, if_neg e1, if_pos e2]
          have := lx_v_lt (tp := tp) (b := tk tp i) (lx_e tp (tk tp i) - tk tp i) (fun j hj => (run_p (P := lx_dg tp) 1001 (tk tp i)).2 _ (by omega) (by rw [← he]; omega))
          have h10 : 10 ^ (lx_e tp (tk tp i) - tk tp i) ≤ 10 ^ 4 := Nat.pow_le_pow_right (by omega) e3
          omega
        · omega
      · split at h <;> omega
theorem t_number (h : TKx tp n k T) (h1 : TY tp k = 2) (hq : Q (some (.int (nI (VL tp k)))) (px_h z E M (px_l sw c2 w2 T D S S1 K R C W U q q1 B0 B1 B2 B3))) : wm (mp_P fx) d 76 [.ref 60] (px_h z E M (px_l sw c2 w2 T D S S1 K R C W U q q1 B0 B1 B2 B3)) Q := by
  simp only [e76, q76_0, q76_1, q76_4, q76_5, q76_8, q76_9, q76_10, xc_T, xg_T_0, xg_T_1, xs_T_1, xg_T_2, xs_T_2, xg_T_3, xg_T_4, xg_T_5, xg_T_6, xs_T_6, xg_T_7, xs_T_7, xg_T_8, xs_T_8, xa_T_signs, xb_T_signs, xn_T_signs, xa_T_types, xb_T_types, xn_T_types, xa_T_starts, xb_T_starts, xn_T_starts, xa_T_values, xb_T_values, xn_T_values, wx_some, wx_ref, h.2.1.2.1, (TKx_g h).2.2.2.1 h1, lN_w]
  exact hq
theorem t_pass (h : TKx tp n k T) (h0 : ¬ TY tp k = 0) (hq : TKx tp n (k + 1) (T.1, T.2.1, T.2.2.1, T.2.2.2.1, T.2.2.2.2.1, T.2.2.2.2.2.1, nI n, nI (k + 1), T.2.2.2.2.2.2.2.2) → Q (some (.int 1)) (px_h z E M (px_l sw c2 w2 ((T.1, T.2.1, T.2.2.1, T.2.2.2.1, T.2.2.2.2.1, T.2.2.2.2.2.1, nI n, nI (k + 1), T.2.2.2.2.2.2.2.2)) D S S1 K R C W U q q1 B0 B1 B2 B3))) : wm (mp_P fx) d 55 [.ref 60] (px_h z E M (px_l sw c2 w2 T D S S1 K R C W U q q1 B0 B1 B2 B3)) Q := by
  have hk := TY_lt h.2.2.1 h.2.2.2.2.1 h0
  have h1000 := h.2.2.2.1
  simp only [e55, b55_0, b55_1, bn_0 b55_0, bn_1 b55_1, q55_0, q55_1, q55_4, q55_5, q55_8, q55_11, q55_12, q55_13, q55_16, q55_17, q55_18, q55_21, q55_22, xc_T, xg_T_0, xg_T_1, xs_T_1, xg_T_2, xs_T_2, xg_T_3, xg_T_4, xg_T_5, xg_T_6, xs_T_6, xg_T_7, xs_T_7, xg_T_8, xs_T_8, xa_T_signs, xb_T_signs, xn_T_signs, xa_T_types, xb_T_types, xn_T_types, xa_T_starts, xb_T_starts, xn_T_starts, xa_T_values, xb_T_values, xn_T_values, wx_some, wx_ref, h.2.1.2.1, h.2.1.1, nI_1]
  rw [if_neg (by rw [nI_leI (by omega) (by omega)]; omega)]
  exact hq ⟨h.1, ⟨rfl, rfl, h.2.1.2.2⟩, h.2.2.1, h.2.2.2.1, by omega, h.2.2.2.2.2⟩
theorem t_refuse {kd : Nat} (h : TKx tp n k T) (hq : ∀ T', TKx tp n k T' → T'.2.2.1 = nI (flt tp kd k) → Q (some (.int 0)) (px_h z E M (px_l sw c2 w2 (T') D S S1 K R C W U q q1 B0 B1 B2 B3))) : wm (mp_P fx) d 54 [.ref 60, .int (nI kd)] (px_h z E M (px_l sw c2 w2 T D S S1 K R C W U q q1 B0 B1 B2 B3)) Q := by
  simp only [e54, b54_0, b54_1, bn_0 b54_0, bn_1 b54_1, q54_0, q54_1, q54_2, q54_4, q54_5, q54_8, q54_9, q54_12, q54_13, q54_14, q54_15, q54_18, q54_19, xc_T, xg_T_0, xg_T_1, xs_T_1, xg_T_2, xs_T_2, xg_T_3, xg_T_4, xg_T_5, xg_T_6, xs_T_6, xg_T_7, xs_T_7, xg_T_8, xs_T_8, xa_T_signs, xb_T_signs, xn_T_signs, xa_T_types, xb_T_types, xn_T_types, xa_T_starts, xb_T_starts, xn_T_starts, xa_T_values, xb_T_values, xn_T_values, wx_some, wx_ref, h.2.1.2.1, (TKx_g h).2.1, show (16 : Int32) = nI 16 from rfl, pk_mul, nI_add]
  exact hq (T.1, T.2.1, nI (kd + 16 * tk tp k), T.2.2.2.1, T.2.2.2.2.1, T.2.2.2.2.2.1, T.2.2.2.2.2.2.1, nI k, T.2.2.2.2.2.2.2.2) ⟨h.1, ⟨h.2.1.1, rfl, h.2.1.2.2⟩, h.2.2⟩ rfl
theorem t_passWord {w : Nat} (hE : ELt E) (hw : w < 27) (h22 : ¬ w = 22) (h : TKx tp n k T) (hq1 : isWd tp k w → ∀ T', TKx tp n (k + 1) T' → T'.2.2.1 = T.2.2.1 → Q (some (.int 1)) (px_h z E M (px_l sw c2 w2 (T') D S S1 K R C W U q q1 B0 B1 B2 B3))) (hq0 : ¬ isWd tp k w → ∀ T', TKx tp n k T' → T'.2.2.1 = nI (flt tp 1 k) → Q (some (.int 0)) (px_h z E M (px_l sw c2 w2 (T') D S S1 K R C W U q q1 B0 B1 B2 B3))) : wm (mp_P fx) (d + 4) 65 [.ref 60, .ref (2 * w + 1)] (px_h z E M (px_l sw c2 w2 T D S S1 K R C W U q q1 B0 B1 B2 B3)) Q := by
  simp only [e65, b65_0, b65_1, bn_0 b65_0, bn_1 b65_1, q65_0, q65_1, q65_2, xc_T, xg_T_0, xg_T_1, xs_T_1, xg_T_2, xs_T_2, xg_T_3, xg_T_4, xg_T_5, xg_T_6, xs_T_6, xg_T_7, xs_T_7, xg_T_8, xs_T_8, xa_T_signs, xb_T_signs, xn_T_signs, xa_T_types, xb_T_types, xn_T_types, xa_T_starts, xb_T_starts, xn_T_starts, xa_T_values, xb_T_values, xn_T_values]
  apply t_atWord hE hw h22 h
  · intro z
    simp only [sl_i, b65_0, b65_1, bn_0 b65_0, bn_1 b65_1, q65_5, q65_8, q65_9, xc_T, xg_T_0, xg_T_1, xs_T_1, xg_T_2, xs_T_2, xg_T_3, xg_T_4, xg_T_5, xg_T_6, xs_T_6, xg_T_7, xs_T_7, xg_T_8, xs_T_8, xa_T_signs, xb_T_signs, xn_T_signs, xa_T_types, xb_T_types, xn_T_types, xa_T_starts, xb_T_starts, xn_T_starts, xa_T_values, xb_T_values, xn_T_values]
    rw [if_neg (by decide)]
    apply t_pass h (by rw [z.1]; decide)
    intro h2
    simp only [sl_i, b65_0, b65_1, bn_0 b65_0, bn_1 b65_1, q65_12, b65_0, b65_1, bn_0 b65_0, bn_1 b65_1, q65_20, b65_0, b65_1]
    exact hq1 z _ h2 rfl
  · intro z
    simp only [sl_i, b65_0, b65_1, bn_0 b65_0, bn_1 b65_1, q65_5, b65_0, b65_1, bn_0 b65_0, bn_1 b65_1, q65_15, q65_16, q65_17, xc_T, xg_T_0, xg_T_1, xs_T_1, xg_T_2, xs_T_2, xg_T_3, xg_T_4, xg_T_5, xg_T_6, xs_T_6, xg_T_7, xs_T_7, xg_T_8, xs_T_8, xa_T_signs, xb_T_signs, xn_T_signs, xa_T_types, xb_T_types, xn_T_types, xa_T_starts, xb_T_starts, xn_T_starts, xa_T_values, xb_T_values, xn_T_values]
    rw [if_pos (by decide)]
    apply t_refuse (kd := 1) h
    intro T' h2 h3
    simp only [sl_i, b65_0, b65_1, bn_0 b65_0, bn_1 b65_1, q65_20, b65_0, b65_1]
    exact hq0 z T' h2 h3
theorem t_passSign {c : Nat} (hc : c < 127) (h : TKx tp n k T) (hq1 : isSg tp k c → ∀ T', TKx tp n (k + 1) T' → T'.2.2.1 = T.2.2.1 → Q (some (.int 1)) (px_h z E M (px_l sw c2 w2 (T') D S S1 K R C W U q q1 B0 B1 B2 B3))) (hq0 : ¬ isSg tp k c → ∀ T', TKx tp n k T' → T'.2.2.1 = nI (flt tp 1 k) → Q (some (.int 0)) (px_h z E M (px_l sw c2 w2 (T') D S S1 K R C W U q q1 B0 B1 B2 B3))) : wm (mp_P fx) (d + 1) 89 [.ref 60, .int (nI c)] (px_h z E M (px_l sw c2 w2 T D S S1 K R C W U q q1 B0 B1 B2 B3)) Q := by
  simp only [e89, b89_0, b89_1, bn_0 b89_0, bn_1 b89_1, q89_0, q89_1, q89_2, xc_T, xg_T_0, xg_T_1, xs_T_1, xg_T_2, xs_T_2, xg_T_3, xg_T_4, xg_T_5, xg_T_6, xs_T_6, xg_T_7, xs_T_7, xg_T_8, xs_T_8, xa_T_signs, xb_T_signs, xn_T_signs, xa_T_types, xb_T_types, xn_T_types, xa_T_starts, xb_T_starts, xn_T_starts, xa_T_values, xb_T_values, xn_T_values]
  apply t_atSign hc h
  · intro z
    simp only [sl_i, b89_0, b89_1, bn_0 b89_0, bn_1 b89_1, q89_5, q89_8, q89_9, xc_T, xg_T_0, xg_T_1, xs_T_1, xg_T_2, xs_T_2, xg_T_3, xg_T_4, xg_T_5, xg_T_6, xs_T_6, xg_T_7, xs_T_7, xg_T_8, xs_T_8, xa_T_signs, xb_T_signs, xn_T_signs, xa_T_types, xb_T_types, xn_T_types, xa_T_starts, xb_T_starts, xn_T_starts, xa_T_values, xb_T_values, xn_T_values]
    rw [if_neg (by decide)]
    apply t_pass h (by rw [z.1]; decide)
    intro h2
    simp only [sl_i, b89_0, b89_1, bn_0 b89_0, bn_1 b89_1, q89_12, b89_0, b89_1, bn_0 b89_0, bn_1 b89_1, q89_20, b89_0, b89_1]
    exact hq1 z _ h2 rfl
  · intro z
    simp only [sl_i, b89_0, b89_1, bn_0 b89_0, bn_1 b89_1, q89_5, b89_0, b89_1, bn_0 b89_0, bn_1 b89_1, q89_15, q89_16, q89_17, xc_T, xg_T_0, xg_T_1, xs_T_1, xg_T_2, xs_T_2, xg_T_3, xg_T_4, xg_T_5, xg_T_6, xs_T_6, xg_T_7, xs_T_7, xg_T_8, xs_T_8, xa_T_signs, xb_T_signs, xn_T_signs, xa_T_types, xb_T_types, xn_T_types, xa_T_starts, xb_T_starts, xn_T_starts, xa_T_values, xb_T_values, xn_T_values]
    rw [if_pos (by decide)]
    apply t_refuse (kd := 1) h
    intro T' h2 h3
    simp only [sl_i, b89_0, b89_1, bn_0 b89_0, bn_1 b89_1, q89_20, b89_0, b89_1]
    exact hq0 z T' h2 h3
theorem t_checkNumber {a b : Nat} (ha : a < 2 ^ 20) (hb : b < 2 ^ 20) (h : TKx tp n k T) (hq1 : TY tp k = 2 → a ≤ VL tp k ∧ VL tp k ≤ b → Q (some (.int 1)) (px_h z E M (px_l sw c2 w2 T D S S1 K R C W U q q1 B0 B1 B2 B3))) (hq4 : TY tp k = 2 → ¬ (a ≤ VL tp k ∧ VL tp k ≤ b) → ∀ T', TKx tp n k T' → T'.2.2.1 = nI (flt tp 4 k) → Q (some (.int 0)) (px_h z E M (px_l sw c2 w2 (T') D S S1 K R C W U q q1 B0 B1 B2 B3))) (hq0 : ¬ TY tp k = 2 → ∀ T', TKx tp n k T' → T'.2.2.1 = nI (flt tp 1 k) → Q (some (.int 0)) (px_h z E M (px_l sw c2 w2 (T') D S S1 K R C W U q q1 B0 B1 B2 B3))) : wm (mp_P fx) (d + 1) 74 [.ref 60, .int (nI a), .int (nI b)] (px_h z E M (px_l sw c2 w2 T D S S1 K R C W U q q1 B0 B1 B2 B3)) Q := by
  simp only [e74, b74_0, b74_1, bn_0 b74_0, bn_1 b74_1, q74_0, q74_1, xc_T, xg_T_0, xg_T_1, xs_T_1, xg_T_2, xs_T_2, xg_T_3, xg_T_4, xg_T_5, xg_T_6, xs_T_6, xg_T_7, xs_T_7, xg_T_8, xs_T_8, xa_T_signs, xb_T_signs, xn_T_signs, xa_T_types, xb_T_types, xn_T_types, xa_T_starts, xb_T_starts, xn_T_starts, xa_T_values, xb_T_values, xn_T_values]
  apply t_atNumber h
  · intro y2
    have hv := VL_lt y2
    simp only [sl_i, b74_0, b74_1, bn_0 b74_0, bn_1 b74_1, q74_4, b74_0, b74_1, bn_0 b74_0, bn_1 b74_1, q74_13, q74_14, xc_T, xg_T_0, xg_T_1, xs_T_1, xg_T_2, xs_T_2, xg_T_3, xg_T_4, xg_T_5, xg_T_6, xs_T_6, xg_T_7, xs_T_7, xg_T_8, xs_T_8, xa_T_signs, xb_T_signs, xn_T_signs, xa_T_types, xb_T_types, xn_T_types, xa_T_starts, xb_T_starts, xn_T_starts, xa_T_values, xb_T_values, xn_T_values]
    rw [if_pos (by decide)]
    apply t_number h y2
    have hbad : ¬ (a ≤ VL tp k ∧ VL tp k ≤ b) → ww (mp_P fx) (d + 1) 74 29 [some (.ref 60), some (.int (nI a)), some (.int (nI b))] [] (px_h z E M (px_l sw c2 w2 T D S S1 K R C W U q q1 B0 B1 B2 B3)) Q := by
      intro y
      simp only [b74_0, b74_1, bn_0 b74_0, bn_1 b74_1, q74_29, q74_30, q74_31, xc_T, xg_T_0, xg_T_1, xs_T_1, xg_T_2, xs_T_2, xg_T_3, xg_T_4, xg_T_5, xg_T_6, xs_T_6, xg_T_7, xs_T_7, xg_T_8, xs_T_8, xa_T_signs, xb_T_signs, xn_T_signs, xa_T_types, xb_T_types, xn_T_types, xa_T_starts, xb_T_starts, xn_T_starts, xa_T_values, xb_T_values, xn_T_values]
      apply t_refuse (kd := 4) h
      intro T' h2 h3
      simp only [sl_i, b74_0, b74_1, bn_0 b74_0, bn_1 b74_1, q74_34, b74_0, b74_1, bn_0 b74_0, bn_1 b74_1, q74_41, q74_42, b74_0, b74_1]
      rw [if_pos (by decide)]
      exact hq4 y2 y T' h2 h3
    simp only [sl_i, b74_0, b74_1, bn_0 b74_0, bn_1 b74_1, q74_17, q74_18, q74_21]
    by_cases e1 : VL tp k < a
    · rw [if_pos (by rw [nI_ltI (by omega) (by omega)]; exact e1)]
      exact hbad (by omega)
    · rw [if_neg (by rw [nI_ltI (by omega) (by omega)]; exact e1)]
      simp only [b74_0, b74_1, bn_0 b74_0, bn_1 b74_1, q74_22, xc_T, xg_T_0, xg_T_1, xs_T_1, xg_T_2, xs_T_2, xg_T_3, xg_T_4, xg_T_5, xg_T_6, xs_T_6, xg_T_7, xs_T_7, xg_T_8, xs_T_8, xa_T_signs, xb_T_signs, xn_T_signs, xa_T_types, xb_T_types, xn_T_types, xa_T_starts, xb_T_starts, xn_T_starts, xa_T_values, xb_T_values, xn_T_values]
      apply t_number h y2
      simp only [sl_i, b74_0, b74_1, bn_0 b74_0, bn_1 b74_1, q74_25, q74_26, b74_0, b74_1, bn_0 b74_0, bn_1 b74_1, q74_37, q74_38, q74_41, q74_42, b74_0, b74_1]
      by_cases e2 : VL tp k ≤ b
      · rw [if_pos (by rw [nI_leI (by omega) (by omega)]; exact e2)]
        exact hq1 y2 ⟨by omega, e2⟩
      · rw [if_neg (by rw [nI_leI (by omega) (by omega)]; exact e2)]
        exact hbad (by omega)
  · intro z
    simp only [sl_i, b74_0, b74_1, bn_0 b74_0, bn_1 b74_1, q74_4, q74_7, q74_8, xc_T, xg_T_0, xg_T_1, xs_T_1, xg_T_2, xs_T_2, xg_T_3, xg_T_4, xg_T_5, xg_T_6, xs_T_6, xg_T_7, xs_T_7, xg_T_8, xs_T_8, xa_T_signs, xb_T_signs, xn_T_signs, xa_T_types, xb_T_types, xn_T_types, xa_T_starts, xb_T_starts, xn_T_starts, xa_T_values, xb_T_values, xn_T_values]
    rw [if_neg (by decide)]
    simp only [b74_0, b74_1, bn_0 b74_0, bn_1 b74_1, q74_9, xc_T, xg_T_0, xg_T_1, xs_T_1, xg_T_2, xs_T_2, xg_T_3, xg_T_4, xg_T_5, xg_T_6, xs_T_6, xg_T_7, xs_T_7, xg_T_8, xs_T_8, xa_T_signs, xb_T_signs, xn_T_signs, xa_T_types, xb_T_types, xn_T_types, xa_T_starts, xb_T_starts, xn_T_starts, xa_T_values, xb_T_values, xn_T_values]
    apply t_refuse (kd := 1) h
    intro T' h2 h3
    simp only [sl_i, b74_0, b74_1, bn_0 b74_0, bn_1 b74_1, q74_12, b74_0, b74_1]
    exact hq0 z T' h2 h3
end XA
