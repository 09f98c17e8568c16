/-! depth and tree, of the class: all parts -/
def OKc (i k e i' k' _r e' : Nat) : Prop := if i' < i ∨ (i' = i ∧ k' < k) then True else if i' = i ∧ k' = k then e' < e else False
theorem DN_all {s : SQ} {t : Nat → Nat} {dp n : Nat} {OK : Nat → Nat → Nat → Nat → Prop} {xs : List Int32} (h : DN s t dp n OK xs) (hi : ∀ i k r e, i < k → k < n → e < k - i → OK i k r e) : RTx s t (dp + 1) n xs := by
  refine ⟨h.1, fun i k y h1 h2 h3 => ?_⟩
  by_cases e : i = k
  · subst e
    rw [Nat.sub_self, h.2.1 i y h2 h3, rwf_d, rwf_d]
  · obtain ⟨o, a, b⟩ := h.2.2 i k y (by omega) h2 h3
    rw [a, rwf_m (by omega) (mnp_iff b (fun u => CDb_iff (fun r e' he => ⟨fun _ => hi i k r e' (by omega) h2 he, fun _ => trivial⟩)))]
section TQ
variable {fx : List Value → mm_H → Option (List Value × mm_H)} {z : Nat} {E M : Nat → mm_C} {sw c2 w2 : Bool} {T : px_T} {D : px_D} {S : px_S} {S1 : px_S} {K : px_K} {R : px_R} {C : px_C} {W : px_W} {U : px_U} {q : px_q} {q1 : px_q} {B0 : px_K} {B1 : px_K} {B2 : px_K} {B3 : px_K} {T_signs : List Int32} {T_length : Int32} {T_fault : Int32} {T_types : List Int32} {T_starts : List Int32} {T_values : List Int64} {T_tokens : Int32} {T_at : Int32} {T_behind : Int32} {S_hour : Int32} {S_open : Int32} {S_places : List Int32} {S1_hour : Int32} {S1_open : Int32} {S1_places : List Int32} {K_lines : List Int32} {K_lineCount : Int32} {K_wishes : List Int32} {K_wishCount : Int32} {K_sights : List Int32} {K_sightCount : Int32} {R_shown : List Int32} {R_length : Int32} {R_readers : Int32} {R_begins : List Int32} {R_lengths : List Int32} {R_sentences : Int32} {R_order : List Int32} {R_able : Int32} {R_standing : List Int32} {R_lovers : List Int32} {R_lowest : List Int32} {C_ways : List Int32} {C_rows : List Int32} {C_shallower : List Int32} {C_length : Int32} {C_goal : Int32} {W_row : List Int32} {W_walkers : Int32} {W_names : Int32} {W_wanted : List Int32} {W_shown : List Int32} {W_places : List Int32} {W_rest : List Int32} {W_spent : List Int32} {W_tried : List Int32} {U_undoRows : List Int64} {U_markScenes : List Int64} {U_marksLaid : List Int32} {U_undoCount : Int32} {U_undoEnd : Int32} {q_sortNames : List Int64} {q_sortCount : Int32} {q_colourNames : List Int64} {q_colourSorts : List Int32} {q_colourCount : Int32} {q_ruleMakes : List Int32} {q_ruleFirsts : List Int32} {q_ruleSeconds : List Int32} {q_ruleCount : Int32} {q_saysSort : Int32} {q_walkerNames : List Int64} {q_kinds : List Int32} {q_walkerColours : List Int32} {q_starts : List Int32} {q_stepRows : List Int32} {q_stepCounts : List Int32} {q_walkerCount : Int32} {q_gusts : List Int32} {q_gustCount : Int32} {q_parts : List Int32} {q_count : Int32} {q_stack : List Int32} {q_height : Int32} {q1_sortNames : List Int64} {q1_sortCount : Int32} {q1_colourNames : List Int64} {q1_colourSorts : List Int32} {q1_colourCount : Int32} {q1_ruleMakes : List Int32} {q1_ruleFirsts : List Int32} {q1_ruleSeconds : List Int32} {q1_ruleCount : Int32} {q1_saysSort : Int32} {q1_walkerNames : List Int64} {q1_kinds : List Int32} {q1_walkerColours : List Int32} {q1_starts : List Int32} {q1_stepRows : List Int32} {q1_stepCounts : List Int32} {q1_walkerCount : Int32} {q1_gusts : List Int32} {q1_gustCount : Int32} {q1_parts : List Int32} {q1_count : Int32} {q1_stack : List Int32} {q1_height : Int32} {B0_lines : List Int32} {B0_lineCount : Int32} {B0_wishes : List Int32} {B0_wishCount : Int32} {B0_sights : List Int32} {B0_sightCount : Int32} {B1_lines : List Int32} {B1_lineCount : Int32} {B1_wishes : List Int32} {B1_wishCount : Int32} {B1_sights : List Int32} {B1_sightCount : Int32} {B2_lines : List Int32} {B2_lineCount : Int32} {B2_wishes : List Int32} {B2_wishCount : Int32} {B2_sights : List Int32} {B2_sightCount : Int32} {B3_lines : List Int32} {B3_lineCount : Int32} {B3_wishes : List Int32} {B3_wishCount : Int32} {B3_sights : List Int32} {B3_sightCount : Int32}
variable {d : Nat} {Q : Option Value → mm_H → Prop} {s : SQ} {c : SC} {t : Nat → Nat} {n : Nat} {nm : NMs}
theorem CHf_rows {xs ys : List Int32} (h : CHf s t n C) (h1 : xs.length = 294) (h2 : ys.length = 294) : CHf s t n (C.1, xs, ys, C.2.2.2.1, C.2.2.2.2) := ⟨⟨h.1.1, h1, h2⟩, h.2.1, h.2.2.1, h.2.2.2⟩
theorem t_deepen {dp : Nat} (hs : SQx q s) (ho : k_ok s) (hn7 : n ≤ 7) (hC : CHf s t n C) (hR : RTx s t dp n C.2.1) (hq : ∀ C', CHf s t n C' → RTx s t (dp + 1) n C'.2.1 → Q none (px_h z E M (px_l sw (!c2) w2 T D S S1 K R (C') W U q q1 B0 B1 B2 B3))) : wm (mp_P fx) (d + 2) 156 [.ref 83, .ref (px_ta sw)] (px_h z E M (px_l sw c2 w2 T D S S1 K R C W U q q1 B0 B1 B2 B3)) Q := by
  have hl2 := hC.1.2.1
  have hl3 := hC.1.2.2
  have hlen := hC.2.1
  simp only [e156, q156_0, q156_1, q156_4r, q156_5, q156_6, q156_7, q156_10, q156_13, q156_14, q156_15, xc_C, xg_C_0, xg_C_1, xg_C_2, xg_C_3, xs_C_3, xg_C_4, xs_C_4, xa_C_ways, xb_C_ways, xn_C_ways, xa_C_rows, xb_C_rows, xn_C_rows, xa_C_shallower, xb_C_shallower, xn_C_shallower, wx_some, wx_ref, isl_i, isl_r, isl_n, xw_C1, xw_C2]
  simp only [q156_18, q156_19, xc_C, xg_C_0, xg_C_1, xg_C_2, xg_C_3, xs_C_3, xg_C_4, xs_C_4, xa_C_ways, xb_C_ways, xn_C_ways, xa_C_rows, xb_C_rows, xn_C_rows, xa_C_shallower, xb_C_shallower, xn_C_shallower]
  apply t_startRows (C := (C.1, C.2.2.1, C.2.1, C.2.2.2.1, C.2.2.2.2)) ho hn7 (CHf_rows hC hl3 hl2)
  intro xs hD0 _
  have hD0 := hD0 dp
  simp only [sl_n, q156_22, q156_23r, isl_i, isl_r, isl_n]
  have key3 : ∀ (i k : Nat), i < k → k < n → (∀ ys l5, DN s t dp n (OKc i (k + 1) 0) ys → ww (mp_P fx) (d + 2) 156 37 [some (.ref 83), some (.ref (px_ta sw)), some (.ref (px_ca (!c2))), some (.int (nI i)), some (.int (nI (k + 1))), l5] [] (px_h z E M (px_l sw (!c2) w2 T D S S1 K R ((C.1, ys, C.2.1, C.2.2.2.1, C.2.2.2.2)) W U q q1 B0 B1 B2 B3)) Q) → ∀ (m e : Nat) (ys : List Int32), e + m = k - i → DN s t dp n (OKc i k e) ys → ww (mp_P fx) (d + 2) 156 49 [some (.ref 83), some (.ref (px_ta sw)), some (.ref (px_ca (!c2))), some (.int (nI i)), some (.int (nI k)), some (.int (nI (i + e)))] [] (px_h z E M (px_l sw (!c2) w2 T D S S1 K R ((C.1, ys, C.2.1, C.2.2.2.1, C.2.2.2.2)) W U q q1 B0 B1 B2 B3)) Q := by
    intro i k hik hk hgo m
    induction m with
    | zero =>
      intro e ys he hD
      rw [q156_49]
      simp only [q156_51, q156_53, q156_72i, q156_75, isl_i, isl_r, isl_n, nI_1]
      rw [if_pos (by rw [nI_leI (by omega) (by omega)]; omega)]
      refine hgo ys _ (DN_iff hD (fun i' k' r' e' h1 h2 h3 => ?_))
      unfold OKc
      repeat' split
      all_goals (constructor <;> intro zz <;> first | trivial | omega | exact absurd zz id)
    | succ m ih =>
      intro e ys he hD
      rw [q156_49]
      simp only [q156_51, q156_53, q156_56, q156_57, q156_58, q156_59, q156_61]
      rw [if_neg (by rw [nI_leI (by omega) (by omega)]; omega)]
      simp only [q156_63, xc_C, xg_C_0, xg_C_1, xg_C_2, xg_C_3, xs_C_3, xg_C_4, xs_C_4, xa_C_ways, xb_C_ways, xn_C_ways, xa_C_rows, xb_C_rows, xn_C_rows, xa_C_shallower, xb_C_shallower, xn_C_shallower]
      apply t_joinRows (C := (C.1, ys, C.2.1, C.2.2.2.1, C.2.2.2.2)) (dp := dp) (OK := OKc i k e) (t := t) (n := n) hs ho hn7 (show i + e < k by omega) hk hR hD (fun r e' => by unfold OKc; rw [if_neg (by omega), if_pos ⟨rfl, rfl⟩])
      intro zs hZ
      simp only [sl_n, q156_66i, q156_69, isl_i, isl_r, isl_n, nI_1]
      refine ih (e + 1) zs (by omega) (DN_iff hZ (fun i' k' r' e' h1 h2 h3 => ?_))
      unfold OKc
      repeat' split
      all_goals (constructor <;> intro zz <;> first | trivial | omega | exact absurd zz id)
  have key2 : ∀ (i : Nat), i < n → (∀ ys l4 l5, DN s t dp n (OKc (i + 1) (i + 2) 0) ys → ww (mp_P fx) (d + 2) 156 24 [some (.ref 83), some (.ref (px_ta sw)), some (.ref (px_ca (!c2))), some (.int (nI (i + 1))), l4, l5] [] (px_h z E M (px_l sw (!c2) w2 T D S S1 K R ((C.1, ys, C.2.1, C.2.2.2.1, C.2.2.2.2)) W U q q1 B0 B1 B2 B3)) Q) → ∀ (m k : Nat) (l5 : Option Value) (ys : List Int32), k + m = n → i < k → DN s t dp n (OKc i k 0) ys → ww (mp_P fx) (d + 2) 156 37 [some (.ref 83), some (.ref (px_ta sw)), some (.ref (px_ca (!c2))), some (.int (nI i)), some (.int (nI k)), l5] [] (px_h z E M (px_l sw (!c2) w2 T D S S1 K R ((C.1, ys, C.2.1, C.2.2.2.1, C.2.2.2.2)) W U q q1 B0 B1 B2 B3)) Q := by
    intro i hi hgo m
    induction m with
    | zero =>
      intro k l5 ys hk hik hD
      have hk2 : k = n := by omega
      subst hk2
      rw [q156_37]
      simp only [q156_39, q156_40, q156_43, q156_78r, q156_81, xc_C, xg_C_0, xg_C_1, xg_C_2, xg_C_3, xs_C_3, xg_C_4, xs_C_4, xa_C_ways, xb_C_ways, xn_C_ways, xa_C_rows, xb_C_rows, xn_C_rows, xa_C_shallower, xb_C_shallower, xn_C_shallower, wx_some, wx_ref, isl_i, isl_r, isl_n, nI_1]
      rw [if_pos (by rw [hlen, nI_leI (by omega) (by omega)]; omega)]
      refine hgo ys _ _ (DN_iff hD (fun i' k' r' e' h1 h2 h3 => ?_))
      unfold OKc
      repeat' split
      all_goals (constructor <;> intro zz <;> first | trivial | omega | exact absurd zz id)
    | succ m ih =>
      intro k l5 ys hk hik hD
      rw [q156_37]
      simp only [q156_39, q156_40, q156_43, q156_46, q156_47i, xc_C, xg_C_0, xg_C_1, xg_C_2, xg_C_3, xs_C_3, xg_C_4, xs_C_4, xa_C_ways, xb_C_ways, xn_C_ways, xa_C_rows, xb_C_rows, xn_C_rows, xa_C_shallower, xb_C_shallower, xn_C_shallower, wx_some, wx_ref, isl_i, isl_r, isl_n]
      rw [if_neg (by rw [hlen, nI_leI (by omega) (by omega)]; omega)]
      exact key3 i k hik (by omega) (fun ys l5 h => ih (k + 1) l5 ys (by omega) (by omega) h) (k - i) 0 ys (by omega) hD
  have key1 : ∀ (m i : Nat) (l4 l5 : Option Value) (ys : List Int32), i + m = n → DN s t dp n (OKc i (i + 1) 0) ys → ww (mp_P fx) (d + 2) 156 24 [some (.ref 83), some (.ref (px_ta sw)), some (.ref (px_ca (!c2))), some (.int (nI i)), l4, l5] [] (px_h z E M (px_l sw (!c2) w2 T D S S1 K R ((C.1, ys, C.2.1, C.2.2.2.1, C.2.2.2.2)) W U q q1 B0 B1 B2 B3)) Q := by
    intro m
    induction m with
    | zero =>
      intro i l4 l5 ys hi hD
      have hi2 : i = n := by omega
      subst hi2
      rw [q156_24]
      simp only [q156_25, q156_26, q156_29, q156_84, xc_C, xg_C_0, xg_C_1, xg_C_2, xg_C_3, xs_C_3, xg_C_4, xs_C_4, xa_C_ways, xb_C_ways, xn_C_ways, xa_C_rows, xb_C_rows, xn_C_rows, xa_C_shallower, xb_C_shallower, xn_C_shallower, wx_some, wx_ref]
      rw [if_pos (by rw [hlen, nI_leI (by omega) (by omega)]; omega)]
      exact hq (C.1, ys, C.2.1, C.2.2.2.1, C.2.2.2.2) (CHf_rows hC hD.1 hl2) (DN_all hD (fun i' k' r' e' h1 h2 h3 => by unfold OKc; rw [if_pos (by omega)]; trivial))
    | succ m ih =>
      intro i l4 l5 ys hi hD
      rw [q156_24]
      simp only [q156_25, q156_26, q156_29, q156_32, q156_33, q156_34, q156_35i, xc_C, xg_C_0, xg_C_1, xg_C_2, xg_C_3, xs_C_3, xg_C_4, xs_C_4, xa_C_ways, xb_C_ways, xn_C_ways, xa_C_rows, xb_C_rows, xn_C_rows, xa_C_shallower, xb_C_shallower, xn_C_shallower, wx_some, wx_ref, isl_i, isl_r, isl_n, nI_1]
      rw [if_neg (by rw [hlen, nI_leI (by omega) (by omega)]; omega)]
      exact key2 i (by omega) (fun ys l4 l5 h => ih (i + 1) l4 l5 ys (by omega) h) (n - (i + 1)) (i + 1) l5 ys (by omega) (by omega) hD
  refine key1 n 0 none none xs (by omega) (DN_iff hD0 (fun i' k' r' e' h1 h2 h3 => ?_))
  unfold OKc
  repeat' split
  all_goals (constructor <;> intro zz <;> first | trivial | omega | exact absurd zz id)
theorem t_leastDepth (hs : SQx q s) (ho : k_ok s) (hn1 : 1 ≤ n) (hn7 : n ≤ 7) (hC : CHf s t n C) (hq : ∀ c2' C', CHf s t n C' → (∀ dp, sp_dep s t n = some dp → RTx s t dp n C'.2.1) → Q (some (.int (io (sp_dep s t n)))) (px_h z E M (px_l sw (c2') w2 T D S S1 K R (C') W U q q1 B0 B1 B2 B3))) : wm (mp_P fx) (d + 3) 154 [.ref 83, .ref (px_ta sw)] (px_h z E M (px_l sw c2 w2 T D S S1 K R C W U q q1 B0 B1 B2 B3)) Q := by
  have hsy := ho.2.2.2.2.2
  have hwl := wy_lt (t := t) ho (p := n - 1) (i := 0) (y := k_sy s) (by omega)
  simp only [e154, q154_0, q154_1, xc_C, xg_C_0, xg_C_1, xg_C_2, xg_C_3, xs_C_3, xg_C_4, xs_C_4, xa_C_ways, xb_C_ways, xn_C_ways, xa_C_rows, xb_C_rows, xn_C_rows, xa_C_shallower, xb_C_shallower, xn_C_shallower, isl_i, isl_r, isl_n]
  apply t_whole ho hn1 hn7 hC
  simp only [sl_i, q154_4, q154_7, q154_8, q154_9]
  by_cases e0 : wy s t (n - 1) 0 (k_sy s) = 0
  · rw [e0, if_neg (fun z => z rfl)]
    have hno : sp_dep s t n = none := ffl_none _ (fun j hj => by
      cases e : rwf s t j (n - 1) 0 (k_sy s) with
      | none => rfl
      | some v => have := rwf_way _ _ _ _ _ e; omega)
    have := hq c2 C hC (fun dp h => by rw [hno] at h; cases h)
    rw [hno] at this
    exact this
  rw [if_pos (nI_ne0 (by omega) hwl)]
  simp only [q154_10, xc_C, xg_C_0, xg_C_1, xg_C_2, xg_C_3, xs_C_3, xg_C_4, xs_C_4, xa_C_ways, xb_C_ways, xn_C_ways, xa_C_rows, xb_C_rows, xn_C_rows, xa_C_shallower, xb_C_shallower, xn_C_shallower]
  apply t_startRows ho hn7 hC
  intro xs _ hR0
  simp only [sl_n, q154_13, q154_14r, isl_i, isl_r, isl_n]
  have key : ∀ (m dp : Nat) (c2' : Bool) (C' : px_C), dp + m = n → CHf s t n C' → RTx s t dp n C'.2.1 → (∀ j, j < dp → (rwf s t j (n - 1) 0 (k_sy s)).isSome = false) → ww (mp_P fx) (d + 3) 154 15 [some (.ref 83), some (.ref (px_ta sw)), some (.int (nI dp))] [] (px_h z E M (px_l sw (c2') w2 T D S S1 K R (C') W U q q1 B0 B1 B2 B3)) Q := by
    intro m
    induction m with
    | zero =>
      intro dp c2' C' hdp hC' hR' hno
      obtain ⟨v, hv⟩ := rwf_some (s := s) (t := t) (n - 1) (n - 1) (Nat.le_refl _) 0 (k_sy s) (by omega)
      have := hno (n - 1) (by omega)
      rw [hv] at this; cases this
    | succ m ih =>
      intro dp c2' C' hdp hC' hR' hno
      obtain ⟨⟨l1, l2, l3⟩, h2, h3, h4⟩ := id hC'
      have hv := hR'.2 0 (n - 1) (k_sy s) (by omega) (by omega) hsy
      rw [Nat.sub_zero] at hv
      have hlt : ∀ v, rwf s t dp (n - 1) 0 (k_sy s) = some v → v < 2 ^ 31 := fun v hv => Nat.lt_of_lt_of_le (rwf_lt ho _ _ _ _ _ hv) (Nat.pow_le_pow_right (by omega) (by omega))
      rw [q154_15]
      simp only [q154_16, q154_17, q154_20, q154_23, q154_24, q154_27, q154_28, q154_31, q154_32, q154_33, q154_36, q154_37, xc_C, xg_C_0, xg_C_1, xg_C_2, xg_C_3, xs_C_3, xg_C_4, xs_C_4, xa_C_ways, xb_C_ways, xn_C_ways, xa_C_rows, xb_C_rows, xn_C_rows, xa_C_shallower, xb_C_shallower, xn_C_shallower, wx_some, wx_ref, h3, aG_n hv (show (C'.2.1).length < 2 ^ 31 by omega)]
      rw [if_neg (by rw [h2, nI_leI (by omega) (by omega)]; omega)]
      cases eo : rwf s t dp (n - 1) 0 (k_sy s) with
      | none =>
        rw [if_neg (fun z => z rfl)]
        simp only [q154_38, xc_C, xg_C_0, xg_C_1, xg_C_2, xg_C_3, xs_C_3, xg_C_4, xs_C_4, xa_C_ways, xb_C_ways, xn_C_ways, xa_C_rows, xb_C_rows, xn_C_rows, xa_C_shallower, xb_C_shallower, xn_C_shallower]
        apply t_deepen hs ho hn7 hC' hR'
        intro C2 hC2 hR2
        simp only [sl_n, q154_41r, q154_44, isl_i, isl_r, isl_n, nI_1]
        refine ih (dp + 1) _ C2 (by omega) hC2 hR2 (fun j hj => ?_)
        by_cases ej : j = dp
        · subst ej; rw [eo]; rfl
        · exact hno j (by omega)
      | some v =>
        rw [if_pos (fun z => by have := (io_m1 (fun v' hv' => by cases hv'; exact hlt v eo)).mp z; cases this)]
        simp only [q154_47, q154_48]
        have hdep : sp_dep s t n = some dp := ffl_at hno (by rw [eo]; rfl) 7 (by omega)
        have := hq c2' C' hC' (fun dp' h => by rw [hdep] at h; cases h; exact hR')
        rw [hdep] at this
        exact this
  exact key n 0 c2 (C.1, xs, C.2.2.1, C.2.2.2.1, C.2.2.2.2) (by omega) (CHf_rows hC hR0.1 hC.1.2.2) hR0 (fun j hj => by omega)
theorem t_depth {v : Int32} (hK : KX nm s q R C) (hc : c_ok s c) (hS : SCx s S c) (hq : ∀ q' R' C' c2', KX nm s q' R' C' → Q (some (.int (match sx (snk (sp_now s c) (sp_now s c).length).1 v with
    | none => -1
    | some k => io (sp_dep s (sp_text (sp_now s c) k) (sp_tlen (sp_now s c) k))))) (px_h z E M (px_l sw (c2') w2 T D S S1 K (R') (C') W U (q') q1 B0 B1 B2 B3))) : wm (mp_P fx) (d + 6) 153 [.ref 59, .int v] (px_h z E M (px_l sw c2 w2 T D S S1 K R C W U q q1 B0 B1 B2 B3)) Q := by
  simp only [e153, q153_0, q153_1, q153_2, q153_5, q153_8, q153_9, q153_12, q153_13, q153_16, q153_19, q153_22, q153_23, xc_x, xg_x_0, xg_x_1, xg_x_2, xg_x_3, xg_x_4, xg_x_5, xg_x_6, xg_x_7, xg_x_8, xg_x_9, xg_x_10, xg_x_11, xg_x_12, xg_x_13, xg_x_14, xs_x_14, xg_x_15, xs_x_15]
  apply t_parseNow hK hc hS
  · intro q' R' h e
    have hqq := hq q' R' C c2 h
    rw [e] at hqq
    simp only [sl_i, e153, q153_0, q153_1, q153_2, q153_5, q153_8, q153_9, q153_12, q153_13, q153_16, q153_19, q153_22, q153_23]
    rw [if_pos (by decide)]; exact hqq
  · intro q' R' C' k h e hk hC h1 h7
    simp only [sl_i, e153, q153_0, q153_1, q153_2, q153_5, q153_8, q153_9, q153_12, q153_13, q153_16, q153_19, q153_22, q153_23, xc_x, xg_x_0, xg_x_1, xg_x_2, xg_x_3, xg_x_4, xg_x_5, xg_x_6, xg_x_7, xg_x_8, xg_x_9, xg_x_10, xg_x_11, xg_x_12, xg_x_13, xg_x_14, xs_x_14, xg_x_15, xs_x_15, xc_C, xg_C_0, xg_C_1, xg_C_2, xg_C_3, xs_C_3, xg_C_4, xs_C_4, xa_C_ways, xb_C_ways, xn_C_ways, xa_C_rows, xb_C_rows, xn_C_rows, xa_C_shallower, xb_C_shallower, xn_C_shallower, xc_q, xg_q_0, xg_q_1, xs_q_1, xg_q_2, xg_q_3, xg_q_4, xs_q_4, xg_q_5, xg_q_6, xg_q_7, xg_q_8, xs_q_8, xg_q_9, xs_q_9, xg_q_10, xg_q_11, xg_q_12, xg_q_13, xg_q_14, xg_q_15, xg_q_16, xs_q_16, xg_q_17, xg_q_18, xs_q_18, xg_q_19, xa_q_sortNames, xb_q_sortNames, xn_q_sortNames, xa_q_colourNames, xb_q_colourNames, xn_q_colourNames, xa_q_colourSorts, xb_q_colourSorts, xn_q_colourSorts, xa_q_ruleMakes, xb_q_ruleMakes, xn_q_ruleMakes, xa_q_ruleFirsts, xb_q_ruleFirsts, xn_q_ruleFirsts, xa_q_ruleSeconds, xb_q_ruleSeconds, xn_q_ruleSeconds, xa_q_walkerNames, xb_q_walkerNames, xn_q_walkerNames, xa_q_kinds, xb_q_kinds, xn_q_kinds, xa_q_walkerColours, xb_q_walkerColours, xn_q_walkerColours, xa_q_starts, xb_q_starts, xn_q_starts, xa_q_stepRows, xb_q_stepRows, xn_q_stepRows, xa_q_stepCounts, xb_q_stepCounts, xn_q_stepCounts, xa_q_gusts, xb_q_gusts, xn_q_gusts, xc_ql, xg_ql_0, xg_ql_1, xs_ql_1, xg_ql_2, xg_ql_3, xs_ql_3, xa_q_parts, xb_q_parts, xn_q_parts, xa_q_stack, xb_q_stack, xn_q_stack, wx_some, wx_ref]
    rw [if_neg (by decide)]
    apply t_leastDepth h.1 h.2.2.1 h1 h7 hC
    intro c2' C2 hC2 _
    have hqq := hq q' R' C2 c2' ⟨h.1, h.2.1, h.2.2.1, h.2.2.2.1, h.2.2.2.2.1, hC2.1⟩
    rw [e] at hqq
    simp only [sl_i, e153, q153_0, q153_1, q153_2, q153_5, q153_8, q153_9, q153_12, q153_13, q153_16, q153_19, q153_22, q153_23]
    exact hqq
theorem t_ruleInTree {v : Int32} (hs : SQx q s) (ho : k_ok s) (hn1 : 1 ≤ n) (hn7 : n ≤ 7) (hC : CHf s t n C) (hq : ∀ c2' C', CHl C' → Q (some (.int (match sx (n - 1) v with
    | none => -1
    | some i => sp_tree s t n i))) (px_h z E M (px_l sw (c2') w2 T D S S1 K R (C') W U q q1 B0 B1 B2 B3))) : wm (mp_P fx) (d + 4) 159 [.ref 83, .ref (px_ta sw), .int v] (px_h z E M (px_l sw c2 w2 T D S S1 K R C W U q q1 B0 B1 B2 B3)) Q := by
  have hsy := ho.2.2.2.2.2
  have hlen := hC.2.1
  simp only [e159, q159_0, q159_1, q159_4, q159_5, q159_6, q159_9, q159_10, q159_11, q159_14, q159_15, xc_C, xg_C_0, xg_C_1, xg_C_2, xg_C_3, xs_C_3, xg_C_4, xs_C_4, xa_C_ways, xb_C_ways, xn_C_ways, xa_C_rows, xb_C_rows, xn_C_rows, xa_C_shallower, xb_C_shallower, xn_C_shallower, wx_some, wx_ref, hlen, nl_1, nI_sub hn1]
  rcases sx_c (n - 1) v (by omega) with ⟨e, hv⟩ | ⟨i, hi, rfl, e⟩
  · have hqq := hq c2 C hC.1
    rw [e] at hqq
    simp only [q159_23, q159_24]
    rcases hv with hv | ⟨hv, hv2⟩
    · rw [if_pos hv]; exact hqq
    · rw [if_neg hv, if_pos hv2]; exact hqq
  rw [e] at hq
  simp only [] at hq
  unfold sp_tree at hq
  rw [if_neg (by rw [nl_0, nI_ltI (by omega) (by omega)]; omega), if_neg (by rw [nI_leI (by omega) (by omega)]; omega)]
  simp only [q159_16, xc_C, xg_C_0, xg_C_1, xg_C_2, xg_C_3, xs_C_3, xg_C_4, xs_C_4, xa_C_ways, xb_C_ways, xn_C_ways, xa_C_rows, xb_C_rows, xn_C_rows, xa_C_shallower, xb_C_shallower, xn_C_shallower]
  apply t_leastDepth hs ho hn1 hn7 hC
  intro c2' C' hC' hR'
  obtain ⟨⟨l1, l2, l3⟩, h2, h3, h4⟩ := id hC'
  have hqq := hq c2' C' hC'.1
  cases ed : sp_dep s t n with
  | none =>
    rw [ed] at hqq
    simp only [sl_i, q159_19, q159_20, q159_23, q159_24]
    rw [if_neg (fun z => z rfl)]
    exact hqq
  | some dp =>
    rw [ed] at hqq
    have hdl := ffl_lt _ _ ed
    have hv := (hR' dp ed).2 0 (n - 1) (k_sy s) (by omega) (by omega) hsy
    rw [Nat.sub_zero] at hv
    simp only [sl_i, q159_19, q159_20, q159_23, q159_24, q159_25, q159_26, q159_29, q159_30, q159_33, q159_34, q159_35, q159_36, q159_39, q159_40, q159_41, q159_42, q159_43, q159_44, q159_45, q159_47, q159_48, xc_C, xg_C_0, xg_C_1, xg_C_2, xg_C_3, xs_C_3, xg_C_4, xs_C_4, xa_C_ways, xb_C_ways, xn_C_ways, xa_C_rows, xb_C_rows, xn_C_rows, xa_C_shallower, xb_C_shallower, xn_C_shallower, wx_some, wx_ref, h2, h3, aG_n hv (show (C'.2.1).length < 2 ^ 31 by omega), nl_2, nI_sub (show 2 ≤ n by omega), nI_sub (show i ≤ n - 2 by omega), nl_4, pk_mul]
    rw [if_pos (fun z => by have := (io_m1 (o := some dp) (fun v' hv' => by cases hv'; omega)).mp z; cases this)]
    exact hqq
theorem t_tree {v u : Int32} (hK : KX nm s q R C) (hc : c_ok s c) (hS : SCx s S c) (hq : ∀ q' R' C' c2', KX nm s q' R' C' → Q (some (.int (match sx (snk (sp_now s c) (sp_now s c).length).1 v with
    | none => -1
    | some k => (match sx (sp_tlen (sp_now s c) k - 1) u with
      | none => -1
      | some i => sp_tree s (sp_text (sp_now s c) k) (sp_tlen (sp_now s c) k) i)))) (px_h z E M (px_l sw (c2') w2 T D S S1 K (R') (C') W U (q') q1 B0 B1 B2 B3))) : wm (mp_P fx) (d + 6) 158 [.ref 59, .int v, .int u] (px_h z E M (px_l sw c2 w2 T D S S1 K R C W U q q1 B0 B1 B2 B3)) Q := by
  simp only [e158, q158_0, q158_1, q158_2, q158_5, q158_8, q158_9, q158_12, q158_13, q158_16, q158_17, q158_20, q158_23, q158_24, xc_x, xg_x_0, xg_x_1, xg_x_2, xg_x_3, xg_x_4, xg_x_5, xg_x_6, xg_x_7, xg_x_8, xg_x_9, xg_x_10, xg_x_11, xg_x_12, xg_x_13, xg_x_14, xs_x_14, xg_x_15, xs_x_15]
  apply t_parseNow hK hc hS
  · intro q' R' h e
    have hqq := hq q' R' C c2 h
    rw [e] at hqq
    simp only [sl_i, e158, q158_0, q158_1, q158_2, q158_5, q158_8, q158_9, q158_12, q158_13, q158_16, q158_17, q158_20, q158_23, q158_24]
    rw [if_pos (by decide)]; exact hqq
  · intro q' R' C' k h e hk hC h1 h7
    simp only [sl_i, e158, q158_0, q158_1, q158_2, q158_5, q158_8, q158_9, q158_12, q158_13, q158_16, q158_17, q158_20, q158_23, q158_24, xc_x, xg_x_0, xg_x_1, xg_x_2, xg_x_3, xg_x_4, xg_x_5, xg_x_6, xg_x_7, xg_x_8, xg_x_9, xg_x_10, xg_x_11, xg_x_12, xg_x_13, xg_x_14, xs_x_14, xg_x_15, xs_x_15, xc_C, xg_C_0, xg_C_1, xg_C_2, xg_C_3, xs_C_3, xg_C_4, xs_C_4, xa_C_ways, xb_C_ways, xn_C_ways, xa_C_rows, xb_C_rows, xn_C_rows, xa_C_shallower, xb_C_shallower, xn_C_shallower, xc_q, xg_q_0, xg_q_1, xs_q_1, xg_q_2, xg_q_3, xg_q_4, xs_q_4, xg_q_5, xg_q_6, xg_q_7, xg_q_8, xs_q_8, xg_q_9, xs_q_9, xg_q_10, xg_q_11, xg_q_12, xg_q_13, xg_q_14, xg_q_15, xg_q_16, xs_q_16, xg_q_17, xg_q_18, xs_q_18, xg_q_19, xa_q_sortNames, xb_q_sortNames, xn_q_sortNames, xa_q_colourNames, xb_q_colourNames, xn_q_colourNames, xa_q_colourSorts, xb_q_colourSorts, xn_q_colourSorts, xa_q_ruleMakes, xb_q_ruleMakes, xn_q_ruleMakes, xa_q_ruleFirsts, xb_q_ruleFirsts, xn_q_ruleFirsts, xa_q_ruleSeconds, xb_q_ruleSeconds, xn_q_ruleSeconds, xa_q_walkerNames, xb_q_walkerNames, xn_q_walkerNames, xa_q_kinds, xb_q_kinds, xn_q_kinds, xa_q_walkerColours, xb_q_walkerColours, xn_q_walkerColours, xa_q_starts, xb_q_starts, xn_q_starts, xa_q_stepRows, xb_q_stepRows, xn_q_stepRows, xa_q_stepCounts, xb_q_stepCounts, xn_q_stepCounts, xa_q_gusts, xb_q_gusts, xn_q_gusts, xc_ql, xg_ql_0, xg_ql_1, xs_ql_1, xg_ql_2, xg_ql_3, xs_ql_3, xa_q_parts, xb_q_parts, xn_q_parts, xa_q_stack, xb_q_stack, xn_q_stack, wx_some, wx_ref]
    rw [if_neg (by decide)]
    apply t_ruleInTree h.1 h.2.2.1 h1 h7 hC
    intro c2' C2 hC2
    have hqq := hq q' R' C2 c2' ⟨h.1, h.2.1, h.2.2.1, h.2.2.2.1, h.2.2.2.2.1, hC2⟩
    rw [e] at hqq
    simp only [sl_i, e158, q158_0, q158_1, q158_2, q158_5, q158_8, q158_9, q158_12, q158_13, q158_16, q158_17, q158_20, q158_23, q158_24]
    exact hqq
end TQ
