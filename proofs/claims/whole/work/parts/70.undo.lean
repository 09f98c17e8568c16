/-! what was done, undone, of the class -/
def pv (xs : List Int32) (i : Nat) : Nat := (xs.getD i 0).toNatClampNeg
theorem rg_v {xs : List Int32} {n b i : Nat} (h : rg xs n b) (hb : b < 2 ^ 31) (hi : i < n) : xs[i]? = some (nI (pv xs i)) ∧ pv xs i < b := by
  obtain ⟨p, h1, h2⟩ := h.2 i hi
  have : pv xs i = p := by
    unfold pv
    rw [List.getD, h2]
    show (nI p).toNatClampNeg = p
    exact nI_clamp (by omega)
  rw [this]; exact ⟨h2, h1⟩
def pkf (h : Nat) (p : Nat → Nat) : Nat → Nat
  | 0 => h
  | n + 1 => pkf h p n * 16 + p n
theorem pkf_lt {h : Nat} {p : Nat → Nat} (hh : h < 2 ^ 20) : ∀ n, (∀ i, i < n → p i < 16) → pkf h p n < 2 ^ 20 * 16 ^ n := by
  intro n
  induction n with
  | zero => intro _; rw [pkf, Nat.pow_zero]; omega
  | succ n ih =>
    intro hp
    have h1 := ih (fun i hi => hp i (by omega))
    have h2 := hp n (by omega)
    rw [pkf, Nat.pow_succ]
    omega
theorem pkf_63 {h : Nat} {p : Nat → Nat} {n : Nat} (hh : h < 2 ^ 20) (hn : n ≤ 7) (hp : ∀ i, i < n → p i < 16) : pkf h p n < 2 ^ 48 := by
  have h1 := pkf_lt hh n hp
  have h2 : 16 ^ n ≤ 16 ^ 7 := Nat.pow_le_pow_right (by omega) hn
  have h3 : (16 : Nat) ^ 7 = 2 ^ 28 := by decide
  omega
/-- a kept row holds a scene -/
def RWx (s : SQ) (r : Int64) (c : SC) : Prop := ∃ P : List Int32, rg P 7 10 ∧ ag P (k_nW s) c.2.2 ∧ r = lN (pkf c.1 (pv P) 7 * 128 + c.2.1)
def UNx (s : SQ) (us : List SC) (U : px_U) : Prop := us.length ≤ 16 ∧ (∀ c ∈ us, c_ok s c) ∧ (U.1).length = 16 ∧ U.2.2.2.1 = nI us.length ∧ ∃ e, e < 16 ∧ U.2.2.2.2 = nI e ∧ ∀ i c, us[i]? = some c → ∃ r, (U.1)[(e + 15 - i) % 16]? = some r ∧ RWx s r c
def sp_keep (c : SC) (us : List SC) : List SC := (c :: us).take 16
section TU
variable {fx : List Value → mm_H → Option (List Value × mm_H)} {z : Nat} {E M : Nat → mm_C} {sw c2 w2 : Bool} {T : px_T} {D : px_D} {S : px_S} {S1 : px_S} {K : px_K} {R : px_R} {C : px_C} {W : px_W} {U : px_U} {q : px_q} {q1 : px_q} {B0 : px_K} {B1 : px_K} {B2 : px_K} {B3 : px_K} {T_signs : List Int32} {T_length : Int32} {T_fault : Int32} {T_types : List Int32} {T_starts : List Int32} {T_values : List Int64} {T_tokens : Int32} {T_at : Int32} {T_behind : Int32} {S_hour : Int32} {S_open : Int32} {S_places : List Int32} {S1_hour : Int32} {S1_open : Int32} {S1_places : List Int32} {K_lines : List Int32} {K_lineCount : Int32} {K_wishes : List Int32} {K_wishCount : Int32} {K_sights : List Int32} {K_sightCount : Int32} {R_shown : List Int32} {R_length : Int32} {R_readers : Int32} {R_begins : List Int32} {R_lengths : List Int32} {R_sentences : Int32} {R_order : List Int32} {R_able : Int32} {R_standing : List Int32} {R_lovers : List Int32} {R_lowest : List Int32} {C_ways : List Int32} {C_rows : List Int32} {C_shallower : List Int32} {C_length : Int32} {C_goal : Int32} {W_row : List Int32} {W_walkers : Int32} {W_names : Int32} {W_wanted : List Int32} {W_shown : List Int32} {W_places : List Int32} {W_rest : List Int32} {W_spent : List Int32} {W_tried : List Int32} {U_undoRows : List Int64} {U_markScenes : List Int64} {U_marksLaid : List Int32} {U_undoCount : Int32} {U_undoEnd : Int32} {q_sortNames : List Int64} {q_sortCount : Int32} {q_colourNames : List Int64} {q_colourSorts : List Int32} {q_colourCount : Int32} {q_ruleMakes : List Int32} {q_ruleFirsts : List Int32} {q_ruleSeconds : List Int32} {q_ruleCount : Int32} {q_saysSort : Int32} {q_walkerNames : List Int64} {q_kinds : List Int32} {q_walkerColours : List Int32} {q_starts : List Int32} {q_stepRows : List Int32} {q_stepCounts : List Int32} {q_walkerCount : Int32} {q_gusts : List Int32} {q_gustCount : Int32} {q_parts : List Int32} {q_count : Int32} {q_stack : List Int32} {q_height : Int32} {q1_sortNames : List Int64} {q1_sortCount : Int32} {q1_colourNames : List Int64} {q1_colourSorts : List Int32} {q1_colourCount : Int32} {q1_ruleMakes : List Int32} {q1_ruleFirsts : List Int32} {q1_ruleSeconds : List Int32} {q1_ruleCount : Int32} {q1_saysSort : Int32} {q1_walkerNames : List Int64} {q1_kinds : List Int32} {q1_walkerColours : List Int32} {q1_starts : List Int32} {q1_stepRows : List Int32} {q1_stepCounts : List Int32} {q1_walkerCount : Int32} {q1_gusts : List Int32} {q1_gustCount : Int32} {q1_parts : List Int32} {q1_count : Int32} {q1_stack : List Int32} {q1_height : Int32} {B0_lines : List Int32} {B0_lineCount : Int32} {B0_wishes : List Int32} {B0_wishCount : Int32} {B0_sights : List Int32} {B0_sightCount : Int32} {B1_lines : List Int32} {B1_lineCount : Int32} {B1_wishes : List Int32} {B1_wishCount : Int32} {B1_sights : List Int32} {B1_sightCount : Int32} {B2_lines : List Int32} {B2_lineCount : Int32} {B2_wishes : List Int32} {B2_wishCount : Int32} {B2_sights : List Int32} {B2_sightCount : Int32} {B3_lines : List Int32} {B3_lineCount : Int32} {B3_wishes : List Int32} {B3_wishCount : Int32} {B3_sights : List Int32} {B3_sightCount : Int32}
variable {d : Nat} {Q : Option Value → mm_H → Prop} {s : SQ} {c : SC} {nm : NMs} {us : List SC}
theorem t_packed (ho : k_ok s) (hc : c_ok s c) (hS : SCx s S c) (hq : ∀ r, RWx s r c → Q (some (.long r)) (px_h z E M (px_l sw c2 w2 T D S S1 K R C W U q q1 B0 B1 B2 B3))) : wm (mp_P fx) d 125 [.ref 67] (px_h z E M (px_l sw c2 w2 T D S S1 K R C W U q q1 B0 B1 B2 B3)) Q := by
  obtain ⟨e1, e2, hrg, hpl⟩ := id hS
  have hh := hc.1
  have h128 : c.2.1 < 128 := Nat.lt_of_lt_of_le hc.2.1 (p27 ho.1.2.2.2.1)
  have hl := hrg.1
  simp only [e125, q125_0, q125_1, q125_4, q125_5r, q125_6, q125_7n, xc_S, xg_S_0, xs_S_0, xg_S_1, xs_S_1, xg_S_2, xa_S_places, xb_S_places, xn_S_places, wx_some, wx_ref, isl_i, isl_r, isl_n, e1, nI_l (show c.1 < 2 ^ 31 by omega)]
  have key : ∀ (m w : Nat), w + m = 7 → ww (mp_P fx) d 125 8 [some (.ref 67), some (.long (lN (pkf c.1 (pv S.2.2) w))), none, some (.int (nI w))] [] (px_h z E M (px_l sw c2 w2 T D S S1 K R C W U q q1 B0 B1 B2 B3)) Q := by
    intro m
    induction m with
    | zero =>
      intro w hw
      have hw2 : w = 7 := by omega
      subst hw2
      rw [q125_8]
      simp only [q125_9, q125_11, q125_34, q125_35, q125_38, q125_39, q125_40, q125_43, q125_44, q125_45, xc_S, xg_S_0, xs_S_0, xg_S_1, xs_S_1, xg_S_2, xa_S_places, xb_S_places, xn_S_places, wx_some, wx_ref, e2, nI_l (show c.2.1 < 2 ^ 31 by omega), show (128 : Int64) = lN 128 from rfl, lN_mul, lN_add]
      rw [if_pos (by decide)]
      exact hq _ ⟨_, hrg, hpl, rfl⟩
    | succ m ih =>
      intro w hw
      obtain ⟨h1, h2⟩ := rg_v hrg (by omega) (show w < 7 by omega)
      rw [q125_8]
      simp only [q125_9, q125_11, q125_14, q125_15, q125_18, q125_19, q125_20, q125_23, q125_24, q125_25, q125_26, q125_27r, q125_28n, q125_31, xc_S, xg_S_0, xs_S_0, xg_S_1, xs_S_1, xg_S_2, xa_S_places, xb_S_places, xn_S_places, wx_some, wx_ref, isl_i, isl_r, isl_n, aG_n h1 (show (S.2.2).length < 2 ^ 31 by omega), nI_l (show pv S.2.2 w < 2 ^ 31 by omega), show (16 : Int64) = lN 16 from rfl, lN_mul, lN_add, nl_1, nI_add]
      rw [nl_7, if_neg (by rw [nI_leI (by omega) (by omega)]; omega)]
      exact ih (w + 1) (by omega)
  exact key 7 0 (by omega)
theorem t_unpack {r : Int64} (ho : k_ok s) (hc : c_ok s c) (hr : RWx s r c) (hl : (S.2.2).length = 7) (hq : ∀ S', SCx s S' c → Q none (px_h z E M (px_l sw c2 w2 T D (S') S1 K R C W U q q1 B0 B1 B2 B3))) : wm (mp_P fx) d 145 [.ref 67, .long r] (px_h z E M (px_l sw c2 w2 T D S S1 K R C W U q q1 B0 B1 B2 B3)) Q := by
  obtain ⟨P, hrg, hpl, rfl⟩ := hr
  have hh := hc.1
  have h7 := ho.1.2.2.2.1
  have h128 : c.2.1 < 128 := Nat.lt_of_lt_of_le hc.2.1 (p27 h7)
  have hp : ∀ i, i < 7 → pv P i < 10 := fun i hi => (rg_v hrg (by omega) hi).2
  have hb7 := pkf_63 (p := pv P) hh (Nat.le_refl 7) (fun i hi => by have := hp i hi; omega)
  simp only [e145, q145_0, q145_1, q145_2, q145_5, q145_6, q145_7, q145_10, q145_11, q145_13, q145_14n, q145_15, q145_17n, xc_S, xg_S_0, xs_S_0, xg_S_1, xs_S_1, xg_S_2, xa_S_places, xb_S_places, xn_S_places, wx_some, wx_ref, isl_i, isl_r, isl_n, lN_127, lN_w, lN_s7 (show pkf c.1 (pv P) 7 * 128 + c.2.1 < 2 ^ 63 by omega)]
  rw [show (pkf c.1 (pv P) 7 * 128 + c.2.1) % 128 = c.2.1 by omega, show (pkf c.1 (pv P) 7 * 128 + c.2.1) / 128 = pkf c.1 (pv P) 7 by omega]
  have fin : ∀ (ps : List Int32) (l1 l4 l5 : Option Value), ps.length = 7 → (∀ i, i < 7 → ps[i]? = some (nI (pv P i))) → ww (mp_P fx) d 145 47 [some (.ref 67), l1, none, some (.long (lN c.1)), l4, l5] [] (px_h z E M (px_l sw c2 w2 T D ((S.1, nI c.2.1, ps)) S1 K R C W U q q1 B0 B1 B2 B3)) Q := by
    intro ps l1 l4 l5 hps hpi
    simp only [q145_47, q145_48, q145_49, q145_50, q145_53, xc_S, xg_S_0, xs_S_0, xg_S_1, xs_S_1, xg_S_2, xa_S_places, xb_S_places, xn_S_places, wx_some, wx_ref, lN_w]
    refine hq _ ⟨rfl, rfl, ⟨hps, fun i hi => ⟨pv P i, hp i hi, hpi i hi⟩⟩, fun i hi => ?_⟩
    show ps[i]? = _
    rw [hpi i (by omega), ← hpl i hi]
    exact ((rg_v hrg (by omega) (by omega)).1).symm
  have key : ∀ (w : Nat) (ps : List Int32) (l1 : Option Value), w < 7 → ps.length = 7 → (∀ i, w < i → i < 7 → ps[i]? = some (nI (pv P i))) → ww (mp_P fx) d 145 19 [some (.ref 67), l1, none, some (.long (lN (pkf c.1 (pv P) (w + 1)))), none, some (.int (nI w))] [] (px_h z E M (px_l sw c2 w2 T D ((S.1, nI c.2.1, ps)) S1 K R C W U q q1 B0 B1 B2 B3)) Q := by
    intro w
    induction w with
    | zero =>
      intro ps l1 hw hps hpi
      have hpw := hp 0 (by omega)
      have hbw := pkf_63 (p := pv P) (n := 0 + 1) hh (by omega) (fun i hi => by have := hp i (by omega); omega)
      rw [q145_19]
      simp only [q145_21, q145_24, q145_25, q145_28, q145_30, q145_31, q145_34, q145_35, q145_36, q145_37, q145_38, q145_39, q145_40n, q145_41n, q145_44, xc_S, xg_S_0, xs_S_0, xg_S_1, xs_S_1, xg_S_2, xa_S_places, xb_S_places, xn_S_places, wx_some, wx_ref, isl_i, isl_r, isl_n, lN_15, lN_w, lN_s4 (show pkf c.1 (pv P) (0 + 1) < 2 ^ 63 by omega), aS_n (show 0 < ps.length by omega) (show ps.length < 2 ^ 31 by omega)]
      rw [if_neg (by decide)]
      rw [q145_19]
      simp only [q145_21]
      rw [if_pos (by decide)]
      rw [show pkf c.1 (pv P) (0 + 1) / 16 = c.1 by show (c.1 * 16 + pv P 0) / 16 = c.1; omega]
      rw [show pkf c.1 (pv P) (0 + 1) % 16 = pv P 0 by show (c.1 * 16 + pv P 0) % 16 = _; omega]
      refine fin _ l1 _ _ (by rw [List.length_set]; exact hps) (fun i hi => ?_)
      rw [List.getElem?_set]
      by_cases e : 0 = i
      · subst e; rw [if_pos rfl, if_pos (by omega)]
      · rw [if_neg e]; exact hpi i (by omega) hi
    | succ w ih =>
      intro ps l1 hw hps hpi
      have hpw := hp (w + 1) (by omega)
      have hbw := pkf_63 (p := pv P) (n := w + 1 + 1) hh (by omega) (fun i hi => by have := hp i (by omega); omega)
      have e16 : pkf c.1 (pv P) (w + 1 + 1) = pkf c.1 (pv P) (w + 1) * 16 + pv P (w + 1) := rfl
      rw [q145_19]
      simp only [q145_21, q145_24, q145_25, q145_28, q145_30, q145_31, q145_34, q145_35, q145_36, q145_37, q145_38, q145_39, q145_40n, q145_41n, q145_44, xc_S, xg_S_0, xs_S_0, xg_S_1, xs_S_1, xg_S_2, xa_S_places, xb_S_places, xn_S_places, wx_some, wx_ref, isl_i, isl_r, isl_n, lN_15, lN_w, lN_s4 (show pkf c.1 (pv P) (w + 1 + 1) < 2 ^ 63 by omega), aS_n (show w + 1 < ps.length by omega) (show ps.length < 2 ^ 31 by omega)]
      rw [if_neg (by rw [nl_0, nI_ltI (by omega) (by omega)]; omega), i_m1, nI_pred]
      rw [e16, show (pkf c.1 (pv P) (w + 1) * 16 + pv P (w + 1)) / 16 = pkf c.1 (pv P) (w + 1) by omega, show (pkf c.1 (pv P) (w + 1) * 16 + pv P (w + 1)) % 16 = pv P (w + 1) by omega]
      refine ih _ l1 (by omega) (by rw [List.length_set]; exact hps) (fun i h1 h2 => ?_)
      rw [List.getElem?_set]
      by_cases e : w + 1 = i
      · subst e; rw [if_pos rfl, if_pos (by omega)]
      · rw [if_neg e]; exact hpi i (by omega) h2
  exact key 6 _ _ (by omega) hl (fun i h1 h2 => by omega)
theorem t_keep (ho : k_ok s) (hc : c_ok s c) (hS : SCx s S c) (hU : UNx s us U) (hq : ∀ U', UNx s (sp_keep c us) U' → U'.2.1 = U.2.1 → U'.2.2.1 = U.2.2.1 → Q none (px_h z E M (px_l sw c2 w2 T D S S1 K R C W (U') q q1 B0 B1 B2 B3))) : wm (mp_P fx) (d + 1) 124 [.ref 59] (px_h z E M (px_l sw c2 w2 T D S S1 K R C W U q q1 B0 B1 B2 B3)) Q := by
  obtain ⟨h16, hok, hl, hcn, e, he, hen, hrow⟩ := id hU
  simp only [e124, q124_0, q124_1, q124_4, q124_5, q124_8, q124_9, q124_12, q124_15, q124_16, q124_17, q124_18, q124_21, q124_22, q124_23, q124_25, q124_26, q124_29, q124_30, q124_31, q124_34, q124_35, q124_36, q124_38, q124_41, q124_44, xc_x, xg_x_0, xg_x_1, xg_x_2, xg_x_3, xg_x_4, xg_x_5, xg_x_6, xg_x_7, xg_x_8, xg_x_9, xg_x_10, xg_x_11, xg_x_12, xg_x_13, xg_x_14, xs_x_14, xg_x_15, xs_x_15, xa_U_undoRows, xb_U_undoRows, xn_U_undoRows, xa_U_markScenes, xb_U_markScenes, xn_U_markScenes, xa_U_marksLaid, xb_U_marksLaid, xn_U_marksLaid, xc_S, xg_S_0, xs_S_0, xg_S_1, xs_S_1, xg_S_2, xa_S_places, xb_S_places, xn_S_places, wx_some, wx_ref]
  apply t_packed ho hc hS
  intro r hr
  simp only [sl_i, e124, q124_0, q124_1, q124_4, q124_5, q124_8, q124_9, q124_12, q124_15, q124_16, q124_17, q124_18, q124_21, q124_22, q124_23, q124_25, q124_26, q124_29, q124_30, q124_31, q124_34, q124_35, q124_36, q124_38, q124_41, q124_44, xc_x, xg_x_0, xg_x_1, xg_x_2, xg_x_3, xg_x_4, xg_x_5, xg_x_6, xg_x_7, xg_x_8, xg_x_9, xg_x_10, xg_x_11, xg_x_12, xg_x_13, xg_x_14, xs_x_14, xg_x_15, xs_x_15, xa_U_undoRows, xb_U_undoRows, xn_U_undoRows, xa_U_markScenes, xb_U_markScenes, xn_U_markScenes, xa_U_marksLaid, xb_U_marksLaid, xn_U_marksLaid, wx_some, wx_ref, hen, hcn, aS_n (show e < (U.1).length by omega) (show (U.1).length < 2 ^ 31 by omega), nl_1, nI_add, if_neg (show ¬ (16 : Int32) = 0 by decide)]
  rw [show (16 : Int32) = nI 16 from rfl, nI_mod (by omega) (by omega) (by omega)]
  have hmin : (if nI 16 < nI (us.length + 1) then nI 16 else nI (us.length + 1)) = nI (sp_keep c us).length := by
    unfold sp_keep
    rw [List.length_take, List.length_cons]
    by_cases e : 16 < us.length + 1
    · rw [if_pos (by rw [nI_ltI (by omega) (by omega)]; exact e), Nat.min_eq_left (by omega)]
    · rw [if_neg (by rw [nI_ltI (by omega) (by omega)]; exact e), Nat.min_eq_right (by omega)]
  rw [hmin]
  have hkl : (sp_keep c us).length ≤ 16 := by unfold sp_keep; rw [List.length_take]; exact Nat.min_le_left _ _
  refine hq _ ⟨hkl, fun c' h' => ?_, by show ((U.1).set e r).length = 16; rw [List.length_set]; exact hl, rfl, (e + 1) % 16, Nat.mod_lt _ (by omega), rfl, fun i c' h' => ?_⟩ rfl rfl
  · rcases List.mem_cons.mp (List.mem_of_mem_take h') with h | h
    · rw [h]; exact hc
    · exact hok c' h
  · have hi : i < 16 := by
      rcases Nat.lt_or_ge i 16 with h | h
      · exact h
      · rw [List.getElem?_eq_none (by omega)] at h'; cases h'
    unfold sp_keep at h'
    rw [List.getElem?_take_of_lt hi] at h'
    show ∃ r', ((U.1).set e r)[((e + 1) % 16 + 15 - i) % 16]? = some r' ∧ RWx s r' c'
    cases i with
    | zero =>
      cases h'
      exact ⟨r, by rw [show ((e + 1) % 16 + 15 - 0) % 16 = e by omega, List.getElem?_set_self (by omega)], hr⟩
    | succ i =>
      rw [List.getElem?_cons_succ] at h'
      obtain ⟨r', h1, h2⟩ := hrow i c' h'
      exact ⟨r', by rw [show ((e + 1) % 16 + 15 - (i + 1)) % 16 = (e + 15 - i) % 16 by omega, List.getElem?_set_ne (by omega)]; exact h1, h2⟩
theorem t_undo (ho : k_ok s) (hU : UNx s us U) (hl7 : (S.2.2).length = 7) (hq0 : us = [] → Q (some (.int 0)) (px_h z E M (px_l sw c2 w2 T D S S1 K R C W U q q1 B0 B1 B2 B3))) (hq1 : ∀ c1 u1 S' U', us = c1 :: u1 → SCx s S' c1 → UNx s u1 U' → U'.2.1 = U.2.1 → U'.2.2.1 = U.2.2.1 → Q (some (.int 1)) (px_h z E M (px_l sw c2 w2 T D (S') S1 K R C W (U') q q1 B0 B1 B2 B3))) : wm (mp_P fx) (d + 1) 144 [.ref 59] (px_h z E M (px_l sw c2 w2 T D S S1 K R C W U q q1 B0 B1 B2 B3)) Q := by
  obtain ⟨h16, hok, hl, hcn, e, he, hen, hrow⟩ := id hU
  simp only [e144, b144_0, b144_1, bn_0 b144_0, bn_1 b144_1, q144_0, q144_1, q144_4, q144_5, q144_8, q144_9, q144_10, q144_11, q144_12, q144_15, q144_16, q144_17, q144_20, q144_21, q144_22, q144_25, q144_27, q144_28, q144_29, q144_30, q144_32, q144_33, q144_36, q144_37, q144_40, q144_41, q144_44, q144_45, q144_48, q144_49, q144_52, q144_53, xc_x, xg_x_0, xg_x_1, xg_x_2, xg_x_3, xg_x_4, xg_x_5, xg_x_6, xg_x_7, xg_x_8, xg_x_9, xg_x_10, xg_x_11, xg_x_12, xg_x_13, xg_x_14, xs_x_14, xg_x_15, xs_x_15, xa_U_undoRows, xb_U_undoRows, xn_U_undoRows, xa_U_markScenes, xb_U_markScenes, xn_U_markScenes, xa_U_marksLaid, xb_U_marksLaid, xn_U_marksLaid, xc_S, xg_S_0, xs_S_0, xg_S_1, xs_S_1, xg_S_2, xa_S_places, xb_S_places, xn_S_places, wx_some, wx_ref, hcn, hen, nl_1, nI_add, if_neg (show ¬ (16 : Int32) = 0 by decide)]
  cases us with
  | nil =>
    rw [if_neg (by decide)]
    have := hq0 rfl
    exact this
  | cons c1 u1 =>
    rw [List.length_cons] at h16 hcn ⊢
    obtain ⟨r, hr1, hr2⟩ := hrow 0 c1 rfl
    rw [Nat.sub_zero] at hr1
    rw [if_pos (by rw [nI_leI (by omega) (by omega)]; omega)]
    simp only [show (16 : Int32) = nI 16 from rfl, nI_add, nI_sub (show 1 ≤ e + 16 by omega), nI_sub (show 1 ≤ u1.length + 1 by omega), Nat.add_sub_cancel, nI_mod (show e + 16 - 1 < 2 ^ 31 by omega) (show 16 < 2 ^ 31 by omega) (show 0 < 16 by omega), wx_some]
    rw [show e + 16 - 1 = e + 15 by omega, aG_n hr1 (by omega), wx_some]
    apply t_unpack ho (hok c1 List.mem_cons_self) hr2 hl7
    intro S' hS'
    simp only [sl_n, e144, b144_0, b144_1, bn_0 b144_0, bn_1 b144_1, q144_0, q144_1, q144_4, q144_5, q144_8, q144_9, q144_10, q144_11, q144_12, q144_15, q144_16, q144_17, q144_20, q144_21, q144_22, q144_25, q144_27, q144_28, q144_29, q144_30, q144_32, q144_33, q144_36, q144_37, q144_40, q144_41, q144_44, q144_45, q144_48, q144_49, q144_52, q144_53]
    refine hq1 c1 u1 S' _ rfl hS' ⟨by omega, fun c' h' => hok c' (List.mem_cons_of_mem _ h'), hl, rfl, (e + 15) % 16, Nat.mod_lt _ (by omega), rfl, fun i c' h' => ?_⟩ rfl rfl
    obtain ⟨r', h1, h2⟩ := hrow (i + 1) c' (by rw [List.getElem?_cons_succ]; exact h')
    have hi : i < u1.length := by
      rcases Nat.lt_or_ge i u1.length with h | h
      · exact h
      · rw [List.getElem?_eq_none h] at h'; cases h'
    exact ⟨r', by rw [show ((e + 15) % 16 + 15 - i) % 16 = (e + 15 - (i + 1)) % 16 by omega]; exact h1, h2⟩
theorem t_tick (hK : KX nm s q R C) (hc : c_ok s c) (hh : c.1 + 1 < 2 ^ 20) (hS : SCx s S c) (hU : UNx s us U) (hq : ∀ q' R' C' S' U', KX nm s q' R' C' → SCx s S' (sp_on s c) → UNx s (sp_keep c us) U' → U'.2.1 = U.2.1 → U'.2.2.1 = U.2.2.1 → Q (some (.int (nI (sp_sd s (sp_on s c))))) (px_h z E M (px_l sw c2 w2 T D (S') S1 K (R') (C') W (U') (q') q1 B0 B1 B2 B3))) : wm (mp_P fx) (d + 6) 123 [.ref 59] (px_h z E M (px_l sw c2 w2 T D S S1 K R C W U q q1 B0 B1 B2 B3)) Q := by
  simp only [e123, q123_0, q123_1, q123_4, q123_5, q123_8, q123_9, q123_12, q123_15, q123_16, q123_17, q123_20, q123_23, xc_x, xg_x_0, xg_x_1, xg_x_2, xg_x_3, xg_x_4, xg_x_5, xg_x_6, xg_x_7, xg_x_8, xg_x_9, xg_x_10, xg_x_11, xg_x_12, xg_x_13, xg_x_14, xs_x_14, xg_x_15, xs_x_15]
  apply t_keep hK.2.2.1 hc hS hU
  intro U' hU' m1 m2
  simp only [sl_n, e123, q123_0, q123_1, q123_4, q123_5, q123_8, q123_9, q123_12, q123_15, q123_16, q123_17, q123_20, q123_23, xc_x, xg_x_0, xg_x_1, xg_x_2, xg_x_3, xg_x_4, xg_x_5, xg_x_6, xg_x_7, xg_x_8, xg_x_9, xg_x_10, xg_x_11, xg_x_12, xg_x_13, xg_x_14, xs_x_14, xg_x_15, xs_x_15, xc_S, xg_S_0, xs_S_0, xg_S_1, xs_S_1, xg_S_2, xa_S_places, xb_S_places, xn_S_places, xc_q, xg_q_0, xg_q_1, xs_q_1, xg_q_2, xg_q_3, xg_q_4, xs_q_4, xg_q_5, xg_q_6, xg_q_7, xg_q_8, xs_q_8, xg_q_9, xs_q_9, xg_q_10, xg_q_11, xg_q_12, xg_q_13, xg_q_14, xg_q_15, xg_q_16, xs_q_16, xg_q_17, xg_q_18, xs_q_18, xg_q_19, xa_q_sortNames, xb_q_sortNames, xn_q_sortNames, xa_q_colourNames, xb_q_colourNames, xn_q_colourNames, xa_q_colourSorts, xb_q_colourSorts, xn_q_colourSorts, xa_q_ruleMakes, xb_q_ruleMakes, xn_q_ruleMakes, xa_q_ruleFirsts, xb_q_ruleFirsts, xn_q_ruleFirsts, xa_q_ruleSeconds, xb_q_ruleSeconds, xn_q_ruleSeconds, xa_q_walkerNames, xb_q_walkerNames, xn_q_walkerNames, xa_q_kinds, xb_q_kinds, xn_q_kinds, xa_q_walkerColours, xb_q_walkerColours, xn_q_walkerColours, xa_q_starts, xb_q_starts, xn_q_starts, xa_q_stepRows, xb_q_stepRows, xn_q_stepRows, xa_q_stepCounts, xb_q_stepCounts, xn_q_stepCounts, xa_q_gusts, xb_q_gusts, xn_q_gusts, xc_ql, xg_ql_0, xg_ql_1, xs_ql_1, xg_ql_2, xg_ql_3, xs_ql_3, xa_q_parts, xb_q_parts, xn_q_parts, xa_q_stack, xb_q_stack, xn_q_stack, wx_some, wx_ref]
  apply t_goOnS hK.1 hK.2.2.1 hc hS
  intro S' hS'
  simp only [sl_n, e123, q123_0, q123_1, q123_4, q123_5, q123_8, q123_9, q123_12, q123_15, q123_16, q123_17, q123_20, q123_23, xc_x, xg_x_0, xg_x_1, xg_x_2, xg_x_3, xg_x_4, xg_x_5, xg_x_6, xg_x_7, xg_x_8, xg_x_9, xg_x_10, xg_x_11, xg_x_12, xg_x_13, xg_x_14, xs_x_14, xg_x_15, xs_x_15, wx_some, wx_ref]
  apply t_sdS hK (c_on hc hh) hS'
  intro q' R' C' hK' _
  simp only [sl_i, e123, q123_0, q123_1, q123_4, q123_5, q123_8, q123_9, q123_12, q123_15, q123_16, q123_17, q123_20, q123_23]
  exact hq q' R' C' S' U' hK' hS' hU' m1 m2
/-- one walker put elsewhere -/
def sp_put (c : SC) (w p : Nat) : SC := (c.1, c.2.1, up c.2.2 w p)
theorem c_put {w p : Nat} (hc : c_ok s c) (hp : p < 10) : c_ok s (sp_put c w p) := by
  refine ⟨hc.1, hc.2.1, fun i hi => ?_⟩
  show up c.2.2 w p i < 10
  unfold up
  split
  · exact hp
  · exact hc.2.2 i hi
/-- where a step asked for leads -/
def sp_beh (p : Nat) (v : Int32) : Nat := if v = 1 then sp_behind p 1 else if v = 2 then sp_behind p 2 else p
theorem sp_beh_lt {p : Nat} {v : Int32} (h : p < 10) : sp_beh p v < 10 := by
  unfold sp_beh
  split
  · exact sp_behind_lt h
  · split
    · exact sp_behind_lt h
    · exact h
theorem t_beh {h : mm_H} {p : Nat} {v : Int32} (hp : p < 10) (hq : Q (some (.int (nI (sp_beh p v)))) h) : wm (mp_P fx) d 127 [.int (nI p), .int v] h Q := by
  unfold sp_beh at hq
  by_cases e1 : v = 1
  · rw [if_pos e1] at hq
    subst e1
    exact t_behind (st := 1) (by omega) (by omega) hq
  · rw [if_neg e1] at hq
    by_cases e2 : v = 2
    · rw [if_pos e2] at hq
      subst e2
      exact t_behind (st := 2) (by omega) (by omega) hq
    · rw [if_neg e2] at hq
      simp only [e127, q127_0, q127_1, q127_2, q127_5, q127_6, q127_7, q127_8, q127_10, q127_13, q127_14, q127_15, q127_16, q127_19, q127_20, q127_21, q127_22, q127_23, q127_26, q127_27, q127_30, q127_31, q127_32, q127_33, q127_36, q127_37]
      rw [if_pos e1, if_pos e2]
      exact hq
theorem t_canStepS {w : Nat} {v : Int32} (hc : c_ok s c) (hS : SCx s S c) (hw : w < k_nW s) (h7 : k_nW s ≤ 7) (hq : Q (some (.int (if sp_beh (c.2.2 w) v = c.2.2 w then 0 else 1))) (px_h z E M (px_l sw c2 w2 T D S S1 K R C W U q q1 B0 B1 B2 B3))) : wm (mp_P fx) (d + 1) 138 [.ref 67, .int (nI w), .int v] (px_h z E M (px_l sw c2 w2 T D S S1 K R C W U q q1 B0 B1 B2 B3)) Q := by
  obtain ⟨e1, e2, hrg, hpl⟩ := id hS
  have hp := hc.2.2 w hw
  have hb := sp_beh_lt (v := v) hp
  have hl := hrg.1
  have g1 := ag_G hpl (show (S.2.2).length < 2 ^ 31 by omega) hw
  simp only [e138, b138_0, b138_1, bn_0 b138_0, bn_1 b138_1, q138_0, q138_1, q138_4, q138_5, q138_6, q138_7, q138_10, q138_11, q138_14, q138_15, q138_16, q138_19, q138_20, q138_23, q138_24, xc_S, xg_S_0, xs_S_0, xg_S_1, xs_S_1, xg_S_2, xa_S_places, xb_S_places, xn_S_places, wx_some, wx_ref, g1]
  apply t_beh hp
  simp only [sl_i, e138, b138_0, b138_1, bn_0 b138_0, bn_1 b138_1, q138_0, q138_1, q138_4, q138_5, q138_6, q138_7, q138_10, q138_11, q138_14, q138_15, q138_16, q138_19, q138_20, q138_23, q138_24, xc_S, xg_S_0, xs_S_0, xg_S_1, xs_S_1, xg_S_2, xa_S_places, xb_S_places, xn_S_places, wx_some, wx_ref, g1]
  by_cases e : sp_beh (c.2.2 w) v = c.2.2 w
  · rw [if_pos e] at hq; rw [if_pos (by rw [e])]; exact hq
  · rw [if_neg e] at hq; rw [if_neg (by rw [nI_eq (by omega) (by omega)]; exact e)]; exact hq
theorem t_stepAsideS {w : Nat} {v : Int32} (hc : c_ok s c) (hS : SCx s S c) (hw : w < k_nW s) (h7 : k_nW s ≤ 7) (hq : ∀ S', SCx s S' (sp_put c w (sp_beh (c.2.2 w) v)) → Q none (px_h z E M (px_l sw c2 w2 T D (S') S1 K R C W U q q1 B0 B1 B2 B3))) : wm (mp_P fx) (d + 1) 139 [.ref 67, .int (nI w), .int v] (px_h z E M (px_l sw c2 w2 T D S S1 K R C W U q q1 B0 B1 B2 B3)) Q := by
  obtain ⟨e1, e2, hrg, hpl⟩ := id hS
  have hp := hc.2.2 w hw
  have hb := sp_beh_lt (v := v) hp
  have hl := hrg.1
  have g1 := ag_G hpl (show (S.2.2).length < 2 ^ 31 by omega) hw
  simp only [e139, q139_0, q139_1, q139_4, q139_5, q139_6, q139_9, q139_10, q139_11, q139_12, q139_15, q139_16, xc_S, xg_S_0, xs_S_0, xg_S_1, xs_S_1, xg_S_2, xa_S_places, xb_S_places, xn_S_places, wx_some, wx_ref, g1]
  apply t_beh hp
  simp only [sl_i, e139, q139_0, q139_1, q139_4, q139_5, q139_6, q139_9, q139_10, q139_11, q139_12, q139_15, q139_16, xc_S, xg_S_0, xs_S_0, xg_S_1, xs_S_1, xg_S_2, xa_S_places, xb_S_places, xn_S_places, wx_some, wx_ref, aS_n (show w < (S.2.2).length by omega) (show (S.2.2).length < 2 ^ 31 by omega)]
  refine hq _ ⟨e1, e2, rg_set hrg hb, fun i hi => ?_⟩
  show ((S.2.2).set w _)[i]? = some (nI (up c.2.2 w _ i))
  rw [List.getElem?_set]
  by_cases e : w = i
  · subst e; rw [if_pos rfl, if_pos (by omega), up_eq]
  · rw [if_neg e, up_ne (fun z => e z.symm)]; exact hpl i hi
theorem t_closeS {w : Nat} (ho : k_ok s) (hc : c_ok s c) (hS : SCx s S c) (hw : w < k_nW s) (hq : ∀ S', SCx s S' (c.1, c.2.1 &&& (127 ^^^ 2 ^ w), c.2.2) → Q none (px_h z E M (px_l sw c2 w2 T D (S') S1 K R C W U q q1 B0 B1 B2 B3))) : wm (mp_P fx) d 141 [.ref 67, .int (nI w)] (px_h z E M (px_l sw c2 w2 T D S S1 K R C W U q q1 B0 B1 B2 B3)) Q := by
  obtain ⟨e1, e2, hrg, hpl⟩ := id hS
  have h7 := ho.1.2.2.2.1
  have h128 : c.2.1 < 128 := Nat.lt_of_lt_of_le hc.2.1 (p27 h7)
  have k : ∀ w, w < 7 → (1 : Int32) <<< (nI w &&& 31) = nI (2 ^ w) := by decide
  have hw7 : 2 ^ w < 128 := Nat.lt_of_lt_of_le (Nat.pow_lt_pow_right (by omega) hw) (p27 h7)
  simp only [e141, q141_0, q141_1, q141_2, q141_5, q141_6, q141_7, q141_8, q141_9, q141_10, q141_11, q141_14, xc_S, xg_S_0, xs_S_0, xg_S_1, xs_S_1, xg_S_2, xa_S_places, xb_S_places, xn_S_places, wx_some, wx_ref, e2, k w (by omega), k7_and _ h128 _ hw7]
  exact hq _ ⟨e1, rfl, hrg, hpl⟩
theorem t_putUpS {w : Nat} (ho : k_ok s) (hc : c_ok s c) (hS : SCx s S c) (hw : w < k_nW s) (hq : ∀ S', SCx s S' (c.1, c.2.1 ||| 2 ^ w, c.2.2) → Q none (px_h z E M (px_l sw c2 w2 T D (S') S1 K R C W U q q1 B0 B1 B2 B3))) : wm (mp_P fx) d 143 [.ref 67, .int (nI w)] (px_h z E M (px_l sw c2 w2 T D S S1 K R C W U q q1 B0 B1 B2 B3)) Q := by
  obtain ⟨e1, e2, hrg, hpl⟩ := id hS
  have h7 := ho.1.2.2.2.1
  have h128 : c.2.1 < 128 := Nat.lt_of_lt_of_le hc.2.1 (p27 h7)
  simp only [e143, q143_0, q143_1, q143_2, q143_5, q143_6, q143_7, q143_8, q143_9, q143_12, xc_S, xg_S_0, xs_S_0, xg_S_1, xs_S_1, xg_S_2, xa_S_places, xb_S_places, xn_S_places, wx_some, wx_ref, e2, k7_or _ h128 w (show w < 7 by omega)]
  exact hq _ ⟨e1, rfl, hrg, hpl⟩
theorem t_canStepS1 {w : Nat} {v : Int32} (hc : c_ok s c) (hS : SCx s S1 c) (hw : w < k_nW s) (h7 : k_nW s ≤ 7) (hq : Q (some (.int (if sp_beh (c.2.2 w) v = c.2.2 w then 0 else 1))) (px_h z E M (px_l sw c2 w2 T D S S1 K R C W U q q1 B0 B1 B2 B3))) : wm (mp_P fx) (d + 1) 138 [.ref 69, .int (nI w), .int v] (px_h z E M (px_l sw c2 w2 T D S S1 K R C W U q q1 B0 B1 B2 B3)) Q := by
  obtain ⟨e1, e2, hrg, hpl⟩ := id hS
  have hp := hc.2.2 w hw
  have hb := sp_beh_lt (v := v) hp
  have hl := hrg.1
  have g1 := ag_G hpl (show (S1.2.2).length < 2 ^ 31 by omega) hw
  simp only [e138, b138_0, b138_1, bn_0 b138_0, bn_1 b138_1, q138_0, q138_1, q138_4, q138_5, q138_6, q138_7, q138_10, q138_11, q138_14, q138_15, q138_16, q138_19, q138_20, q138_23, q138_24, xc_S1, xg_S1_0, xs_S1_0, xg_S1_1, xs_S1_1, xg_S1_2, xa_S1_places, xb_S1_places, xn_S1_places, wx_some, wx_ref, g1]
  apply t_beh hp
  simp only [sl_i, e138, b138_0, b138_1, bn_0 b138_0, bn_1 b138_1, q138_0, q138_1, q138_4, q138_5, q138_6, q138_7, q138_10, q138_11, q138_14, q138_15, q138_16, q138_19, q138_20, q138_23, q138_24, xc_S1, xg_S1_0, xs_S1_0, xg_S1_1, xs_S1_1, xg_S1_2, xa_S1_places, xb_S1_places, xn_S1_places, wx_some, wx_ref, g1]
  by_cases e : sp_beh (c.2.2 w) v = c.2.2 w
  · rw [if_pos e] at hq; rw [if_pos (by rw [e])]; exact hq
  · rw [if_neg e] at hq; rw [if_neg (by rw [nI_eq (by omega) (by omega)]; exact e)]; exact hq
theorem t_stepAsideS1 {w : Nat} {v : Int32} (hc : c_ok s c) (hS : SCx s S1 c) (hw : w < k_nW s) (h7 : k_nW s ≤ 7) (hq : ∀ S', SCx s S' (sp_put c w (sp_beh (c.2.2 w) v)) → Q none (px_h z E M (px_l sw c2 w2 T D S (S') K R C W U q q1 B0 B1 B2 B3))) : wm (mp_P fx) (d + 1) 139 [.ref 69, .int (nI w), .int v] (px_h z E M (px_l sw c2 w2 T D S S1 K R C W U q q1 B0 B1 B2 B3)) Q := by
  obtain ⟨e1, e2, hrg, hpl⟩ := id hS
  have hp := hc.2.2 w hw
  have hb := sp_beh_lt (v := v) hp
  have hl := hrg.1
  have g1 := ag_G hpl (show (S1.2.2).length < 2 ^ 31 by omega) hw
  simp only [e139, q139_0, q139_1, q139_4, q139_5, q139_6, q139_9, q139_10, q139_11, q139_12, q139_15, q139_16, xc_S1, xg_S1_0, xs_S1_0, xg_S1_1, xs_S1_1, xg_S1_2, xa_S1_places, xb_S1_places, xn_S1_places, wx_some, wx_ref, g1]
  apply t_beh hp
  simp only [sl_i, e139, q139_0, q139_1, q139_4, q139_5, q139_6, q139_9, q139_10, q139_11, q139_12, q139_15, q139_16, xc_S1, xg_S1_0, xs_S1_0, xg_S1_1, xs_S1_1, xg_S1_2, xa_S1_places, xb_S1_places, xn_S1_places, wx_some, wx_ref, aS_n (show w < (S1.2.2).length by omega) (show (S1.2.2).length < 2 ^ 31 by omega)]
  refine hq _ ⟨e1, e2, rg_set hrg hb, fun i hi => ?_⟩
  show ((S1.2.2).set w _)[i]? = some (nI (up c.2.2 w _ i))
  rw [List.getElem?_set]
  by_cases e : w = i
  · subst e; rw [if_pos rfl, if_pos (by omega), up_eq]
  · rw [if_neg e, up_ne (fun z => e z.symm)]; exact hpl i hi
theorem t_closeS1 {w : Nat} (ho : k_ok s) (hc : c_ok s c) (hS : SCx s S1 c) (hw : w < k_nW s) (hq : ∀ S', SCx s S' (c.1, c.2.1 &&& (127 ^^^ 2 ^ w), c.2.2) → Q none (px_h z E M (px_l sw c2 w2 T D S (S') K R C W U q q1 B0 B1 B2 B3))) : wm (mp_P fx) d 141 [.ref 69, .int (nI w)] (px_h z E M (px_l sw c2 w2 T D S S1 K R C W U q q1 B0 B1 B2 B3)) Q := by
  obtain ⟨e1, e2, hrg, hpl⟩ := id hS
  have h7 := ho.1.2.2.2.1
  have h128 : c.2.1 < 128 := Nat.lt_of_lt_of_le hc.2.1 (p27 h7)
  have k : ∀ w, w < 7 → (1 : Int32) <<< (nI w &&& 31) = nI (2 ^ w) := by decide
  have hw7 : 2 ^ w < 128 := Nat.lt_of_lt_of_le (Nat.pow_lt_pow_right (by omega) hw) (p27 h7)
  simp only [e141, q141_0, q141_1, q141_2, q141_5, q141_6, q141_7, q141_8, q141_9, q141_10, q141_11, q141_14, xc_S1, xg_S1_0, xs_S1_0, xg_S1_1, xs_S1_1, xg_S1_2, xa_S1_places, xb_S1_places, xn_S1_places, wx_some, wx_ref, e2, k w (by omega), k7_and _ h128 _ hw7]
  exact hq _ ⟨e1, rfl, hrg, hpl⟩
theorem t_putUpS1 {w : Nat} (ho : k_ok s) (hc : c_ok s c) (hS : SCx s S1 c) (hw : w < k_nW s) (hq : ∀ S', SCx s S' (c.1, c.2.1 ||| 2 ^ w, c.2.2) → Q none (px_h z E M (px_l sw c2 w2 T D S (S') K R C W U q q1 B0 B1 B2 B3))) : wm (mp_P fx) d 143 [.ref 69, .int (nI w)] (px_h z E M (px_l sw c2 w2 T D S S1 K R C W U q q1 B0 B1 B2 B3)) Q := by
  obtain ⟨e1, e2, hrg, hpl⟩ := id hS
  have h7 := ho.1.2.2.2.1
  have h128 : c.2.1 < 128 := Nat.lt_of_lt_of_le hc.2.1 (p27 h7)
  simp only [e143, q143_0, q143_1, q143_2, q143_5, q143_6, q143_7, q143_8, q143_9, q143_12, xc_S1, xg_S1_0, xs_S1_0, xg_S1_1, xs_S1_1, xg_S1_2, xa_S1_places, xb_S1_places, xn_S1_places, wx_some, wx_ref, e2, k7_or _ h128 w (show w < 7 by omega)]
  exact hq _ ⟨e1, rfl, hrg, hpl⟩
theorem t_move {u v : Int32} (hK : KX nm s q R C) (hc : c_ok s c) (hS : SCx s S c) (hU : UNx s us U) (hq0 : (∀ w, sx (k_nW s) u = some w → sp_beh (c.2.2 w) v = c.2.2 w) → Q (some (.int (-1))) (px_h z E M (px_l sw c2 w2 T D S S1 K R C W U q q1 B0 B1 B2 B3))) (hq1 : ∀ w S' U', w < k_nW s → sx (k_nW s) u = some w → ¬ sp_beh (c.2.2 w) v = c.2.2 w → SCx s S' (sp_put c w (sp_beh (c.2.2 w) v)) → UNx s (sp_keep c us) U' → U'.2.1 = U.2.1 → U'.2.2.1 = U.2.2.1 → Q (some (.int (nI (sp_beh (c.2.2 w) v)))) (px_h z E M (px_l sw c2 w2 T D (S') S1 K R C W (U') q q1 B0 B1 B2 B3))) : wm (mp_P fx) (d + 2) 137 [.ref 59, .int u, .int v] (px_h z E M (px_l sw c2 w2 T D S S1 K R C W U q q1 B0 B1 B2 B3)) Q := by
  have h7 := hK.2.2.1.1.2.2.2.1
  simp only [e137, q137_0, q137_1, q137_2, q137_5, q137_8, q137_9, q137_12, q137_13, q137_14, q137_17, q137_20, q137_21, q137_22, q137_23, q137_26, q137_27, q137_30, q137_31, q137_32, q137_35, q137_36, q137_39, q137_42, q137_43, q137_44, xc_x, xg_x_0, xg_x_1, xg_x_2, xg_x_3, xg_x_4, xg_x_5, xg_x_6, xg_x_7, xg_x_8, xg_x_9, xg_x_10, xg_x_11, xg_x_12, xg_x_13, xg_x_14, xs_x_14, xg_x_15, xs_x_15]
  apply t_isWalker hK.1 hK.2.2.1
  · intro e
    simp only [sl_i, e137, q137_0, q137_1, q137_2, q137_5, q137_8, q137_9, q137_12, q137_13, q137_14, q137_17, q137_20, q137_21, q137_22, q137_23, q137_26, q137_27, q137_30, q137_31, q137_32, q137_35, q137_36, q137_39, q137_42, q137_43, q137_44]
    rw [if_pos (by decide)]
    exact hq0 (fun w hw => by rw [e] at hw; cases hw)
  intro w hw hu e
  subst hu
  simp only [sl_i, q137_5, q137_8, q137_9, q137_12, q137_13, q137_14, xc_x, xg_x_0, xg_x_1, xg_x_2, xg_x_3, xg_x_4, xg_x_5, xg_x_6, xg_x_7, xg_x_8, xg_x_9, xg_x_10, xg_x_11, xg_x_12, xg_x_13, xg_x_14, xs_x_14, xg_x_15, xs_x_15, xc_S, xg_S_0, xs_S_0, xg_S_1, xs_S_1, xg_S_2, xa_S_places, xb_S_places, xn_S_places, wx_some, wx_ref]
  rw [if_neg (by decide)]
  apply t_canStepS hc hS hw h7
  simp only [sl_i, q137_17, q137_20, q137_21, q137_22, q137_23, xc_x, xg_x_0, xg_x_1, xg_x_2, xg_x_3, xg_x_4, xg_x_5, xg_x_6, xg_x_7, xg_x_8, xg_x_9, xg_x_10, xg_x_11, xg_x_12, xg_x_13, xg_x_14, xs_x_14, xg_x_15, xs_x_15]
  by_cases eb : sp_beh (c.2.2 w) v = c.2.2 w
  · rw [if_pos eb, if_neg (by decide)]
    exact hq0 (fun w' hw' => by rw [e] at hw'; cases hw'; exact eb)
  · rw [if_neg eb, if_pos (by decide)]
    apply t_keep hK.2.2.1 hc hS hU
    intro U' hU' m1 m2
    simp only [sl_n, q137_26, q137_27, q137_30, q137_31, q137_32, xc_x, xg_x_0, xg_x_1, xg_x_2, xg_x_3, xg_x_4, xg_x_5, xg_x_6, xg_x_7, xg_x_8, xg_x_9, xg_x_10, xg_x_11, xg_x_12, xg_x_13, xg_x_14, xs_x_14, xg_x_15, xs_x_15, xc_S, xg_S_0, xs_S_0, xg_S_1, xs_S_1, xg_S_2, xa_S_places, xb_S_places, xn_S_places, wx_some, wx_ref]
    apply t_stepAsideS hc hS hw h7
    intro S' hS'
    have hl := hS'.2.2.1.1
    have g1 := ag_G hS'.2.2.2 (show (S'.2.2).length < 2 ^ 31 by omega) hw
    have g2 : (sp_put c w (sp_beh (c.2.2 w) v)).2.2 w = sp_beh (c.2.2 w) v := up_eq
    rw [g2] at g1
    simp only [sl_n, q137_35, q137_36, q137_39, q137_42, q137_43, q137_44, xc_x, xg_x_0, xg_x_1, xg_x_2, xg_x_3, xg_x_4, xg_x_5, xg_x_6, xg_x_7, xg_x_8, xg_x_9, xg_x_10, xg_x_11, xg_x_12, xg_x_13, xg_x_14, xs_x_14, xg_x_15, xs_x_15, xc_S, xg_S_0, xs_S_0, xg_S_1, xs_S_1, xg_S_2, xa_S_places, xb_S_places, xn_S_places, wx_some, wx_ref, g1]
    exact hq1 w S' U' hw e eb hS' hU' m1 m2
theorem t_shut {u : Int32} (hK : KX nm s q R C) (hc : c_ok s c) (hS : SCx s S c) (hU : UNx s us U) (hq0 : (∀ w, sx (k_nW s) u = some w → c.2.1.testBit w = false) → Q (some (.int 0)) (px_h z E M (px_l sw c2 w2 T D S S1 K R C W U q q1 B0 B1 B2 B3))) (hq1 : ∀ w S' U', w < k_nW s → sx (k_nW s) u = some w → c.2.1.testBit w = true → SCx s S' (c.1, c.2.1 &&& (127 ^^^ 2 ^ w), c.2.2) → UNx s (sp_keep c us) U' → U'.2.1 = U.2.1 → U'.2.2.1 = U.2.2.1 → Q (some (.int 1)) (px_h z E M (px_l sw c2 w2 T D (S') S1 K R C W (U') q q1 B0 B1 B2 B3))) : wm (mp_P fx) (d + 2) 140 [.ref 59, .int u] (px_h z E M (px_l sw c2 w2 T D S S1 K R C W U q q1 B0 B1 B2 B3)) Q := by
  simp only [e140, b140_0, b140_1, bn_0 b140_0, bn_1 b140_1, q140_0, q140_1, q140_2, q140_5, q140_8, q140_9, q140_12, q140_13, q140_16, q140_19, q140_20, q140_21, q140_22, q140_25, q140_26, q140_29, q140_30, q140_33, q140_34, xc_x, xg_x_0, xg_x_1, xg_x_2, xg_x_3, xg_x_4, xg_x_5, xg_x_6, xg_x_7, xg_x_8, xg_x_9, xg_x_10, xg_x_11, xg_x_12, xg_x_13, xg_x_14, xs_x_14, xg_x_15, xs_x_15]
  apply t_isWalker hK.1 hK.2.2.1
  · intro e
    simp only [sl_i, e140, b140_0, b140_1, bn_0 b140_0, bn_1 b140_1, q140_0, q140_1, q140_2, q140_5, q140_8, q140_9, q140_12, q140_13, q140_16, q140_19, q140_20, q140_21, q140_22, q140_25, q140_26, q140_29, q140_30, q140_33, q140_34]
    rw [if_pos (by decide)]
    exact hq0 (fun w hw => by rw [e] at hw; cases hw)
  intro w hw hu e
  subst hu
  simp only [sl_i, b140_0, b140_1, bn_0 b140_0, bn_1 b140_1, q140_5, q140_8, q140_9, q140_12, q140_13, xc_x, xg_x_0, xg_x_1, xg_x_2, xg_x_3, xg_x_4, xg_x_5, xg_x_6, xg_x_7, xg_x_8, xg_x_9, xg_x_10, xg_x_11, xg_x_12, xg_x_13, xg_x_14, xs_x_14, xg_x_15, xs_x_15, xc_S, xg_S_0, xs_S_0, xg_S_1, xs_S_1, xg_S_2, xa_S_places, xb_S_places, xn_S_places, wx_some, wx_ref]
  rw [if_neg (by decide)]
  apply t_isOpenS hK.2.2.1 hc hS hw
  simp only [sl_i, b140_0, b140_1, bn_0 b140_0, bn_1 b140_1, q140_16, q140_19, q140_20, q140_21, q140_22, xc_x, xg_x_0, xg_x_1, xg_x_2, xg_x_3, xg_x_4, xg_x_5, xg_x_6, xg_x_7, xg_x_8, xg_x_9, xg_x_10, xg_x_11, xg_x_12, xg_x_13, xg_x_14, xs_x_14, xg_x_15, xs_x_15]
  by_cases eb : c.2.1.testBit w = true
  · rw [if_pos eb, if_pos (by decide)]
    apply t_keep hK.2.2.1 hc hS hU
    intro U' hU' m1 m2
    simp only [sl_n, b140_0, b140_1, bn_0 b140_0, bn_1 b140_1, q140_25, q140_26, q140_29, q140_30, xc_x, xg_x_0, xg_x_1, xg_x_2, xg_x_3, xg_x_4, xg_x_5, xg_x_6, xg_x_7, xg_x_8, xg_x_9, xg_x_10, xg_x_11, xg_x_12, xg_x_13, xg_x_14, xs_x_14, xg_x_15, xs_x_15, xc_S, xg_S_0, xs_S_0, xg_S_1, xs_S_1, xg_S_2, xa_S_places, xb_S_places, xn_S_places, wx_some, wx_ref]
    apply t_closeS hK.2.2.1 hc hS hw
    intro S' hS'
    simp only [sl_n, b140_0, b140_1, bn_0 b140_0, bn_1 b140_1, q140_33, q140_34]
    exact hq1 w S' U' hw e eb hS' hU' m1 m2
  · rw [if_neg eb, if_neg (by decide)]
    exact hq0 (fun w' hw' => by rw [e] at hw'; cases hw'; exact Bool.eq_false_iff.mpr eb)
theorem t_open {u : Int32} (hK : KX nm s q R C) (hc : c_ok s c) (hS : SCx s S c) (hU : UNx s us U) (hq0 : (∀ w, sx (k_nW s) u = some w → c.2.1.testBit w = true) → Q (some (.int 0)) (px_h z E M (px_l sw c2 w2 T D S S1 K R C W U q q1 B0 B1 B2 B3))) (hq1 : ∀ w S' U', w < k_nW s → sx (k_nW s) u = some w → c.2.1.testBit w = false → SCx s S' (c.1, c.2.1 ||| 2 ^ w, c.2.2) → UNx s (sp_keep c us) U' → U'.2.1 = U.2.1 → U'.2.2.1 = U.2.2.1 → Q (some (.int 1)) (px_h z E M (px_l sw c2 w2 T D (S') S1 K R C W (U') q q1 B0 B1 B2 B3))) : wm (mp_P fx) (d + 2) 142 [.ref 59, .int u] (px_h z E M (px_l sw c2 w2 T D S S1 K R C W U q q1 B0 B1 B2 B3)) Q := by
  simp only [e142, b142_0, b142_1, bn_0 b142_0, bn_1 b142_1, q142_0, q142_1, q142_2, q142_5, q142_8, q142_9, q142_12, q142_13, q142_16, q142_19, q142_20, q142_21, q142_22, q142_25, q142_26, q142_29, q142_30, q142_33, q142_34, xc_x, xg_x_0, xg_x_1, xg_x_2, xg_x_3, xg_x_4, xg_x_5, xg_x_6, xg_x_7, xg_x_8, xg_x_9, xg_x_10, xg_x_11, xg_x_12, xg_x_13, xg_x_14, xs_x_14, xg_x_15, xs_x_15]
  apply t_isWalker hK.1 hK.2.2.1
  · intro e
    simp only [sl_i, e142, b142_0, b142_1, bn_0 b142_0, bn_1 b142_1, q142_0, q142_1, q142_2, q142_5, q142_8, q142_9, q142_12, q142_13, q142_16, q142_19, q142_20, q142_21, q142_22, q142_25, q142_26, q142_29, q142_30, q142_33, q142_34]
    rw [if_pos (by decide)]
    exact hq0 (fun w hw => by rw [e] at hw; cases hw)
  intro w hw hu e
  subst hu
  simp only [sl_i, b142_0, b142_1, bn_0 b142_0, bn_1 b142_1, q142_5, q142_8, q142_9, q142_12, q142_13, xc_x, xg_x_0, xg_x_1, xg_x_2, xg_x_3, xg_x_4, xg_x_5, xg_x_6, xg_x_7, xg_x_8, xg_x_9, xg_x_10, xg_x_11, xg_x_12, xg_x_13, xg_x_14, xs_x_14, xg_x_15, xs_x_15, xc_S, xg_S_0, xs_S_0, xg_S_1, xs_S_1, xg_S_2, xa_S_places, xb_S_places, xn_S_places, wx_some, wx_ref]
  rw [if_neg (by decide)]
  apply t_isOpenS hK.2.2.1 hc hS hw
  simp only [sl_i, b142_0, b142_1, bn_0 b142_0, bn_1 b142_1, q142_16, q142_19, q142_20, q142_21, q142_22, xc_x, xg_x_0, xg_x_1, xg_x_2, xg_x_3, xg_x_4, xg_x_5, xg_x_6, xg_x_7, xg_x_8, xg_x_9, xg_x_10, xg_x_11, xg_x_12, xg_x_13, xg_x_14, xs_x_14, xg_x_15, xs_x_15]
  by_cases eb : c.2.1.testBit w = true
  · rw [if_pos eb, if_neg (by decide)]
    exact hq0 (fun w' hw' => by rw [e] at hw'; cases hw'; exact eb)
  · rw [if_neg eb, if_pos (by decide)]
    apply t_keep hK.2.2.1 hc hS hU
    intro U' hU' m1 m2
    simp only [sl_n, b142_0, b142_1, bn_0 b142_0, bn_1 b142_1, q142_25, q142_26, q142_29, q142_30, xc_x, xg_x_0, xg_x_1, xg_x_2, xg_x_3, xg_x_4, xg_x_5, xg_x_6, xg_x_7, xg_x_8, xg_x_9, xg_x_10, xg_x_11, xg_x_12, xg_x_13, xg_x_14, xs_x_14, xg_x_15, xs_x_15, xc_S, xg_S_0, xs_S_0, xg_S_1, xs_S_1, xg_S_2, xa_S_places, xb_S_places, xn_S_places, wx_some, wx_ref]
    apply t_putUpS hK.2.2.1 hc hS hw
    intro S' hS'
    simp only [sl_n, b142_0, b142_1, bn_0 b142_0, bn_1 b142_1, q142_33, q142_34]
    exact hq1 w S' U' hw e (Bool.eq_false_iff.mpr eb) hS' hU' m1 m2
end TU
