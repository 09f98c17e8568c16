/-! calls of the class that only read -/
theorem iv (v : Int32) : v < 0 ∨ ∃ n, n < 2 ^ 31 ∧ v = nI n := by
  by_cases h : v < 0
  · exact Or.inl h
  · refine Or.inr ⟨v.toNatClampNeg, ?_, ?_⟩
    · have := Int32.toInt_lt v
      unfold Int32.toNatClampNeg
      omega
    · have h0 : 0 ≤ v.toInt := by
        have := Int32.not_lt.mp h
        rw [Int32.le_iff_toInt_le] at this
        exact this
      have h1 := Int32.toInt_lt v
      apply Int32.toInt_inj.mp
      rw [nI_toInt (by unfold Int32.toNatClampNeg; omega)]
      unfold Int32.toNatClampNeg
      omega
/-- the place that a number names, if it is one of n -/
def sx (n : Nat) (v : Int32) : Option Nat := if v < 0 then none else if v.toNatClampNeg < n then some v.toNatClampNeg else none
theorem sx_c (n : Nat) (v : Int32) (hn : n < 2 ^ 31) : (sx n v = none ∧ (v < 0 ∨ (¬ v < 0 ∧ nI n ≤ v))) ∨ ∃ k, k < n ∧ v = nI k ∧ sx n v = some k := by
  rcases iv v with h | ⟨k, hk, rfl⟩
  · exact Or.inl ⟨if_pos h, Or.inl h⟩
  · have h0 : ¬ nI k < 0 := by rw [nl_0, nI_ltI (by omega) (by omega)]; omega
    by_cases e : k < n
    · refine Or.inr ⟨k, e, rfl, ?_⟩
      unfold sx
      rw [if_neg h0, nI_clamp (by omega), if_pos e]
    · refine Or.inl ⟨?_, Or.inr ⟨h0, ?_⟩⟩
      · unfold sx
        rw [if_neg h0, nI_clamp (by omega), if_neg e]
      · rw [nI_leI (by omega) (by omega)]; omega
theorem tsw_lo {a b c : Int} {t : Array Int} {v : Int32} (h : v.toInt < b ∨ c < v.toInt) : mm_tsw a b c t v = a := by
  unfold mm_tsw; rw [if_pos h]
abbrev NMs : Type := Nat → Nat → List Nat
def w_32 (l : List Nat) : Nat := l.foldl (fun a x => a * 32 + x) 0
def w_27 (l : List Nat) : Nat := l.foldl (fun a x => a * 27 + x) 0
def w_x (l : List Nat) : Int64 := Int64.ofNat (l.length * 2 ^ 40 + w_32 l)
def w_m (l : List Nat) : Int64 := Int64.ofNat (w_27 l)
section TG
variable {fx : List Value → mm_H → Option (List Value × mm_H)} {z : Nat} {E M : Nat → mm_C} {sw c2 w2 : Bool} {T : px_T} {D : px_D} {S : px_S} {S1 : px_S} {K : px_K} {R : px_R} {C : px_C} {W : px_W} {U : px_U} {q : px_q} {q1 : px_q} {B0 : px_K} {B1 : px_K} {B2 : px_K} {B3 : px_K} {T_signs : List Int32} {T_length : Int32} {T_fault : Int32} {T_types : List Int32} {T_starts : List Int32} {T_values : List Int64} {T_tokens : Int32} {T_at : Int32} {T_behind : Int32} {S_hour : Int32} {S_open : Int32} {S_places : List Int32} {S1_hour : Int32} {S1_open : Int32} {S1_places : List Int32} {K_lines : List Int32} {K_lineCount : Int32} {K_wishes : List Int32} {K_wishCount : Int32} {K_sights : List Int32} {K_sightCount : Int32} {R_shown : List Int32} {R_length : Int32} {R_readers : Int32} {R_begins : List Int32} {R_lengths : List Int32} {R_sentences : Int32} {R_order : List Int32} {R_able : Int32} {R_standing : List Int32} {R_lovers : List Int32} {R_lowest : List Int32} {C_ways : List Int32} {C_rows : List Int32} {C_shallower : List Int32} {C_length : Int32} {C_goal : Int32} {W_row : List Int32} {W_walkers : Int32} {W_names : Int32} {W_wanted : List Int32} {W_shown : List Int32} {W_places : List Int32} {W_rest : List Int32} {W_spent : List Int32} {W_tried : List Int32} {U_undoRows : List Int64} {U_markScenes : List Int64} {U_marksLaid : List Int32} {U_undoCount : Int32} {U_undoEnd : Int32} {q_sortNames : List Int64} {q_sortCount : Int32} {q_colourNames : List Int64} {q_colourSorts : List Int32} {q_colourCount : Int32} {q_ruleMakes : List Int32} {q_ruleFirsts : List Int32} {q_ruleSeconds : List Int32} {q_ruleCount : Int32} {q_saysSort : Int32} {q_walkerNames : List Int64} {q_kinds : List Int32} {q_walkerColours : List Int32} {q_starts : List Int32} {q_stepRows : List Int32} {q_stepCounts : List Int32} {q_walkerCount : Int32} {q_gusts : List Int32} {q_gustCount : Int32} {q_parts : List Int32} {q_count : Int32} {q_stack : List Int32} {q_height : Int32} {q1_sortNames : List Int64} {q1_sortCount : Int32} {q1_colourNames : List Int64} {q1_colourSorts : List Int32} {q1_colourCount : Int32} {q1_ruleMakes : List Int32} {q1_ruleFirsts : List Int32} {q1_ruleSeconds : List Int32} {q1_ruleCount : Int32} {q1_saysSort : Int32} {q1_walkerNames : List Int64} {q1_kinds : List Int32} {q1_walkerColours : List Int32} {q1_starts : List Int32} {q1_stepRows : List Int32} {q1_stepCounts : List Int32} {q1_walkerCount : Int32} {q1_gusts : List Int32} {q1_gustCount : Int32} {q1_parts : List Int32} {q1_count : Int32} {q1_stack : List Int32} {q1_height : Int32} {B0_lines : List Int32} {B0_lineCount : Int32} {B0_wishes : List Int32} {B0_wishCount : Int32} {B0_sights : List Int32} {B0_sightCount : Int32} {B1_lines : List Int32} {B1_lineCount : Int32} {B1_wishes : List Int32} {B1_wishCount : Int32} {B1_sights : List Int32} {B1_sightCount : Int32} {B2_lines : List Int32} {B2_lineCount : Int32} {B2_wishes : List Int32} {B2_wishCount : Int32} {B2_sights : List Int32} {B2_sightCount : Int32} {B3_lines : List Int32} {B3_lineCount : Int32} {B3_wishes : List Int32} {B3_wishCount : Int32} {B3_sights : List Int32} {B3_sightCount : Int32}
variable {d : Nat} {Q : Option Value → mm_H → Prop} {s : SQ} {c : SC} {nm : NMs}
def NMx (nm : NMs) (s : SQ) (q : px_q) : Prop := (∀ i, i < k_nS s → (q.1)[i]? = some (w_x (nm 0 i))) ∧ (∀ i, i < k_nC s → (q.2.2.1)[i]? = some (w_x (nm 1 i))) ∧ (∀ i, i < k_nW s → (q.2.2.2.2.2.2.2.2.2.2.1)[i]? = some (w_x (nm 2 i)))
/-- what stays as it is in calls that only read -/
def KX (nm : NMs) (s : SQ) (q : px_q) (R : px_R) (C : px_C) : Prop := SQx q s ∧ LWx q s ∧ k_ok s ∧ NMx nm s q ∧ RDl R ∧ CHl C
theorem KX_sk {xs : List Int32} {g : Int32} {R' : px_R} {C' : px_C} (h : KX nm s q R C) (hx : xs.length = 32) (hR : RDl R') (hC : CHl C') : KX nm s (q_sk q xs g) R' C' := ⟨SQx_sk h.1 hx, LWx_sk h.2.1, h.2.2.1, h.2.2.2.1, hR, hC⟩
theorem t_rdS (hK : KX nm s q R C) (hc : c_ok s c) (hS : SCx s S c) (hq : ∀ q' R', KX nm s q' R' C → RDt s c 0 (sp_gust s c.1) R' → Q none (px_h z E M (px_l sw c2 w2 T D S S1 K (R') C W U (q') q1 B0 B1 B2 B3))) : wm (mp_P fx) (d + 4) 108 [.ref 59, .ref 67] (px_h z E M (px_l sw c2 w2 T D S S1 K R C W U q q1 B0 B1 B2 B3)) Q :=
  t_readInS hK.1 hK.2.1 hK.2.2.1 hc hS hK.2.2.2.2.1 (fun R' xs g hx hR => hq _ R' (KX_sk hK hx hR.1.1 hK.2.2.2.2.2) hR)
theorem t_sdS (hK : KX nm s q R C) (hc : c_ok s c) (hS : SCx s S c) (hq : ∀ q' R' C', KX nm s q' R' C' → RDt s c 0 (sp_gust s c.1) R' → Q (some (.int (nI (sp_said s (sp_now s c))))) (px_h z E M (px_l sw c2 w2 T D S S1 K (R') (C') W U (q') q1 B0 B1 B2 B3))) : wm (mp_P fx) (d + 5) 128 [.ref 59, .ref 67] (px_h z E M (px_l sw c2 w2 T D S S1 K R C W U q q1 B0 B1 B2 B3)) Q :=
  t_saidInS hK.1 hK.2.1 hK.2.2.1 hc hS hK.2.2.2.2.1 hK.2.2.2.2.2 (fun R' C' xs g hx hR hC => hq _ R' C' (KX_sk hK hx hR.1.1 hC) hR)
theorem t_rdS1 (hK : KX nm s q R C) (hc : c_ok s c) (hS : SCx s S1 c) (hq : ∀ q' R', KX nm s q' R' C → RDt s c 0 (sp_gust s c.1) R' → Q none (px_h z E M (px_l sw c2 w2 T D S S1 K (R') C W U (q') q1 B0 B1 B2 B3))) : wm (mp_P fx) (d + 4) 108 [.ref 59, .ref 69] (px_h z E M (px_l sw c2 w2 T D S S1 K R C W U q q1 B0 B1 B2 B3)) Q :=
  t_readInS1 hK.1 hK.2.1 hK.2.2.1 hc hS hK.2.2.2.2.1 (fun R' xs g hx hR => hq _ R' (KX_sk hK hx hR.1.1 hK.2.2.2.2.2) hR)
theorem t_sdS1 (hK : KX nm s q R C) (hc : c_ok s c) (hS : SCx s S1 c) (hq : ∀ q' R' C', KX nm s q' R' C' → RDt s c 0 (sp_gust s c.1) R' → Q (some (.int (nI (sp_said s (sp_now s c))))) (px_h z E M (px_l sw c2 w2 T D S S1 K (R') (C') W U (q') q1 B0 B1 B2 B3))) : wm (mp_P fx) (d + 5) 128 [.ref 59, .ref 69] (px_h z E M (px_l sw c2 w2 T D S S1 K R C W U q q1 B0 B1 B2 B3)) Q :=
  t_saidInS1 hK.1 hK.2.1 hK.2.2.1 hc hS hK.2.2.2.2.1 hK.2.2.2.2.2 (fun R' C' xs g hx hR hC => hq _ R' C' (KX_sk hK hx hR.1.1 hC) hR)
theorem t_said (hK : KX nm s q R C) (hc : c_ok s c) (hS : SCx s S c) (hq : ∀ q' R' C', KX nm s q' R' C' → Q (some (.int (nI (sp_said s (sp_now s c))))) (px_h z E M (px_l sw c2 w2 T D S S1 K (R') (C') W U (q') q1 B0 B1 B2 B3))) : wm (mp_P fx) (d + 6) 148 [.ref 59] (px_h z E M (px_l sw c2 w2 T D S S1 K R C W U q q1 B0 B1 B2 B3)) Q := by
  simp only [e148, q148_0, q148_1, q148_2, q148_5, q148_8, xc_x, xg_x_0, xg_x_1, xg_x_2, xg_x_3, xg_x_4, xg_x_5, xg_x_6, xg_x_7, xg_x_8, xg_x_9, xg_x_10, xg_x_11, xg_x_12, xg_x_13, xg_x_14, xs_x_14, xg_x_15, xs_x_15, wx_some, wx_ref]
  apply t_sdS hK hc hS
  intro q' R' C' h _
  simp only [sl_i, e148, q148_0, q148_1, q148_2, q148_5, q148_8]
  exact hq q' R' C' h
theorem t_read {v : Int32} (hK : KX nm s q R C) (hc : c_ok s c) (hS : SCx s S c) (hq : ∀ q' R' C', KX nm s q' R' C' → Q (some (.int (match sx (sp_now s c).length v with
    | none => -1
    | some k => nI ((sp_now s c).getD k 0)))) (px_h z E M (px_l sw c2 w2 T D S S1 K (R') (C') W U (q') q1 B0 B1 B2 B3))) : wm (mp_P fx) (d + 5) 122 [.ref 59, .int v] (px_h z E M (px_l sw c2 w2 T D S S1 K R C W U q q1 B0 B1 B2 B3)) Q := by
  have hW := hK.2.2.1.1.2.2.2.1
  have hLl := sp_list_len (sh := 0) (g := sp_gust s c.1) hc
  simp only [e122, q122_0, q122_1, q122_2, q122_5, q122_8, q122_9, q122_12, q122_13, q122_14, q122_17, q122_20, q122_23, q122_24, q122_27, q122_30, q122_31, q122_32, q122_35, q122_36, xc_x, xg_x_0, xg_x_1, xg_x_2, xg_x_3, xg_x_4, xg_x_5, xg_x_6, xg_x_7, xg_x_8, xg_x_9, xg_x_10, xg_x_11, xg_x_12, xg_x_13, xg_x_14, xs_x_14, xg_x_15, xs_x_15, wx_some, wx_ref]
  apply t_rdS hK hc hS
  intro q' R' h hR
  obtain ⟨hRs, -⟩ := hR
  obtain ⟨⟨r1, -⟩, b1, b2, -⟩ := id hRs
  have hqq := hq q' R' C h
  unfold sp_now at hqq
  simp only [sl_n, e122, q122_0, q122_1, q122_2, q122_5, q122_8, q122_9, q122_12, q122_13, q122_14, q122_17, q122_20, q122_23, q122_24, q122_27, q122_30, q122_31, q122_32, q122_35, q122_36, xc_x, xg_x_0, xg_x_1, xg_x_2, xg_x_3, xg_x_4, xg_x_5, xg_x_6, xg_x_7, xg_x_8, xg_x_9, xg_x_10, xg_x_11, xg_x_12, xg_x_13, xg_x_14, xs_x_14, xg_x_15, xs_x_15, xc_R, xg_R_0, xg_R_1, xs_R_1, xg_R_2, xs_R_2, xg_R_3, xg_R_4, xg_R_5, xs_R_5, xg_R_6, xg_R_7, xs_R_7, xg_R_8, xg_R_9, xg_R_10, xa_R_shown, xb_R_shown, xn_R_shown, xa_R_begins, xb_R_begins, xn_R_begins, xa_R_lengths, xb_R_lengths, xn_R_lengths, xa_R_order, xb_R_order, xn_R_order, xa_R_standing, xb_R_standing, xn_R_standing, xa_R_lovers, xb_R_lovers, xn_R_lovers, xa_R_lowest, xb_R_lowest, xn_R_lowest, wx_some, wx_ref, b1]
  rcases sx_c (sp_list s c 0 (sp_gust s c.1)).length v (by omega) with ⟨e, h1⟩ | ⟨k, hk, rfl, e⟩
  · rw [e] at hqq
    rcases h1 with h1 | ⟨h1, h2⟩
    · rw [if_pos h1]; exact hqq
    · rw [if_neg h1, if_pos h2]; exact hqq
  · rw [e] at hqq
    rw [if_neg (by rw [nl_0, nI_ltI (by omega) (by omega)]; omega), if_neg (by rw [nI_leI (by omega) (by omega)]; omega), ag_G b2 (by omega) hk, wx_some]
    exact hqq
theorem k6_or : ∀ a, a < 64 → ∀ w, w < 6 → nI a ||| ((1 : Int32) <<< (nI w &&& 31)) = nI (a ||| 2 ^ w) := fun a ha w hw => k7_or a (by omega) w (by omega)
/-- bits of the colours shown -/
def cbk (L : List Nat) : Nat → Nat
  | 0 => 0
  | k + 1 => cbk L k ||| (if L.getD k 0 = 6 then 0 else 2 ^ L.getD k 0)
theorem cbk_lt {L : List Nat} (h : ∀ j, L.getD j 0 ≤ 6) : ∀ k, cbk L k < 64 := by
  intro k
  induction k with
  | zero => exact (by decide : (0 : Nat) < 64)
  | succ k ih =>
    rw [cbk]
    apply Nat.or_lt_two_pow (n := 6) ih
    split
    · omega
    · have := h k
      exact Nat.pow_lt_pow_right (by omega) (by omega)
theorem t_colours (hK : KX nm s q R C) (hc : c_ok s c) (hS : SCx s S c) (hq : ∀ q' R' C', KX nm s q' R' C' → Q (some (.int (nI (cbk (sp_now s c) (sp_now s c).length)))) (px_h z E M (px_l sw c2 w2 T D S S1 K (R') (C') W U (q') q1 B0 B1 B2 B3))) : wm (mp_P fx) (d + 5) 181 [.ref 59] (px_h z E M (px_l sw c2 w2 T D S S1 K R C W U q q1 B0 B1 B2 B3)) Q := by
  have hW := hK.2.2.1.1.2.2.2.1
  have hLl := sp_list_len (sh := 0) (g := sp_gust s c.1) hc
  simp only [e181, q181_0, q181_1, q181_2, q181_5, q181_8, q181_9r, q181_10, q181_11i, q181_13, q181_14, q181_17, q181_20, q181_23, q181_24, q181_27, q181_30, q181_31, q181_32, q181_34, q181_37, q181_38, q181_39, q181_40, q181_43, q181_46, q181_47, q181_48, q181_49, q181_50r, q181_51i, q181_54, q181_57, q181_58, xc_x, xg_x_0, xg_x_1, xg_x_2, xg_x_3, xg_x_4, xg_x_5, xg_x_6, xg_x_7, xg_x_8, xg_x_9, xg_x_10, xg_x_11, xg_x_12, xg_x_13, xg_x_14, xs_x_14, xg_x_15, xs_x_15, wx_some, wx_ref, isl_i, isl_r, isl_n]
  apply t_rdS hK hc hS
  intro q' R' h hR
  obtain ⟨hRs, -⟩ := hR
  obtain ⟨⟨r1, -⟩, b1, b2, -⟩ := id hRs
  have hqq := hq q' R' C h
  unfold sp_now at hqq
  have h6 : ∀ j, (sp_list s c 0 (sp_gust s c.1)).getD j 0 ≤ 6 := fun j => sp_list_le hK.2.2.1
  generalize sp_list s c 0 (sp_gust s c.1) = L at *
  simp only [sl_n, q181_8, q181_9r, q181_10, q181_11i, isl_i, isl_r, isl_n]
  have key : ∀ (m k : Nat), k + m = L.length → ww (mp_P fx) (d + 5) 181 12 [some (.ref 59), some (.int (nI (cbk L k))), some (.int (nI k))] [] (px_h z E M (px_l sw c2 w2 T D S S1 K (R') C W U (q') q1 B0 B1 B2 B3)) Q := by
    intro m
    induction m with
    | zero =>
      intro k hk
      rw [q181_12]
      simp only [q181_13, q181_14, q181_17, q181_20, q181_23, q181_24, q181_27, q181_30, q181_31, q181_32, q181_34, q181_37, q181_38, q181_39, q181_40, q181_43, q181_46, q181_47, q181_48, q181_49, q181_50r, q181_51i, q181_54, q181_57, q181_58, xc_x, xg_x_0, xg_x_1, xg_x_2, xg_x_3, xg_x_4, xg_x_5, xg_x_6, xg_x_7, xg_x_8, xg_x_9, xg_x_10, xg_x_11, xg_x_12, xg_x_13, xg_x_14, xs_x_14, xg_x_15, xs_x_15, xc_R, xg_R_0, xg_R_1, xs_R_1, xg_R_2, xs_R_2, xg_R_3, xg_R_4, xg_R_5, xs_R_5, xg_R_6, xg_R_7, xs_R_7, xg_R_8, xg_R_9, xg_R_10, xa_R_shown, xb_R_shown, xn_R_shown, xa_R_begins, xb_R_begins, xn_R_begins, xa_R_lengths, xb_R_lengths, xn_R_lengths, xa_R_order, xb_R_order, xn_R_order, xa_R_standing, xb_R_standing, xn_R_standing, xa_R_lovers, xb_R_lovers, xn_R_lovers, xa_R_lowest, xb_R_lowest, xn_R_lowest, wx_some, wx_ref, b1]
      rw [if_pos (by rw [nI_leI (by omega) (by omega)]; omega)]
      rw [show k = L.length by omega]; exact hqq
    | succ m ih =>
      intro k hk
      have g1 := ag_G b2 (show (R'.1).length < 2 ^ 31 by omega) (show k < L.length by omega)
      have h6k := h6 k
      have hgo := ih (k + 1) (by omega)
      rw [cbk] at hgo
      rw [q181_12]
      simp only [q181_13, q181_14, q181_17, q181_20, q181_23, q181_24, q181_27, q181_30, q181_31, q181_32, q181_34, q181_37, q181_38, q181_39, q181_40, q181_43, q181_46, q181_47, q181_48, q181_49, q181_50r, q181_51i, q181_54, xc_x, xg_x_0, xg_x_1, xg_x_2, xg_x_3, xg_x_4, xg_x_5, xg_x_6, xg_x_7, xg_x_8, xg_x_9, xg_x_10, xg_x_11, xg_x_12, xg_x_13, xg_x_14, xs_x_14, xg_x_15, xs_x_15, xc_R, xg_R_0, xg_R_1, xs_R_1, xg_R_2, xs_R_2, xg_R_3, xg_R_4, xg_R_5, xs_R_5, xg_R_6, xg_R_7, xs_R_7, xg_R_8, xg_R_9, xg_R_10, xa_R_shown, xb_R_shown, xn_R_shown, xa_R_begins, xb_R_begins, xn_R_begins, xa_R_lengths, xb_R_lengths, xn_R_lengths, xa_R_order, xb_R_order, xn_R_order, xa_R_standing, xb_R_standing, xn_R_standing, xa_R_lovers, xb_R_lovers, xn_R_lovers, xa_R_lowest, xb_R_lowest, xn_R_lowest, wx_some, wx_ref, isl_i, isl_r, isl_n, b1, g1]
      rw [if_neg (by rw [nI_leI (by omega) (by omega)]; omega)]
      by_cases e : L.getD k 0 = 6
      · rw [if_pos e, Nat.or_zero] at hgo
        rw [if_pos (by rw [e]; rfl), nl_1, nI_add]
        exact hgo
      · rw [if_neg e] at hgo
        rw [if_neg (by rw [show (6 : Int32) = nI 6 from rfl, nI_eq (by omega) (by omega)]; exact e), k6_or _ (cbk_lt h6 k) _ (by omega), nl_1, nI_add]
        exact hgo
  exact key L.length 0 (by omega)
theorem t_parseNow {v : Int32} (hK : KX nm s q R C) (hc : c_ok s c) (hS : SCx s S c)
    (hq0 : ∀ q' R', KX nm s q' R' C → sx (snk (sp_now s c) (sp_now s c).length).1 v = none → Q (some (.int 0)) (px_h z E M (px_l sw c2 w2 T D S S1 K (R') C W U (q') q1 B0 B1 B2 B3)))
    (hq1 : ∀ q' R' C' k, KX nm s q' R' C' → sx (snk (sp_now s c) (sp_now s c).length).1 v = some k → k < (snk (sp_now s c) (sp_now s c).length).1 → CHf s (sp_text (sp_now s c) k) (sp_tlen (sp_now s c) k) C' → 1 ≤ sp_tlen (sp_now s c) k → sp_tlen (sp_now s c) k ≤ 7 → Q (some (.int 1)) (px_h z E M (px_l sw c2 w2 T D S S1 K (R') (C') W U (q') q1 B0 B1 B2 B3))) : wm (mp_P fx) (d + 5) 150 [.ref 59, .int v] (px_h z E M (px_l sw c2 w2 T D S S1 K R C W U q q1 B0 B1 B2 B3)) Q := by
  have hW := hK.2.2.1.1.2.2.2.1
  have hLl := sp_list_len (sh := 0) (g := sp_gust s c.1) hc
  have hL := sp_list_ok (sh := 0) (g := sp_gust s c.1) hK.2.2.1 hc
  simp only [e150, b150_0, b150_1, bn_0 b150_0, bn_1 b150_1, q150_0, q150_1, q150_2, q150_5, q150_8, q150_9, q150_12, q150_13, q150_14, q150_17, q150_20, q150_23, q150_24, q150_25, q150_26, q150_29, q150_30, q150_33, q150_34, q150_37, q150_40, q150_41, q150_44, q150_47, q150_48, q150_49, q150_50, q150_53, q150_56, q150_57, q150_58, q150_61, q150_62, xc_x, xg_x_0, xg_x_1, xg_x_2, xg_x_3, xg_x_4, xg_x_5, xg_x_6, xg_x_7, xg_x_8, xg_x_9, xg_x_10, xg_x_11, xg_x_12, xg_x_13, xg_x_14, xs_x_14, xg_x_15, xs_x_15, wx_some, wx_ref]
  apply t_rdS hK hc hS
  intro q' R' h hR
  obtain ⟨hRs, -⟩ := hR
  unfold sp_now at hq0 hq1
  have hq0 := hq0 q' R' h
  have hq1 := hq1 q' R'
  generalize sp_list s c 0 (sp_gust s c.1) = L at *
  obtain ⟨k1, -, -⟩ := snk_ok L L.length
  obtain ⟨⟨r1, r2, r3, -⟩, b1, b2, b3, b4, b5⟩ := id hRs
  simp only [sl_n, e150, b150_0, b150_1, bn_0 b150_0, bn_1 b150_1, q150_0, q150_1, q150_2, q150_5, q150_8, q150_9, q150_12, q150_13, q150_14, q150_17, q150_20, q150_23, q150_24, q150_25, q150_26, q150_29, q150_30, q150_33, q150_34, q150_37, q150_40, q150_41, q150_44, q150_47, q150_48, q150_49, q150_50, q150_53, q150_56, q150_57, q150_58, q150_61, q150_62, xc_x, xg_x_0, xg_x_1, xg_x_2, xg_x_3, xg_x_4, xg_x_5, xg_x_6, xg_x_7, xg_x_8, xg_x_9, xg_x_10, xg_x_11, xg_x_12, xg_x_13, xg_x_14, xs_x_14, xg_x_15, xs_x_15, xc_R, xg_R_0, xg_R_1, xs_R_1, xg_R_2, xs_R_2, xg_R_3, xg_R_4, xg_R_5, xs_R_5, xg_R_6, xg_R_7, xs_R_7, xg_R_8, xg_R_9, xg_R_10, xa_R_shown, xb_R_shown, xn_R_shown, xa_R_begins, xb_R_begins, xn_R_begins, xa_R_lengths, xb_R_lengths, xn_R_lengths, xa_R_order, xb_R_order, xn_R_order, xa_R_standing, xb_R_standing, xn_R_standing, xa_R_lovers, xb_R_lovers, xn_R_lovers, xa_R_lowest, xb_R_lowest, xn_R_lowest, xc_C, xg_C_0, xg_C_1, xg_C_2, xg_C_3, xs_C_3, xg_C_4, xs_C_4, xa_C_ways, xb_C_ways, xn_C_ways, xa_C_rows, xb_C_rows, xn_C_rows, xa_C_shallower, xb_C_shallower, xn_C_shallower, xc_q, xg_q_0, xg_q_1, xs_q_1, xg_q_2, xg_q_3, xg_q_4, xs_q_4, xg_q_5, xg_q_6, xg_q_7, xg_q_8, xs_q_8, xg_q_9, xs_q_9, xg_q_10, xg_q_11, xg_q_12, xg_q_13, xg_q_14, xg_q_15, xg_q_16, xs_q_16, xg_q_17, xg_q_18, xs_q_18, xg_q_19, xa_q_sortNames, xb_q_sortNames, xn_q_sortNames, xa_q_colourNames, xb_q_colourNames, xn_q_colourNames, xa_q_colourSorts, xb_q_colourSorts, xn_q_colourSorts, xa_q_ruleMakes, xb_q_ruleMakes, xn_q_ruleMakes, xa_q_ruleFirsts, xb_q_ruleFirsts, xn_q_ruleFirsts, xa_q_ruleSeconds, xb_q_ruleSeconds, xn_q_ruleSeconds, xa_q_walkerNames, xb_q_walkerNames, xn_q_walkerNames, xa_q_kinds, xb_q_kinds, xn_q_kinds, xa_q_walkerColours, xb_q_walkerColours, xn_q_walkerColours, xa_q_starts, xb_q_starts, xn_q_starts, xa_q_stepRows, xb_q_stepRows, xn_q_stepRows, xa_q_stepCounts, xb_q_stepCounts, xn_q_stepCounts, xa_q_gusts, xb_q_gusts, xn_q_gusts, xc_ql, xg_ql_0, xg_ql_1, xs_ql_1, xg_ql_2, xg_ql_3, xs_ql_3, xa_q_parts, xb_q_parts, xn_q_parts, xa_q_stack, xb_q_stack, xn_q_stack, wx_some, wx_ref, b3]
  rcases sx_c (snk L L.length).1 v (by omega) with ⟨e, h1⟩ | ⟨k, hk, rfl, e⟩
  · have hq0 := hq0 e
    rcases h1 with h1 | ⟨h1, h2⟩
    · rw [if_pos h1]; exact hq0
    · rw [if_neg h1, if_neg (Int32.not_lt.mpr h2)]; exact hq0
  · rw [if_neg (by rw [nl_0, nI_ltI (by omega) (by omega)]; omega), if_pos (by rw [nI_ltI (by omega) (by omega)]; omega)]
    simp only [ag_G b4 (show (R'.2.2.2.1).length < 2 ^ 31 by omega) hk, ag_G b5 (show (R'.2.2.2.2.1).length < 2 ^ 31 by omega) hk, wx_some]
    apply t_parse h.1 h.2.2.1 h.2.2.2.2.2 hRs hL hk
    intro C' hC' h1 h7
    simp only [sl_n, b150_0, b150_1, bn_0 b150_0, bn_1 b150_1, q150_61, q150_62]
    exact hq1 C' k ⟨h.1, h.2.1, h.2.2.1, h.2.2.2.1, h.2.2.2.2.1, hC'.1⟩ e hk hC' h1 h7
theorem t_ways {v : Int32} (hK : KX nm s q R C) (hc : c_ok s c) (hS : SCx s S c) (hq : ∀ q' R' C', KX nm s q' R' C' → Q (some (.int (match sx (snk (sp_now s c) (sp_now s c).length).1 v with
    | none => -1
    | some k => nI (sp_ways s (sp_now s c) k)))) (px_h z E M (px_l sw c2 w2 T D S S1 K (R') (C') W U (q') q1 B0 B1 B2 B3))) : wm (mp_P fx) (d + 6) 149 [.ref 59, .int v] (px_h z E M (px_l sw c2 w2 T D S S1 K R C W U q q1 B0 B1 B2 B3)) Q := by
  simp only [e149, q149_0, q149_1, q149_2, q149_5, q149_8, q149_9, q149_12, q149_15, q149_18, q149_19, xc_x, xg_x_0, xg_x_1, xg_x_2, xg_x_3, xg_x_4, xg_x_5, xg_x_6, xg_x_7, xg_x_8, xg_x_9, xg_x_10, xg_x_11, xg_x_12, xg_x_13, xg_x_14, xs_x_14, xg_x_15, xs_x_15, wx_some, wx_ref]
  apply t_parseNow hK hc hS
  · intro q' R' h e
    have hqq := hq q' R' C h
    rw [e] at hqq
    simp only [sl_i, e149, q149_0, q149_1, q149_2, q149_5, q149_8, q149_9, q149_12, q149_15, q149_18, q149_19]
    rw [if_pos (by decide)]; exact hqq
  · intro q' R' C' k h e hk hC h1 h7
    have hqq := hq q' R' C' h
    rw [e] at hqq
    simp only [sl_i, e149, q149_0, q149_1, q149_2, q149_5, q149_8, q149_9, q149_12, q149_15, q149_18, q149_19, xc_x, xg_x_0, xg_x_1, xg_x_2, xg_x_3, xg_x_4, xg_x_5, xg_x_6, xg_x_7, xg_x_8, xg_x_9, xg_x_10, xg_x_11, xg_x_12, xg_x_13, xg_x_14, xs_x_14, xg_x_15, xs_x_15, xc_C, xg_C_0, xg_C_1, xg_C_2, xg_C_3, xs_C_3, xg_C_4, xs_C_4, xa_C_ways, xb_C_ways, xn_C_ways, xa_C_rows, xb_C_rows, xn_C_rows, xa_C_shallower, xb_C_shallower, xn_C_shallower, wx_some, wx_ref]
    rw [if_neg (by decide)]
    apply t_whole h.2.2.1 h1 h7 hC
    simp only [sl_i, e149, q149_0, q149_1, q149_2, q149_5, q149_8, q149_9, q149_12, q149_15, q149_18, q149_19]
    exact hqq
/-- the sorts of a part, as bits -/
def sp_bits (s : SQ) (t : Nat → Nat) (i k : Nat) : Nat := bmk (fun y => decide (0 < wy s t (k - i) i y)) 6
def sp_part (n : Nat) (a b : Int32) : Option (Nat × Nat) := if a < 0 ∨ b < a then none else if b.toNatClampNeg < n then some (a.toNatClampNeg, b.toNatClampNeg) else none
theorem sp_part_c (n : Nat) (a b : Int32) (hn : n < 2 ^ 31) : (sp_part n a b = none ∧ (a < 0 ∨ (¬ a < 0 ∧ b < a) ∨ (¬ a < 0 ∧ ¬ b < a ∧ nI n ≤ b))) ∨ ∃ i k, i ≤ k ∧ k < n ∧ a = nI i ∧ b = nI k ∧ sp_part n a b = some (i, k) := by
  rcases iv a with ha | ⟨i, hi, rfl⟩
  · exact Or.inl ⟨if_pos (Or.inl ha), Or.inl ha⟩
  · have h0 : ¬ nI i < 0 := by rw [nl_0, nI_ltI (by omega) (by omega)]; omega
    by_cases hb : b < nI i
    · exact Or.inl ⟨if_pos (Or.inr hb), Or.inr (Or.inl ⟨h0, hb⟩)⟩
    · rcases iv b with hb2 | ⟨k, hk, rfl⟩
      · exact absurd (Int32.lt_of_lt_of_le hb2 (Int32.not_lt.mp h0)) hb
      · rw [nI_ltI (by omega) (by omega)] at hb
        by_cases e : k < n
        · refine Or.inr ⟨i, k, by omega, e, rfl, rfl, ?_⟩
          unfold sp_part
          rw [if_neg (by rw [nI_ltI (by omega) (by omega)]; exact fun z => z.elim h0 hb), nI_clamp (by omega), nI_clamp (by omega), if_pos e]
        · refine Or.inl ⟨?_, Or.inr (Or.inr ⟨h0, by rw [nI_ltI (by omega) (by omega)]; exact hb, by rw [nI_leI (by omega) (by omega)]; omega⟩)⟩
          unfold sp_part
          rw [if_neg (by rw [nI_ltI (by omega) (by omega)]; exact fun z => z.elim h0 hb), nI_clamp (by omega), if_neg e]
theorem t_sortBits {t : Nat → Nat} {n : Nat} {a b : Int32} (ho : k_ok s) (hn7 : n ≤ 7) (hC : CHf s t n C) (hq : Q (some (.int (match sp_part n a b with
    | none => -1
    | some (i, k) => nI (sp_bits s t i k)))) (px_h z E M (px_l sw c2 w2 T D S S1 K R C W U q q1 B0 B1 B2 B3))) : wm (mp_P fx) (d + 1) 152 [.ref 83, .int a, .int b] (px_h z E M (px_l sw c2 w2 T D S S1 K R C W U q q1 B0 B1 B2 B3)) Q := by
  obtain ⟨⟨h1, -⟩, h2, h3, h4⟩ := hC
  simp only [e152, q152_0, q152_1, q152_4, q152_5, q152_6, q152_9, q152_10, q152_11, q152_14, q152_17, q152_18, q152_19, q152_20, q152_21, xc_C, xg_C_0, xg_C_1, xg_C_2, xg_C_3, xs_C_3, xg_C_4, xs_C_4, xa_C_ways, xb_C_ways, xn_C_ways, xa_C_rows, xb_C_rows, xn_C_rows, xa_C_shallower, xb_C_shallower, xn_C_shallower, wx_some, wx_ref, isl_i, isl_r, isl_n, h2]
  rcases sp_part_c n a b (by omega) with ⟨e, hh⟩ | ⟨i, k, hik, hk, rfl, rfl, e⟩
  · rw [e] at hq
    rcases hh with g1 | ⟨g1, g2⟩ | ⟨g1, g2, g3⟩
    · rw [if_pos g1]; exact hq
    · rw [if_neg g1, if_pos g2]; exact hq
    · rw [if_neg g1, if_neg g2, if_neg (Int32.not_lt.mpr g3)]; exact hq
  · rw [e] at hq
    simp only [] at hq
    rw [if_neg (by rw [nl_0, nI_ltI (by omega) (by omega)]; omega), if_neg (by rw [nI_ltI (by omega) (by omega)]; omega), if_pos (by rw [nI_ltI (by omega) (by omega)]; omega)]
    apply t_cell
    simp only [sl_i, q152_24i, q152_25, q152_26i, q152_28, q152_29i, isl_i, isl_r, isl_n]
    have hw := h4 i k hik hk
    have key : ∀ (m y : Nat), y + m = 6 → ww (mp_P fx) (d + 1) 152 31 [some (.ref 83), some (.int (nI i)), some (.int (nI k)), some (.int (nI (cl_ i k 0))), some (.int (nI (bmk (fun y => decide (0 < wy s t (k - i) i y)) y))), some (.int (nI y))] [] (px_h z E M (px_l sw c2 w2 T D S S1 K R C W U q q1 B0 B1 B2 B3)) Q := by
      intro m
      induction m with
      | zero =>
        intro y hy
        have hy2 : y = 6 := by omega
        subst hy2
        rw [q152_31]
        simp only [q152_33, q152_35, q152_69, q152_71]
        rw [if_pos (by decide)]
        exact hq
      | succ m ih =>
        intro y hy
        have hv := hw y (by omega)
        have hwl := wy_lt (t := t) ho (p := k - i) (i := i) (y := y) (by omega)
        have hgo := ih (y + 1) (by omega)
        rw [bmk] at hgo
        have hlt : bmk (fun y => decide (0 < wy s t (k - i) i y)) y < 64 := Nat.lt_of_lt_of_le bmk_lt (show 2 ^ y ≤ 64 from Nat.pow_le_pow_right (n := 2) (j := 6) (by omega) (by omega))
        rw [q152_31]
        simp only [q152_33, q152_35, q152_38, q152_40, q152_41, q152_44, q152_45, q152_47, q152_48, q152_49, q152_52, q152_53, q152_55, q152_56, q152_59, q152_60, q152_61i, q152_63i, q152_66, xc_C, xg_C_0, xg_C_1, xg_C_2, xg_C_3, xs_C_3, xg_C_4, xs_C_4, xa_C_ways, xb_C_ways, xn_C_ways, xa_C_rows, xb_C_rows, xn_C_rows, xa_C_shallower, xb_C_shallower, xn_C_shallower, wx_some, wx_ref, isl_i, isl_r, isl_n, nI_add, aG_n (show (C.1)[cl_ i k 0 + y]? = _ from hv) (show (C.1).length < 2 ^ 31 by omega)]
        rw [if_neg (by rw [show (6 : Int32) = nI 6 from rfl, nI_leI (by omega) (by omega)]; omega)]
        by_cases e0 : 0 < wy s t (k - i) i y
        · rw [if_pos (decide_eq_true e0)] at hgo
          rw [if_neg (nI_nle e0 hwl), k6_or _ hlt _ (by omega), nl_1, nI_add]
          exact hgo
        · rw [if_neg (by rw [decide_eq_false e0]; exact Bool.false_ne_true), Nat.or_zero] at hgo
          rw [show wy s t (k - i) i y = 0 by omega, if_pos (by decide), Int32.or_zero, nl_1, nI_add]
          exact hgo
    exact key 6 0 (by omega)
theorem t_sorts {v a b : Int32} (hK : KX nm s q R C) (hc : c_ok s c) (hS : SCx s S c) (hq : ∀ q' R' C', KX nm s q' R' C' → Q (some (.int (match sx (snk (sp_now s c) (sp_now s c).length).1 v with
    | none => -1
    | some k => (match sp_part (sp_tlen (sp_now s c) k) a b with
      | none => -1
      | some (i, j) => nI (sp_bits s (sp_text (sp_now s c) k) i j))))) (px_h z E M (px_l sw c2 w2 T D S S1 K (R') (C') W U (q') q1 B0 B1 B2 B3))) : wm (mp_P fx) (d + 6) 151 [.ref 59, .int v, .int a, .int b] (px_h z E M (px_l sw c2 w2 T D S S1 K R C W U q q1 B0 B1 B2 B3)) Q := by
  simp only [e151, q151_0, q151_1, q151_2, q151_5, q151_8, q151_9, q151_12, q151_13, q151_14, q151_17, q151_20, q151_21, xc_x, xg_x_0, xg_x_1, xg_x_2, xg_x_3, xg_x_4, xg_x_5, xg_x_6, xg_x_7, xg_x_8, xg_x_9, xg_x_10, xg_x_11, xg_x_12, xg_x_13, xg_x_14, xs_x_14, xg_x_15, xs_x_15, wx_some, wx_ref]
  apply t_parseNow hK hc hS
  · intro q' R' h e
    have hqq := hq q' R' C h
    rw [e] at hqq
    simp only [sl_i, e151, q151_0, q151_1, q151_2, q151_5, q151_8, q151_9, q151_12, q151_13, q151_14, q151_17, q151_20, q151_21]
    rw [if_pos (by decide)]; exact hqq
  · intro q' R' C' k h e hk hC h1 h7
    have hqq := hq q' R' C' h
    rw [e] at hqq
    simp only [sl_i, e151, q151_0, q151_1, q151_2, q151_5, q151_8, q151_9, q151_12, q151_13, q151_14, q151_17, q151_20, q151_21, xc_x, xg_x_0, xg_x_1, xg_x_2, xg_x_3, xg_x_4, xg_x_5, xg_x_6, xg_x_7, xg_x_8, xg_x_9, xg_x_10, xg_x_11, xg_x_12, xg_x_13, xg_x_14, xs_x_14, xg_x_15, xs_x_15, xc_C, xg_C_0, xg_C_1, xg_C_2, xg_C_3, xs_C_3, xg_C_4, xs_C_4, xa_C_ways, xb_C_ways, xn_C_ways, xa_C_rows, xb_C_rows, xn_C_rows, xa_C_shallower, xb_C_shallower, xn_C_shallower, wx_some, wx_ref]
    rw [if_neg (by decide)]
    apply t_sortBits h.2.2.1 h7 hC
    simp only [sl_i, e151, q151_0, q151_1, q151_2, q151_5, q151_8, q151_9, q151_12, q151_13, q151_14, q151_17, q151_20, q151_21]
    exact hqq
end TG
