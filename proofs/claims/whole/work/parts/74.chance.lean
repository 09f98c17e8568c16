/-! chance, keys, least -/
theorem sp_rd_sh {s : SQ} {c : SC} {sh g w : Nat} : sp_rd s c sh g w = (sp_rd s c 0 g w && !sh.testBit w) := by
  unfold sp_rd
  rw [Nat.zero_testBit, Bool.not_false, Bool.true_and]
  cases sp_able s c w <;> cases sh.testBit w <;> cases decide (c.2.2 w = g) <;> rfl
theorem k7_andn : ∀ a, a < 128 → ∀ b, b < 128 → a &&& (127 ^^^ b) < 128 := by decide +kernel
theorem k7_an {a b w : Nat} (hb : b < 128) (hw : w < 7) : (a &&& (127 ^^^ b)).testBit w = (a.testBit w && !b.testBit w) := by
  rw [Nat.testBit_and, k7_cmp b hb w hw]
/-- to shut some is to take their bits away -/
theorem sp_list_shut {s : SQ} {c : SC} {sh g : Nat} (ho : k_ok s) (hsh : sh < 128) : sp_list s (c.1, c.2.1 &&& (127 ^^^ sh), c.2.2) 0 g = sp_list s c sh g := by
  unfold sp_list
  congr 1
  apply List.filter_congr
  intro w hw
  have hw7 : w < 7 := Nat.lt_of_lt_of_le (fm_mem hw) ho.1.2.2.2.1
  have e : sp_able s (c.1, c.2.1 &&& (127 ^^^ sh), c.2.2) w = (sp_able s c w && !sh.testBit w) := by
    unfold sp_able
    show ((c.2.1 &&& (127 ^^^ sh)).testBit w && _) = _
    rw [k7_an hsh hw7]
    show (c.2.1.testBit w && !sh.testBit w && (!(decide (k_kd s w = 2) && decide (1 < cn (lv_ s c (c.2.2 w)) (k_nW s))) && !(decide (k_lw s (nI (c.2.2 w)) (nI (cn (at_ c (c.2.2 w)) (k_nW s) - 1)) (nI c.1) (nI (if cn (at_ c (c.2.2 w)) w = 0 then 1 else 0)) = 0)))) = _
    rw [Bool.and_assoc, Bool.and_comm (!sh.testBit w), ← Bool.and_assoc]
  unfold sp_rd
  rw [e, Nat.zero_testBit, Bool.not_false, Bool.true_and, Bool.and_assoc]
theorem sp_list_mask {s : SQ} {c : SC} {sh g m : Nat} (hm : ∀ w, w < k_nW s → sp_rd s c 0 g w = true → m.testBit w = sh.testBit w) : sp_list s c sh g = sp_list s c m g := by
  unfold sp_list
  congr 1
  apply List.filter_congr
  intro w hw
  rw [sp_rd_sh, sp_rd_sh (sh := m)]
  cases e : sp_rd s c 0 g w with
  | false => rfl
  | true => rw [hm w (fm_mem hw) e]
theorem c_shut {s : SQ} {c : SC} {sh : Nat} (hc : c_ok s c) : c_ok s (c.1, c.2.1 &&& (127 ^^^ sh), c.2.2) := ⟨hc.1, Nat.lt_of_le_of_lt Nat.and_le_left hc.2.1, hc.2.2⟩
def sp_chn (s : SQ) (c : SC) (o : Nat) : Nat → Nat
  | 0 => 0
  | g + 1 => sp_chn s c o g + (if 0 < sp_said s (sp_list s c 0 g) then (if g = 10 then 10 * o else 10 - o) else 0)
def sp_keys (s : SQ) (c : SC) : Nat := bmk (fun w => !decide (sp_said s (sp_list s c (2 ^ w) (sp_gust s c.1)) = sp_said s (sp_now s c))) (k_nW s)
theorem sp_said_le {s : SQ} {c : SC} {sh g : Nat} (hc : c_ok s c) (ho : k_ok s) : sp_said s (sp_list s c sh g) ≤ 7 := by
  unfold sp_said
  have h1 := cn_le (p := fun k => decide (0 < sp_ways s (sp_list s c sh g) k)) (n := (snk (sp_list s c sh g) (sp_list s c sh g).length).1)
  have h2 := (snk_ok (sp_list s c sh g) (sp_list s c sh g).length).1
  have h3 := sp_list_len (s := s) (sh := sh) (g := g) hc
  have := ho.1.2.2.2.1
  omega
section TH
variable {fx : List Value → mm_H → Option (List Value × mm_H)} {z : Nat} {E M : Nat → mm_C} {sw c2 w2 : Bool} {T : px_T} {D : px_D} {S : px_S} {S1 : px_S} {K : px_K} {R : px_R} {C : px_C} {W : px_W} {U : px_U} {q : px_q} {q1 : px_q} {B0 : px_K} {B1 : px_K} {B2 : px_K} {B3 : px_K} {T_signs : List Int32} {T_length : Int32} {T_fault : Int32} {T_types : List Int32} {T_starts : List Int32} {T_values : List Int64} {T_tokens : Int32} {T_at : Int32} {T_behind : Int32} {S_hour : Int32} {S_open : Int32} {S_places : List Int32} {S1_hour : Int32} {S1_open : Int32} {S1_places : List Int32} {K_lines : List Int32} {K_lineCount : Int32} {K_wishes : List Int32} {K_wishCount : Int32} {K_sights : List Int32} {K_sightCount : Int32} {R_shown : List Int32} {R_length : Int32} {R_readers : Int32} {R_begins : List Int32} {R_lengths : List Int32} {R_sentences : Int32} {R_order : List Int32} {R_able : Int32} {R_standing : List Int32} {R_lovers : List Int32} {R_lowest : List Int32} {C_ways : List Int32} {C_rows : List Int32} {C_shallower : List Int32} {C_length : Int32} {C_goal : Int32} {W_row : List Int32} {W_walkers : Int32} {W_names : Int32} {W_wanted : List Int32} {W_shown : List Int32} {W_places : List Int32} {W_rest : List Int32} {W_spent : List Int32} {W_tried : List Int32} {U_undoRows : List Int64} {U_markScenes : List Int64} {U_marksLaid : List Int32} {U_undoCount : Int32} {U_undoEnd : Int32} {q_sortNames : List Int64} {q_sortCount : Int32} {q_colourNames : List Int64} {q_colourSorts : List Int32} {q_colourCount : Int32} {q_ruleMakes : List Int32} {q_ruleFirsts : List Int32} {q_ruleSeconds : List Int32} {q_ruleCount : Int32} {q_saysSort : Int32} {q_walkerNames : List Int64} {q_kinds : List Int32} {q_walkerColours : List Int32} {q_starts : List Int32} {q_stepRows : List Int32} {q_stepCounts : List Int32} {q_walkerCount : Int32} {q_gusts : List Int32} {q_gustCount : Int32} {q_parts : List Int32} {q_count : Int32} {q_stack : List Int32} {q_height : Int32} {q1_sortNames : List Int64} {q1_sortCount : Int32} {q1_colourNames : List Int64} {q1_colourSorts : List Int32} {q1_colourCount : Int32} {q1_ruleMakes : List Int32} {q1_ruleFirsts : List Int32} {q1_ruleSeconds : List Int32} {q1_ruleCount : Int32} {q1_saysSort : Int32} {q1_walkerNames : List Int64} {q1_kinds : List Int32} {q1_walkerColours : List Int32} {q1_starts : List Int32} {q1_stepRows : List Int32} {q1_stepCounts : List Int32} {q1_walkerCount : Int32} {q1_gusts : List Int32} {q1_gustCount : Int32} {q1_parts : List Int32} {q1_count : Int32} {q1_stack : List Int32} {q1_height : Int32} {B0_lines : List Int32} {B0_lineCount : Int32} {B0_wishes : List Int32} {B0_wishCount : Int32} {B0_sights : List Int32} {B0_sightCount : Int32} {B1_lines : List Int32} {B1_lineCount : Int32} {B1_wishes : List Int32} {B1_wishCount : Int32} {B1_sights : List Int32} {B1_sightCount : Int32} {B2_lines : List Int32} {B2_lineCount : Int32} {B2_wishes : List Int32} {B2_wishCount : Int32} {B2_sights : List Int32} {B2_sightCount : Int32} {B3_lines : List Int32} {B3_lineCount : Int32} {B3_wishes : List Int32} {B3_wishCount : Int32} {B3_sights : List Int32} {B3_sightCount : Int32}
variable {d : Nat} {Q : Option Value → mm_H → Prop} {s : SQ} {c : SC} {nm : NMs}
theorem t_takeK {sh g : Nat} (hK : KX nm s q R C) (hc : c_ok s c) (hS : SCx s S c) (hR : RDk s c R) (hsh : sh < 128) (hg : g < 2 ^ 30) (hq : ∀ R', KX nm s q R' C → RDt s c sh g R' → Q none (px_h z E M (px_l sw c2 w2 T D S S1 K (R') C W U q q1 B0 B1 B2 B3))) : wm (mp_P fx) (d + 1) 119 [.ref 75, .ref (px_ta sw), .ref 67, .int (nI sh), .int (nI g)] (px_h z E M (px_l sw c2 w2 T D S S1 K R C W U q q1 B0 B1 B2 B3)) Q :=
  t_takeS hK.1 hK.2.2.1 hc hS hR hsh hg (fun R' hR' => hq R' ⟨hK.1, hK.2.1, hK.2.2.1, hK.2.2.2.1, hR'.1.1, hK.2.2.2.2.2⟩ hR')
theorem t_saidK {sh g : Nat} (hK : KX nm s q R C) (hc : c_ok s c) (hR : RDt s c sh g R) (hq : ∀ C', KX nm s q R C' → Q (some (.int (nI (sp_said s (sp_list s c sh g))))) (px_h z E M (px_l sw c2 w2 T D S S1 K R (C') W U q q1 B0 B1 B2 B3))) : wm (mp_P fx) (d + 4) 129 [.ref 59] (px_h z E M (px_l sw c2 w2 T D S S1 K R C W U q q1 B0 B1 B2 B3)) Q :=
  t_saidR hK.1 hK.2.2.1 hK.2.2.2.2.2 hR.1 (sp_list_ok hK.2.2.1 hc) (fun C' hC' => hq C' ⟨hK.1, hK.2.1, hK.2.2.1, hK.2.2.2.1, hK.2.2.2.2.1, hC'⟩)
theorem t_chance {v : Int32} (hK : KX nm s q R C) (hc : c_ok s c) (hS : SCx s S c) (hq : ∀ q' R' C', KX nm s q' R' C' → Q (some (.int (match sx 11 v with
    | some o => nI (sp_chn s c o 11 * 10000)
    | none => -1))) (px_h z E M (px_l sw c2 w2 T D S S1 K (R') (C') W U (q') q1 B0 B1 B2 B3))) : wm (mp_P fx) (d + 5) 197 [.ref 59, .int v] (px_h z E M (px_l sw c2 w2 T D S S1 K R C W U q q1 B0 B1 B2 B3)) Q := by
  have ho := hK.2.2.1
  simp only [e197, q197_0, q197_1, q197_4, q197_5, q197_7, q197_10, q197_11, q197_12, q197_13, q197_16, q197_17, q197_20, q197_21, q197_24, xc_x, xg_x_0, xg_x_1, xg_x_2, xg_x_3, xg_x_4, xg_x_5, xg_x_6, xg_x_7, xg_x_8, xg_x_9, xg_x_10, xg_x_11, xg_x_12, xg_x_13, xg_x_14, xs_x_14, xg_x_15, xs_x_15, xc_R, xg_R_0, xg_R_1, xs_R_1, xg_R_2, xs_R_2, xg_R_3, xg_R_4, xg_R_5, xs_R_5, xg_R_6, xg_R_7, xs_R_7, xg_R_8, xg_R_9, xg_R_10, xa_R_shown, xb_R_shown, xn_R_shown, xa_R_begins, xb_R_begins, xn_R_begins, xa_R_lengths, xb_R_lengths, xn_R_lengths, xa_R_order, xb_R_order, xn_R_order, xa_R_standing, xb_R_standing, xn_R_standing, xa_R_lovers, xb_R_lovers, xn_R_lovers, xa_R_lowest, xb_R_lowest, xn_R_lowest, xc_q, xg_q_0, xg_q_1, xs_q_1, xg_q_2, xg_q_3, xg_q_4, xs_q_4, xg_q_5, xg_q_6, xg_q_7, xg_q_8, xs_q_8, xg_q_9, xs_q_9, xg_q_10, xg_q_11, xg_q_12, xg_q_13, xg_q_14, xg_q_15, xg_q_16, xs_q_16, xg_q_17, xg_q_18, xs_q_18, xg_q_19, xa_q_sortNames, xb_q_sortNames, xn_q_sortNames, xa_q_colourNames, xb_q_colourNames, xn_q_colourNames, xa_q_colourSorts, xb_q_colourSorts, xn_q_colourSorts, xa_q_ruleMakes, xb_q_ruleMakes, xn_q_ruleMakes, xa_q_ruleFirsts, xb_q_ruleFirsts, xn_q_ruleFirsts, xa_q_ruleSeconds, xb_q_ruleSeconds, xn_q_ruleSeconds, xa_q_walkerNames, xb_q_walkerNames, xn_q_walkerNames, xa_q_kinds, xb_q_kinds, xn_q_kinds, xa_q_walkerColours, xb_q_walkerColours, xn_q_walkerColours, xa_q_starts, xb_q_starts, xn_q_starts, xa_q_stepRows, xb_q_stepRows, xn_q_stepRows, xa_q_stepCounts, xb_q_stepCounts, xn_q_stepCounts, xa_q_gusts, xb_q_gusts, xn_q_gusts, xc_ql, xg_ql_0, xg_ql_1, xs_ql_1, xg_ql_2, xg_ql_3, xs_ql_3, xa_q_parts, xb_q_parts, xn_q_parts, xa_q_stack, xb_q_stack, xn_q_stack, xc_S, xg_S_0, xs_S_0, xg_S_1, xs_S_1, xg_S_2, xa_S_places, xb_S_places, xn_S_places, wx_some, wx_ref, isl_i, isl_r, isl_n]
  rcases sx_c 11 v (by omega) with ⟨e, hv⟩ | ⟨o, ho11, rfl, e⟩
  · have hqq := hq q R C hK
    rw [e] at hqq
    rcases hv with hv | ⟨hv, hv2⟩
    · rw [if_pos hv]; exact hqq
    · rw [if_neg hv, if_neg (Int32.not_le.mpr (Int32.lt_of_lt_of_le (by decide : (10 : Int32) < nI 11) hv2))]; exact hqq
  rw [e] at hq
  simp only [] at hq
  rw [if_neg (by rw [nl_0, nI_ltI (by omega) (by omega)]; omega), nl_10, if_pos (by rw [nI_leI (by omega) (by omega)]; omega)]
  apply t_lookS hK.1 hK.2.1 ho hc hS hK.2.2.2.2.1
  intro R1 xs gg hx hR1
  have hK1 : KX nm s (q_sk q xs gg) R1 C := KX_sk hK hx hR1.1 hK.2.2.2.2.2
  simp only [sl_n, q197_27, q197_28i, q197_29, q197_30i, isl_i, isl_r, isl_n]
  have fin : ∀ (R2 : px_R) (C2 : px_C), KX nm s (q_sk q xs gg) R2 C2 → RDk s c R2 → ww (mp_P fx) (d + 5) 197 82 [some (.ref 59), some (.int (nI o)), some (.int (nI (sp_chn s c o 10 * 10000))), some (.int (nI 10))] [] (px_h z E M (px_l sw c2 w2 T D S S1 K (R2) (C2) W U (q_sk q xs gg) q1 B0 B1 B2 B3)) Q := by
    intro R2 C2 hK2 hR2
    simp only [q197_82, q197_83, q197_86, q197_87, q197_90, q197_91, q197_94, q197_95, q197_97, xc_x, xg_x_0, xg_x_1, xg_x_2, xg_x_3, xg_x_4, xg_x_5, xg_x_6, xg_x_7, xg_x_8, xg_x_9, xg_x_10, xg_x_11, xg_x_12, xg_x_13, xg_x_14, xs_x_14, xg_x_15, xs_x_15, xc_R, xg_R_0, xg_R_1, xs_R_1, xg_R_2, xs_R_2, xg_R_3, xg_R_4, xg_R_5, xs_R_5, xg_R_6, xg_R_7, xs_R_7, xg_R_8, xg_R_9, xg_R_10, xa_R_shown, xb_R_shown, xn_R_shown, xa_R_begins, xb_R_begins, xn_R_begins, xa_R_lengths, xb_R_lengths, xn_R_lengths, xa_R_order, xb_R_order, xn_R_order, xa_R_standing, xb_R_standing, xn_R_standing, xa_R_lovers, xb_R_lovers, xn_R_lovers, xa_R_lowest, xb_R_lowest, xn_R_lowest, xc_q, xg_q_0, xg_q_1, xs_q_1, xg_q_2, xg_q_3, xg_q_4, xs_q_4, xg_q_5, xg_q_6, xg_q_7, xg_q_8, xs_q_8, xg_q_9, xs_q_9, xg_q_10, xg_q_11, xg_q_12, xg_q_13, xg_q_14, xg_q_15, xg_q_16, xs_q_16, xg_q_17, xg_q_18, xs_q_18, xg_q_19, xa_q_sortNames, xb_q_sortNames, xn_q_sortNames, xa_q_colourNames, xb_q_colourNames, xn_q_colourNames, xa_q_colourSorts, xb_q_colourSorts, xn_q_colourSorts, xa_q_ruleMakes, xb_q_ruleMakes, xn_q_ruleMakes, xa_q_ruleFirsts, xb_q_ruleFirsts, xn_q_ruleFirsts, xa_q_ruleSeconds, xb_q_ruleSeconds, xn_q_ruleSeconds, xa_q_walkerNames, xb_q_walkerNames, xn_q_walkerNames, xa_q_kinds, xb_q_kinds, xn_q_kinds, xa_q_walkerColours, xb_q_walkerColours, xn_q_walkerColours, xa_q_starts, xb_q_starts, xn_q_starts, xa_q_stepRows, xb_q_stepRows, xn_q_stepRows, xa_q_stepCounts, xb_q_stepCounts, xn_q_stepCounts, xa_q_gusts, xb_q_gusts, xn_q_gusts, xc_ql, xg_ql_0, xg_ql_1, xs_ql_1, xg_ql_2, xg_ql_3, xs_ql_3, xa_q_parts, xb_q_parts, xn_q_parts, xa_q_stack, xb_q_stack, xn_q_stack, xc_S, xg_S_0, xs_S_0, xg_S_1, xs_S_1, xg_S_2, xa_S_places, xb_S_places, xn_S_places, wx_some, wx_ref, nl_0, nl_10]
    apply t_takeK hK2 hc hS hR2 (by omega) (by omega)
    intro R3 hK3 hR3
    simp only [sl_n, q197_100, q197_101, q197_102, xc_x, xg_x_0, xg_x_1, xg_x_2, xg_x_3, xg_x_4, xg_x_5, xg_x_6, xg_x_7, xg_x_8, xg_x_9, xg_x_10, xg_x_11, xg_x_12, xg_x_13, xg_x_14, xs_x_14, xg_x_15, xs_x_15]
    apply t_saidK hK3 hc hR3
    intro C3 hC3
    have hqq := hq _ R3 C3 hC3
    rw [sp_chn] at hqq
    have h7 := sp_said_le (sh := 0) (g := 10) hc ho
    simp only [sl_i, q197_105, q197_108, q197_109, q197_112, q197_113, q197_116, q197_117, q197_118, show (100000 : Int32) = nI 100000 from rfl, pk_mul]
    by_cases e0 : 0 < sp_said s (sp_list s c 0 10)
    · rw [if_pos e0, if_pos rfl, show (sp_chn s c o 10 + 10 * o) * 10000 = sp_chn s c o 10 * 10000 + o * 100000 by omega, ← nI_add] at hqq
      rw [if_neg (nI_nle e0 (by omega))]
      exact hqq
    · rw [if_neg e0, Nat.add_zero] at hqq
      rw [show sp_said s (sp_list s c 0 10) = 0 by omega, if_pos (by decide), Int32.add_zero]
      exact hqq
  have key : ∀ (m g : Nat) (R2 : px_R) (C2 : px_C), g + m = 10 → KX nm s (q_sk q xs gg) R2 C2 → RDk s c R2 → ww (mp_P fx) (d + 5) 197 31 [some (.ref 59), some (.int (nI o)), some (.int (nI (sp_chn s c o g * 10000))), some (.int (nI g))] [] (px_h z E M (px_l sw c2 w2 T D S S1 K (R2) (C2) W U (q_sk q xs gg) q1 B0 B1 B2 B3)) Q := by
    intro m
    induction m with
    | zero =>
      intro g R2 C2 hg hK2 hR2
      have hg2 : g = 10 := by omega
      subst hg2
      rw [q197_31]
      simp only [q197_32, q197_34]
      rw [if_pos (by decide)]
      exact fin R2 C2 hK2 hR2
    | succ m ih =>
      intro g R2 C2 hg hK2 hR2
      rw [q197_31]
      simp only [q197_32, q197_34, q197_37, q197_38, q197_41, q197_42, q197_45, q197_46, q197_49, q197_50, q197_51, xc_x, xg_x_0, xg_x_1, xg_x_2, xg_x_3, xg_x_4, xg_x_5, xg_x_6, xg_x_7, xg_x_8, xg_x_9, xg_x_10, xg_x_11, xg_x_12, xg_x_13, xg_x_14, xs_x_14, xg_x_15, xs_x_15, xc_R, xg_R_0, xg_R_1, xs_R_1, xg_R_2, xs_R_2, xg_R_3, xg_R_4, xg_R_5, xs_R_5, xg_R_6, xg_R_7, xs_R_7, xg_R_8, xg_R_9, xg_R_10, xa_R_shown, xb_R_shown, xn_R_shown, xa_R_begins, xb_R_begins, xn_R_begins, xa_R_lengths, xb_R_lengths, xn_R_lengths, xa_R_order, xb_R_order, xn_R_order, xa_R_standing, xb_R_standing, xn_R_standing, xa_R_lovers, xb_R_lovers, xn_R_lovers, xa_R_lowest, xb_R_lowest, xn_R_lowest, xc_q, xg_q_0, xg_q_1, xs_q_1, xg_q_2, xg_q_3, xg_q_4, xs_q_4, xg_q_5, xg_q_6, xg_q_7, xg_q_8, xs_q_8, xg_q_9, xs_q_9, xg_q_10, xg_q_11, xg_q_12, xg_q_13, xg_q_14, xg_q_15, xg_q_16, xs_q_16, xg_q_17, xg_q_18, xs_q_18, xg_q_19, xa_q_sortNames, xb_q_sortNames, xn_q_sortNames, xa_q_colourNames, xb_q_colourNames, xn_q_colourNames, xa_q_colourSorts, xb_q_colourSorts, xn_q_colourSorts, xa_q_ruleMakes, xb_q_ruleMakes, xn_q_ruleMakes, xa_q_ruleFirsts, xb_q_ruleFirsts, xn_q_ruleFirsts, xa_q_ruleSeconds, xb_q_ruleSeconds, xn_q_ruleSeconds, xa_q_walkerNames, xb_q_walkerNames, xn_q_walkerNames, xa_q_kinds, xb_q_kinds, xn_q_kinds, xa_q_walkerColours, xb_q_walkerColours, xn_q_walkerColours, xa_q_starts, xb_q_starts, xn_q_starts, xa_q_stepRows, xb_q_stepRows, xn_q_stepRows, xa_q_stepCounts, xb_q_stepCounts, xn_q_stepCounts, xa_q_gusts, xb_q_gusts, xn_q_gusts, xc_ql, xg_ql_0, xg_ql_1, xs_ql_1, xg_ql_2, xg_ql_3, xs_ql_3, xa_q_parts, xb_q_parts, xn_q_parts, xa_q_stack, xb_q_stack, xn_q_stack, xc_S, xg_S_0, xs_S_0, xg_S_1, xs_S_1, xg_S_2, xa_S_places, xb_S_places, xn_S_places, wx_some, wx_ref, nl_0]
      rw [nl_10, if_neg (by rw [nI_leI (by omega) (by omega)]; omega)]
      apply t_takeK hK2 hc hS hR2 (by omega) (by omega)
      intro R3 hK3 hR3
      simp only [sl_n, q197_54, q197_55, q197_56, xc_x, xg_x_0, xg_x_1, xg_x_2, xg_x_3, xg_x_4, xg_x_5, xg_x_6, xg_x_7, xg_x_8, xg_x_9, xg_x_10, xg_x_11, xg_x_12, xg_x_13, xg_x_14, xs_x_14, xg_x_15, xs_x_15]
      apply t_saidK hK3 hc hR3
      intro C3 hC3
      have hgo := ih (g + 1) R3 C3 (by omega) hC3 (RDt_k hR3)
      rw [sp_chn, if_neg (show ¬ g = 10 by omega)] at hgo
      have h7 := sp_said_le (sh := 0) (g := g) hc ho
      simp only [sl_i, q197_59, q197_62, q197_64, q197_65, q197_66, q197_69, q197_70, q197_73, q197_74, q197_75i, q197_76i, q197_79, isl_i, isl_r, isl_n, nl_10, nI_sub (show o ≤ 10 by omega), show (10000 : Int32) = nI 10000 from rfl, pk_mul, nl_1, nI_add]
      by_cases e0 : 0 < sp_said s (sp_list s c 0 g)
      · rw [if_pos e0, show (sp_chn s c o g + (10 - o)) * 10000 = sp_chn s c o g * 10000 + (10 - o) * 10000 by omega] at hgo
        rw [if_neg (nI_nle e0 (by omega))]
        exact hgo
      · rw [if_neg e0, Nat.add_zero] at hgo
        rw [show sp_said s (sp_list s c 0 g) = 0 by omega, if_pos (by decide), Int32.add_zero]
        exact hgo
  have h0 := key 10 0 R1 C (by omega) hK1 hR1
  rw [sp_chn, Nat.zero_mul] at h0
  exact h0
theorem k7_sh : ∀ w, w < 7 → (1 : Int32) <<< (nI w &&& 31) = nI (2 ^ w) := by decide
theorem k7_or2 : ∀ a, a < 128 → ∀ b, b < 128 → nI a ||| nI b = nI (a ||| b) := by decide +kernel
theorem k7_and3 : ∀ a, a < 128 → ∀ b, b < 128 → nI a &&& nI b = nI (a &&& b) := by decide +kernel
theorem k7_bz : ∀ a, a < 128 → ∀ w, w < 7 → (a &&& 2 ^ w = 0 ↔ a.testBit w = false) := by decide +kernel
theorem t_keys (hK : KX nm s q R C) (hc : c_ok s c) (hS : SCx s S c) (hq : ∀ q' R' C', KX nm s q' R' C' → Q (some (.int (nI (sp_keys s c)))) (px_h z E M (px_l sw c2 w2 T D S S1 K (R') (C') W U (q') q1 B0 B1 B2 B3))) : wm (mp_P fx) (d + 6) 160 [.ref 59] (px_h z E M (px_l sw c2 w2 T D S S1 K R C W U q q1 B0 B1 B2 B3)) Q := by
  have ho := hK.2.2.1
  have hh := hc.1
  have hW := ho.1.2.2.2.1
  have hg := sp_gust_lt (hr := c.1) ho
  have hu7 := sp_said_le (sh := 0) (g := sp_gust s c.1) hc ho
  simp only [e160, q160_0, q160_1, q160_4, q160_5, q160_8, q160_11, xc_x, xg_x_0, xg_x_1, xg_x_2, xg_x_3, xg_x_4, xg_x_5, xg_x_6, xg_x_7, xg_x_8, xg_x_9, xg_x_10, xg_x_11, xg_x_12, xg_x_13, xg_x_14, xs_x_14, xg_x_15, xs_x_15, xc_q, xg_q_0, xg_q_1, xs_q_1, xg_q_2, xg_q_3, xg_q_4, xs_q_4, xg_q_5, xg_q_6, xg_q_7, xg_q_8, xs_q_8, xg_q_9, xs_q_9, xg_q_10, xg_q_11, xg_q_12, xg_q_13, xg_q_14, xg_q_15, xg_q_16, xs_q_16, xg_q_17, xg_q_18, xs_q_18, xg_q_19, xa_q_sortNames, xb_q_sortNames, xn_q_sortNames, xa_q_colourNames, xb_q_colourNames, xn_q_colourNames, xa_q_colourSorts, xb_q_colourSorts, xn_q_colourSorts, xa_q_ruleMakes, xb_q_ruleMakes, xn_q_ruleMakes, xa_q_ruleFirsts, xb_q_ruleFirsts, xn_q_ruleFirsts, xa_q_ruleSeconds, xb_q_ruleSeconds, xn_q_ruleSeconds, xa_q_walkerNames, xb_q_walkerNames, xn_q_walkerNames, xa_q_kinds, xb_q_kinds, xn_q_kinds, xa_q_walkerColours, xb_q_walkerColours, xn_q_walkerColours, xa_q_starts, xb_q_starts, xn_q_starts, xa_q_stepRows, xb_q_stepRows, xn_q_stepRows, xa_q_stepCounts, xb_q_stepCounts, xn_q_stepCounts, xa_q_gusts, xb_q_gusts, xn_q_gusts, xc_ql, xg_ql_0, xg_ql_1, xs_ql_1, xg_ql_2, xg_ql_3, xs_ql_3, xa_q_parts, xb_q_parts, xn_q_parts, xa_q_stack, xb_q_stack, xn_q_stack, xc_S, xg_S_0, xs_S_0, xg_S_1, xs_S_1, xg_S_2, xa_S_places, xb_S_places, xn_S_places, wx_some, wx_ref, isl_i, isl_r, isl_n, hS.1]
  apply t_gustOf hK.1 ho (by omega)
  simp only [sl_i, q160_14r, q160_15, q160_16, q160_17, q160_20, xc_x, xg_x_0, xg_x_1, xg_x_2, xg_x_3, xg_x_4, xg_x_5, xg_x_6, xg_x_7, xg_x_8, xg_x_9, xg_x_10, xg_x_11, xg_x_12, xg_x_13, xg_x_14, xs_x_14, xg_x_15, xs_x_15, wx_some, wx_ref, isl_i, isl_r, isl_n]
  apply t_sdS hK hc hS
  intro q1' R1 C1 hK1 hR1
  have hrb := hR1.2.1
  have hlt : bmk (sp_rd s c 0 (sp_gust s c.1)) (k_nW s) < 128 := Nat.lt_of_lt_of_le bmk_lt (p27 hW)
  simp only [sl_i, q160_23i, q160_24, q160_25, q160_28, q160_31i, q160_32, q160_33i, q160_35, q160_36i, xc_x, xg_x_0, xg_x_1, xg_x_2, xg_x_3, xg_x_4, xg_x_5, xg_x_6, xg_x_7, xg_x_8, xg_x_9, xg_x_10, xg_x_11, xg_x_12, xg_x_13, xg_x_14, xs_x_14, xg_x_15, xs_x_15, xc_R, xg_R_0, xg_R_1, xs_R_1, xg_R_2, xs_R_2, xg_R_3, xg_R_4, xg_R_5, xs_R_5, xg_R_6, xg_R_7, xs_R_7, xg_R_8, xg_R_9, xg_R_10, xa_R_shown, xb_R_shown, xn_R_shown, xa_R_begins, xb_R_begins, xn_R_begins, xa_R_lengths, xb_R_lengths, xn_R_lengths, xa_R_order, xb_R_order, xn_R_order, xa_R_standing, xb_R_standing, xn_R_standing, xa_R_lovers, xb_R_lovers, xn_R_lovers, xa_R_lowest, xb_R_lowest, xn_R_lowest, wx_some, wx_ref, isl_i, isl_r, isl_n, hrb]
  have key : ∀ (m w : Nat) (l6 : Option Value) (R2 : px_R) (C2 : px_C), w + m = k_nW s → KX nm s q1' R2 C2 → RDk s c R2 → ww (mp_P fx) (d + 6) 160 38 [some (.ref 59), some (.int (nI (sp_gust s c.1))), some (.int (nI (sp_said s (sp_now s c)))), some (.int (nI (bmk (sp_rd s c 0 (sp_gust s c.1)) (k_nW s)))), some (.int (nI (bmk (fun w => !decide (sp_said s (sp_list s c (2 ^ w) (sp_gust s c.1)) = sp_said s (sp_now s c))) w))), some (.int (nI w)), l6] [] (px_h z E M (px_l sw c2 w2 T D S S1 K (R2) (C2) W U (q1') q1 B0 B1 B2 B3)) Q := by
    intro m
    induction m with
    | zero =>
      intro w l6 R2 C2 hw hK2 hR2
      have hw2 : w = k_nW s := by omega
      subst hw2
      rw [q160_38]
      simp only [q160_40, q160_41, q160_44, q160_47, q160_102, q160_104, xc_x, xg_x_0, xg_x_1, xg_x_2, xg_x_3, xg_x_4, xg_x_5, xg_x_6, xg_x_7, xg_x_8, xg_x_9, xg_x_10, xg_x_11, xg_x_12, xg_x_13, xg_x_14, xs_x_14, xg_x_15, xs_x_15, xc_q, xg_q_0, xg_q_1, xs_q_1, xg_q_2, xg_q_3, xg_q_4, xs_q_4, xg_q_5, xg_q_6, xg_q_7, xg_q_8, xs_q_8, xg_q_9, xs_q_9, xg_q_10, xg_q_11, xg_q_12, xg_q_13, xg_q_14, xg_q_15, xg_q_16, xs_q_16, xg_q_17, xg_q_18, xs_q_18, xg_q_19, xa_q_sortNames, xb_q_sortNames, xn_q_sortNames, xa_q_colourNames, xb_q_colourNames, xn_q_colourNames, xa_q_colourSorts, xb_q_colourSorts, xn_q_colourSorts, xa_q_ruleMakes, xb_q_ruleMakes, xn_q_ruleMakes, xa_q_ruleFirsts, xb_q_ruleFirsts, xn_q_ruleFirsts, xa_q_ruleSeconds, xb_q_ruleSeconds, xn_q_ruleSeconds, xa_q_walkerNames, xb_q_walkerNames, xn_q_walkerNames, xa_q_kinds, xb_q_kinds, xn_q_kinds, xa_q_walkerColours, xb_q_walkerColours, xn_q_walkerColours, xa_q_starts, xb_q_starts, xn_q_starts, xa_q_stepRows, xb_q_stepRows, xn_q_stepRows, xa_q_stepCounts, xb_q_stepCounts, xn_q_stepCounts, xa_q_gusts, xb_q_gusts, xn_q_gusts, xc_ql, xg_ql_0, xg_ql_1, xs_ql_1, xg_ql_2, xg_ql_3, xs_ql_3, xa_q_parts, xb_q_parts, xn_q_parts, xa_q_stack, xb_q_stack, xn_q_stack, wx_some, wx_ref, hK2.1.2.1.2.2.2.1]
      rw [if_pos (by rw [nI_leI (by omega) (by omega)]; omega)]
      exact hq q1' R2 C2 hK2
    | succ m ih =>
      intro w l6 R2 C2 hw hK2 hR2
      have hw7 : w < 7 := by omega
      have h2w : 2 ^ w < 128 := Nat.lt_of_lt_of_le (Nat.pow_lt_pow_right (by omega) (show w < k_nW s by omega)) (p27 hW)
      have hblt : bmk (fun w => !decide (sp_said s (sp_list s c (2 ^ w) (sp_gust s c.1)) = sp_said s (sp_now s c))) w < 128 := Nat.lt_of_lt_of_le bmk_lt (p27 (by omega))
      have hal := Nat.and_lt_two_pow (bmk (sp_rd s c 0 (sp_gust s c.1)) (k_nW s)) (n := 7) h2w
      rw [q160_38]
      simp only [q160_40, q160_41, q160_44, q160_47, q160_50, q160_51, q160_53, q160_54i, q160_56, q160_57, q160_59, q160_60, q160_63, q160_64, q160_67, q160_68, q160_71, q160_72, q160_75, q160_77, q160_78, xc_x, xg_x_0, xg_x_1, xg_x_2, xg_x_3, xg_x_4, xg_x_5, xg_x_6, xg_x_7, xg_x_8, xg_x_9, xg_x_10, xg_x_11, xg_x_12, xg_x_13, xg_x_14, xs_x_14, xg_x_15, xs_x_15, xc_q, xg_q_0, xg_q_1, xs_q_1, xg_q_2, xg_q_3, xg_q_4, xs_q_4, xg_q_5, xg_q_6, xg_q_7, xg_q_8, xs_q_8, xg_q_9, xs_q_9, xg_q_10, xg_q_11, xg_q_12, xg_q_13, xg_q_14, xg_q_15, xg_q_16, xs_q_16, xg_q_17, xg_q_18, xs_q_18, xg_q_19, xa_q_sortNames, xb_q_sortNames, xn_q_sortNames, xa_q_colourNames, xb_q_colourNames, xn_q_colourNames, xa_q_colourSorts, xb_q_colourSorts, xn_q_colourSorts, xa_q_ruleMakes, xb_q_ruleMakes, xn_q_ruleMakes, xa_q_ruleFirsts, xb_q_ruleFirsts, xn_q_ruleFirsts, xa_q_ruleSeconds, xb_q_ruleSeconds, xn_q_ruleSeconds, xa_q_walkerNames, xb_q_walkerNames, xn_q_walkerNames, xa_q_kinds, xb_q_kinds, xn_q_kinds, xa_q_walkerColours, xb_q_walkerColours, xn_q_walkerColours, xa_q_starts, xb_q_starts, xn_q_starts, xa_q_stepRows, xb_q_stepRows, xn_q_stepRows, xa_q_stepCounts, xb_q_stepCounts, xn_q_stepCounts, xa_q_gusts, xb_q_gusts, xn_q_gusts, xc_ql, xg_ql_0, xg_ql_1, xs_ql_1, xg_ql_2, xg_ql_3, xs_ql_3, xa_q_parts, xb_q_parts, xn_q_parts, xa_q_stack, xb_q_stack, xn_q_stack, xc_R, xg_R_0, xg_R_1, xs_R_1, xg_R_2, xs_R_2, xg_R_3, xg_R_4, xg_R_5, xs_R_5, xg_R_6, xg_R_7, xs_R_7, xg_R_8, xg_R_9, xg_R_10, xa_R_shown, xb_R_shown, xn_R_shown, xa_R_begins, xb_R_begins, xn_R_begins, xa_R_lengths, xb_R_lengths, xn_R_lengths, xa_R_order, xb_R_order, xn_R_order, xa_R_standing, xb_R_standing, xn_R_standing, xa_R_lovers, xb_R_lovers, xn_R_lovers, xa_R_lowest, xb_R_lowest, xn_R_lowest, xc_S, xg_S_0, xs_S_0, xg_S_1, xs_S_1, xg_S_2, xa_S_places, xb_S_places, xn_S_places, wx_some, wx_ref, isl_i, isl_r, isl_n, hK2.1.2.1.2.2.2.1, k7_sh w hw7, k7_and3 _ hlt _ h2w]
      rw [if_neg (by rw [nI_leI (by omega) (by omega)]; omega)]
      by_cases hr : sp_rd s c 0 (sp_gust s c.1) w = true
      · have hbit : (bmk (sp_rd s c 0 (sp_gust s c.1)) (k_nW s)).testBit w = true := by rw [bmk_bit, decide_eq_true (show w < k_nW s by omega), hr]; rfl
        rw [if_neg (fun z => by
          have z2 : nI (bmk (sp_rd s c 0 (sp_gust s c.1)) (k_nW s) &&& 2 ^ w) = nI 0 := z
          rw [nI_eq (by omega) (by omega), k7_bz _ hlt w hw7, hbit] at z2
          cases z2)]
        apply t_takeK hK2 hc hS hR2 h2w (by omega)
        intro R3 hK3 hR3
        simp only [sl_n, q160_81, q160_82, xc_x, xg_x_0, xg_x_1, xg_x_2, xg_x_3, xg_x_4, xg_x_5, xg_x_6, xg_x_7, xg_x_8, xg_x_9, xg_x_10, xg_x_11, xg_x_12, xg_x_13, xg_x_14, xs_x_14, xg_x_15, xs_x_15]
        apply t_saidK hK3 hc hR3
        intro C3 hC3
        have h37 := sp_said_le (sh := 2 ^ w) (g := sp_gust s c.1) hc ho
        have hgo := fun l6 => ih (w + 1) l6 R3 C3 (by omega) hC3 (RDt_k hR3)
        rw [bmk] at hgo
        simp only [sl_i, q160_85, q160_86, q160_89, q160_91, q160_93, q160_94i, q160_96i, q160_99, isl_i, isl_r, isl_n, k7_or2 _ hblt _ h2w, nl_1, nI_add]
        by_cases es : sp_said s (sp_list s c (2 ^ w) (sp_gust s c.1)) = sp_said s (sp_now s c)
        · rw [decide_eq_true es, Bool.not_true, if_neg Bool.false_ne_true, Nat.or_zero] at hgo
          rw [if_pos (by rw [es])]
          exact hgo _
        · rw [decide_eq_false es, Bool.not_false, if_pos rfl] at hgo
          rw [if_neg (by rw [nI_eq (by omega) (by unfold sp_now; omega)]; exact es)]
          exact hgo _
      · have hbit : (bmk (sp_rd s c 0 (sp_gust s c.1)) (k_nW s)).testBit w = false := by rw [bmk_bit, Bool.eq_false_iff.mpr hr, Bool.and_false]
        rw [if_pos (by rw [(k7_bz _ hlt w hw7).mpr hbit]; rfl)]
        have hgo := fun l6 => ih (w + 1) l6 R2 C2 (by omega) hK2 hR2
        rw [bmk] at hgo
        have es : sp_said s (sp_list s c (2 ^ w) (sp_gust s c.1)) = sp_said s (sp_now s c) := by
          rw [sp_list_mask (sh := 2 ^ w) (m := 0) (fun v _ hv => by
            rw [Nat.zero_testBit]
            by_cases ev : v = w
            · subst ev; exact absurd hv hr
            · exact (Nat.testBit_two_pow_of_ne (fun z => ev z.symm)).symm)]
          rfl
        rw [decide_eq_true es, Bool.not_true, if_neg Bool.false_ne_true, Nat.or_zero] at hgo
        simp only [q160_96i, q160_99, isl_i, isl_r, isl_n, nl_1, nI_add]
        exact hgo _
  exact key (k_nW s) 0 none R1 C1 (by omega) hK1 (RDt_k hR1)
end TH
section MH
variable {fx : List Value → mm_H → Option (List Value × mm_H)} {z : Nat} {X Y : Nat → mm_C} {mV : pm_V} {mT : pm_T} {mQ : pm_Q} {mO : pm_O} {mE : pm_E} {mB : pm_B} {mS : pm_S} {mR : pm_R} {mW : pm_W} {m_thrown : Int32} {m_given : Int32} {m_fresh : Int64} {m_code : Int32} {m_taped : Int32} {m_tape : List Int32} {m_size : Int32} {m_place : Int32} {m_begin : Int32} {m_token : Int32} {m_word : Int64} {m_told : Int32} {m_wrong : Int32} {m_square : List Int32} {m_sortName : List Int64} {m_colourName : List Int64} {m_walkerName : List Int64} {m_sortOf : List Int32} {m_rules : List Int32} {m_kind : List Int32} {m_colour : List Int32} {m_atTold : List Int32} {m_goesMany : List Int32} {m_goes : List Int32} {m_gusts : List Int32} {m_lineFrom : List Int32} {m_lineTo : List Int32} {m_codes : List Int32} {m_opened : List Int32} {m_compared : List Int32} {m_kept : List Int32} {m_keptBy : List Int32} {m_ahead : List Int32} {m_against : List Int32} {m_sum : List Int32} {m_sumBy : List Int32} {m_term : List Int32} {m_termBy : List Int32} {m_byNot : List Int32} {m_valueOf : List Int32} {m_lines : List Int32} {m_lineWhat : List Int32} {m_lineA : List Int32} {m_lineB : List Int32} {m_wishes : List Int32} {m_wishOf : List Int32} {m_seens : List Int32} {m_seenAt : List Int32} {m_seenIn : List Int32} {m_seenThere : List Int32} {m_s : List Int32} {m_aside : List Int32} {m_before : List Int32} {m_marked : List Int32} {m_undone : List Int32} {m_isLaid : List Int32} {m_done : Int32} {m_gustNow : Int32} {m_shown : List Int32} {m_shownMany : Int32} {m_from7 : List Int32} {m_long7 : List Int32} {m_sentences : Int32} {m_text7 : List Int32} {m_textMany : Int32} {m_waysOf : List Int32} {m_rowOf : List Int32} {m_row : List Int32} {m_bestRow : List Int32} {m_leastSteps : Int32} {m_steps10 : List Int32} {m_placeIn : List Int32} {m_g : Int64}
variable {d : Nat} {Q : Option Value → mm_H → Prop} {s : SQ} {c : SC} {nm : NMs}
theorem tm_sdg {g : Nat} (hK : KM nm s mQ) (hE : KE mE mR) (hc : c_ok s c) (hS : SCm s mS.1 c) (hg : GN mS s c g) (hq : ∀ mE' mR', KE mE' mR' → Q (some (.int (nI (sp_said s (sp_list s c 0 g))))) (pm_h z X Y (pm_l mV mT mQ mO (mE') mB mS (mR') mW))) : wm (mp_P fx) (d + 5) 277 [.ref 149] (pm_h z X Y (pm_l mV mT mQ mO mE mB mS mR mW)) Q :=
  tm_said hK.1 hK.2.1 hK.2.2.1 hc hS hE.1 hg hE.2 (fun mE' mR' h1 h2 => hq mE' mR' ⟨h1, h2⟩)
theorem tm_chance {v : Int32} (hK : KM nm s mQ) (hE : KE mE mR) (hc : c_ok s c) (hS : SCm s mS.1 c) (hg : mS.2.2.2.2.2.2.2 = -1) (hq : ∀ mE' mR', KE mE' mR' → Q (some (.int (match sx 11 v with
    | some o => nI (sp_chn s c o 11 * 10000)
    | none => -1))) (pm_h z X Y (pm_l ((0, mV.2.1, mV.2.2.1, mV.2.2.2)) mT mQ mO (mE') mB mS (mR') mW))) : wm (mp_P fx) (d + 6) 321 [.ref 149, .int v] (pm_h z X Y (pm_l mV mT mQ mO mE mB mS mR mW)) Q := by
  have ho := hK.2.2.1
  simp only [e321, q321_0, q321_1, q321_2, q321_5, q321_6, q321_7, q321_9, mc_o, mg_thrown, mf_thrown, wx_some, isl_i, isl_r, isl_n]
  apply tm_in
  · intro h0
    have hqq := hq mE mR hE
    rcases sx_c 11 v (by omega) with ⟨e2, -⟩ | ⟨n, hn, rfl, e2⟩
    · rw [e2] at hqq
      simp only [sl_i, q321_12, q321_15, q321_16]
      rw [if_neg (by decide)]
      exact hqq
    · rw [nl_0, nl_10, nI_ltI (by omega) (by omega), nI_ltI (by omega) (by omega)] at h0
      omega
  intro h1 h2
  rcases sx_c 11 v (by omega) with ⟨e2, h3⟩ | ⟨o, ho11, rfl, e2⟩
  · rcases h3 with h3 | ⟨h3, h4⟩
    · exact absurd h1 (Int32.not_le.mpr h3)
    · exact absurd h2 (Int32.not_le.mpr (Int32.lt_of_lt_of_le (by decide : (10 : Int32) < nI 11) h4))
  rw [e2] at hq
  simp only [] at hq
  simp only [sl_i, q321_12, q321_15, q321_16, q321_17, q321_18i, q321_19, q321_20, q321_21, mc_o, mg_gustNow, mf_gustNow, wx_some, wx_ref, isl_i, isl_r, isl_n]
  rw [if_pos (by decide)]
  have key : ∀ (m g : Nat) (mE' : pm_E) (mR' : pm_R), g + m = 11 → KE mE' mR' → ww (mp_P fx) (d + 6) 321 24 [some (.ref 149), some (.int (nI o)), some (.int (nI (sp_chn s c o g)))] [] (pm_h z X Y (pm_l ((0, mV.2.1, mV.2.2.1, mV.2.2.2)) mT mQ mO (mE') mB ((mS.1, mS.2.1, mS.2.2.1, mS.2.2.2.1, mS.2.2.2.2.1, mS.2.2.2.2.2.1, mS.2.2.2.2.2.2.1, nI g)) (mR') mW)) Q := by
    intro m
    induction m with
    | zero =>
      intro g mE' mR' hgm hE'
      have hg2 : g = 11 := by omega
      subst hg2
      rw [q321_24]
      simp only [q321_25, q321_28, q321_30, q321_76, q321_77, q321_78, q321_81, q321_82, q321_85, q321_86, mc_o, mg_gustNow, mf_gustNow, wx_some, wx_ref, show (10000 : Int32) = nI 10000 from rfl, pk_mul]
      rw [if_pos (by decide), ← hg]
      exact hq mE' mR' hE'
    | succ m ih =>
      intro g mE' mR' hgm hE'
      rw [q321_24]
      simp only [q321_25, q321_28, q321_30, q321_33, q321_34, mc_o, mg_gustNow, mf_gustNow, wx_some, wx_ref]
      rw [show (11 : Int32) = nI 11 from rfl, if_neg (by rw [nI_leI (by omega) (by omega)]; omega)]
      apply tm_sdg (mS := (mS.1, mS.2.1, mS.2.2.1, mS.2.2.2.1, mS.2.2.2.2.1, mS.2.2.2.2.2.1, mS.2.2.2.2.2.2.1, nI g)) (g := g) hK hE' hc hS (Or.inr ⟨rfl, by omega⟩)
      intro mE2 mR2 hE2
      have hgo := ih (g + 1) mE2 mR2 (by omega) hE2
      rw [sp_chn] at hgo
      have h7 := sp_said_le (sh := 0) (g := g) hc ho
      simp only [sl_i, q321_37, q321_40, q321_41, q321_42, q321_45, q321_47, q321_50, q321_52, q321_53, q321_54, q321_57, q321_59, q321_60, q321_61, q321_62i, q321_63, q321_64, q321_65, q321_68, q321_69, q321_70, q321_73, mc_o, mg_gustNow, mf_gustNow, wx_some, wx_ref, isl_i, isl_r, isl_n, nl_10, nI_sub (show o ≤ 10 by omega), pk_mul, nl_1, nI_add]
      by_cases e0 : 0 < sp_said s (sp_list s c 0 g)
      · rw [if_pos e0] at hgo
        rw [if_neg (nI_nle e0 (by omega))]
        by_cases eg : g = 10
        · rw [if_pos eg] at hgo
          rw [if_neg (by rw [eg]; exact fun z => z rfl)]
          exact hgo
        · rw [if_neg eg] at hgo
          rw [if_pos (by rw [nI_eq (by omega) (by omega)]; exact eg)]
          exact hgo
      · rw [if_neg e0, Nat.add_zero] at hgo
        rw [show sp_said s (sp_list s c 0 g) = 0 by omega, if_pos (by decide)]
        exact hgo
  exact key 11 0 mE mR (by omega) hE
theorem k7_m1 : ∀ a, a < 128 → ∀ w, w < 7 → nI a &&& (((1 : Int32) <<< (nI w &&& 31)) ^^^ -1) = nI (a &&& (127 ^^^ 2 ^ w)) := by decide +kernel
theorem sp_able_open {w : Nat} (h : c.2.1.testBit w = false) : sp_able s c w = false := by
  unfold sp_able; rw [h, Bool.false_and]
theorem tm_keys (hK : KM nm s mQ) (hE : KE mE mR) (hc : c_ok s c) (hS : SCm s mS.1 c) (hg : mS.2.2.2.2.2.2.2 = -1) (hq : ∀ mE' mR', KE mE' mR' → Q (some (.int (nI (sp_keys s c)))) (pm_h z X Y (pm_l ((0, mV.2.1, mV.2.2.1, mV.2.2.2)) mT mQ mO (mE') mB mS (mR') mW))) : wm (mp_P fx) (d + 6) 298 [.ref 149] (pm_h z X Y (pm_l mV mT mQ mO mE mB mS mR mW)) Q := by
  have ho := hK.2.2.1
  have hW := ho.1.2.2.2.1
  have hs9 := hS.1
  have hp1 := hS.2.2.1
  have hsl := hK.1.1.1
  have hn := hK.1.2.1.2.2.2.1
  have h128 : c.2.1 < 128 := Nat.lt_of_lt_of_le hc.2.1 (p27 hW)
  have hu7 := sp_said_le (sh := 0) (g := sp_gust s c.1) hc ho
  simp only [e298, q298_0, q298_1, q298_2, q298_5, q298_6, mc_o, mg_thrown, mf_thrown, wx_some, isl_i, isl_r, isl_n]
  apply tm_sd hK hE hc hS hg
  intro mE1 mR1 hE1
  simp only [sl_i, q298_9r, q298_10, q298_11, q298_14, q298_15, q298_16i, q298_17, q298_18i, q298_19, q298_20i, mc_o, mg_s, ma_s, mb_s, mn_s, wx_some, wx_ref, isl_i, isl_r, isl_n, show aG (mS.1) 1 = some (nI c.2.1) from aG_n hp1 (by omega)]
  have key : ∀ (m w : Nat) (r : List Int32) (mE' : pm_E) (mR' : pm_R), w + m = k_nW s → KE mE' mR' → r.length = 9 → (∀ x, r.set 1 x = (mS.1).set 1 x) → ww (mp_P fx) (d + 6) 298 22 [some (.ref 149), some (.int (nI (sp_said s (sp_now s c)))), some (.int (nI c.2.1)), some (.int (nI (bmk (fun w => !decide (sp_said s (sp_list s c (2 ^ w) (sp_gust s c.1)) = sp_said s (sp_now s c))) w))), some (.int (nI w))] [] (pm_h z X Y (pm_l ((0, mV.2.1, mV.2.2.1, mV.2.2.2)) mT mQ mO (mE') mB ((r, mS.2.1, mS.2.2.1, mS.2.2.2.1, mS.2.2.2.2.1, mS.2.2.2.2.2.1, mS.2.2.2.2.2.2.1, mS.2.2.2.2.2.2.2)) (mR') mW)) Q := by
    intro m
    induction m with
    | zero =>
      intro w r mE' mR' hw hE' hr9 hr
      have hw2 : w = k_nW s := by omega
      subst hw2
      have hsame : r.set 1 (nI c.2.1) = mS.1 := by
        rw [hr]
        apply List.ext_getElem?
        intro j
        rw [List.getElem?_set]
        by_cases ej : 1 = j
        · subst ej; rw [if_pos rfl, if_pos (by omega)]; exact hp1.symm
        · rw [if_neg ej]
      rw [q298_22]
      simp only [q298_24, q298_25, q298_28, q298_29, q298_30, q298_84, q298_85, q298_88, q298_89, q298_90, q298_91, q298_92, mc_o, mg_s, ma_s, mb_s, mn_s, mg_square, ma_square, mb_square, mn_square, wx_some, wx_ref, nl_3, aG_n hn (show (mQ.1).length < 2 ^ 31 by omega), show ∀ x (f : List Int32 → mm_H), aS r 1 x f = some (f (r.set 1 x)) from fun x f => aS_n (j := 1) (by omega) (by omega), hsame]
      rw [if_pos (by rw [nI_leI (by omega) (by omega)]; omega)]
      exact hq mE' mR' hE'
    | succ m ih =>
      intro w r mE' mR' hw hE' hr9 hr
      have hw7 : w < 7 := by omega
      have h2w : 2 ^ w < 128 := Nat.lt_of_lt_of_le (Nat.pow_lt_pow_right (by omega) (show w < k_nW s by omega)) (p27 hW)
      have hblt : bmk (fun w => !decide (sp_said s (sp_list s c (2 ^ w) (sp_gust s c.1)) = sp_said s (sp_now s c))) w < 128 := Nat.lt_of_lt_of_le bmk_lt (p27 (by omega))
      have hS2 : SCm s (r.set 1 (nI (c.2.1 &&& (127 ^^^ 2 ^ w)))) (c.1, c.2.1 &&& (127 ^^^ 2 ^ w), c.2.2) := by rw [hr]; exact SCm_open hS
      rw [q298_22]
      simp only [q298_24, q298_25, q298_28, q298_29, q298_30, q298_33, q298_34, q298_36, q298_37, q298_38, q298_39, q298_42, q298_45, q298_46, q298_49, q298_50, q298_51, q298_52, q298_54, q298_55, q298_56, q298_57, q298_58, q298_59, q298_60, q298_61, mc_o, mg_s, ma_s, mb_s, mn_s, mg_square, ma_square, mb_square, mn_square, wx_some, wx_ref, isl_i, isl_r, isl_n, nl_3, aG_n hn (show (mQ.1).length < 2 ^ 31 by omega), k7_bit0 _ h128 w hw7, k7_m1 _ h128 w hw7, show ∀ x (f : List Int32 → mm_H), aS r 1 x f = some (f (r.set 1 x)) from fun x f => aS_n (j := 1) (by omega) (by omega)]
      rw [if_neg (by rw [nI_leI (by omega) (by omega)]; omega)]
      by_cases hb : c.2.1.testBit w = true
      · rw [if_pos hb, if_pos (by decide)]
        apply tm_sdg (mS := (r.set 1 (nI (c.2.1 &&& (127 ^^^ 2 ^ w))), mS.2.1, mS.2.2.1, mS.2.2.2.1, mS.2.2.2.2.1, mS.2.2.2.2.2.1, mS.2.2.2.2.2.2.1, mS.2.2.2.2.2.2.2)) hK hE' (c_shut hc) hS2 (Or.inl ⟨hg, rfl⟩)
        intro mE2 mR2 hE2
        have h37 := sp_said_le (sh := 2 ^ w) (g := sp_gust s c.1) hc ho
        have hgo := ih (w + 1) (r.set 1 (nI (c.2.1 &&& (127 ^^^ 2 ^ w)))) mE2 mR2 (by omega) hE2 (by rw [List.length_set]; exact hr9) (fun x => by rw [List.set_set]; exact hr x)
        rw [bmk] at hgo
        simp only [sl_i, q298_64, q298_65, q298_68, q298_69, q298_71, q298_72, q298_75, q298_76, q298_77i, q298_78i, q298_81, isl_i, isl_r, isl_n, nl_1, nI_add]
        show (if nI (sp_said s (sp_list s (c.1, c.2.1 &&& (127 ^^^ 2 ^ w), c.2.2) 0 (sp_gust s c.1))) = _ then _ else _)
        rw [sp_list_shut ho h2w]
        by_cases es : sp_said s (sp_list s c (2 ^ w) (sp_gust s c.1)) = sp_said s (sp_now s c)
        · rw [decide_eq_true es, Bool.not_true, if_neg Bool.false_ne_true, Nat.or_zero] at hgo
          rw [if_pos (by rw [es]), Int32.or_zero]
          exact hgo
        · rw [decide_eq_false es, Bool.not_false, if_pos rfl] at hgo
          rw [if_neg (by rw [nI_eq (by omega) (by unfold sp_now; omega)]; exact es), ← nl_1, k7_sh w hw7, k7_or2 _ hblt _ h2w]
          exact hgo
      · rw [if_neg hb, if_neg (by decide)]
        have hgo := ih (w + 1) r mE' mR' (by omega) hE' hr9 hr
        rw [bmk] at hgo
        have es : sp_said s (sp_list s c (2 ^ w) (sp_gust s c.1)) = sp_said s (sp_now s c) := by
          rw [sp_list_mask (sh := 2 ^ w) (m := 0) (fun v _ hv => by
            rw [Nat.zero_testBit]
            by_cases ev : v = w
            · subst ev
              unfold sp_rd at hv
              rw [sp_able_open (Bool.eq_false_iff.mpr hb), Bool.false_and] at hv
              cases hv
            · exact (Nat.testBit_two_pow_of_ne (fun z => ev z.symm)).symm)]
          rfl
        rw [decide_eq_true es, Bool.not_true, if_neg Bool.false_ne_true, Nat.or_zero] at hgo
        simp only [q298_78i, q298_81, isl_i, isl_r, isl_n, nl_1, nI_add]
        exact hgo
  exact key (k_nW s) 0 mS.1 mE1 mR1 (by omega) hE1 hs9 (fun x => rfl)
end MH
