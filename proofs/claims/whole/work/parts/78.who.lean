/-! who it was; when to look -/
def sp_bad (s : SQ) (c : SC) (b : BK) (w i : Nat) : Bool := decide ((sp_onk s (b.2.2.2 i).2.1 c).2.2 w = (b.2.2.2 i).1) != (b.2.2.2 i).2.2
def sp_fit (s : SQ) (c : SC) (b : BK) (w : Nat) : Bool := (ffl (sp_bad s c b w) b.2.2.1).isNone
def sp_who (s : SQ) (c : SC) (b : BK) : Nat := bmk (sp_fit s c b) (k_nW s)
def sp_th (s : SQ) (c : SC) (wh k : Nat) : Nat := cn (fun w => wh.testBit w && decide ((sp_onk s (k / 10) c).2.2 w = k % 10)) (k_nW s)
def sp_gr (s : SQ) (c : SC) (wh k : Nat) : Nat := max (sp_th s c wh k) (bc wh - sp_th s c wh k)
def sp_ak (s : SQ) (c : SC) (wh : Nat) : Nat → Nat × Int32
  | 0 => (bc wh, -1)
  | k + 1 => if sp_gr s c wh k < (sp_ak s c wh k).1 then (sp_gr s c wh k, nI k) else sp_ak s c wh k
theorem cn_mono2 {p q : Nat → Bool} (h : ∀ i, p i = true → q i = true) : ∀ n, cn p n ≤ cn q n := by
  intro n
  induction n with
  | zero => exact Nat.le_refl _
  | succ n ih =>
    rw [cn, cn]
    by_cases e : p n = true
    · rw [if_pos e, if_pos (h n e)]; omega
    · rw [if_neg e]; split <;> omega
theorem cn_congr {p q : Nat → Bool} : ∀ n, (∀ i, i < n → p i = q i) → cn p n = cn q n := by
  intro n
  induction n with
  | zero => intro _; rfl
  | succ n ih => intro h; rw [cn, cn, ih (fun i hi => h i (by omega)), h n (by omega)]
theorem cn_zero_end {p : Nat → Bool} {n : Nat} : ∀ m, (∀ i, n ≤ i → i < n + m → p i = false) → cn p (n + m) = cn p n := by
  intro m
  induction m with
  | zero => intro _; rfl
  | succ m ih =>
    intro h
    show cn p (n + m + 1) = _
    rw [cn, ih (fun i h1 h2 => h i h1 (by omega)), if_neg (by rw [h (n + m) (by omega) (by omega)]; exact Bool.false_ne_true)]; rfl
theorem sp_th_le {s : SQ} {c : SC} {wh k : Nat} (h7 : k_nW s ≤ 7) : sp_th s c wh k ≤ bc wh :=
  Nat.le_trans (cn_mono2 (fun i h => (Bool.and_eq_true_iff.mp h).1) _) (cn_mono h7)
theorem bc_and {s : SQ} {wh : Nat} {p : Nat → Bool} (h7 : k_nW s ≤ 7) : bc (bmk p (k_nW s) &&& wh) = cn (fun w => wh.testBit w && p w) (k_nW s) := by
  unfold bc
  obtain ⟨m, hm⟩ : ∃ m, 7 = k_nW s + m := ⟨7 - k_nW s, by omega⟩
  rw [hm, cn_zero_end m (fun i h1 h2 => by rw [Nat.testBit_and, bmk_bit, decide_eq_false (by omega), Bool.false_and, Bool.false_and])]
  apply cn_congr
  intro i hi
  rw [Nat.testBit_and, bmk_bit, decide_eq_true hi, Bool.true_and, Bool.and_comm]
theorem sp_who_lt {s : SQ} {c : SC} {b : BK} (h7 : k_nW s ≤ 7) : sp_who s c b < 128 := Nat.lt_of_lt_of_le bmk_lt (p27 h7)
theorem sg_1 {p t : Nat} {th : Bool} (hp : p < 10) (ht : t ≤ 40) : b_sg (p, t, th) < 2 ^ 20 ∧ b_sg (p, t, th) % 10 = p ∧ b_sg (p, t, th) / 10 % 100 = t ∧ (1000 ≤ b_sg (p, t, th) ↔ th = true) := by
  unfold b_sg
  cases th
  · simp only [Bool.false_eq_true, if_false, iff_false]; omega
  · simp only [if_true, iff_true]; omega
section TW
variable {fx : List Value → mm_H → Option (List Value × mm_H)} {z : Nat} {E M : Nat → mm_C} {sw c2 w2 : Bool} {T : px_T} {D : px_D} {S : px_S} {S1 : px_S} {K : px_K} {R : px_R} {C : px_C} {W : px_W} {U : px_U} {q : px_q} {q1 : px_q} {B0 : px_K} {B1 : px_K} {B2 : px_K} {B3 : px_K} {T_signs : List Int32} {T_length : Int32} {T_fault : Int32} {T_types : List Int32} {T_starts : List Int32} {T_values : List Int64} {T_tokens : Int32} {T_at : Int32} {T_behind : Int32} {S_hour : Int32} {S_open : Int32} {S_places : List Int32} {S1_hour : Int32} {S1_open : Int32} {S1_places : List Int32} {K_lines : List Int32} {K_lineCount : Int32} {K_wishes : List Int32} {K_wishCount : Int32} {K_sights : List Int32} {K_sightCount : Int32} {R_shown : List Int32} {R_length : Int32} {R_readers : Int32} {R_begins : List Int32} {R_lengths : List Int32} {R_sentences : Int32} {R_order : List Int32} {R_able : Int32} {R_standing : List Int32} {R_lovers : List Int32} {R_lowest : List Int32} {C_ways : List Int32} {C_rows : List Int32} {C_shallower : List Int32} {C_length : Int32} {C_goal : Int32} {W_row : List Int32} {W_walkers : Int32} {W_names : Int32} {W_wanted : List Int32} {W_shown : List Int32} {W_places : List Int32} {W_rest : List Int32} {W_spent : List Int32} {W_tried : List Int32} {U_undoRows : List Int64} {U_markScenes : List Int64} {U_marksLaid : List Int32} {U_undoCount : Int32} {U_undoEnd : Int32} {q_sortNames : List Int64} {q_sortCount : Int32} {q_colourNames : List Int64} {q_colourSorts : List Int32} {q_colourCount : Int32} {q_ruleMakes : List Int32} {q_ruleFirsts : List Int32} {q_ruleSeconds : List Int32} {q_ruleCount : Int32} {q_saysSort : Int32} {q_walkerNames : List Int64} {q_kinds : List Int32} {q_walkerColours : List Int32} {q_starts : List Int32} {q_stepRows : List Int32} {q_stepCounts : List Int32} {q_walkerCount : Int32} {q_gusts : List Int32} {q_gustCount : Int32} {q_parts : List Int32} {q_count : Int32} {q_stack : List Int32} {q_height : Int32} {q1_sortNames : List Int64} {q1_sortCount : Int32} {q1_colourNames : List Int64} {q1_colourSorts : List Int32} {q1_colourCount : Int32} {q1_ruleMakes : List Int32} {q1_ruleFirsts : List Int32} {q1_ruleSeconds : List Int32} {q1_ruleCount : Int32} {q1_saysSort : Int32} {q1_walkerNames : List Int64} {q1_kinds : List Int32} {q1_walkerColours : List Int32} {q1_starts : List Int32} {q1_stepRows : List Int32} {q1_stepCounts : List Int32} {q1_walkerCount : Int32} {q1_gusts : List Int32} {q1_gustCount : Int32} {q1_parts : List Int32} {q1_count : Int32} {q1_stack : List Int32} {q1_height : Int32} {B0_lines : List Int32} {B0_lineCount : Int32} {B0_wishes : List Int32} {B0_wishCount : Int32} {B0_sights : List Int32} {B0_sightCount : Int32} {B1_lines : List Int32} {B1_lineCount : Int32} {B1_wishes : List Int32} {B1_wishCount : Int32} {B1_sights : List Int32} {B1_sightCount : Int32} {B2_lines : List Int32} {B2_lineCount : Int32} {B2_wishes : List Int32} {B2_wishCount : Int32} {B2_sights : List Int32} {B2_sightCount : Int32} {B3_lines : List Int32} {B3_lineCount : Int32} {B3_wishes : List Int32} {B3_wishCount : Int32} {B3_sights : List Int32} {B3_sightCount : Int32}
variable {d : Nat} {Q : Option Value → mm_H → Prop} {s : SQ} {c : SC} {nm : NMs} {b : BK}
theorem t_fits {w : Nat} (hK : KX nm s q R C) (hc : c_ok s c) (hh : c.1 + 100 < 2 ^ 20) (hS : SCx s S c) (hb : b_ok s b) (hB : BKx b K) (hw : w < k_nW s) (hq : Q (some (.int (if sp_fit s c b w = true then 1 else 0))) (px_h z E M (px_l sw c2 w2 T D S S1 K R C W U q q1 B0 B1 B2 B3))) : wm (mp_P fx) (d + 2) 191 [.ref 59, .int (nI w)] (px_h z E M (px_l sw c2 w2 T D S S1 K R C W U q q1 B0 B1 B2 B3)) Q := by
  obtain ⟨-, -, ⟨h1, h2, h3⟩⟩ := id hB
  have hb8 := hb.2.2.1
  have ho := hK.2.2.1
  have h7 := ho.1.2.2.2.1
  simp only [e191, b191_0, b191_1, bn_0 b191_0, bn_1 b191_1, q191_0, q191_1i, isl_i, isl_r, isl_n]
  have key : ∀ (m i : Nat) (l3 : Option Value), i + m = b.2.2.1 → (∀ j, j < i → sp_bad s c b w j = false) → ww (mp_P fx) (d + 2) 191 2 [some (.ref 59), some (.int (nI w)), some (.int (nI i)), l3] [] (px_h z E M (px_l sw c2 w2 T D S S1 K R C W U q q1 B0 B1 B2 B3)) Q := by
    intro m
    induction m with
    | zero =>
      intro i l3 hi hI
      have hi2 : i = b.2.2.1 := by omega
      subst hi2
      have hf : sp_fit s c b w = true := by unfold sp_fit; rw [ffl_none _ hI]; rfl
      rw [hf, if_pos rfl] at hq
      rw [q191_2]
      simp only [e191, b191_0, b191_1, bn_0 b191_0, bn_1 b191_1, q191_0, q191_1i, q191_3, q191_4, q191_7, q191_10, q191_13, q191_14, q191_15, q191_16, q191_19, q191_20, q191_23, q191_26, q191_27, q191_30, q191_31, q191_34, q191_37, q191_38, q191_41, q191_42i, q191_43, q191_44, q191_45, q191_48, q191_49, q191_52, q191_55, q191_56, q191_57i, q191_60, q191_63, q191_64, xc_x, xg_x_0, xg_x_1, xg_x_2, xg_x_3, xg_x_4, xg_x_5, xg_x_6, xg_x_7, xg_x_8, xg_x_9, xg_x_10, xg_x_11, xg_x_12, xg_x_13, xg_x_14, xs_x_14, xg_x_15, xs_x_15, xc_K, xg_K_0, xg_K_1, xs_K_1, xg_K_2, xg_K_3, xs_K_3, xg_K_4, xg_K_5, xs_K_5, xa_K_lines, xb_K_lines, xn_K_lines, xa_K_wishes, xb_K_wishes, xn_K_wishes, xa_K_sights, xb_K_sights, xn_K_sights, wx_some, wx_ref, h2]
      rw [if_pos (by rw [nI_leI (by omega) (by omega)]; omega)]
      exact hq
    | succ m ih =>
      intro i l3 hi hI
      have gs := ag_G h3 (show (K.2.2.2.2.1).length < 2 ^ 31 by omega) (show i < b.2.2.1 by omega)
      obtain ⟨u1, u2⟩ := hb.2.2.2 i (by omega)
      obtain ⟨y1, y2, y3, y4⟩ := sg_1 (th := (b.2.2.2 i).2.2) u1 u2
      have hbad : sp_bad s c b w i = (decide ((sp_onk s (b.2.2.2 i).2.1 c).2.2 w = (b.2.2.2 i).1) != (b.2.2.2 i).2.2) := rfl
      generalize hsi : b.2.2.2 i = l at *
      obtain ⟨p, t, th⟩ := l
      simp only [] at u1 u2 y1 y2 y3 y4 gs hbad
      have hct := (c_onk hc t (by omega)).1
      have hpt := hct.2.2 w hw
      have fin : ∀ v : Int32, v = (if decide ((sp_onk s t c).2.2 w = p) = true then 1 else 0) → ww (mp_P fx) (d + 2) 191 42 [some (.ref 59), some (.int (nI w)), some (.int (nI i)), l3] [.int v] (px_h z E M (px_l sw c2 w2 T D S S1 K R C W U q q1 B0 B1 B2 B3)) Q := by
        intro v hv
        simp only [b191_0, b191_1, bn_0 b191_0, bn_1 b191_1, q191_42i, q191_43, q191_44, q191_45, q191_48, q191_49, e194, b194_0, b194_1, bn_0 b194_0, bn_1 b194_1, q194_0, q194_1, q194_4, q194_5, q194_6, q194_9, q194_12, q194_13, q194_16, q194_17, xc_x, xg_x_0, xg_x_1, xg_x_2, xg_x_3, xg_x_4, xg_x_5, xg_x_6, xg_x_7, xg_x_8, xg_x_9, xg_x_10, xg_x_11, xg_x_12, xg_x_13, xg_x_14, xs_x_14, xg_x_15, xs_x_15, xc_K, xg_K_0, xg_K_1, xs_K_1, xg_K_2, xg_K_3, xs_K_3, xg_K_4, xg_K_5, xs_K_5, xa_K_lines, xb_K_lines, xn_K_lines, xa_K_wishes, xb_K_wishes, xn_K_wishes, xa_K_sights, xb_K_sights, xn_K_sights, wx_some, wx_ref, isl_i, isl_r, isl_n, gs]
        have ht2 : ∀ (x : Int32) (l3 : Option Value), x = (if th = true then 1 else 0) → ww (mp_P fx) (d + 2) 191 52 [some (.ref 59), some (.int (nI w)), some (.int (nI i)), l3] [.int x, .int v] (px_h z E M (px_l sw c2 w2 T D S S1 K R C W U q q1 B0 B1 B2 B3)) Q := by
          intro x l3 hx
          simp only [b191_0, b191_1, bn_0 b191_0, bn_1 b191_1, q191_52, q191_55, q191_56, q191_57i, q191_60, isl_i, isl_r, isl_n, nl_1, nI_add]
          by_cases ebad : sp_bad s c b w i = true
          · have hf : sp_fit s c b w = false := by unfold sp_fit; rw [ffl_at hI ebad _ (by omega)]; rfl
            rw [hf, if_neg Bool.false_ne_true] at hq
            rw [if_neg (fun z => by
              rw [hbad] at ebad
              rw [hv, hx] at z
              generalize decide ((sp_onk s t c).2.2 w = p) = y at ebad z
              cases y <;> cases th <;> first | (exact absurd ebad (by decide)) | (exact absurd z (by decide)))]
            exact hq
          · rw [if_pos (by
              rw [hbad] at ebad
              rw [hv, hx]
              generalize decide ((sp_onk s t c).2.2 w = p) = y at ebad
              cases y <;> cases th <;> first | rfl | (exact absurd rfl ebad))]
            refine ih (i + 1) l3 (by omega) (fun j hj => ?_)
            by_cases ej : j = i
            · subst ej; exact Bool.eq_false_iff.mpr ebad
            · exact hI j (by omega)
        by_cases eth : th = true
        · rw [show (1000 : Int32) = nI 1000 from rfl, if_neg (by rw [nI_ltI (by omega) (by omega)]; have := y4.mpr eth; omega)]
          simp only [sl_i]
          exact ht2 1 _ (by rw [if_pos eth])
        · rw [show (1000 : Int32) = nI 1000 from rfl, if_pos (by rw [nI_ltI (by omega) (by omega)]; have : ¬ 1000 ≤ b_sg (p, t, th) := fun z => eth (y4.mp z); omega)]
          simp only [sl_i]
          exact ht2 0 _ (by rw [if_neg eth])
      rw [q191_2]
      simp only [b191_0, b191_1, bn_0 b191_0, bn_1 b191_1, q191_3, q191_4, q191_7, q191_10, q191_13, q191_14, q191_15, q191_16, q191_19, q191_20, e192, q192_0, q192_1, q192_4, q192_5, q192_6, q192_8, q192_9, q192_11, q192_12, xc_x, xg_x_0, xg_x_1, xg_x_2, xg_x_3, xg_x_4, xg_x_5, xg_x_6, xg_x_7, xg_x_8, xg_x_9, xg_x_10, xg_x_11, xg_x_12, xg_x_13, xg_x_14, xs_x_14, xg_x_15, xs_x_15, xc_K, xg_K_0, xg_K_1, xs_K_1, xg_K_2, xg_K_3, xs_K_3, xg_K_4, xg_K_5, xs_K_5, xa_K_lines, xb_K_lines, xn_K_lines, xa_K_wishes, xb_K_wishes, xn_K_wishes, xa_K_sights, xb_K_sights, xn_K_sights, wx_some, wx_ref, h2, gs, if_neg (show ¬ (10 : Int32) = 0 by decide), if_neg (show ¬ (100 : Int32) = 0 by decide)]
      rw [if_neg (by rw [nI_leI (by omega) (by omega)]; omega)]
      rw [nl_10, pk_div (by omega) (by omega) (by omega), show (100 : Int32) = nI 100 from rfl, nI_mod (by omega) (by omega) (by omega), y3]
      simp only [sl_i, b191_0, b191_1, bn_0 b191_0, bn_1 b191_1, q191_23, xc_x, xg_x_0, xg_x_1, xg_x_2, xg_x_3, xg_x_4, xg_x_5, xg_x_6, xg_x_7, xg_x_8, xg_x_9, xg_x_10, xg_x_11, xg_x_12, xg_x_13, xg_x_14, xs_x_14, xg_x_15, xs_x_15]
      apply t_placeLater hK.1 ho hc (by omega) hS hw
      simp only [sl_i, b191_0, b191_1, bn_0 b191_0, bn_1 b191_1, q191_26, q191_27, q191_30, q191_31, q191_34, q191_37, q191_38, q191_41, e193, q193_0, q193_1, q193_4, q193_5, q193_6, q193_8, q193_9, xc_x, xg_x_0, xg_x_1, xg_x_2, xg_x_3, xg_x_4, xg_x_5, xg_x_6, xg_x_7, xg_x_8, xg_x_9, xg_x_10, xg_x_11, xg_x_12, xg_x_13, xg_x_14, xs_x_14, xg_x_15, xs_x_15, xc_K, xg_K_0, xg_K_1, xs_K_1, xg_K_2, xg_K_3, xs_K_3, xg_K_4, xg_K_5, xs_K_5, xa_K_lines, xb_K_lines, xn_K_lines, xa_K_wishes, xb_K_wishes, xn_K_wishes, xa_K_sights, xb_K_sights, xn_K_sights, wx_some, wx_ref, gs, if_neg (show ¬ (10 : Int32) = 0 by decide)]
      rw [nl_10, nI_mod (by omega) (by omega) (by omega), y2]
      by_cases e : (sp_onk s t c).2.2 w = p
      · rw [if_neg (by rw [e]; exact fun z => z rfl)]
        exact fin 1 (by rw [decide_eq_true e]; rfl)
      · rw [if_pos (by rw [nI_eq (by omega) (by omega)]; exact e)]
        exact fin 0 (by rw [decide_eq_false e]; rfl)
  exact key b.2.2.1 0 none (by omega) (fun j hj => by omega)
theorem t_who (hK : KX nm s q R C) (hc : c_ok s c) (hh : c.1 + 100 < 2 ^ 20) (hS : SCx s S c) (hb : b_ok s b) (hB : BKx b K) (hq : Q (some (.int (nI (sp_who s c b)))) (px_h z E M (px_l sw c2 w2 T D S S1 K R C W U q q1 B0 B1 B2 B3))) : wm (mp_P fx) (d + 3) 190 [.ref 59] (px_h z E M (px_l sw c2 w2 T D S S1 K R C W U q q1 B0 B1 B2 B3)) Q := by
  have h7 := hK.2.2.1.1.2.2.2.1
  simp only [e190, q190_0, q190_1r, q190_2, q190_3i, isl_i, isl_r, isl_n]
  have key : ∀ (m w : Nat), w + m = k_nW s → ww (mp_P fx) (d + 3) 190 4 [some (.ref 59), some (.int (nI (bmk (sp_fit s c b) w))), some (.int (nI w))] [] (px_h z E M (px_l sw c2 w2 T D S S1 K R C W U q q1 B0 B1 B2 B3)) Q := by
    intro m
    induction m with
    | zero =>
      intro w hw
      have hw2 : w = k_nW s := by omega
      subst hw2
      rw [q190_4]
      simp only [q190_5, q190_6, q190_9, q190_12, q190_35, q190_36, xc_x, xg_x_0, xg_x_1, xg_x_2, xg_x_3, xg_x_4, xg_x_5, xg_x_6, xg_x_7, xg_x_8, xg_x_9, xg_x_10, xg_x_11, xg_x_12, xg_x_13, xg_x_14, xs_x_14, xg_x_15, xs_x_15, xc_q, xg_q_0, xg_q_1, xs_q_1, xg_q_2, xg_q_3, xg_q_4, xs_q_4, xg_q_5, xg_q_6, xg_q_7, xg_q_8, xs_q_8, xg_q_9, xs_q_9, xg_q_10, xg_q_11, xg_q_12, xg_q_13, xg_q_14, xg_q_15, xg_q_16, xs_q_16, xg_q_17, xg_q_18, xs_q_18, xg_q_19, xa_q_sortNames, xb_q_sortNames, xn_q_sortNames, xa_q_colourNames, xb_q_colourNames, xn_q_colourNames, xa_q_colourSorts, xb_q_colourSorts, xn_q_colourSorts, xa_q_ruleMakes, xb_q_ruleMakes, xn_q_ruleMakes, xa_q_ruleFirsts, xb_q_ruleFirsts, xn_q_ruleFirsts, xa_q_ruleSeconds, xb_q_ruleSeconds, xn_q_ruleSeconds, xa_q_walkerNames, xb_q_walkerNames, xn_q_walkerNames, xa_q_kinds, xb_q_kinds, xn_q_kinds, xa_q_walkerColours, xb_q_walkerColours, xn_q_walkerColours, xa_q_starts, xb_q_starts, xn_q_starts, xa_q_stepRows, xb_q_stepRows, xn_q_stepRows, xa_q_stepCounts, xb_q_stepCounts, xn_q_stepCounts, xa_q_gusts, xb_q_gusts, xn_q_gusts, xc_ql, xg_ql_0, xg_ql_1, xs_ql_1, xg_ql_2, xg_ql_3, xs_ql_3, xa_q_parts, xb_q_parts, xn_q_parts, xa_q_stack, xb_q_stack, xn_q_stack, wx_some, wx_ref, hK.1.2.1.2.2.2.1]
      rw [if_pos (by rw [nI_leI (by omega) (by omega)]; omega)]
      exact hq
    | succ m ih =>
      intro w hw
      have hlt : bmk (sp_fit s c b) w < 128 := Nat.lt_of_lt_of_le bmk_lt (p27 (by omega))
      have hgo := ih (w + 1) (by omega)
      rw [bmk] at hgo
      rw [q190_4]
      simp only [q190_5, q190_6, q190_9, q190_12, q190_15, q190_16, q190_17, xc_x, xg_x_0, xg_x_1, xg_x_2, xg_x_3, xg_x_4, xg_x_5, xg_x_6, xg_x_7, xg_x_8, xg_x_9, xg_x_10, xg_x_11, xg_x_12, xg_x_13, xg_x_14, xs_x_14, xg_x_15, xs_x_15, xc_q, xg_q_0, xg_q_1, xs_q_1, xg_q_2, xg_q_3, xg_q_4, xs_q_4, xg_q_5, xg_q_6, xg_q_7, xg_q_8, xs_q_8, xg_q_9, xs_q_9, xg_q_10, xg_q_11, xg_q_12, xg_q_13, xg_q_14, xg_q_15, xg_q_16, xs_q_16, xg_q_17, xg_q_18, xs_q_18, xg_q_19, xa_q_sortNames, xb_q_sortNames, xn_q_sortNames, xa_q_colourNames, xb_q_colourNames, xn_q_colourNames, xa_q_colourSorts, xb_q_colourSorts, xn_q_colourSorts, xa_q_ruleMakes, xb_q_ruleMakes, xn_q_ruleMakes, xa_q_ruleFirsts, xb_q_ruleFirsts, xn_q_ruleFirsts, xa_q_ruleSeconds, xb_q_ruleSeconds, xn_q_ruleSeconds, xa_q_walkerNames, xb_q_walkerNames, xn_q_walkerNames, xa_q_kinds, xb_q_kinds, xn_q_kinds, xa_q_walkerColours, xb_q_walkerColours, xn_q_walkerColours, xa_q_starts, xb_q_starts, xn_q_starts, xa_q_stepRows, xb_q_stepRows, xn_q_stepRows, xa_q_stepCounts, xb_q_stepCounts, xn_q_stepCounts, xa_q_gusts, xb_q_gusts, xn_q_gusts, xc_ql, xg_ql_0, xg_ql_1, xs_ql_1, xg_ql_2, xg_ql_3, xs_ql_3, xa_q_parts, xb_q_parts, xn_q_parts, xa_q_stack, xb_q_stack, xn_q_stack, wx_some, wx_ref, hK.1.2.1.2.2.2.1]
      rw [if_neg (by rw [nI_leI (by omega) (by omega)]; omega)]
      apply t_fits hK hc hh hS hb hB (by omega)
      simp only [sl_i, q190_20, q190_23, q190_24, q190_25, q190_26, q190_27, q190_28r, q190_29i, q190_32, isl_i, isl_r, isl_n, k7_or _ hlt w (show w < 7 by omega), nI_1]
      by_cases e : sp_fit s c b w = true
      · rw [if_pos e] at hgo ⊢
        rw [if_neg (by decide)]
        exact hgo
      · rw [if_neg e, Nat.or_zero] at hgo
        rw [if_neg e, if_pos (by decide)]
        exact hgo
  exact key (k_nW s) 0 (by omega)
theorem t_stand {p n : Nat} (ho : k_ok s) (hc : c_ok s c) (hS : SCx s S1 c) (hp : p < 10) (hn : n = k_nW s) (hq : Q (some (.int (nI (bmk (fun w => decide (c.2.2 w = p)) (k_nW s))))) (px_h z E M (px_l sw c2 w2 T D S S1 K R C W U q q1 B0 B1 B2 B3))) : wm (mp_P fx) d 196 [.ref 69, .int (nI p), .int (nI n)] (px_h z E M (px_l sw c2 w2 T D S S1 K R C W U q q1 B0 B1 B2 B3)) Q := by
  subst hn
  have h7 := ho.1.2.2.2.1
  obtain ⟨e1, e2, hrg, hpl⟩ := id hS
  have hl := hrg.1
  simp only [e196, q196_0, q196_1i, q196_2, q196_3i, isl_i, isl_r, isl_n]
  have key : ∀ (m w : Nat), w + m = k_nW s → ww (mp_P fx) d 196 5 [some (.ref 69), some (.int (nI p)), some (.int (nI (k_nW s))), some (.int (nI (bmk (fun w => decide (c.2.2 w = p)) w))), some (.int (nI w))] [] (px_h z E M (px_l sw c2 w2 T D S S1 K R C W U q q1 B0 B1 B2 B3)) Q := by
    intro m
    induction m with
    | zero =>
      intro w hw
      have hw2 : w = k_nW s := by omega
      subst hw2
      rw [q196_5]
      simp only [q196_7, q196_8, q196_39, q196_40]
      rw [if_pos (by rw [nI_leI (by omega) (by omega)]; omega)]
      exact hq
    | succ m ih =>
      intro w hw
      have hlt : bmk (fun w => decide (c.2.2 w = p)) w < 128 := Nat.lt_of_lt_of_le bmk_lt (p27 (by omega))
      have hgo := ih (w + 1) (by omega)
      rw [bmk] at hgo
      have g1 := ag_G hpl (show (S1.2.2).length < 2 ^ 31 by omega) (show w < k_nW s by omega)
      have hpw := hc.2.2 w (by omega)
      rw [q196_5]
      simp only [q196_7, q196_8, q196_11, q196_12, q196_13, q196_16, q196_18, q196_19, q196_20, q196_23, q196_24, q196_26, q196_27, q196_30, q196_31, q196_32i, q196_33i, q196_36, xc_S1, xg_S1_0, xs_S1_0, xg_S1_1, xs_S1_1, xg_S1_2, xa_S1_places, xb_S1_places, xn_S1_places, wx_some, wx_ref, isl_i, isl_r, isl_n, g1, nI_1, k7_or _ hlt w (show w < 7 by omega)]
      rw [if_neg (by rw [nI_leI (by omega) (by omega)]; omega)]
      by_cases e : c.2.2 w = p
      · rw [if_pos (decide_eq_true e)] at hgo
        rw [if_neg (by rw [e]; exact fun z => z rfl)]
        exact hgo
      · rw [if_neg (by rw [decide_eq_false e]; exact Bool.false_ne_true), Nat.or_zero] at hgo
        rw [if_pos (by rw [nI_eq (by omega) (by omega)]; exact e), Int32.or_zero]
        exact hgo
  exact key (k_nW s) 0 (by omega)
end TW
