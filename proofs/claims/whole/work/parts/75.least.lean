/-! the fewest to be shut -/
def bc (n : Nat) : Nat := cn (fun i => n.testBit i) 7
theorem bc_le (n : Nat) : bc n ≤ 7 := cn_le
def lf (A : Nat → Bool) : Nat → Option Nat
  | 0 => none
  | n + 1 => match lf A n with
    | none => if A n = true then some n else none
    | some m => if A n = true ∧ bc n < bc m then some n else some m
theorem lf_c (A : Nat → Bool) : ∀ n, (lf A n = none → ∀ k, k < n → A k = false) ∧ (∀ m, lf A n = some m → m < n ∧ A m = true ∧ ∀ k, k < n → A k = true → bc m < bc k ∨ (bc m = bc k ∧ m ≤ k)) := by
  intro n
  induction n with
  | zero => exact ⟨fun _ k hk => by omega, fun m h => by cases h⟩
  | succ n ih =>
    obtain ⟨h1, h2⟩ := ih
    rw [lf]
    cases e : lf A n with
    | none =>
      have h1 := h1 e
      simp only []
      by_cases ea : A n = true
      · rw [if_pos ea]
        refine ⟨fun z => (by cases z), fun m hm => ?_⟩
        cases hm
        refine ⟨by omega, ea, fun k hk hak => ?_⟩
        by_cases ek : k = n
        · subst ek; exact Or.inr ⟨rfl, Nat.le_refl _⟩
        · rw [h1 k (by omega)] at hak; cases hak
      · rw [if_neg ea]
        refine ⟨fun _ k hk => ?_, fun m hm => (by cases hm)⟩
        by_cases ek : k = n
        · subst ek; exact Bool.eq_false_iff.mpr ea
        · exact h1 k (by omega)
    | some m0 =>
      obtain ⟨g1, g2, g3⟩ := h2 m0 e
      simp only []
      by_cases ea : A n = true ∧ bc n < bc m0
      · rw [if_pos ea]
        refine ⟨fun z => (by cases z), fun m hm => ?_⟩
        cases hm
        refine ⟨by omega, ea.1, fun k hk hak => ?_⟩
        by_cases ek : k = n
        · subst ek; exact Or.inr ⟨rfl, Nat.le_refl _⟩
        · have := g3 k (by omega) hak
          exact Or.inl (by omega)
      · rw [if_neg ea]
        refine ⟨fun z => (by cases z), fun m hm => ?_⟩
        cases hm
        refine ⟨by omega, g2, fun k hk hak => ?_⟩
        by_cases ek : k = n
        · subst ek
          have : ¬ bc k < bc m0 := fun z => ea ⟨hak, z⟩
          omega
        · exact g3 k (by omega) hak
theorem lf_ext {A : Nat → Bool} {a : Nat} : ∀ n, (∀ k, a ≤ k → k < a + n → A k = false) → lf A (a + n) = lf A a := by
  intro n
  induction n with
  | zero => intro _; rfl
  | succ n ih =>
    intro h
    have e := ih (fun k h1 h2 => h k h1 (by omega))
    have e0 := h (a + n) (by omega) (by omega)
    show lf A (a + n + 1) = _
    rw [lf, e, e0]
    cases lf A a with
    | none => rfl
    | some m => simp only []; rw [if_neg (fun z => Bool.false_ne_true z.1)]
theorem lf_same {A B : Nat → Bool} {n : Nat} (h1 : ∀ k, k < n → A k = true → B k = true) (h2 : ∀ k, k < n → B k = true → ∃ k', k' < n ∧ A k' = true ∧ (k' = k ∨ bc k' < bc k)) : lf A n = lf B n := by
  obtain ⟨a1, a2⟩ := lf_c A n
  obtain ⟨b1, b2⟩ := lf_c B n
  cases ea : lf A n with
  | none =>
    cases eb : lf B n with
    | none => rfl
    | some m =>
      obtain ⟨c1, c2, -⟩ := b2 m eb
      obtain ⟨k', c3, c4, -⟩ := h2 m c1 c2
      rw [a1 ea k' c3] at c4; cases c4
  | some m =>
    obtain ⟨c1, c2, c3⟩ := a2 m ea
    cases eb : lf B n with
    | none =>
      have := h1 m c1 c2
      rw [b1 eb m c1] at this; cases this
    | some l =>
      obtain ⟨d1, d2, d3⟩ := b2 l eb
      have e1 := d3 m c1 (h1 m c1 c2)
      obtain ⟨k', f1, f2, f3⟩ := h2 l d1 d2
      have e2 := c3 k' f1 f2
      have e3 := d3 k' f1 (h1 k' f1 f2)
      congr 1
      rcases f3 with f3 | f3
      · subst f3; omega
      · omega
theorem k7_sub : ∀ a, a < 128 → ∀ b, b < 128 → (a &&& (127 ^^^ b) = 0 ↔ ∀ w, w < 7 → a.testBit w = true → b.testBit w = true) := by decide +kernel
theorem k7_bc : ∀ a, a < 128 → ∀ b, b < 128 → (a &&& b = a ∨ bc (a &&& b) < bc a) := by decide +kernel
def sp_one (s : SQ) (L : List Nat) : Bool := decide ((snk L L.length).1 = 1) && decide (sp_ways s L 0 = 1)
def sp_rb (s : SQ) (c : SC) : Nat := bmk (sp_rd s c 0 (sp_gust s c.1)) (k_nW s)
def lA (s : SQ) (c : SC) (o k : Nat) : Bool := decide (k &&& (127 ^^^ o) = 0) && sp_one s (sp_list s c k (sp_gust s c.1))
def sp_least (s : SQ) (c : SC) : Int32 := match lf (lA s c (sp_rb s c)) 128 with
  | none => -1
  | some m => nI m
theorem lA_same {s : SQ} {c : SC} (ho : k_ok s) (hc : c_ok s c) : lf (lA s c (sp_rb s c)) 128 = lf (lA s c c.2.1) 128 := by
  have hW := ho.1.2.2.2.1
  have h128 : c.2.1 < 128 := Nat.lt_of_lt_of_le hc.2.1 (p27 hW)
  have hrb : sp_rb s c < 128 := Nat.lt_of_lt_of_le bmk_lt (p27 hW)
  have hsub : ∀ w, (sp_rb s c).testBit w = true → c.2.1.testBit w = true := by
    intro w hw
    unfold sp_rb at hw
    rw [bmk_bit] at hw
    have h2 := (Bool.and_eq_true_iff.mp hw).2
    cases e : c.2.1.testBit w with
    | true => rfl
    | false =>
      unfold sp_rd at h2
      rw [sp_able_open e, Bool.false_and] at h2
      cases h2
  apply lf_same
  · intro k hk hA
    unfold lA at hA ⊢
    obtain ⟨g1, g2⟩ := Bool.and_eq_true_iff.mp hA
    rw [g2, Bool.and_true]
    apply decide_eq_true
    rw [k7_sub k hk _ h128]
    exact fun w hw hb => hsub w ((k7_sub k hk _ hrb).mp (of_decide_eq_true g1) w hw hb)
  · intro k hk hA
    unfold lA at hA
    obtain ⟨g1, g2⟩ := Bool.and_eq_true_iff.mp hA
    have hkr : k &&& sp_rb s c < 128 := Nat.lt_of_le_of_lt Nat.and_le_left hk
    refine ⟨k &&& sp_rb s c, hkr, ?_, k7_bc k hk _ hrb⟩
    unfold lA
    rw [decide_eq_true ((k7_sub _ hkr _ hrb).mpr (fun w _ hb => by rw [Nat.testBit_and] at hb; exact (Bool.and_eq_true_iff.mp hb).2)), Bool.true_and]
    rw [← sp_list_mask (sh := k) (fun w hw hr => by
      rw [Nat.testBit_and]
      unfold sp_rb
      rw [bmk_bit, decide_eq_true hw, hr, Bool.true_and, Bool.and_true])]
    exact g2
section TL2
variable {fx : List Value → mm_H → Option (List Value × mm_H)} {z : Nat} {E M : Nat → mm_C} {sw c2 w2 : Bool} {T : px_T} {D : px_D} {S : px_S} {S1 : px_S} {K : px_K} {R : px_R} {C : px_C} {W : px_W} {U : px_U} {q : px_q} {q1 : px_q} {B0 : px_K} {B1 : px_K} {B2 : px_K} {B3 : px_K} {T_signs : List Int32} {T_length : Int32} {T_fault : Int32} {T_types : List Int32} {T_starts : List Int32} {T_values : List Int64} {T_tokens : Int32} {T_at : Int32} {T_behind : Int32} {S_hour : Int32} {S_open : Int32} {S_places : List Int32} {S1_hour : Int32} {S1_open : Int32} {S1_places : List Int32} {K_lines : List Int32} {K_lineCount : Int32} {K_wishes : List Int32} {K_wishCount : Int32} {K_sights : List Int32} {K_sightCount : Int32} {R_shown : List Int32} {R_length : Int32} {R_readers : Int32} {R_begins : List Int32} {R_lengths : List Int32} {R_sentences : Int32} {R_order : List Int32} {R_able : Int32} {R_standing : List Int32} {R_lovers : List Int32} {R_lowest : List Int32} {C_ways : List Int32} {C_rows : List Int32} {C_shallower : List Int32} {C_length : Int32} {C_goal : Int32} {W_row : List Int32} {W_walkers : Int32} {W_names : Int32} {W_wanted : List Int32} {W_shown : List Int32} {W_places : List Int32} {W_rest : List Int32} {W_spent : List Int32} {W_tried : List Int32} {U_undoRows : List Int64} {U_markScenes : List Int64} {U_marksLaid : List Int32} {U_undoCount : Int32} {U_undoEnd : Int32} {q_sortNames : List Int64} {q_sortCount : Int32} {q_colourNames : List Int64} {q_colourSorts : List Int32} {q_colourCount : Int32} {q_ruleMakes : List Int32} {q_ruleFirsts : List Int32} {q_ruleSeconds : List Int32} {q_ruleCount : Int32} {q_saysSort : Int32} {q_walkerNames : List Int64} {q_kinds : List Int32} {q_walkerColours : List Int32} {q_starts : List Int32} {q_stepRows : List Int32} {q_stepCounts : List Int32} {q_walkerCount : Int32} {q_gusts : List Int32} {q_gustCount : Int32} {q_parts : List Int32} {q_count : Int32} {q_stack : List Int32} {q_height : Int32} {q1_sortNames : List Int64} {q1_sortCount : Int32} {q1_colourNames : List Int64} {q1_colourSorts : List Int32} {q1_colourCount : Int32} {q1_ruleMakes : List Int32} {q1_ruleFirsts : List Int32} {q1_ruleSeconds : List Int32} {q1_ruleCount : Int32} {q1_saysSort : Int32} {q1_walkerNames : List Int64} {q1_kinds : List Int32} {q1_walkerColours : List Int32} {q1_starts : List Int32} {q1_stepRows : List Int32} {q1_stepCounts : List Int32} {q1_walkerCount : Int32} {q1_gusts : List Int32} {q1_gustCount : Int32} {q1_parts : List Int32} {q1_count : Int32} {q1_stack : List Int32} {q1_height : Int32} {B0_lines : List Int32} {B0_lineCount : Int32} {B0_wishes : List Int32} {B0_wishCount : Int32} {B0_sights : List Int32} {B0_sightCount : Int32} {B1_lines : List Int32} {B1_lineCount : Int32} {B1_wishes : List Int32} {B1_wishCount : Int32} {B1_sights : List Int32} {B1_sightCount : Int32} {B2_lines : List Int32} {B2_lineCount : Int32} {B2_wishes : List Int32} {B2_wishCount : Int32} {B2_sights : List Int32} {B2_sightCount : Int32} {B3_lines : List Int32} {B3_lineCount : Int32} {B3_wishes : List Int32} {B3_wishCount : Int32} {B3_sights : List Int32} {B3_sightCount : Int32}
variable {d : Nat} {Q : Option Value → mm_H → Prop} {s : SQ} {c : SC} {nm : NMs}
theorem t_bitCount {h : mm_H} {n : Nat} (hn : n < 128) (hq : Q (some (.int (nI (bc n)))) h) : wm (mp_P fx) d 162 [.int (nI n)] h Q := by
  have key : ∀ x : Int32, x = nI (bc n) → Q (some (.int x)) h := fun x hx => by rw [hx]; exact hq
  simp only [e162, q162_0, q162_1, q162_2, q162_3, q162_4, q162_7, q162_8, q162_9, q162_10, q162_11, q162_14, q162_15, q162_16, q162_17, q162_18, q162_21, q162_22, q162_23, q162_24, q162_25, q162_26, q162_27, q162_28, q162_29, q162_32, q162_33, q162_34, q162_35, q162_36, q162_38, q162_39, q162_40, q162_41, q162_42, q162_43, q162_45, q162_46, q162_47, q162_48, q162_49, q162_51, q162_52]
  apply key
  clear key hq
  revert hn
  revert n
  decide +kernel
theorem t_oneWay {sh g : Nat} (hK : KX nm s q R C) (hc : c_ok s c) (hR : RDt s c sh g R) (hq : ∀ C', KX nm s q R C' → Q (some (.int (if sp_one s (sp_list s c sh g) = true then 1 else 0))) (px_h z E M (px_l sw c2 w2 T D S S1 K R (C') W U q q1 B0 B1 B2 B3))) : wm (mp_P fx) (d + 4) 163 [.ref 59] (px_h z E M (px_l sw c2 w2 T D S S1 K R C W U q q1 B0 B1 B2 B3)) Q := by
  have ho := hK.2.2.1
  have hL := sp_list_ok (sh := sh) (g := g) ho hc
  obtain ⟨hRs, -⟩ := hR
  generalize sp_list s c sh g = L at *
  obtain ⟨k1, -, -⟩ := snk_ok L L.length
  have h7 := hL.1
  obtain ⟨⟨r1, r2, r3, -⟩, b1, b2, b3, b4, b5⟩ := id hRs
  unfold sp_one at hq
  simp only [e163, b163_0, b163_1, bn_0 b163_0, bn_1 b163_1, q163_0, q163_1, q163_4, q163_7, q163_8, q163_11, q163_12, q163_13, q163_14, q163_17, q163_18, q163_21, q163_22, q163_25, q163_28, q163_29, q163_32, q163_35, q163_36, q163_37, q163_38, q163_41, q163_44, q163_45, q163_46, q163_49, q163_50, q163_53, q163_56, q163_57, q163_60, q163_61, q163_64, q163_65, xc_x, xg_x_0, xg_x_1, xg_x_2, xg_x_3, xg_x_4, xg_x_5, xg_x_6, xg_x_7, xg_x_8, xg_x_9, xg_x_10, xg_x_11, xg_x_12, xg_x_13, xg_x_14, xs_x_14, xg_x_15, xs_x_15, xc_R, xg_R_0, xg_R_1, xs_R_1, xg_R_2, xs_R_2, xg_R_3, xg_R_4, xg_R_5, xs_R_5, xg_R_6, xg_R_7, xs_R_7, xg_R_8, xg_R_9, xg_R_10, xa_R_shown, xb_R_shown, xn_R_shown, xa_R_begins, xb_R_begins, xn_R_begins, xa_R_lengths, xb_R_lengths, xn_R_lengths, xa_R_order, xb_R_order, xn_R_order, xa_R_standing, xb_R_standing, xn_R_standing, xa_R_lovers, xb_R_lovers, xn_R_lovers, xa_R_lowest, xb_R_lowest, xn_R_lowest, xc_C, xg_C_0, xg_C_1, xg_C_2, xg_C_3, xs_C_3, xg_C_4, xs_C_4, xa_C_ways, xb_C_ways, xn_C_ways, xa_C_rows, xb_C_rows, xn_C_rows, xa_C_shallower, xb_C_shallower, xn_C_shallower, xc_q, xg_q_0, xg_q_1, xs_q_1, xg_q_2, xg_q_3, xg_q_4, xs_q_4, xg_q_5, xg_q_6, xg_q_7, xg_q_8, xs_q_8, xg_q_9, xs_q_9, xg_q_10, xg_q_11, xg_q_12, xg_q_13, xg_q_14, xg_q_15, xg_q_16, xs_q_16, xg_q_17, xg_q_18, xs_q_18, xg_q_19, xa_q_sortNames, xb_q_sortNames, xn_q_sortNames, xa_q_colourNames, xb_q_colourNames, xn_q_colourNames, xa_q_colourSorts, xb_q_colourSorts, xn_q_colourSorts, xa_q_ruleMakes, xb_q_ruleMakes, xn_q_ruleMakes, xa_q_ruleFirsts, xb_q_ruleFirsts, xn_q_ruleFirsts, xa_q_ruleSeconds, xb_q_ruleSeconds, xn_q_ruleSeconds, xa_q_walkerNames, xb_q_walkerNames, xn_q_walkerNames, xa_q_kinds, xb_q_kinds, xn_q_kinds, xa_q_walkerColours, xb_q_walkerColours, xn_q_walkerColours, xa_q_starts, xb_q_starts, xn_q_starts, xa_q_stepRows, xb_q_stepRows, xn_q_stepRows, xa_q_stepCounts, xb_q_stepCounts, xn_q_stepCounts, xa_q_gusts, xb_q_gusts, xn_q_gusts, xc_ql, xg_ql_0, xg_ql_1, xs_ql_1, xg_ql_2, xg_ql_3, xs_ql_3, xa_q_parts, xb_q_parts, xn_q_parts, xa_q_stack, xb_q_stack, xn_q_stack, wx_some, wx_ref, b3]
  by_cases e1 : (snk L L.length).1 = 1
  · rw [decide_eq_true e1, Bool.true_and] at hq
    rw [if_pos (by rw [e1]; rfl)]
    simp only [show aG (R.2.2.2.1) 0 = some (nI ((snk L L.length).2.1 0)) from ag_G (j := 0) b4 (by omega) (by omega), show aG (R.2.2.2.2.1) 0 = some (nI ((snk L L.length).2.2.1 0)) from ag_G (j := 0) b5 (by omega) (by omega), wx_some]
    apply t_parse hK.1 ho hK.2.2.2.2.2 hRs hL (show 0 < (snk L L.length).1 by omega)
    intro C' hC' h1 h7
    simp only [sl_n, b163_0, b163_1, bn_0 b163_0, bn_1 b163_1, q163_49, q163_50, q163_53, xc_x, xg_x_0, xg_x_1, xg_x_2, xg_x_3, xg_x_4, xg_x_5, xg_x_6, xg_x_7, xg_x_8, xg_x_9, xg_x_10, xg_x_11, xg_x_12, xg_x_13, xg_x_14, xs_x_14, xg_x_15, xs_x_15, xc_C, xg_C_0, xg_C_1, xg_C_2, xg_C_3, xs_C_3, xg_C_4, xs_C_4, xa_C_ways, xb_C_ways, xn_C_ways, xa_C_rows, xb_C_rows, xn_C_rows, xa_C_shallower, xb_C_shallower, xn_C_shallower, wx_some, wx_ref]
    apply t_whole ho h1 h7 hC'
    have hwl := wy_lt (t := sp_text L 0) ho (p := sp_tlen L 0 - 1) (i := 0) (y := k_sy s) (by omega)
    have hqq := hq C' ⟨hK.1, hK.2.1, ho, hK.2.2.2.1, hK.2.2.2.2.1, hC'.1⟩
    simp only [sl_i, e163, b163_0, b163_1, bn_0 b163_0, bn_1 b163_1, q163_0, q163_1, q163_4, q163_7, q163_8, q163_11, q163_12, q163_13, q163_14, q163_17, q163_18, q163_21, q163_22, q163_25, q163_28, q163_29, q163_32, q163_35, q163_36, q163_37, q163_38, q163_41, q163_44, q163_45, q163_46, q163_49, q163_50, q163_53, q163_56, q163_57, q163_60, q163_61, q163_64, q163_65]
    by_cases ew : sp_ways s L 0 = 1
    · rw [decide_eq_true ew, if_pos rfl] at hqq
      rw [if_neg (fun z => z (by rw [show wy s (sp_text L 0) (sp_tlen L 0 - 1) 0 (k_sy s) = 1 from ew]; rfl))]
      exact hqq
    · rw [decide_eq_false ew, if_neg Bool.false_ne_true] at hqq
      rw [nl_1, if_pos (by rw [nI_eq hwl (by omega)]; exact ew)]
      exact hqq
  · rw [decide_eq_false e1, Bool.false_and, if_neg Bool.false_ne_true] at hq
    rw [nl_1, if_neg (by rw [nI_eq (by omega) (by omega)]; exact e1)]
    exact hq C hK
theorem t_least (hK : KX nm s q R C) (hc : c_ok s c) (hS : SCx s S c) (hq : ∀ q' R' C', KX nm s q' R' C' → Q (some (.int (sp_least s c))) (px_h z E M (px_l sw c2 w2 T D S S1 K (R') (C') W U (q') q1 B0 B1 B2 B3))) : wm (mp_P fx) (d + 5) 161 [.ref 59] (px_h z E M (px_l sw c2 w2 T D S S1 K R C W U q q1 B0 B1 B2 B3)) Q := by
  have ho := hK.2.2.1
  have hh := hc.1
  have hW := ho.1.2.2.2.1
  have hg := sp_gust_lt (hr := c.1) ho
  have hlt : sp_rb s c < 128 := Nat.lt_of_lt_of_le bmk_lt (p27 hW)
  unfold sp_least at hq
  simp only [e161, q161_0, q161_1, q161_4, q161_5, q161_8, q161_11, xc_x, xg_x_0, xg_x_1, xg_x_2, xg_x_3, xg_x_4, xg_x_5, xg_x_6, xg_x_7, xg_x_8, xg_x_9, xg_x_10, xg_x_11, xg_x_12, xg_x_13, xg_x_14, xs_x_14, xg_x_15, xs_x_15, xc_q, xg_q_0, xg_q_1, xs_q_1, xg_q_2, xg_q_3, xg_q_4, xs_q_4, xg_q_5, xg_q_6, xg_q_7, xg_q_8, xs_q_8, xg_q_9, xs_q_9, xg_q_10, xg_q_11, xg_q_12, xg_q_13, xg_q_14, xg_q_15, xg_q_16, xs_q_16, xg_q_17, xg_q_18, xs_q_18, xg_q_19, xa_q_sortNames, xb_q_sortNames, xn_q_sortNames, xa_q_colourNames, xb_q_colourNames, xn_q_colourNames, xa_q_colourSorts, xb_q_colourSorts, xn_q_colourSorts, xa_q_ruleMakes, xb_q_ruleMakes, xn_q_ruleMakes, xa_q_ruleFirsts, xb_q_ruleFirsts, xn_q_ruleFirsts, xa_q_ruleSeconds, xb_q_ruleSeconds, xn_q_ruleSeconds, xa_q_walkerNames, xb_q_walkerNames, xn_q_walkerNames, xa_q_kinds, xb_q_kinds, xn_q_kinds, xa_q_walkerColours, xb_q_walkerColours, xn_q_walkerColours, xa_q_starts, xb_q_starts, xn_q_starts, xa_q_stepRows, xb_q_stepRows, xn_q_stepRows, xa_q_stepCounts, xb_q_stepCounts, xn_q_stepCounts, xa_q_gusts, xb_q_gusts, xn_q_gusts, xc_ql, xg_ql_0, xg_ql_1, xs_ql_1, xg_ql_2, xg_ql_3, xs_ql_3, xa_q_parts, xb_q_parts, xn_q_parts, xa_q_stack, xb_q_stack, xn_q_stack, xc_S, xg_S_0, xs_S_0, xg_S_1, xs_S_1, xg_S_2, xa_S_places, xb_S_places, xn_S_places, wx_some, wx_ref, isl_i, isl_r, isl_n, hS.1]
  apply t_gustOf hK.1 ho (by omega)
  simp only [sl_i, q161_14r, q161_15, q161_16, q161_17, q161_20, xc_x, xg_x_0, xg_x_1, xg_x_2, xg_x_3, xg_x_4, xg_x_5, xg_x_6, xg_x_7, xg_x_8, xg_x_9, xg_x_10, xg_x_11, xg_x_12, xg_x_13, xg_x_14, xs_x_14, xg_x_15, xs_x_15, wx_some, wx_ref, isl_i, isl_r, isl_n]
  apply t_rdS hK hc hS
  intro q1' R1 hK1 hR1
  have hrb : R1.2.2.1 = nI (sp_rb s c) := hR1.2.1
  simp only [sl_n, q161_23, q161_24, q161_27, q161_30i, q161_31, q161_32i, q161_33, q161_35i, q161_37, q161_38i, xc_x, xg_x_0, xg_x_1, xg_x_2, xg_x_3, xg_x_4, xg_x_5, xg_x_6, xg_x_7, xg_x_8, xg_x_9, xg_x_10, xg_x_11, xg_x_12, xg_x_13, xg_x_14, xs_x_14, xg_x_15, xs_x_15, xc_R, xg_R_0, xg_R_1, xs_R_1, xg_R_2, xs_R_2, xg_R_3, xg_R_4, xg_R_5, xs_R_5, xg_R_6, xg_R_7, xs_R_7, xg_R_8, xg_R_9, xg_R_10, xa_R_shown, xb_R_shown, xn_R_shown, xa_R_begins, xb_R_begins, xn_R_begins, xa_R_lengths, xb_R_lengths, xn_R_lengths, xa_R_order, xb_R_order, xn_R_order, xa_R_standing, xb_R_standing, xn_R_standing, xa_R_lovers, xb_R_lovers, xn_R_lovers, xa_R_lowest, xb_R_lowest, xn_R_lowest, wx_some, wx_ref, isl_i, isl_r, isl_n, hrb]
  have key : ∀ (m k f : Nat) (b : Int32) (l6 : Option Value) (R2 : px_R) (C2 : px_C), k + m = 128 → KX nm s q1' R2 C2 → RDk s c R2 → (lf (lA s c (sp_rb s c)) k = none ∧ b = -1 ∧ f = 8 ∨ ∃ x, lf (lA s c (sp_rb s c)) k = some x ∧ b = nI x ∧ f = bc x) → ww (mp_P fx) (d + 5) 161 40 [some (.ref 59), some (.int (nI (sp_gust s c.1))), some (.int (nI (sp_rb s c))), some (.int b), some (.int (nI f)), some (.int (nI k)), l6] [] (px_h z E M (px_l sw c2 w2 T D S S1 K (R2) (C2) W U (q1') q1 B0 B1 B2 B3)) Q := by
    intro m
    induction m with
    | zero =>
      intro k f b l6 R2 C2 hk hK2 hR2 hI
      have hk2 : k = 128 := by omega
      subst hk2
      rw [q161_40]
      simp only [q161_42, q161_45, q161_109, q161_110]
      rw [if_pos (by decide)]
      have hqq := hq q1' R2 C2 hK2
      rcases hI with ⟨e1, e2, -⟩ | ⟨x, e1, e2, -⟩
      · rw [e1] at hqq; rw [e2]; exact hqq
      · rw [e1] at hqq; rw [e2]; exact hqq
    | succ m ih =>
      intro k f b l6 R2 C2 hk hK2 hR2 hI
      have hk128 : k < 128 := by omega
      have hbk := bc_le k
      have hal := k7_andn k hk128 _ hlt
      have hf8 : f ≤ 8 := by
        rcases hI with ⟨-, -, e⟩ | ⟨x, -, -, e⟩
        · omega
        · have := bc_le x; omega
      have hskip : ¬ (lA s c (sp_rb s c) k = true ∧ bc k < f) → ∀ l6 R3 C3, KX nm s q1' R3 C3 → RDk s c R3 → ww (mp_P fx) (d + 5) 161 103 [some (.ref 59), some (.int (nI (sp_gust s c.1))), some (.int (nI (sp_rb s c))), some (.int b), some (.int (nI f)), some (.int (nI k)), l6] [] (px_h z E M (px_l sw c2 w2 T D S S1 K (R3) (C3) W U (q1') q1 B0 B1 B2 B3)) Q := by
        intro hno l6 R3 C3 hK3 hR3
        simp only [q161_103i, q161_106, isl_i, isl_r, isl_n, nl_1, nI_add]
        refine ih (k + 1) f b l6 R3 C3 (by omega) hK3 hR3 ?_
        rw [lf]
        rcases hI with ⟨e1, e2, e3⟩ | ⟨x, e1, e2, e3⟩
        · rw [e1]
          simp only []
          rw [if_neg (fun z => hno ⟨z, by omega⟩)]
          exact Or.inl ⟨rfl, e2, e3⟩
        · rw [e1]
          simp only []
          rw [if_neg (fun z => hno ⟨z.1, by omega⟩)]
          exact Or.inr ⟨x, rfl, e2, e3⟩
      rw [q161_40]
      simp only [q161_42, q161_45, q161_48, q161_50]
      rw [show (128 : Int32) = nI 128 from rfl, if_neg (by rw [nI_leI (by omega) (by omega)]; omega)]
      apply t_bitCount hk128
      simp only [sl_i, q161_53i, q161_55, q161_57, q161_58, q161_59, q161_60, q161_61, q161_64, q161_66, q161_68, q161_71, q161_72, q161_75, q161_76, q161_79, q161_80, q161_83, q161_85, q161_86, xc_x, xg_x_0, xg_x_1, xg_x_2, xg_x_3, xg_x_4, xg_x_5, xg_x_6, xg_x_7, xg_x_8, xg_x_9, xg_x_10, xg_x_11, xg_x_12, xg_x_13, xg_x_14, xs_x_14, xg_x_15, xs_x_15, xc_q, xg_q_0, xg_q_1, xs_q_1, xg_q_2, xg_q_3, xg_q_4, xs_q_4, xg_q_5, xg_q_6, xg_q_7, xg_q_8, xs_q_8, xg_q_9, xs_q_9, xg_q_10, xg_q_11, xg_q_12, xg_q_13, xg_q_14, xg_q_15, xg_q_16, xs_q_16, xg_q_17, xg_q_18, xs_q_18, xg_q_19, xa_q_sortNames, xb_q_sortNames, xn_q_sortNames, xa_q_colourNames, xb_q_colourNames, xn_q_colourNames, xa_q_colourSorts, xb_q_colourSorts, xn_q_colourSorts, xa_q_ruleMakes, xb_q_ruleMakes, xn_q_ruleMakes, xa_q_ruleFirsts, xb_q_ruleFirsts, xn_q_ruleFirsts, xa_q_ruleSeconds, xb_q_ruleSeconds, xn_q_ruleSeconds, xa_q_walkerNames, xb_q_walkerNames, xn_q_walkerNames, xa_q_kinds, xb_q_kinds, xn_q_kinds, xa_q_walkerColours, xb_q_walkerColours, xn_q_walkerColours, xa_q_starts, xb_q_starts, xn_q_starts, xa_q_stepRows, xb_q_stepRows, xn_q_stepRows, xa_q_stepCounts, xb_q_stepCounts, xn_q_stepCounts, xa_q_gusts, xb_q_gusts, xn_q_gusts, xc_ql, xg_ql_0, xg_ql_1, xs_ql_1, xg_ql_2, xg_ql_3, xs_ql_3, xa_q_parts, xb_q_parts, xn_q_parts, xa_q_stack, xb_q_stack, xn_q_stack, xc_R, xg_R_0, xg_R_1, xs_R_1, xg_R_2, xs_R_2, xg_R_3, xg_R_4, xg_R_5, xs_R_5, xg_R_6, xg_R_7, xs_R_7, xg_R_8, xg_R_9, xg_R_10, xa_R_shown, xb_R_shown, xn_R_shown, xa_R_begins, xb_R_begins, xn_R_begins, xa_R_lengths, xb_R_lengths, xn_R_lengths, xa_R_order, xb_R_order, xn_R_order, xa_R_standing, xb_R_standing, xn_R_standing, xa_R_lovers, xb_R_lovers, xn_R_lovers, xa_R_lowest, xb_R_lowest, xn_R_lowest, xc_S, xg_S_0, xs_S_0, xg_S_1, xs_S_1, xg_S_2, xa_S_places, xb_S_places, xn_S_places, wx_some, wx_ref, isl_i, isl_r, isl_n, k7_and k hk128 _ hlt]
      by_cases es : k &&& (127 ^^^ sp_rb s c) = 0
      · rw [if_neg (by rw [es]; exact fun z => z rfl)]
        by_cases ef : bc k < f
        · rw [if_neg (by rw [nI_leI (by omega) (by omega)]; omega)]
          apply t_takeK hK2 hc hS hR2 hk128 (by omega)
          intro R3 hK3 hR3
          simp only [sl_n, q161_89, q161_90, xc_x, xg_x_0, xg_x_1, xg_x_2, xg_x_3, xg_x_4, xg_x_5, xg_x_6, xg_x_7, xg_x_8, xg_x_9, xg_x_10, xg_x_11, xg_x_12, xg_x_13, xg_x_14, xs_x_14, xg_x_15, xs_x_15]
          apply t_oneWay hK3 hc hR3
          intro C3 hC3
          simp only [sl_i, q161_93, q161_96, q161_98i, q161_99, q161_101i, isl_i, isl_r, isl_n]
          by_cases eo : sp_one s (sp_list s c k (sp_gust s c.1)) = true
          · rw [if_pos eo, if_neg (by decide)]
            have hA : lA s c (sp_rb s c) k = true := by unfold lA; rw [decide_eq_true es, eo]; rfl
            simp only [q161_103i, q161_106, isl_i, isl_r, isl_n, nl_1, nI_add]
            refine ih (k + 1) (bc k) (nI k) _ R3 C3 (by omega) hC3 (RDt_k hR3) ?_
            rw [lf]
            rcases hI with ⟨e1, e2, e3⟩ | ⟨x, e1, e2, e3⟩
            · rw [e1]
              simp only []
              rw [if_pos hA]
              exact Or.inr ⟨k, rfl, rfl, rfl⟩
            · rw [e1]
              simp only []
              rw [if_pos ⟨hA, by omega⟩]
              exact Or.inr ⟨k, rfl, rfl, rfl⟩
          · rw [if_neg eo, if_pos (by decide)]
            exact hskip (fun z => by
              have z1 := z.1
              unfold lA at z1
              exact eo (Bool.and_eq_true_iff.mp z1).2) _ R3 C3 hC3 (RDt_k hR3)
        · rw [if_pos (by rw [nI_leI (by omega) (by omega)]; omega)]
          exact hskip (fun z => ef z.2) _ R2 C2 hK2 hR2
      · rw [if_pos (by rw [nl_0, nI_eq (by omega) (by omega)]; exact es)]
        exact hskip (fun z => by
          have z1 := z.1
          unfold lA at z1
          exact es (of_decide_eq_true (Bool.and_eq_true_iff.mp z1).1)) _ R2 C2 hK2 hR2
  exact key 128 0 8 (-1) none R1 C (by omega) hK1 (RDt_k hR1) (Or.inl ⟨rfl, rfl, rfl⟩)
end TL2
section ML2
variable {fx : List Value → mm_H → Option (List Value × mm_H)} {z : Nat} {X Y : Nat → mm_C} {mV : pm_V} {mT : pm_T} {mQ : pm_Q} {mO : pm_O} {mE : pm_E} {mB : pm_B} {mS : pm_S} {mR : pm_R} {mW : pm_W} {m_thrown : Int32} {m_given : Int32} {m_fresh : Int64} {m_code : Int32} {m_taped : Int32} {m_tape : List Int32} {m_size : Int32} {m_place : Int32} {m_begin : Int32} {m_token : Int32} {m_word : Int64} {m_told : Int32} {m_wrong : Int32} {m_square : List Int32} {m_sortName : List Int64} {m_colourName : List Int64} {m_walkerName : List Int64} {m_sortOf : List Int32} {m_rules : List Int32} {m_kind : List Int32} {m_colour : List Int32} {m_atTold : List Int32} {m_goesMany : List Int32} {m_goes : List Int32} {m_gusts : List Int32} {m_lineFrom : List Int32} {m_lineTo : List Int32} {m_codes : List Int32} {m_opened : List Int32} {m_compared : List Int32} {m_kept : List Int32} {m_keptBy : List Int32} {m_ahead : List Int32} {m_against : List Int32} {m_sum : List Int32} {m_sumBy : List Int32} {m_term : List Int32} {m_termBy : List Int32} {m_byNot : List Int32} {m_valueOf : List Int32} {m_lines : List Int32} {m_lineWhat : List Int32} {m_lineA : List Int32} {m_lineB : List Int32} {m_wishes : List Int32} {m_wishOf : List Int32} {m_seens : List Int32} {m_seenAt : List Int32} {m_seenIn : List Int32} {m_seenThere : List Int32} {m_s : List Int32} {m_aside : List Int32} {m_before : List Int32} {m_marked : List Int32} {m_undone : List Int32} {m_isLaid : List Int32} {m_done : Int32} {m_gustNow : Int32} {m_shown : List Int32} {m_shownMany : Int32} {m_from7 : List Int32} {m_long7 : List Int32} {m_sentences : Int32} {m_text7 : List Int32} {m_textMany : Int32} {m_waysOf : List Int32} {m_rowOf : List Int32} {m_row : List Int32} {m_bestRow : List Int32} {m_leastSteps : Int32} {m_steps10 : List Int32} {m_placeIn : List Int32} {m_g : Int64}
variable {d : Nat} {Q : Option Value → mm_H → Prop} {s : SQ} {c : SC} {nm : NMs}
theorem tm_bits {h : mm_H} {n : Nat} (hn : n < 128) (hq : Q (some (.int (nI (bc n)))) h) : wm (mp_P fx) d 300 [.int (nI n)] h Q := by
  simp only [e300, q300_0, q300_1i, q300_2, q300_3i, isl_i, isl_r, isl_n]
  have key : ∀ (m k : Nat), k + m = 7 → ww (mp_P fx) d 300 4 [some (.int (nI n)), some (.int (nI (cn (fun i => n.testBit i) k))), some (.int (nI k))] [] h Q := by
    intro m
    induction m with
    | zero =>
      intro k hk
      have hk2 : k = 7 := by omega
      subst hk2
      rw [q300_4]
      simp only [q300_5, q300_7, q300_24, q300_25]
      rw [if_pos (by decide)]
      exact hq
    | succ m ih =>
      intro k hk
      have hgo := ih (k + 1) (by omega)
      rw [cn] at hgo
      rw [q300_4]
      simp only [q300_5, q300_7, q300_10, q300_11, q300_12, q300_13, q300_14, q300_15, q300_16, q300_17i, q300_18i, q300_21, isl_i, isl_r, isl_n, k7_bit0 n hn k (show k < 7 by omega), nI_add, nI_1]
      rw [nl_7, if_neg (by rw [nI_leI (by omega) (by omega)]; omega)]
      exact hgo
  exact key 7 0 (by omega)
theorem tm_least (hK : KM nm s mQ) (hE : KE mE mR) (hc : c_ok s c) (hS : SCm s mS.1 c) (hg : mS.2.2.2.2.2.2.2 = -1) (hq : ∀ mE' mR', KE mE' mR' → Q (some (.int (sp_least s c))) (pm_h z X Y (pm_l ((0, mV.2.1, mV.2.2.1, mV.2.2.2)) mT mQ mO (mE') mB mS (mR') mW))) : wm (mp_P fx) (d + 5) 299 [.ref 149] (pm_h z X Y (pm_l mV mT mQ mO mE mB mS mR mW)) Q := by
  have ho := hK.2.2.1
  have hW := ho.1.2.2.2.1
  have hs9 := hS.1
  have hp1 := hS.2.2.1
  have h128 : c.2.1 < 128 := Nat.lt_of_lt_of_le hc.2.1 (p27 hW)
  unfold sp_least at hq
  rw [lA_same ho hc] at hq
  have hend : lf (lA s c c.2.1) 128 = lf (lA s c c.2.1) (c.2.1 + 1) := by
    have h := lf_ext (A := lA s c c.2.1) (a := c.2.1 + 1) (127 - c.2.1) (fun k h1 h2 => by
      unfold lA
      rw [decide_eq_false (fun z => by
        have hz := (k7_sub k (by omega) _ h128).mp z
        have : k &&& c.2.1 = k := by
          apply Nat.eq_of_testBit_eq
          intro i
          rw [Nat.testBit_and]
          by_cases hi : i < 7
          · cases e : k.testBit i with
            | false => rfl
            | true => rw [hz i hi e]; rfl
          · rw [Nat.testBit_lt_two_pow (Nat.lt_of_lt_of_le (show k < 2 ^ 7 by omega) (Nat.pow_le_pow_right (by omega) (show 7 ≤ i by omega)))]; rfl
        have h3 : k &&& c.2.1 ≤ c.2.1 := Nat.and_le_right
        omega), Bool.false_and])
    rw [show c.2.1 + 1 + (127 - c.2.1) = 128 by omega] at h
    exact h
  rw [hend] at hq
  simp only [e299, q299_0, q299_1, q299_2, q299_5, q299_6, q299_9, q299_10, q299_11r, q299_12, q299_13i, q299_14, q299_15i, mc_o, mg_thrown, mf_thrown, mg_s, ma_s, mb_s, mn_s, wx_some, wx_ref, isl_i, isl_r, isl_n, show aG (mS.1) 1 = some (nI c.2.1) from aG_n hp1 (by omega)]
  have key : ∀ (m k : Nat) (b : Int32) (r : List Int32) (mE' : pm_E) (mR' : pm_R), k + m = c.2.1 + 1 → KE mE' mR' → r.length = 9 → (∀ x, r.set 1 x = (mS.1).set 1 x) → (lf (lA s c c.2.1) k = none ∧ b = -1 ∨ ∃ x, lf (lA s c c.2.1) k = some x ∧ b = nI x ∧ x < 128) → ww (mp_P fx) (d + 5) 299 16 [some (.ref 149), some (.int (nI c.2.1)), some (.int b), some (.int (nI k))] [] (pm_h z X Y (pm_l ((0, mV.2.1, mV.2.2.1, mV.2.2.2)) mT mQ mO (mE') mB ((r, mS.2.1, mS.2.2.1, mS.2.2.2.1, mS.2.2.2.2.1, mS.2.2.2.2.2.1, mS.2.2.2.2.2.2.1, mS.2.2.2.2.2.2.2)) (mR') mW)) Q := by
    intro m
    induction m with
    | zero =>
      intro k b r mE' mR' hk hE' hr9 hr hI
      have hk2 : k = c.2.1 + 1 := by omega
      subst hk2
      have hsame : r.set 1 (nI c.2.1) = mS.1 := by
        rw [hr]
        apply List.ext_getElem?
        intro j
        rw [List.getElem?_set]
        by_cases ej : 1 = j
        · subst ej; rw [if_pos rfl, if_pos (by omega)]; exact hp1.symm
        · rw [if_neg ej]
      rw [q299_16]
      simp only [q299_17, q299_18, q299_94, q299_95, q299_98, q299_99, q299_100, q299_101, q299_102, mc_o, mg_s, ma_s, mb_s, mn_s, wx_some, wx_ref, show ∀ x (f : List Int32 → mm_H), aS r 1 x f = some (f (r.set 1 x)) from fun x f => aS_n (j := 1) (by omega) (by omega), hsame]
      rw [if_pos (by rw [nI_ltI (by omega) (by omega)]; omega)]
      have hqq := hq mE' mR' hE'
      rcases hI with ⟨e1, e2⟩ | ⟨x, e1, e2, -⟩
      · rw [e1] at hqq; rw [e2]; exact hqq
      · rw [e1] at hqq; rw [e2]; exact hqq
    | succ m ih =>
      intro k b r mE' mR' hk hE' hr9 hr hI
      have hk128 : k < 128 := by omega
      have hal := k7_andn k hk128 _ h128
      have hskip : (∀ x, lf (lA s c c.2.1) k = some x → ¬ (lA s c c.2.1 k = true ∧ bc k < bc x)) → (lf (lA s c c.2.1) k = none → ¬ lA s c c.2.1 k = true) → ∀ r2 mE2 mR2, KE mE2 mR2 → r2.length = 9 → (∀ x, r2.set 1 x = (mS.1).set 1 x) → ww (mp_P fx) (d + 5) 299 88 [some (.ref 149), some (.int (nI c.2.1)), some (.int b), some (.int (nI k))] [] (pm_h z X Y (pm_l ((0, mV.2.1, mV.2.2.1, mV.2.2.2)) mT mQ mO (mE2) mB ((r2, mS.2.1, mS.2.2.1, mS.2.2.2.1, mS.2.2.2.2.1, mS.2.2.2.2.2.1, mS.2.2.2.2.2.2.1, mS.2.2.2.2.2.2.2)) (mR2) mW)) Q := by
        intro hno1 hno2 r2 mE2 mR2 hE2 h29 h2r
        simp only [q299_88i, q299_91, isl_i, isl_r, isl_n, nl_1, nI_add]
        refine ih (k + 1) b r2 mE2 mR2 (by omega) hE2 h29 h2r ?_
        rw [lf]
        rcases hI with ⟨e1, e2⟩ | ⟨x, e1, e2, e3⟩
        · rw [e1]
          simp only []
          rw [if_neg (hno2 e1)]
          exact Or.inl ⟨rfl, e2⟩
        · rw [e1]
          simp only []
          rw [if_neg (hno1 x e1)]
          exact Or.inr ⟨x, rfl, e2, e3⟩
      have hgo : k &&& (127 ^^^ c.2.1) = 0 → (∀ x, lf (lA s c c.2.1) k = some x → bc k < bc x) → ww (mp_P fx) (d + 5) 299 47 [some (.ref 149), some (.int (nI c.2.1)), some (.int b), some (.int (nI k))] [] (pm_h z X Y (pm_l ((0, mV.2.1, mV.2.2.1, mV.2.2.2)) mT mQ mO (mE') mB ((r, mS.2.1, mS.2.2.1, mS.2.2.2.1, mS.2.2.2.2.1, mS.2.2.2.2.2.1, mS.2.2.2.2.2.2.1, mS.2.2.2.2.2.2.2)) (mR') mW)) Q := by
        intro es hbx
        have hS2 : SCm s (r.set 1 (nI (c.2.1 &&& (127 ^^^ k)))) (c.1, c.2.1 &&& (127 ^^^ k), c.2.2) := by rw [hr]; exact SCm_open hS
        have h29 : (r.set 1 (nI (c.2.1 &&& (127 ^^^ k)))).length = 9 := by rw [List.length_set]; exact hr9
        have h2r : ∀ x, (r.set 1 (nI (c.2.1 &&& (127 ^^^ k)))).set 1 x = (mS.1).set 1 x := fun x => by rw [List.set_set]; exact hr x
        have hL := sp_list_ok (sh := 0) (g := sp_gust s c.1) ho (c_shut (sh := k) hc)
        have hll : sp_list s (c.1, c.2.1 &&& (127 ^^^ k), c.2.2) 0 (sp_gust s c.1) = sp_list s c k (sp_gust s c.1) := sp_list_shut ho hk128
        have hnoA : sp_one s (sp_list s c k (sp_gust s c.1)) = false → ¬ lA s c c.2.1 k = true := fun h z => by
          unfold lA at z
          rw [h, Bool.and_false] at z
          cases z
        have hyesA : sp_one s (sp_list s c k (sp_gust s c.1)) = true → lA s c c.2.1 k = true := fun h => by
          unfold lA; rw [decide_eq_true es, h]; rfl
        simp only [q299_47, q299_48, q299_51, q299_52, q299_53, q299_54, q299_55, q299_56, q299_57, q299_58, q299_59, mc_o, mg_s, ma_s, mb_s, mn_s, wx_some, wx_ref, k7_and _ h128 k hk128, show ∀ x (f : List Int32 → mm_H), aS r 1 x f = some (f (r.set 1 x)) from fun x f => aS_n (j := 1) (by omega) (by omega)]
        apply tm_looks (mS := (r.set 1 (nI (c.2.1 &&& (127 ^^^ k))), mS.2.1, mS.2.2.1, mS.2.2.2.1, mS.2.2.2.2.1, mS.2.2.2.2.2.1, mS.2.2.2.2.2.2.1, mS.2.2.2.2.2.2.2)) hK.1 hK.2.1 ho (c_shut hc) hS2 hE'.1 (Or.inl ⟨hg, rfl⟩) hE'.2
        intro mE2 mR2 hE2 hR2 _ _
        rw [show sp_list s (c.1, c.2.1 &&& (127 ^^^ k), c.2.2) 0 (sp_gust s (c.1, c.2.1 &&& (127 ^^^ k), c.2.2).1) = sp_list s c k (sp_gust s c.1) from hll] at hR2
        rw [hll] at hL
        generalize sp_list s c k (sp_gust s c.1) = L at *
        obtain ⟨k1, -, -⟩ := snk_ok L L.length
        have h7 := hL.1
        simp only [sl_n, q299_62, q299_63, q299_66, q299_67, q299_70, q299_73, q299_74, q299_75, mc_o, mg_sentences, mf_sentences, wx_some, wx_ref, hR2.2.2.2.1]
        by_cases e1 : (snk L L.length).1 = 1
        · rw [if_pos (by rw [e1]; rfl), nl_0]
          apply tm_lays hK.1 ho hR2 hL (show 0 < (snk L L.length).1 by omega)
          intro mR3 hR3 hT h1 h77 h0
          simp only [sl_n, q299_78, q299_79, mc_o]
          apply tm_whole hK.1 ho h1 h77 hR3.1 hT.1 h0 (hT.2.2 0 _ (by omega) (by omega))
          have hwl := wy_lt (t := sp_text L 0) ho (p := sp_tlen L 0 - 1) (i := 0) (y := k_sy s) (by omega)
          simp only [sl_i, q299_82, q299_83, q299_86, q299_87i, isl_i, isl_r, isl_n]
          by_cases ew : sp_ways s L 0 = 1
          · have hA := hyesA (by unfold sp_one; rw [decide_eq_true e1, decide_eq_true ew]; rfl)
            rw [if_neg (fun z => z (by rw [show wy s (sp_text L 0) (sp_tlen L 0 - 1) 0 (k_sy s) = 1 from ew]; rfl))]
            simp only [q299_88i, q299_91, isl_i, isl_r, isl_n, nl_1, nI_add]
            refine ih (k + 1) (nI k) _ mE2 mR3 (by omega) ⟨hE2, hR3.1⟩ h29 h2r ?_
            rw [lf]
            rcases hI with ⟨g1, g2⟩ | ⟨x, g1, g2, g3⟩
            · rw [g1]
              simp only []
              rw [if_pos hA]
              exact Or.inr ⟨k, rfl, rfl, hk128⟩
            · rw [g1]
              simp only []
              rw [if_pos ⟨hA, hbx x g1⟩]
              exact Or.inr ⟨k, rfl, rfl, hk128⟩
          · have hA := hnoA (by unfold sp_one; rw [decide_eq_false ew, Bool.and_false])
            rw [nl_1, if_pos (by rw [nI_eq hwl (by omega)]; exact ew)]
            exact hskip (fun x _ z => hA z.1) (fun _ => hA) _ mE2 mR3 ⟨hE2, hR3.1⟩ h29 h2r
        · have hA := hnoA (by unfold sp_one; rw [decide_eq_false e1, Bool.false_and])
          rw [nl_1, if_neg (by rw [nI_eq (by omega) (by omega)]; exact e1)]
          exact hskip (fun x _ z => hA z.1) (fun _ => hA) _ mE2 mR2 ⟨hE2, hR2.1⟩ h29 h2r
      rw [q299_16]
      simp only [q299_17, q299_18, q299_21, q299_22, q299_23, q299_24, q299_25, q299_26, q299_29, q299_30, q299_33, q299_34, k7_and k hk128 _ h128]
      rw [if_neg (by rw [nI_ltI (by omega) (by omega)]; omega)]
      by_cases es : k &&& (127 ^^^ c.2.1) = 0
      · rw [if_neg (by rw [es]; exact fun z => z rfl)]
        rcases hI with ⟨g1, g2⟩ | ⟨x, g1, g2, g3⟩
        · rw [g2, if_pos (by decide)]
          have h := hgo es (fun x hx => by rw [g1] at hx; cases hx)
          rw [g2] at h
          exact h
        · subst g2
          rw [if_neg (by rw [nl_0, nI_ltI (by omega) (by omega)]; omega)]
          apply tm_bits hk128
          simp only [sl_i, q299_37, q299_38]
          apply tm_bits g3
          have hb1 := bc_le k
          have hb2 := bc_le x
          simp only [sl_i, q299_41, q299_44]
          by_cases eb : bc k < bc x
          · rw [if_pos (by rw [nI_ltI (by omega) (by omega)]; exact eb)]
            exact hgo es (fun y hy => by rw [g1] at hy; cases hy; exact eb)
          · rw [if_neg (by rw [nI_ltI (by omega) (by omega)]; exact eb)]
            exact hskip (fun y hy z => by rw [g1] at hy; cases hy; exact eb z.2) (fun h => by rw [g1] at h; cases h) r mE' mR' hE' hr9 hr
      · have hA : ¬ lA s c c.2.1 k = true := fun z => by
          unfold lA at z
          exact es (of_decide_eq_true (Bool.and_eq_true_iff.mp z).1)
        rw [if_pos (by rw [nl_0, nI_eq (by omega) (by omega)]; exact es)]
        exact hskip (fun x _ z => hA z.1) (fun _ => hA) r mE' mR' hE' hr9 hr
  exact key (c.2.1 + 1) 0 (-1) mS.1 mE mR (by omega) hE hs9 (fun x => rfl) (Or.inl ⟨rfl, rfl⟩)
end ML2
