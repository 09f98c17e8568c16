/-! a day judged -/
def sp_fresh (s : SQ) : SC := (0, 2 ^ k_nW s - 1, k_st s)
def sp_obey (s : SQ) (l : Nat × Nat × Nat) (c : SC) : SC × Bool := if l.1 = 0 then (sp_on s c, true) else if l.1 = 1 then (sp_put c l.2.1 (sp_behind (c.2.2 l.2.1) l.2.2), !decide (sp_behind (c.2.2 l.2.1) l.2.2 = c.2.2 l.2.1)) else if l.1 = 2 then ((c.1, c.2.1 &&& (127 ^^^ 2 ^ l.2.1), c.2.2), c.2.1.testBit l.2.1) else ((c.1, c.2.1 ||| 2 ^ l.2.1, c.2.2), !c.2.1.testBit l.2.1)
def sp_run (s : SQ) (b : BK) : Nat → SC
  | 0 => sp_fresh s
  | i + 1 => (sp_obey s (b.1.2 i) (sp_run s b i)).1
def ffl (P : Nat → Bool) : Nat → Option Nat
  | 0 => none
  | n + 1 => match ffl P n with
    | some m => some m
    | none => if P n = true then some n else none
theorem ffl_none {P : Nat → Bool} : ∀ n, (∀ j, j < n → P j = false) → ffl P n = none := by
  intro n
  induction n with
  | zero => intro _; rfl
  | succ n ih =>
    intro h
    rw [ffl, ih (fun j hj => h j (by omega))]
    simp only []
    rw [if_neg (by rw [h n (by omega)]; exact Bool.false_ne_true)]
theorem ffl_at {P : Nat → Bool} {i : Nat} (h0 : ∀ j, j < i → P j = false) (h1 : P i = true) : ∀ n, i < n → ffl P n = some i := by
  intro n
  induction n with
  | zero => intro h; omega
  | succ n ih =>
    intro h
    rw [ffl]
    by_cases e : i = n
    · subst e
      rw [ffl_none _ h0]
      simp only []
      rw [if_pos h1]
    · rw [ih (by omega)]
def io (o : Option Nat) : Int32 := match o with
  | none => -1
  | some n => nI n
def sp_judged (s : SQ) (b : BK) (k : Nat) : Int32 := if k = 0 then io (ffl (fun i => !(sp_obey s (b.1.2 i) (sp_run s b i)).2) b.1.1) else if k = 1 then io (ffl (fun i => decide (0 < sp_sd s (sp_run s b (i + 1)))) b.1.1) else nI (sp_sd s (sp_run s b b.1.1))
theorem k7_shm : ∀ n, n ≤ 7 → ((1 : Int32) <<< (nI n &&& 31)) - 1 = nI (2 ^ n - 1) := by decide
theorem c_fresh {s : SQ} (ho : k_ok s) : c_ok s (sp_fresh s) := ⟨by show 0 < 2 ^ 20; omega, by show 2 ^ k_nW s - 1 < 2 ^ k_nW s; have := Nat.two_pow_pos (k_nW s); omega, fun w hw => (ho.2.2.2.1 w hw).2.2.1⟩
theorem c_or {s : SQ} {c : SC} {w : Nat} (hc : c_ok s c) (hw : w < k_nW s) : c_ok s (c.1, c.2.1 ||| 2 ^ w, c.2.2) := ⟨hc.1, Nat.or_lt_two_pow hc.2.1 (Nat.pow_lt_pow_right (by omega) hw), hc.2.2⟩
theorem c_obey {s : SQ} {c : SC} {l : Nat × Nat × Nat} (hc : c_ok s c) (hh : c.1 + 1 < 2 ^ 20) (hw : ¬ l.1 = 0 → l.2.1 < k_nW s) : c_ok s (sp_obey s l c).1 ∧ (sp_obey s l c).1.1 ≤ c.1 + 1 := by
  unfold sp_obey
  by_cases e0 : l.1 = 0
  · rw [if_pos e0]; exact ⟨c_on hc hh, Nat.le_refl _⟩
  · rw [if_neg e0]
    have hw := hw e0
    by_cases e1 : l.1 = 1
    · rw [if_pos e1]; exact ⟨c_put hc (sp_behind_lt (hc.2.2 _ hw)), by show c.1 ≤ c.1 + 1; omega⟩
    · rw [if_neg e1]
      by_cases e2 : l.1 = 2
      · rw [if_pos e2]; exact ⟨c_shut hc, by show c.1 ≤ c.1 + 1; omega⟩
      · rw [if_neg e2]; exact ⟨c_or hc hw, by show c.1 ≤ c.1 + 1; omega⟩
theorem c_run {s : SQ} {b : BK} (ho : k_ok s) (hb : b_ok s b) : ∀ i, i ≤ b.1.1 → c_ok s (sp_run s b i) ∧ (sp_run s b i).1 ≤ i := by
  intro i
  induction i with
  | zero => intro _; exact ⟨c_fresh ho, Nat.le_refl _⟩
  | succ i ih =>
    intro hi
    obtain ⟨h1, h2⟩ := ih (by omega)
    have h40 := hb.1.1
    obtain ⟨g1, g2⟩ := c_obey (l := b.1.2 i) h1 (by omega) (hb.1.2 i (by omega)).2.2.2.1
    exact ⟨g1, by show (sp_obey s (b.1.2 i) (sp_run s b i)).1.1 ≤ i + 1; omega⟩
theorem k_l0 : ∀ k, k < 4 → ∀ w, w < 8 → ∀ t, t < 3 → nI (k + 4 * w + 32 * t) &&& 3 = nI k ∧ (nI (k + 4 * w + 32 * t) >>> (2 &&& 31)) &&& 7 = nI w ∧ nI (k + 4 * w + 32 * t) >>> (5 &&& 31) = nI t := by decide +kernel
section TJ
variable {fx : List Value → mm_H → Option (List Value × mm_H)} {z : Nat} {E M : Nat → mm_C} {sw c2 w2 : Bool} {T : px_T} {D : px_D} {S : px_S} {S1 : px_S} {K : px_K} {R : px_R} {C : px_C} {W : px_W} {U : px_U} {q : px_q} {q1 : px_q} {B0 : px_K} {B1 : px_K} {B2 : px_K} {B3 : px_K} {T_signs : List Int32} {T_length : Int32} {T_fault : Int32} {T_types : List Int32} {T_starts : List Int32} {T_values : List Int64} {T_tokens : Int32} {T_at : Int32} {T_behind : Int32} {S_hour : Int32} {S_open : Int32} {S_places : List Int32} {S1_hour : Int32} {S1_open : Int32} {S1_places : List Int32} {K_lines : List Int32} {K_lineCount : Int32} {K_wishes : List Int32} {K_wishCount : Int32} {K_sights : List Int32} {K_sightCount : Int32} {R_shown : List Int32} {R_length : Int32} {R_readers : Int32} {R_begins : List Int32} {R_lengths : List Int32} {R_sentences : Int32} {R_order : List Int32} {R_able : Int32} {R_standing : List Int32} {R_lovers : List Int32} {R_lowest : List Int32} {C_ways : List Int32} {C_rows : List Int32} {C_shallower : List Int32} {C_length : Int32} {C_goal : Int32} {W_row : List Int32} {W_walkers : Int32} {W_names : Int32} {W_wanted : List Int32} {W_shown : List Int32} {W_places : List Int32} {W_rest : List Int32} {W_spent : List Int32} {W_tried : List Int32} {U_undoRows : List Int64} {U_markScenes : List Int64} {U_marksLaid : List Int32} {U_undoCount : Int32} {U_undoEnd : Int32} {q_sortNames : List Int64} {q_sortCount : Int32} {q_colourNames : List Int64} {q_colourSorts : List Int32} {q_colourCount : Int32} {q_ruleMakes : List Int32} {q_ruleFirsts : List Int32} {q_ruleSeconds : List Int32} {q_ruleCount : Int32} {q_saysSort : Int32} {q_walkerNames : List Int64} {q_kinds : List Int32} {q_walkerColours : List Int32} {q_starts : List Int32} {q_stepRows : List Int32} {q_stepCounts : List Int32} {q_walkerCount : Int32} {q_gusts : List Int32} {q_gustCount : Int32} {q_parts : List Int32} {q_count : Int32} {q_stack : List Int32} {q_height : Int32} {q1_sortNames : List Int64} {q1_sortCount : Int32} {q1_colourNames : List Int64} {q1_colourSorts : List Int32} {q1_colourCount : Int32} {q1_ruleMakes : List Int32} {q1_ruleFirsts : List Int32} {q1_ruleSeconds : List Int32} {q1_ruleCount : Int32} {q1_saysSort : Int32} {q1_walkerNames : List Int64} {q1_kinds : List Int32} {q1_walkerColours : List Int32} {q1_starts : List Int32} {q1_stepRows : List Int32} {q1_stepCounts : List Int32} {q1_walkerCount : Int32} {q1_gusts : List Int32} {q1_gustCount : Int32} {q1_parts : List Int32} {q1_count : Int32} {q1_stack : List Int32} {q1_height : Int32} {B0_lines : List Int32} {B0_lineCount : Int32} {B0_wishes : List Int32} {B0_wishCount : Int32} {B0_sights : List Int32} {B0_sightCount : Int32} {B1_lines : List Int32} {B1_lineCount : Int32} {B1_wishes : List Int32} {B1_wishCount : Int32} {B1_sights : List Int32} {B1_sightCount : Int32} {B2_lines : List Int32} {B2_lineCount : Int32} {B2_wishes : List Int32} {B2_wishCount : Int32} {B2_sights : List Int32} {B2_sightCount : Int32} {B3_lines : List Int32} {B3_lineCount : Int32} {B3_wishes : List Int32} {B3_wishCount : Int32} {B3_sights : List Int32} {B3_sightCount : Int32}
variable {d : Nat} {Q : Option Value → mm_H → Prop} {s : SQ} {c : SC} {nm : NMs} {b : BK}
theorem t_beginS1 (hs : SQx q s) (ho : k_ok s) (hl1 : (S1.2.2).length = 7) (hq : ∀ S', SCx s S' (sp_fresh s) → Q none (px_h z E M (px_l sw c2 w2 T D S (S') K R C W U q q1 B0 B1 B2 B3))) : wm (mp_P fx) d 91 [.ref 69, .ref (px_ta sw)] (px_h z E M (px_l sw c2 w2 T D S S1 K R C W U q q1 B0 B1 B2 B3)) Q := by
  have h7 := ho.1.2.2.2.1
  have hrg := hs.1.2.2.2.2.2.2.2.2.2.2.2.2.2.2
  have hst := hs.2.2.2.2.1.2.2.1
  have hl := hrg.1
  have hcp : mm_cpy (px_h z E M (px_l sw c2 w2 T D S ((0, nI (2 ^ k_nW s - 1), S1.2.2)) K R C W U q q1 B0 B1 B2 B3)) (px_ta sw + 10) 0 70 0 7 = some (px_h z E M (px_l sw c2 w2 T D S ((0, nI (2 ^ k_nW s - 1), (q.2.2.2.2.2.2.2.2.2.2.2.2.2.1).take 7)) K R C W U q q1 B0 B1 B2 B3)) := cpy_x (n := 7) pk_q_starts pk_S1_places hl1 (by omega) (by omega) (px_set (i := 11) (by decide) px_ll)
  rw [List.take_of_length_le (by omega)] at hcp
  simp only [e91, q91_0, q91_1, q91_2, q91_5, q91_6, q91_7, q91_8, q91_11, q91_12, q91_13, q91_14, q91_17, q91_18, q91_21, q91_22, q91_23, q91_26, q91_27, q91_29, q91_32, xc_S1, xg_S1_0, xs_S1_0, xg_S1_1, xs_S1_1, xg_S1_2, xa_S1_places, xb_S1_places, xn_S1_places, xc_q, xg_q_0, xg_q_1, xs_q_1, xg_q_2, xg_q_3, xg_q_4, xs_q_4, xg_q_5, xg_q_6, xg_q_7, xg_q_8, xs_q_8, xg_q_9, xs_q_9, xg_q_10, xg_q_11, xg_q_12, xg_q_13, xg_q_14, xg_q_15, xg_q_16, xs_q_16, xg_q_17, xg_q_18, xs_q_18, xg_q_19, xa_q_sortNames, xb_q_sortNames, xn_q_sortNames, xa_q_colourNames, xb_q_colourNames, xn_q_colourNames, xa_q_colourSorts, xb_q_colourSorts, xn_q_colourSorts, xa_q_ruleMakes, xb_q_ruleMakes, xn_q_ruleMakes, xa_q_ruleFirsts, xb_q_ruleFirsts, xn_q_ruleFirsts, xa_q_ruleSeconds, xb_q_ruleSeconds, xn_q_ruleSeconds, xa_q_walkerNames, xb_q_walkerNames, xn_q_walkerNames, xa_q_kinds, xb_q_kinds, xn_q_kinds, xa_q_walkerColours, xb_q_walkerColours, xn_q_walkerColours, xa_q_starts, xb_q_starts, xn_q_starts, xa_q_stepRows, xb_q_stepRows, xn_q_stepRows, xa_q_stepCounts, xb_q_stepCounts, xn_q_stepCounts, xa_q_gusts, xb_q_gusts, xn_q_gusts, xc_ql, xg_ql_0, xg_ql_1, xs_ql_1, xg_ql_2, xg_ql_3, xs_ql_3, xa_q_parts, xb_q_parts, xn_q_parts, xa_q_stack, xb_q_stack, xn_q_stack, wx_some, wx_ref, hs.2.1.2.2.2.1, k7_shm _ h7, hcp]
  exact hq _ ⟨rfl, rfl, hrg, hst⟩
theorem t_obey {l : Nat × Nat × Nat} (hs : SQx q s) (ho : k_ok s) (hc : c_ok s c) (hS : SCx s S1 c) (h4 : l.1 < 4) (h8 : l.2.1 < 8) (h3 : l.2.2 < 3) (hw : ¬ l.1 = 0 → l.2.1 < k_nW s) (h0 : l.1 = 1 → 0 < l.2.2) (hq : ∀ S', SCx s S' (sp_obey s l c).1 → Q (some (.int (if (sp_obey s l c).2 = true then 1 else 0))) (px_h z E M (px_l sw c2 w2 T D S (S') K R C W U q q1 B0 B1 B2 B3))) : wm (mp_P fx) (d + 2) 147 [.ref 69, .ref (px_ta sw), .int (nI (b_ln l))] (px_h z E M (px_l sw c2 w2 T D S S1 K R C W U q q1 B0 B1 B2 B3)) Q := by
  have h7 := ho.1.2.2.2.1
  obtain ⟨kd, w, st⟩ := l
  simp only [] at h4 h8 h3 hw h0
  obtain ⟨k1, k2, k3⟩ := k_l0 kd h4 w h8 st h3
  unfold sp_obey at hq
  simp only [] at hq
  unfold b_ln
  simp only [e147, b147_0, b147_1, bn_0 b147_0, bn_1 b147_1, q147_0, q147_1, q147_2, q147_3i, q147_4, q147_5, q147_6, q147_7, q147_9, q147_10i, q147_12, q147_13, q147_14, q147_15i, q147_17, q147_18, q147_21, q147_22, isl_i, isl_r, isl_n, k1, k2, k3]
  by_cases e0 : kd = 0
  · subst e0
    rw [if_pos rfl] at hq
    rw [if_neg (fun z => z rfl)]
    simp only [b147_0, b147_1, bn_0 b147_0, bn_1 b147_1, q147_23, xc_S1, xg_S1_0, xs_S1_0, xg_S1_1, xs_S1_1, xg_S1_2, xa_S1_places, xb_S1_places, xn_S1_places]
    apply t_goOnS1 hs ho hc hS
    intro S' hS'
    simp only [sl_n, b147_0, b147_1, bn_0 b147_0, bn_1 b147_1, q147_26, q147_27]
    exact hq S' hS'
  replace hw := hw e0
  rw [if_neg e0] at hq
  rw [if_pos (nI_ne0 (by omega) (by omega))]
  simp only [b147_0, b147_1, bn_0 b147_0, bn_1 b147_1, q147_28, q147_30, q147_31, q147_34, q147_37, q147_38, q147_39, q147_40, q147_41, q147_44, q147_45, q147_47, xc_q, xg_q_0, xg_q_1, xs_q_1, xg_q_2, xg_q_3, xg_q_4, xs_q_4, xg_q_5, xg_q_6, xg_q_7, xg_q_8, xs_q_8, xg_q_9, xs_q_9, xg_q_10, xg_q_11, xg_q_12, xg_q_13, xg_q_14, xg_q_15, xg_q_16, xs_q_16, xg_q_17, xg_q_18, xs_q_18, xg_q_19, xa_q_sortNames, xb_q_sortNames, xn_q_sortNames, xa_q_colourNames, xb_q_colourNames, xn_q_colourNames, xa_q_colourSorts, xb_q_colourSorts, xn_q_colourSorts, xa_q_ruleMakes, xb_q_ruleMakes, xn_q_ruleMakes, xa_q_ruleFirsts, xb_q_ruleFirsts, xn_q_ruleFirsts, xa_q_ruleSeconds, xb_q_ruleSeconds, xn_q_ruleSeconds, xa_q_walkerNames, xb_q_walkerNames, xn_q_walkerNames, xa_q_kinds, xb_q_kinds, xn_q_kinds, xa_q_walkerColours, xb_q_walkerColours, xn_q_walkerColours, xa_q_starts, xb_q_starts, xn_q_starts, xa_q_stepRows, xb_q_stepRows, xn_q_stepRows, xa_q_stepCounts, xb_q_stepCounts, xn_q_stepCounts, xa_q_gusts, xb_q_gusts, xn_q_gusts, xc_ql, xg_ql_0, xg_ql_1, xs_ql_1, xg_ql_2, xg_ql_3, xs_ql_3, xa_q_parts, xb_q_parts, xn_q_parts, xa_q_stack, xb_q_stack, xn_q_stack, xc_S1, xg_S1_0, xs_S1_0, xg_S1_1, xs_S1_1, xg_S1_2, xa_S1_places, xb_S1_places, xn_S1_places, wx_some, wx_ref, hs.2.1.2.2.2.1]
  rw [if_pos (by rw [nI_ltI (by omega) (by omega)]; exact hw)]
  by_cases e1 : kd = 1
  · subst e1
    rw [if_pos rfl] at hq
    have h0 := h0 rfl
    rw [if_neg (fun z => z rfl)]
    have hbeh : sp_beh (c.2.2 w) (nI st) = sp_behind (c.2.2 w) st := by
      have h12 : st = 1 ∨ st = 2 := by omega
      rcases h12 with h | h
      · subst h; exact if_pos rfl
      · subst h; exact (if_neg (by decide)).trans (if_pos rfl)
    simp only [b147_0, b147_1, bn_0 b147_0, bn_1 b147_1, q147_49, xc_S1, xg_S1_0, xs_S1_0, xg_S1_1, xs_S1_1, xg_S1_2, xa_S1_places, xb_S1_places, xn_S1_places]
    apply t_canStepS1 hc hS hw h7
    simp only [sl_i, b147_0, b147_1, bn_0 b147_0, bn_1 b147_1, q147_52i, q147_54, q147_55, q147_57, q147_59, xc_S1, xg_S1_0, xs_S1_0, xg_S1_1, xs_S1_1, xg_S1_2, xa_S1_places, xb_S1_places, xn_S1_places, isl_i, isl_r, isl_n]
    apply t_stepAsideS1 hc hS hw h7
    intro S' hS'
    rw [hbeh] at hS' ⊢
    have hqq := hq S' hS'
    by_cases e : sp_behind (c.2.2 w) st = c.2.2 w
    · rw [decide_eq_true e, Bool.not_true, if_neg Bool.false_ne_true] at hqq
      rw [if_pos e]; simp only [sl_n, b147_0, b147_1, bn_0 b147_0, bn_1 b147_1, q147_62, q147_64]; exact hqq
    · rw [decide_eq_false e, Bool.not_false, if_pos rfl] at hqq
      rw [if_neg e]; simp only [sl_n, b147_0, b147_1, bn_0 b147_0, bn_1 b147_1, q147_62, q147_64]; exact hqq
  rw [if_neg e1] at hq
  rw [nl_1, if_pos (by rw [nI_eq (by omega) (by omega)]; exact e1)]
  simp only [b147_0, b147_1, bn_0 b147_0, bn_1 b147_1, q147_65, q147_66, q147_68, xc_S1, xg_S1_0, xs_S1_0, xg_S1_1, xs_S1_1, xg_S1_2, xa_S1_places, xb_S1_places, xn_S1_places]
  apply t_isOpenS1 ho hc hS hw
  by_cases e2 : kd = 2
  · subst e2
    rw [if_pos rfl] at hq
    have fin : ∀ can : Int32, can = (if c.2.1.testBit w = true then 1 else 0) → ww (mp_P fx) (d + 2) 147 91 [some (.ref 69), some (.ref (px_ta sw)), some (.int (nI (2 + 4 * w + 32 * st))), some (.int (nI 2)), some (.int (nI w)), some (.int (nI st)), some (.int can)] [] (px_h z E M (px_l sw c2 w2 T D S S1 K R C W U q q1 B0 B1 B2 B3)) Q := by
      intro can hcan
      simp only [b147_0, b147_1, bn_0 b147_0, bn_1 b147_1, q147_91, q147_92, q147_93, q147_96, q147_97, q147_99, xc_S1, xg_S1_0, xs_S1_0, xg_S1_1, xs_S1_1, xg_S1_2, xa_S1_places, xb_S1_places, xn_S1_places]
      rw [if_neg (fun z => z rfl)]
      apply t_closeS1 ho hc hS hw
      intro S' hS'
      have hqq := hq S' hS'
      rw [← hcan] at hqq
      have h01 : can = 0 ∨ can = 1 := by rw [hcan]; split <;> simp
      rcases h01 with h | h <;> (subst h; simp only [sl_n, b147_0, b147_1, bn_0 b147_0, bn_1 b147_1, q147_102, b147_0, b147_1, bn_0 b147_0, bn_1 b147_1, q147_111, q147_113]; exact hqq)
    simp only [sl_i, b147_0, b147_1, bn_0 b147_0, bn_1 b147_1, q147_71, q147_72, q147_73, q147_76, q147_77, q147_80, q147_81, q147_84, q147_85, q147_88, q147_89i, isl_i, isl_r, isl_n]
    rw [if_neg (fun z => z rfl)]
    by_cases eb : c.2.1.testBit w = true
    · rw [if_pos eb, if_neg (fun z => z rfl)]
      exact fin 1 (by rw [if_pos eb])
    · rw [if_neg eb, if_pos (by decide)]
      exact fin 0 (by rw [if_neg eb])
  · rw [if_neg e2] at hq
    have hk3 : ¬ nI kd = 2 := by rw [nl_2, nI_eq (by omega) (by omega)]; exact e2
    have fin : ∀ can : Int32, can = (if (!c.2.1.testBit w) = true then 1 else 0) → ww (mp_P fx) (d + 2) 147 91 [some (.ref 69), some (.ref (px_ta sw)), some (.int (nI (kd + 4 * w + 32 * st))), some (.int (nI kd)), some (.int (nI w)), some (.int (nI st)), some (.int can)] [] (px_h z E M (px_l sw c2 w2 T D S S1 K R C W U q q1 B0 B1 B2 B3)) Q := by
      intro can hcan
      simp only [b147_0, b147_1, bn_0 b147_0, bn_1 b147_1, q147_91, q147_92, q147_93, b147_0, b147_1, bn_0 b147_0, bn_1 b147_1, q147_105, q147_106, q147_108, xc_S1, xg_S1_0, xs_S1_0, xg_S1_1, xs_S1_1, xg_S1_2, xa_S1_places, xb_S1_places, xn_S1_places]
      rw [if_pos hk3]
      apply t_putUpS1 ho hc hS hw
      intro S' hS'
      have hqq := hq S' hS'
      rw [← hcan] at hqq
      have h01 : can = 0 ∨ can = 1 := by rw [hcan]; split <;> simp
      rcases h01 with h | h <;> (subst h; simp only [sl_n, b147_0, b147_1, bn_0 b147_0, bn_1 b147_1, q147_111, q147_113]; exact hqq)
    simp only [sl_i, b147_0, b147_1, bn_0 b147_0, bn_1 b147_1, q147_71, q147_72, q147_73, q147_76, q147_77, q147_80, q147_81, q147_84, q147_85, q147_88, q147_89i, isl_i, isl_r, isl_n]
    rw [if_pos hk3]
    by_cases eb : c.2.1.testBit w = true
    · rw [if_pos eb, if_pos (by decide)]
      exact fin 0 (by rw [eb]; rfl)
    · rw [if_neg eb, if_neg (by decide)]
      exact fin 1 (by rw [Bool.eq_false_iff.mpr eb]; rfl)
theorem t_judged {v : Int32} (hK : KX nm s q R C) (hb : b_ok s b) (hB : BKx b K) (hl1 : (S1.2.2).length = 7) (hq : ∀ q' R' C' S1', KX nm s q' R' C' → (S1'.2.2).length = 7 → Q (some (.int (match sx 3 v with
    | some k => sp_judged s b k
    | none => -2))) (px_h z E M (px_l sw c2 w2 T D S (S1') K (R') (C') W U (q') q1 B0 B1 B2 B3))) : wm (mp_P fx) (d + 6) 146 [.ref 59, .int v] (px_h z E M (px_l sw c2 w2 T D S S1 K R C W U q q1 B0 B1 B2 B3)) Q := by
  have ho := hK.2.2.1
  have h40 := hb.1.1
  obtain ⟨⟨g1, g2, g3⟩, -⟩ := id hB
  simp only [e146, q146_0, q146_1, q146_4, q146_5, q146_6, q146_9, q146_11, q146_12, q146_13, q146_16, q146_17, q146_20, xc_x, xg_x_0, xg_x_1, xg_x_2, xg_x_3, xg_x_4, xg_x_5, xg_x_6, xg_x_7, xg_x_8, xg_x_9, xg_x_10, xg_x_11, xg_x_12, xg_x_13, xg_x_14, xs_x_14, xg_x_15, xs_x_15, xc_S1, xg_S1_0, xs_S1_0, xg_S1_1, xs_S1_1, xg_S1_2, xa_S1_places, xb_S1_places, xn_S1_places, xc_q, xg_q_0, xg_q_1, xs_q_1, xg_q_2, xg_q_3, xg_q_4, xs_q_4, xg_q_5, xg_q_6, xg_q_7, xg_q_8, xs_q_8, xg_q_9, xs_q_9, xg_q_10, xg_q_11, xg_q_12, xg_q_13, xg_q_14, xg_q_15, xg_q_16, xs_q_16, xg_q_17, xg_q_18, xs_q_18, xg_q_19, xa_q_sortNames, xb_q_sortNames, xn_q_sortNames, xa_q_colourNames, xb_q_colourNames, xn_q_colourNames, xa_q_colourSorts, xb_q_colourSorts, xn_q_colourSorts, xa_q_ruleMakes, xb_q_ruleMakes, xn_q_ruleMakes, xa_q_ruleFirsts, xb_q_ruleFirsts, xn_q_ruleFirsts, xa_q_ruleSeconds, xb_q_ruleSeconds, xn_q_ruleSeconds, xa_q_walkerNames, xb_q_walkerNames, xn_q_walkerNames, xa_q_kinds, xb_q_kinds, xn_q_kinds, xa_q_walkerColours, xb_q_walkerColours, xn_q_walkerColours, xa_q_starts, xb_q_starts, xn_q_starts, xa_q_stepRows, xb_q_stepRows, xn_q_stepRows, xa_q_stepCounts, xb_q_stepCounts, xn_q_stepCounts, xa_q_gusts, xb_q_gusts, xn_q_gusts, xc_ql, xg_ql_0, xg_ql_1, xs_ql_1, xg_ql_2, xg_ql_3, xs_ql_3, xa_q_parts, xb_q_parts, xn_q_parts, xa_q_stack, xb_q_stack, xn_q_stack, wx_some, wx_ref, isl_i, isl_r, isl_n]
  rcases sx_c 3 v (by omega) with ⟨e, hv⟩ | ⟨k, hk, rfl, e⟩
  · have hqq := hq q R C S1 hK hl1
    rw [e] at hqq
    rcases hv with hv | ⟨hv, hv2⟩
    · rw [if_pos hv]; exact hqq
    · rw [if_neg hv, if_neg (Int32.not_le.mpr (Int32.lt_of_lt_of_le (by decide : (2 : Int32) < nI 3) hv2))]; exact hqq
  rw [e] at hq
  simp only [] at hq
  unfold sp_judged at hq
  rw [if_neg (by rw [nl_0, nI_ltI (by omega) (by omega)]; omega), nl_2, if_pos (by rw [nI_leI (by omega) (by omega)]; omega)]
  apply t_beginS1 hK.1 ho hl1
  intro S0 hS0
  simp only [sl_n, q146_23, q146_24i, isl_i, isl_r, isl_n]
  have key : ∀ (m i : Nat) (l3 : Option Value) (S1' : px_S) (q' : px_q) (R' : px_R) (C' : px_C), i + m = b.1.1 → KX nm s q' R' C' → SCx s S1' (sp_run s b i) → (k = 0 → ∀ j, j < i → (!(sp_obey s (b.1.2 j) (sp_run s b j)).2) = false) → (k = 1 → ∀ j, j < i → decide (0 < sp_sd s (sp_run s b (j + 1))) = false) → ww (mp_P fx) (d + 6) 146 25 [some (.ref 59), some (.int (nI k)), some (.int (nI i)), l3] [] (px_h z E M (px_l sw c2 w2 T D S (S1') K (R') (C') W U (q') q1 B0 B1 B2 B3)) Q := by
    intro m
    induction m with
    | zero =>
      intro i l3 S1' q' R' C' hi hK1 hS1 hk0 hk1
      have hi2 : i = b.1.1 := by omega
      subst hi2
      rw [q146_25]
      simp only [q146_26, q146_27, q146_30, q146_33, q146_91, q146_92, q146_93, q146_96, q146_97, q146_98, q146_101, q146_104, q146_107, q146_108, xc_x, xg_x_0, xg_x_1, xg_x_2, xg_x_3, xg_x_4, xg_x_5, xg_x_6, xg_x_7, xg_x_8, xg_x_9, xg_x_10, xg_x_11, xg_x_12, xg_x_13, xg_x_14, xs_x_14, xg_x_15, xs_x_15, xc_K, xg_K_0, xg_K_1, xs_K_1, xg_K_2, xg_K_3, xs_K_3, xg_K_4, xg_K_5, xs_K_5, xa_K_lines, xb_K_lines, xn_K_lines, xa_K_wishes, xb_K_wishes, xn_K_wishes, xa_K_sights, xb_K_sights, xn_K_sights, wx_some, wx_ref, g2]
      rw [if_pos (by rw [nI_leI (by omega) (by omega)]; omega)]
      have hk3 : k = 0 ∨ k = 1 ∨ k = 2 := by omega
      rcases hk3 with h | h | h
      · rw [if_pos h, ffl_none _ (hk0 h)] at hq
        subst h
        rw [if_pos (by decide)]
        exact hq q' R' C' S1' hK1 hS1.2.2.1.1
      · rw [if_neg (by omega), if_pos h, ffl_none _ (hk1 h)] at hq
        subst h
        rw [if_pos (by decide)]
        exact hq q' R' C' S1' hK1 hS1.2.2.1.1
      · rw [if_neg (by omega), if_neg (by omega)] at hq
        subst h
        rw [if_neg (by decide)]
        apply t_sdS1 hK1 (c_run ho hb _ (Nat.le_refl _)).1 hS1
        intro q2 R2 C2 hK2 _
        simp only [sl_i, q146_104, q146_107, q146_108]
        exact hq q2 R2 C2 S1' hK2 hS1.2.2.1.1
    | succ m ih =>
      intro i l3 S1' q' R' C' hi hK1 hS1 hk0 hk1
      obtain ⟨b1, b2, b3, b4, b5⟩ := hb.1.2 i (by omega)
      obtain ⟨hci, hhi⟩ := c_run ho hb i (by omega)
      obtain ⟨hcj, hhj⟩ := c_run ho hb (i + 1) (by omega)
      have gl := ag_G g3 (show (K.1).length < 2 ^ 31 by omega) (show i < b.1.1 by omega)
      rw [q146_25]
      simp only [q146_26, q146_27, q146_30, q146_33, q146_36, q146_37, q146_40, q146_41, q146_44, q146_45, q146_48, q146_51, q146_52, q146_53, xc_x, xg_x_0, xg_x_1, xg_x_2, xg_x_3, xg_x_4, xg_x_5, xg_x_6, xg_x_7, xg_x_8, xg_x_9, xg_x_10, xg_x_11, xg_x_12, xg_x_13, xg_x_14, xs_x_14, xg_x_15, xs_x_15, xc_K, xg_K_0, xg_K_1, xs_K_1, xg_K_2, xg_K_3, xs_K_3, xg_K_4, xg_K_5, xs_K_5, xa_K_lines, xb_K_lines, xn_K_lines, xa_K_wishes, xb_K_wishes, xn_K_wishes, xa_K_sights, xb_K_sights, xn_K_sights, xc_S1, xg_S1_0, xs_S1_0, xg_S1_1, xs_S1_1, xg_S1_2, xa_S1_places, xb_S1_places, xn_S1_places, xc_q, xg_q_0, xg_q_1, xs_q_1, xg_q_2, xg_q_3, xg_q_4, xs_q_4, xg_q_5, xg_q_6, xg_q_7, xg_q_8, xs_q_8, xg_q_9, xs_q_9, xg_q_10, xg_q_11, xg_q_12, xg_q_13, xg_q_14, xg_q_15, xg_q_16, xs_q_16, xg_q_17, xg_q_18, xs_q_18, xg_q_19, xa_q_sortNames, xb_q_sortNames, xn_q_sortNames, xa_q_colourNames, xb_q_colourNames, xn_q_colourNames, xa_q_colourSorts, xb_q_colourSorts, xn_q_colourSorts, xa_q_ruleMakes, xb_q_ruleMakes, xn_q_ruleMakes, xa_q_ruleFirsts, xb_q_ruleFirsts, xn_q_ruleFirsts, xa_q_ruleSeconds, xb_q_ruleSeconds, xn_q_ruleSeconds, xa_q_walkerNames, xb_q_walkerNames, xn_q_walkerNames, xa_q_kinds, xb_q_kinds, xn_q_kinds, xa_q_walkerColours, xb_q_walkerColours, xn_q_walkerColours, xa_q_starts, xb_q_starts, xn_q_starts, xa_q_stepRows, xb_q_stepRows, xn_q_stepRows, xa_q_stepCounts, xb_q_stepCounts, xn_q_stepCounts, xa_q_gusts, xb_q_gusts, xn_q_gusts, xc_ql, xg_ql_0, xg_ql_1, xs_ql_1, xg_ql_2, xg_ql_3, xs_ql_3, xa_q_parts, xb_q_parts, xn_q_parts, xa_q_stack, xb_q_stack, xn_q_stack, wx_some, wx_ref, g2, gl]
      rw [if_neg (by rw [nI_leI (by omega) (by omega)]; omega)]
      apply t_obey hK1.1 ho hci hS1 b1 b2 b3 b4 b5
      intro S2 hS2
      have hS2 : SCx s S2 (sp_run s b (i + 1)) := hS2
      simp only [sl_i, q146_56i, q146_57, q146_58, q146_61, q146_62, q146_65, q146_66, q146_67, q146_68, q146_69, isl_i, isl_r, isl_n]
      have next : ∀ (l3 : Option Value) (q2 : px_q) (R2 : px_R) (C2 : px_C), KX nm s q2 R2 C2 → (k = 0 → (!(sp_obey s (b.1.2 i) (sp_run s b i)).2) = false) → (k = 1 → decide (0 < sp_sd s (sp_run s b (i + 1))) = false) → ww (mp_P fx) (d + 6) 146 85 [some (.ref 59), some (.int (nI k)), some (.int (nI i)), l3] [] (px_h z E M (px_l sw c2 w2 T D S (S2) K (R2) (C2) W U (q2) q1 B0 B1 B2 B3)) Q := by
        intro l3 q2 R2 C2 hK2 n0 n1
        simp only [q146_85i, q146_88, isl_i, isl_r, isl_n, nl_1, nI_add]
        refine ih (i + 1) l3 S2 q2 R2 C2 (by omega) hK2 hS2 (fun h j hj => ?_) (fun h j hj => ?_)
        · by_cases ej : j = i
          · subst ej; exact n0 h
          · exact hk0 h j (by omega)
        · by_cases ej : j = i
          · subst ej; exact n1 h
          · exact hk1 h j (by omega)
      have hk3 : k = 0 ∨ k = 1 ∨ k = 2 := by omega
      rcases hk3 with h | h | h
      · subst h
        rw [if_neg (fun z => z rfl)]
        by_cases eo : (sp_obey s (b.1.2 i) (sp_run s b i)).2 = true
        · rw [if_pos eo, if_pos (by decide)]
          rw [if_pos (by decide)]
          exact next _ q' R' C' hK1 (fun _ => by rw [eo]; rfl) (fun h => by omega)
        · rw [if_neg eo, if_neg (by decide)]
          rw [if_pos rfl, ffl_at (hk0 rfl) (by rw [Bool.eq_false_iff.mpr eo]; rfl) _ (show i < b.1.1 by omega)] at hq
          exact hq q' R' C' S2 hK1 hS2.2.2.1.1
      · subst h
        rw [if_pos (by decide)]
        rw [if_neg (by decide)]
        simp only [q146_72, q146_73, q146_74, q146_77, xc_x, xg_x_0, xg_x_1, xg_x_2, xg_x_3, xg_x_4, xg_x_5, xg_x_6, xg_x_7, xg_x_8, xg_x_9, xg_x_10, xg_x_11, xg_x_12, xg_x_13, xg_x_14, xs_x_14, xg_x_15, xs_x_15, wx_some, wx_ref]
        apply t_sdS1 hK1 hcj hS2
        intro q2 R2 C2 hK2 _
        have h7 := sp_sd_le hcj ho
        simp only [sl_i, q146_80, q146_83, q146_84]
        by_cases es : 0 < sp_sd s (sp_run s b (i + 1))
        · rw [if_neg (show ¬ nI (sp_said s (sp_now s (sp_run s b (i + 1)))) ≤ 0 from nI_nle es (by unfold sp_sd at h7; omega))]
          rw [if_neg (by omega), if_pos rfl, ffl_at (hk1 rfl) (decide_eq_true es) _ (show i < b.1.1 by omega)] at hq
          exact hq q2 R2 C2 S2 hK2 hS2.2.2.1.1
        · rw [if_pos (by rw [show sp_said s (sp_now s (sp_run s b (i + 1))) = 0 from by unfold sp_sd at es; omega]; decide)]
          exact next _ q2 R2 C2 hK2 (fun h => by omega) (fun _ => decide_eq_false es)
      · subst h
        rw [if_pos (by decide)]
        rw [if_pos (by decide)]
        exact next _ q' R' C' hK1 (fun h => by omega) (fun h => by omega)
  exact key b.1.1 0 none S0 q R C (by omega) hK hS0 (fun _ j hj => by omega) (fun _ j hj => by omega)
end TJ
