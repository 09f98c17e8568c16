/-! a square is told, of the class -/
def bk0 : BK := ((0, fun _ => (0, 0, 0)), (0, fun _ => 0), (0, fun _ => (0, 0, false)))
section TO
variable {fx : List Value → mm_H → Option (List Value × mm_H)} {z : Nat} {E M : Nat → mm_C} {sw c2 w2 : Bool} {T : px_T} {D : px_D} {S : px_S} {S1 : px_S} {K : px_K} {R : px_R} {C : px_C} {W : px_W} {U : px_U} {q : px_q} {q1 : px_q} {B0 : px_K} {B1 : px_K} {B2 : px_K} {B3 : px_K} {T_signs : List Int32} {T_length : Int32} {T_fault : Int32} {T_types : List Int32} {T_starts : List Int32} {T_values : List Int64} {T_tokens : Int32} {T_at : Int32} {T_behind : Int32} {S_hour : Int32} {S_open : Int32} {S_places : List Int32} {S1_hour : Int32} {S1_open : Int32} {S1_places : List Int32} {K_lines : List Int32} {K_lineCount : Int32} {K_wishes : List Int32} {K_wishCount : Int32} {K_sights : List Int32} {K_sightCount : Int32} {R_shown : List Int32} {R_length : Int32} {R_readers : Int32} {R_begins : List Int32} {R_lengths : List Int32} {R_sentences : Int32} {R_order : List Int32} {R_able : Int32} {R_standing : List Int32} {R_lovers : List Int32} {R_lowest : List Int32} {C_ways : List Int32} {C_rows : List Int32} {C_shallower : List Int32} {C_length : Int32} {C_goal : Int32} {W_row : List Int32} {W_walkers : Int32} {W_names : Int32} {W_wanted : List Int32} {W_shown : List Int32} {W_places : List Int32} {W_rest : List Int32} {W_spent : List Int32} {W_tried : List Int32} {U_undoRows : List Int64} {U_markScenes : List Int64} {U_marksLaid : List Int32} {U_undoCount : Int32} {U_undoEnd : Int32} {q_sortNames : List Int64} {q_sortCount : Int32} {q_colourNames : List Int64} {q_colourSorts : List Int32} {q_colourCount : Int32} {q_ruleMakes : List Int32} {q_ruleFirsts : List Int32} {q_ruleSeconds : List Int32} {q_ruleCount : Int32} {q_saysSort : Int32} {q_walkerNames : List Int64} {q_kinds : List Int32} {q_walkerColours : List Int32} {q_starts : List Int32} {q_stepRows : List Int32} {q_stepCounts : List Int32} {q_walkerCount : Int32} {q_gusts : List Int32} {q_gustCount : Int32} {q_parts : List Int32} {q_count : Int32} {q_stack : List Int32} {q_height : Int32} {q1_sortNames : List Int64} {q1_sortCount : Int32} {q1_colourNames : List Int64} {q1_colourSorts : List Int32} {q1_colourCount : Int32} {q1_ruleMakes : List Int32} {q1_ruleFirsts : List Int32} {q1_ruleSeconds : List Int32} {q1_ruleCount : Int32} {q1_saysSort : Int32} {q1_walkerNames : List Int64} {q1_kinds : List Int32} {q1_walkerColours : List Int32} {q1_starts : List Int32} {q1_stepRows : List Int32} {q1_stepCounts : List Int32} {q1_walkerCount : Int32} {q1_gusts : List Int32} {q1_gustCount : Int32} {q1_parts : List Int32} {q1_count : Int32} {q1_stack : List Int32} {q1_height : Int32} {B0_lines : List Int32} {B0_lineCount : Int32} {B0_wishes : List Int32} {B0_wishCount : Int32} {B0_sights : List Int32} {B0_sightCount : Int32} {B1_lines : List Int32} {B1_lineCount : Int32} {B1_wishes : List Int32} {B1_wishCount : Int32} {B1_sights : List Int32} {B1_sightCount : Int32} {B2_lines : List Int32} {B2_lineCount : Int32} {B2_wishes : List Int32} {B2_wishCount : Int32} {B2_sights : List Int32} {B2_sightCount : Int32} {B3_lines : List Int32} {B3_lineCount : Int32} {B3_wishes : List Int32} {B3_wishCount : Int32} {B3_sights : List Int32} {B3_sightCount : Int32}
variable {d : Nat} {Q : Option Value → mm_H → Prop} {tp : List Nat} {n k : Nat} {o : PS} {s : SQ}
theorem px_l0 {A : mm_C} : ((px_l sw c2 w2 T D S S1 K R C W U q q1 B0 B1 B2 B3).set 0 A)[0]? = some A := List.getElem?_set_self (by rw [px_ll]; omega)
theorem xw_x1 : mm_sF (mp_P fx) (px_h z E M (px_l sw c2 w2 T D S S1 K R C W U q q1 B0 B1 B2 B3)) 59 9 12 (.ref (px_ta (!sw))) = some (px_h z E M ((px_l sw c2 w2 T D S S1 K R C W U q q1 B0 B1 B2 B3).set 0 (mm_O 9 [.ref 60, .ref 65, .ref 67, .ref 69, .ref 71, .ref 75, .ref 83, .ref 87, .ref 95, .ref 96, .ref 97, .ref 98, .ref (px_ta (!sw)), .ref (px_ta (!sw)), .int U.2.2.2.1, .int U.2.2.2.2]))) := aF_s pk_x rfl (px_set (i := 0) (by decide) px_ll)
theorem xw_x2 : mm_sF (mp_P fx) (px_h z E M ((px_l sw c2 w2 T D S S1 K R C W U q q1 B0 B1 B2 B3).set 0 (mm_O 9 [.ref 60, .ref 65, .ref 67, .ref 69, .ref 71, .ref 75, .ref 83, .ref 87, .ref 95, .ref 96, .ref 97, .ref 98, .ref (px_ta (!sw)), .ref (px_ta (!sw)), .int U.2.2.2.1, .int U.2.2.2.2]))) 59 9 13 (.ref (px_ta sw)) = some (px_h z E M (px_l (!sw) c2 w2 T D S S1 K R C W U (q1) (q) B0 B1 B2 B3)) := by
  refine aF_s (px_at (i := 0) (by decide) px_l0) rfl ?_
  refine (px_set (i := 0) (by decide) (by rw [List.length_set]; exact px_ll)).trans ?_
  rw [List.set_set]
  cases sw <;> rfl
theorem t_beginS (hs : SQx q s) (ho : k_ok s) (hl1 : (S.2.2).length = 7) (hq : ∀ S', SCx s S' (sp_fresh s) → Q none (px_h z E M (px_l sw c2 w2 T D (S') S1 K R C W U q q1 B0 B1 B2 B3))) : wm (mp_P fx) d 91 [.ref 67, .ref (px_ta sw)] (px_h z E M (px_l sw c2 w2 T D S S1 K R C W U q q1 B0 B1 B2 B3)) Q := by
  have h7 := ho.1.2.2.2.1
  have hrg := hs.1.2.2.2.2.2.2.2.2.2.2.2.2.2.2
  have hst := hs.2.2.2.2.1.2.2.1
  have hl := hrg.1
  have hcp : mm_cpy (px_h z E M (px_l sw c2 w2 T D ((0, nI (2 ^ k_nW s - 1), S.2.2)) S1 K R C W U q q1 B0 B1 B2 B3)) (px_ta sw + 10) 0 68 0 7 = some (px_h z E M (px_l sw c2 w2 T D ((0, nI (2 ^ k_nW s - 1), (q.2.2.2.2.2.2.2.2.2.2.2.2.2.1).take 7)) S1 K R C W U q q1 B0 B1 B2 B3)) := cpy_x (n := 7) pk_q_starts pk_S_places hl1 (by omega) (by omega) (px_set (i := 9) (by decide) px_ll)
  rw [List.take_of_length_le (by omega)] at hcp
  simp only [e91, q91_0, q91_1, q91_2, q91_5, q91_6, q91_7, q91_8, q91_11, q91_12, q91_13, q91_14, q91_17, q91_18, q91_21, q91_22, q91_23, q91_26, q91_27, q91_29, q91_32, xc_S, xg_S_0, xs_S_0, xg_S_1, xs_S_1, xg_S_2, xa_S_places, xb_S_places, xn_S_places, xc_q, xg_q_0, xg_q_1, xs_q_1, xg_q_2, xg_q_3, xg_q_4, xs_q_4, xg_q_5, xg_q_6, xg_q_7, xg_q_8, xs_q_8, xg_q_9, xs_q_9, xg_q_10, xg_q_11, xg_q_12, xg_q_13, xg_q_14, xg_q_15, xg_q_16, xs_q_16, xg_q_17, xg_q_18, xs_q_18, xg_q_19, xa_q_sortNames, xb_q_sortNames, xn_q_sortNames, xa_q_colourNames, xb_q_colourNames, xn_q_colourNames, xa_q_colourSorts, xb_q_colourSorts, xn_q_colourSorts, xa_q_ruleMakes, xb_q_ruleMakes, xn_q_ruleMakes, xa_q_ruleFirsts, xb_q_ruleFirsts, xn_q_ruleFirsts, xa_q_ruleSeconds, xb_q_ruleSeconds, xn_q_ruleSeconds, xa_q_walkerNames, xb_q_walkerNames, xn_q_walkerNames, xa_q_kinds, xb_q_kinds, xn_q_kinds, xa_q_walkerColours, xb_q_walkerColours, xn_q_walkerColours, xa_q_starts, xb_q_starts, xn_q_starts, xa_q_stepRows, xb_q_stepRows, xn_q_stepRows, xa_q_stepCounts, xb_q_stepCounts, xn_q_stepCounts, xa_q_gusts, xb_q_gusts, xn_q_gusts, xc_ql, xg_ql_0, xg_ql_1, xs_ql_1, xg_ql_2, xg_ql_3, xs_ql_3, xa_q_parts, xb_q_parts, xn_q_parts, xa_q_stack, xb_q_stack, xn_q_stack, wx_some, wx_ref, hs.2.1.2.2.2.1, k7_shm _ h7, hcp]
  exact hq _ ⟨rfl, rfl, hrg, hst⟩
def USl (U : px_U) : Prop := (U.1).length = 16 ∧ (U.2.1).length = 4 ∧ (U.2.2.1).length = 4
theorem t_beginSq (hs : SQx q s) (ho : k_ok s) (hl1 : (S.2.2).length = 7) (hK : BKl K) (hU : USl U) (h0 : BKl B0) (h1 : BKl B1) (h2 : BKl B2) (h3 : BKl B3) (hq : ∀ S' K' U', SCx s S' (sp_fresh s) → BKx bk0 K' → UNx s [] U' → MKx s (fun _ => none) U' B0 B1 B2 B3 → Q none (px_h z E M (px_l sw c2 w2 T D (S') S1 (K') R C W (U') q q1 B0 B1 B2 B3))) : wm (mp_P fx) (d + 1) 90 [.ref 59] (px_h z E M (px_l sw c2 w2 T D S S1 K R C W U q q1 B0 B1 B2 B3)) Q := by
  obtain ⟨u1, u2, u3⟩ := hU
  simp only [e90, q90_0, q90_1, q90_4, q90_5, xc_x, xg_x_0, xg_x_1, xg_x_2, xg_x_3, xg_x_4, xg_x_5, xg_x_6, xg_x_7, xg_x_8, xg_x_9, xg_x_10, xg_x_11, xg_x_12, xg_x_13, xg_x_14, xs_x_14, xg_x_15, xs_x_15, wx_some, wx_ref]
  simp only [q90_8, xc_S, xg_S_0, xs_S_0, xg_S_1, xs_S_1, xg_S_2, xa_S_places, xb_S_places, xn_S_places]
  apply t_beginS hs ho hl1
  intro S' hS'
  simp only [sl_n, q90_11, q90_12, q90_15, q90_18, q90_19, q90_22, q90_23r, e92, q92_0, q92_1, q92_2, q92_5, q92_6, q92_7, q92_10, q92_11, q92_12, q92_15, e93, q93_0, q93_1, q93_2, q93_5, q93_6, q93_7, q93_10, xc_x, xg_x_0, xg_x_1, xg_x_2, xg_x_3, xg_x_4, xg_x_5, xg_x_6, xg_x_7, xg_x_8, xg_x_9, xg_x_10, xg_x_11, xg_x_12, xg_x_13, xg_x_14, xs_x_14, xg_x_15, xs_x_15, xc_K, xg_K_0, xg_K_1, xs_K_1, xg_K_2, xg_K_3, xs_K_3, xg_K_4, xg_K_5, xs_K_5, xa_K_lines, xb_K_lines, xn_K_lines, xa_K_wishes, xb_K_wishes, xn_K_wishes, xa_K_sights, xb_K_sights, xn_K_sights, wx_some, wx_ref, isl_i, isl_r, isl_n]
  have key : ∀ (m i : Nat) (xs : List Int32), i + m = 4 → xs.length = 4 → (∀ j, j < i → xs[j]? = some 0) → ww (mp_P fx) (d + 1) 90 24 [some (.ref 59), some (.int (nI i))] [] (px_h z E M (px_l sw c2 w2 T D (S') S1 ((K.1, 0, K.2.2.1, 0, K.2.2.2.2.1, 0)) R C W ((U.1, U.2.1, xs, 0, 0)) q q1 B0 B1 B2 B3)) Q := by
    intro m
    induction m with
    | zero =>
      intro i xs hi hl hx
      have hi2 : i = 4 := by omega
      subst hi2
      rw [q90_24]
      simp only [q90_25, q90_26, q90_42]
      rw [if_pos (by decide)]
      refine hq S' _ _ hS' ⟨⟨hK.1, rfl, fun i hi => absurd hi (Nat.not_lt_zero _)⟩, ⟨hK.2.1, rfl, fun i hi => absurd hi (Nat.not_lt_zero _)⟩, ⟨hK.2.2, rfl, fun i hi => absurd hi (Nat.not_lt_zero _)⟩⟩ ⟨Nat.zero_le _, fun c hc => (by cases hc), u1, rfl, 0, by omega, rfl, fun i c hc => (by cases hc)⟩ ⟨u2, hl, ⟨h0, hx 0 (by omega), fun c b hc => (by cases hc)⟩, ⟨h1, hx 1 (by omega), fun c b hc => (by cases hc)⟩, ⟨h2, hx 2 (by omega), fun c b hc => (by cases hc)⟩, ⟨h3, hx 3 (by omega), fun c b hc => (by cases hc)⟩⟩
    | succ m ih =>
      intro i xs hi hl hx
      rw [q90_24]
      simp only [q90_25, q90_26, q90_29, q90_30, q90_33, q90_34, q90_35, q90_36r, q90_39, xc_x, xg_x_0, xg_x_1, xg_x_2, xg_x_3, xg_x_4, xg_x_5, xg_x_6, xg_x_7, xg_x_8, xg_x_9, xg_x_10, xg_x_11, xg_x_12, xg_x_13, xg_x_14, xs_x_14, xg_x_15, xs_x_15, xa_U_undoRows, xb_U_undoRows, xn_U_undoRows, xa_U_markScenes, xb_U_markScenes, xn_U_markScenes, xa_U_marksLaid, xb_U_marksLaid, xn_U_marksLaid, wx_some, wx_ref, isl_i, isl_r, isl_n, nar_0, nI_1, aS_n (show i < xs.length by omega) (show xs.length < 2 ^ 31 by omega)]
      rw [if_neg (by rw [nl_4, nI_leI (by omega) (by omega)]; omega)]
      refine ih (i + 1) _ (by omega) (by rw [List.length_set]; exact hl) (fun j hj => ?_)
      rw [List.getElem?_set]
      by_cases e : i = j
      · subst e; rw [if_pos rfl, if_pos (by omega)]
      · rw [if_neg e]; exact hx j (by omega)
  exact key 4 0 U.2.2.1 (by omega) u3 (fun j hj => by omega)
theorem TKx_tp {j : Nat} (h : TKx tp n j T) : TPx [] T := ⟨h.1.1, ⟨h.1.1.1, fun i x hx => by cases hx⟩, h.2.1.2.2⟩
theorem t_square (hE : ELt E) (ht : tp_ok tp) (hT : TPx tp T) (hQ : QLx q1) (hQ0 : QLx q) (hl1 : (S.2.2).length = 7) (hK : BKl K) (hU : USl U) (h0 : BKl B0) (h1 : BKl B1) (h2 : BKl B2) (h3 : BKl B3) (hq1 : ∀ o' T' q' S' K' U', sp_sq tp 1000 0 ps0 = (0, o') → TPx [] T' → DRx o' q' → PSok o' → SCx o'.1 S' (sp_fresh o'.1) → BKx bk0 K' → UNx o'.1 [] U' → MKx o'.1 (fun _ => none) U' B0 B1 B2 B3 → Q (some (.int 0)) (px_h z E M (px_l (!sw) c2 w2 (T') D (S') S1 (K') R C W (U') (q') (q) B0 B1 B2 B3))) (hq0 : ∀ f T' q', (sp_sq tp 1000 0 ps0).1 = f → ¬ f = 0 → TPx [] T' → QLx q' → Q (some (.int (nI f))) (px_h z E M (px_l sw c2 w2 (T') D S S1 K R C W U q (q') B0 B1 B2 B3))) (hflt : (sp_sq tp 1000 0 ps0).1 < 2 ^ 20) : wm (mp_P fx) (d + 41) 12 [.ref 59] (px_h z E M (px_l sw c2 w2 T D S S1 K R C W U q q1 B0 B1 B2 B3)) Q := by
  simp only [e12, q12_0, q12_1, q12_4, q12_5, xc_x, xg_x_0, xg_x_1, xg_x_2, xg_x_3, xg_x_4, xg_x_5, xg_x_6, xg_x_7, xg_x_8, xg_x_9, xg_x_10, xg_x_11, xg_x_12, xg_x_13, xg_x_14, xs_x_14, xg_x_15, xs_x_15, wx_some, wx_ref]
  simp only [q12_8]
  apply t_sqfill hE ht hT hQ
  · intro o' T' q' n a1 ⟨j, a2⟩ a3 a4
    simp only [sl_i, q12_11r, q12_12, q12_13, q12_16, q12_17, q12_20i, q12_21, q12_22, q12_23, q12_26, q12_29, q12_30, q12_31, xc_x, xg_x_0, xg_x_1, xg_x_2, xg_x_3, xg_x_4, xg_x_5, xg_x_6, xg_x_7, xg_x_8, xg_x_9, xg_x_10, xg_x_11, xg_x_12, xg_x_13, xg_x_14, xs_x_14, xg_x_15, xs_x_15, wx_some, wx_ref, isl_i, isl_r, isl_n, xw_x1, xw_x2]
    rw [if_neg (fun y => y trivial)]
    simp only [q12_34, q12_35, xc_x, xg_x_0, xg_x_1, xg_x_2, xg_x_3, xg_x_4, xg_x_5, xg_x_6, xg_x_7, xg_x_8, xg_x_9, xg_x_10, xg_x_11, xg_x_12, xg_x_13, xg_x_14, xs_x_14, xg_x_15, xs_x_15]
    apply t_beginSq (q := q') a3.1 a4.1 hl1 hK hU h0 h1 h2 h3
    intro S' K' U' b1 b2 b3 b4
    simp only [sl_n, q12_38, q12_39]
    exact hq1 o' T' q' S' K' U' a1 (TKx_tp a2) a3 a4 b1 b2 b3 b4
  · intro f T' q' n a1 a2
    obtain ⟨b1, b2, b3, j, b4⟩ := a2
    simp only [sl_i, q12_11r, q12_12, q12_13, isl_i, isl_r, isl_n]
    rw [if_pos (by rw [nl_0, nI_eq (by omega) (by omega)]; exact b1)]
    simp only [q12_38, q12_39]
    exact hq0 f T' q' a1 b1 (TKx_tp b4) b3
end TO
