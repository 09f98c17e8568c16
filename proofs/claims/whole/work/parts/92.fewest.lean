/-! the fewest steps, of the class: the row -/
theorem k7_shl : ∀ n, n ≤ 7 → (1 : Int32) <<< (nI n &&& 31) = nI (2 ^ n) := by decide
section WF
variable {fx : List Value → mm_H → Option (List Value × mm_H)} {z : Nat} {E M : Nat → mm_C} {sw c2 w2 : Bool} {T : px_T} {D : px_D} {S : px_S} {S1 : px_S} {K : px_K} {R : px_R} {C : px_C} {W : px_W} {U : px_U} {q : px_q} {q1 : px_q} {B0 : px_K} {B1 : px_K} {B2 : px_K} {B3 : px_K} {T_signs : List Int32} {T_length : Int32} {T_fault : Int32} {T_types : List Int32} {T_starts : List Int32} {T_values : List Int64} {T_tokens : Int32} {T_at : Int32} {T_behind : Int32} {S_hour : Int32} {S_open : Int32} {S_places : List Int32} {S1_hour : Int32} {S1_open : Int32} {S1_places : List Int32} {K_lines : List Int32} {K_lineCount : Int32} {K_wishes : List Int32} {K_wishCount : Int32} {K_sights : List Int32} {K_sightCount : Int32} {R_shown : List Int32} {R_length : Int32} {R_readers : Int32} {R_begins : List Int32} {R_lengths : List Int32} {R_sentences : Int32} {R_order : List Int32} {R_able : Int32} {R_standing : List Int32} {R_lovers : List Int32} {R_lowest : List Int32} {C_ways : List Int32} {C_rows : List Int32} {C_shallower : List Int32} {C_length : Int32} {C_goal : Int32} {W_row : List Int32} {W_walkers : Int32} {W_names : Int32} {W_wanted : List Int32} {W_shown : List Int32} {W_places : List Int32} {W_rest : List Int32} {W_spent : List Int32} {W_tried : List Int32} {U_undoRows : List Int64} {U_markScenes : List Int64} {U_marksLaid : List Int32} {U_undoCount : Int32} {U_undoEnd : Int32} {q_sortNames : List Int64} {q_sortCount : Int32} {q_colourNames : List Int64} {q_colourSorts : List Int32} {q_colourCount : Int32} {q_ruleMakes : List Int32} {q_ruleFirsts : List Int32} {q_ruleSeconds : List Int32} {q_ruleCount : Int32} {q_saysSort : Int32} {q_walkerNames : List Int64} {q_kinds : List Int32} {q_walkerColours : List Int32} {q_starts : List Int32} {q_stepRows : List Int32} {q_stepCounts : List Int32} {q_walkerCount : Int32} {q_gusts : List Int32} {q_gustCount : Int32} {q_parts : List Int32} {q_count : Int32} {q_stack : List Int32} {q_height : Int32} {q1_sortNames : List Int64} {q1_sortCount : Int32} {q1_colourNames : List Int64} {q1_colourSorts : List Int32} {q1_colourCount : Int32} {q1_ruleMakes : List Int32} {q1_ruleFirsts : List Int32} {q1_ruleSeconds : List Int32} {q1_ruleCount : Int32} {q1_saysSort : Int32} {q1_walkerNames : List Int64} {q1_kinds : List Int32} {q1_walkerColours : List Int32} {q1_starts : List Int32} {q1_stepRows : List Int32} {q1_stepCounts : List Int32} {q1_walkerCount : Int32} {q1_gusts : List Int32} {q1_gustCount : Int32} {q1_parts : List Int32} {q1_count : Int32} {q1_stack : List Int32} {q1_height : Int32} {B0_lines : List Int32} {B0_lineCount : Int32} {B0_wishes : List Int32} {B0_wishCount : Int32} {B0_sights : List Int32} {B0_sightCount : Int32} {B1_lines : List Int32} {B1_lineCount : Int32} {B1_wishes : List Int32} {B1_wishCount : Int32} {B1_sights : List Int32} {B1_sightCount : Int32} {B2_lines : List Int32} {B2_lineCount : Int32} {B2_wishes : List Int32} {B2_wishCount : Int32} {B2_sights : List Int32} {B2_sightCount : Int32} {B3_lines : List Int32} {B3_lineCount : Int32} {B3_wishes : List Int32} {B3_wishCount : Int32} {B3_sights : List Int32} {B3_sightCount : Int32}
variable {d : Nat} {Q : Option Value → mm_H → Prop} {s : SQ} {c : SC} {b : BK} {nm : NMs}
def SPx (c : SC) (pre : List Nat) (xs : List Int32) : Prop := xs.length = 11 ∧ ∀ p, p ≤ 10 → ∃ x, xs[p]? = some (nI x) ∧ x ≤ 1009 ∧ mc (PE (pre.map c.2.2) 0 p) x
theorem CM_split {pre : List Nat} {w pc v : Nat} : CM s c b (bc pc) pc (pre ++ [w]) v ↔ ∃ p, p < 10 ∧ ∃ u1 u2, PE ((pre ++ [w]).map c.2.2) 0 (p + 1) u1 ∧ RC s c b pc (p + 1) u2 ∧ v = u1 + u2 := by
  constructor
  · rintro ⟨row, h1, e, h2⟩
    rw [List.map_append, PE_app] at h2
    obtain ⟨m, u1, u2, g1, g2, g3⟩ := h2
    have hm := PE_lt _ _ _ _ g1 (by omega)
    cases m with
    | zero => rw [List.map_append] at g1; exact absurd g1 PE_snoc0
    | succ m => exact ⟨m, by omega, u1, u2, g1, ⟨row, h1, e, g2⟩, g3⟩
  · rintro ⟨p, h0, u1, u2, g1, ⟨row, h1, e, g2⟩, g3⟩
    exact ⟨row, h1, e, by rw [List.map_append, PE_app]; exact ⟨p + 1, u1, u2, g1, g2, g3⟩⟩
theorem t_bestWith {pc w : Nat} {pre : List Nat} (ho : k_ok s) (hc : c_ok s c) (hK : WHk s c b W) (hw : w < k_nW s) (hpc : pc < 2 ^ k_nW s) (hN : bc pc < b.2.1.1) (hfit : Fit s b (bc pc) pc w) (hR : RSd s c b (fun _ => True) W.2.2.2.2.2.2.1) (hS : SPx c pre W.2.2.2.2.2.2.2.1) (hq : ∀ x ys, x ≤ 1000 → mc (CM s c b (bc pc + 1) (pc ||| 2 ^ w) (pre ++ [w])) x → SPx c (pre ++ [w]) ys → Q (some (.int (nI x))) (px_h z E M (px_l sw c2 w2 T D S S1 K R C ((W.1, W.2.1, W.2.2.1, W.2.2.2.1, W.2.2.2.2.1, W.2.2.2.2.2.1, W.2.2.2.2.2.2.1, W.2.2.2.2.2.2.2.1, ys)) U q q1 B0 B1 B2 B3))) : wm (mp_P fx) (d + 1) 180 [.ref 87, .int (nI w), .int (nI pc)] (px_h z E M (px_l sw c2 w2 T D S S1 K R C W U q q1 B0 B1 B2 B3)) Q := by
  have h7 := ho.1.2.2.2.1
  have hp27 := p27 h7
  have hbo := bc_or pc (by omega) w (by omega) hfit.2.1
  have htl := hK.1.2.2.2.2.2.2
  have hrl := hR.1
  have hsl := hS.1
  rw [← hbo.1] at hq
  have key : ∀ (m p x y : Nat) (ys : List Int32), p + m = 10 → ys.length = 11 → (∀ j, j ≤ p → ∃ x, ys[j]? = some (nI x) ∧ x ≤ 1009 ∧ mc (PE ((pre ++ [w]).map c.2.2) 0 j) x) → x ≤ 1000 → y ≤ 1000 → mc (fun v => ∃ j, j < p ∧ ∃ u1 u2, PE ((pre ++ [w]).map c.2.2) 0 (j + 1) u1 ∧ RC s c b (pc ||| 2 ^ w) (j + 1) u2 ∧ v = u1 + u2) x → mc (fun v => ∃ j, j < p ∧ PE (pre.map c.2.2) 0 j v) y → ww (mp_P fx) (d + 1) 180 31 [some (.ref 87), some (.int (nI w)), some (.int (nI pc)), some (.int (nI ((pc ||| 2 ^ w) * 11))), some (.int (nI x)), some (.int (nI y)), some (.int (nI p))] [] (px_h z E M (px_l sw c2 w2 T D S S1 K R C ((W.1, W.2.1, W.2.2.1, W.2.2.2.1, W.2.2.2.2.1, W.2.2.2.2.2.1, W.2.2.2.2.2.2.1, W.2.2.2.2.2.2.2.1, ys)) U q q1 B0 B1 B2 B3)) Q := by
    intro m
    induction m with
    | zero =>
      intro p x y ys hp hl hY hx hy mx my
      have hp2 : p = 10 := by omega
      subst hp2
      rw [q180_31]
      simp only [q180_33, q180_35, q180_105, q180_107]
      rw [if_pos (by decide)]
      exact hq x ys hx (mc_iff mx (fun u => CM_split)) ⟨hl, hY⟩
    | succ m ih =>
      intro p x y ys hp hl hY hx hy mx my
      obtain ⟨a, a1, a2, a3⟩ := hS.2 p (by omega)
      obtain ⟨r, r1, r2, r3⟩ := hR.2 (pc ||| 2 ^ w) trivial (or_lt hpc hw) (by omega) (p + 1) (by omega)
      rw [← Nat.add_assoc] at r1
      have hd := dst_le (hc.2.2 w hw) (show p < 10 by omega)
      have my' : mc (fun v => ∃ j, j < p + 1 ∧ PE (pre.map c.2.2) 0 j v) (min y a) := mc_or my a3 (fun u => by
        constructor
        · rintro ⟨j, h1, h2⟩
          by_cases e : j = p
          · subst e; exact Or.inr h2
          · exact Or.inl ⟨j, by omega, h2⟩
        · rintro (⟨j, h1, h2⟩ | h2)
          · exact ⟨j, by omega, h2⟩
          · exact ⟨p, by omega, h2⟩)
      have ht : mc (PE ((pre ++ [w]).map c.2.2) 0 (p + 1)) (dst (c.2.2 w) p + min y a) := mc_add my' (fun u => by
        rw [List.map_append, List.map_singleton, PE_snoc (by omega)]
        constructor
        · rintro ⟨v, ⟨j, h1, h2⟩, h3⟩; exact ⟨v, ⟨j, by omega, h2⟩, h3⟩
        · rintro ⟨v, ⟨j, h1, h2⟩, h3⟩; exact ⟨v, ⟨j, by omega, h2⟩, h3⟩)
      rw [Nat.add_comm (dst (c.2.2 w) p)] at ht
      have hg : (ys.set (p + 1) (nI (min y a + dst (c.2.2 w) p)))[p + 1]? = some (nI (min y a + dst (c.2.2 w) p)) := List.getElem?_set_self (by omega)
      rw [q180_31]
      simp only [q180_33, q180_35, q180_38, q180_40, q180_41, q180_44, q180_46, q180_47, q180_50i, q180_52, q180_53, q180_56, q180_58, q180_59, q180_60, q180_62, q180_63, q180_64, xc_W, xg_W_0, xg_W_1, xs_W_1, xg_W_2, xs_W_2, xg_W_3, xg_W_4, xg_W_5, xg_W_6, xg_W_7, xg_W_8, xa_W_row, xb_W_row, xn_W_row, xa_W_wanted, xb_W_wanted, xn_W_wanted, xa_W_shown, xb_W_shown, xn_W_shown, xa_W_places, xb_W_places, xn_W_places, xa_W_rest, xb_W_rest, xn_W_rest, xa_W_spent, xb_W_spent, xn_W_spent, xa_W_tried, xb_W_tried, xn_W_tried, wx_some, wx_ref, isl_i, isl_r, isl_n, aG_n a1 (show (W.2.2.2.2.2.2.2.1).length < 2 ^ 31 by omega), nI_min (show y < 2 ^ 31 by omega) (show a < 2 ^ 31 by omega), nl_1, nI_add]
      rw [if_neg (by rw [nl_10, nI_leI (by omega) (by omega)]; omega)]
      simp only [q180_66, xc_W, xg_W_0, xg_W_1, xs_W_1, xg_W_2, xs_W_2, xg_W_3, xg_W_4, xg_W_5, xg_W_6, xg_W_7, xg_W_8, xa_W_row, xb_W_row, xn_W_row, xa_W_wanted, xb_W_wanted, xn_W_wanted, xa_W_shown, xb_W_shown, xn_W_shown, xa_W_places, xb_W_places, xn_W_places, xa_W_rest, xb_W_rest, xn_W_rest, xa_W_spent, xb_W_spent, xn_W_spent, xa_W_tried, xb_W_tried, xn_W_tried]
      apply t_stepsTo (W := (W.1, W.2.1, W.2.2.1, W.2.2.2.1, W.2.2.2.2.1, W.2.2.2.2.2.1, W.2.2.2.2.2.2.1, W.2.2.2.2.2.2.2.1, ys)) h7 hc (WHk_tried hK hl) hw (by omega)
      simp only [sl_i, q180_69, q180_70, q180_71, q180_73, q180_74, q180_77, q180_79, q180_80, q180_81, q180_82, q180_83, q180_86, q180_87, q180_89, q180_90, q180_91, q180_92, q180_93, q180_94, q180_97i, q180_99i, q180_102, xc_W, xg_W_0, xg_W_1, xs_W_1, xg_W_2, xs_W_2, xg_W_3, xg_W_4, xg_W_5, xg_W_6, xg_W_7, xg_W_8, xa_W_row, xb_W_row, xn_W_row, xa_W_wanted, xb_W_wanted, xn_W_wanted, xa_W_shown, xb_W_shown, xn_W_shown, xa_W_places, xb_W_places, xn_W_places, xa_W_rest, xb_W_rest, xn_W_rest, xa_W_spent, xb_W_spent, xn_W_spent, xa_W_tried, xb_W_tried, xn_W_tried, wx_some, wx_ref, isl_i, isl_r, isl_n, nl_1, nI_add, aS_n (show p + 1 < ys.length by omega) (show ys.length < 2 ^ 31 by omega), aG_n hg (show (ys.set (p + 1) (nI (min y a + dst (c.2.2 w) p))).length < 2 ^ 31 by rw [List.length_set]; omega), aG_n r1 (show (W.2.2.2.2.2.2.1).length < 2 ^ 31 by omega), nI_min (show x < 2 ^ 31 by omega) (show min y a + dst (c.2.2 w) p + r < 2 ^ 31 by omega)]
      refine ih (p + 1) _ _ _ (by omega) (by rw [List.length_set]; exact hl) (fun j hj => ?_) (by omega) (by omega) (mc_or mx (mc_sum ht r3 (fun u => Iff.rfl)) (fun u => ?_)) my'
      · by_cases e : j = p + 1
        · subst e; exact ⟨_, hg, by omega, ht⟩
        · rw [List.getElem?_set_ne (by omega)]; exact hY j (by omega)
      · constructor
        · rintro ⟨j, h1, h2⟩
          by_cases e : j = p
          · subst e; exact Or.inr h2
          · exact Or.inl ⟨j, by omega, h2⟩
        · rintro (⟨j, h1, h2⟩ | h2)
          · exact ⟨j, by omega, h2⟩
          · exact ⟨p, by omega, h2⟩
  simp only [e180, q180_0, q180_1, q180_2, q180_3, q180_4, q180_5, q180_7, q180_8i, q180_9, q180_12i, q180_14, q180_17i, q180_19, q180_20, q180_23, q180_24, q180_27, q180_28, q180_29i, xc_W, xg_W_0, xg_W_1, xs_W_1, xg_W_2, xs_W_2, xg_W_3, xg_W_4, xg_W_5, xg_W_6, xg_W_7, xg_W_8, xa_W_row, xb_W_row, xn_W_row, xa_W_wanted, xb_W_wanted, xn_W_wanted, xa_W_shown, xb_W_shown, xn_W_shown, xa_W_places, xb_W_places, xn_W_places, xa_W_rest, xb_W_rest, xn_W_rest, xa_W_spent, xb_W_spent, xn_W_spent, xa_W_tried, xb_W_tried, xn_W_tried, wx_some, wx_ref, isl_i, isl_r, isl_n, k7_or pc (show pc < 128 by omega) w (show w < 7 by omega), show (11 : Int32) = nI 11 from rfl, show (1000 : Int32) = nI 1000 from rfl, pk_mul, show aS (W.2.2.2.2.2.2.2.2) 0 (nI 1000) = _ from funext (fun f => aS_n (j := 0) (f := f) (show 0 < (W.2.2.2.2.2.2.2.2).length by omega) (show (W.2.2.2.2.2.2.2.2).length < 2 ^ 31 by omega))]
  refine key 10 0 1000 1000 _ (by omega) (by rw [List.length_set]; exact htl) (fun j hj => ?_) (by omega) (by omega) (mc_no (fun u ⟨j, h, _⟩ => by omega) (by omega)) (mc_no (fun u ⟨j, h, _⟩ => by omega) (by omega))
  have : j = 0 := by omega
  subst this
  exact ⟨1000, List.getElem?_set_self (by omega), by omega, mc_no (fun u hu => by rw [List.map_append] at hu; exact PE_snoc0 hu) (by omega)⟩
theorem t_firstBy {pc best : Nat} {pre : List Nat} (ho : k_ok s) (hc : c_ok s c) (hb : b_ok s b) (hK : WHk s c b W) (hpc : pc < 2 ^ k_nW s) (hN : bc pc < b.2.1.1) (hR : RSd s c b (fun _ => True) W.2.2.2.2.2.2.1) (hS : SPx c pre W.2.2.2.2.2.2.2.1) (hbest : best < 1000) (hlow : ∀ w u, Fit s b (bc pc) pc w → CM s c b (bc pc + 1) (pc ||| 2 ^ w) (pre ++ [w]) u → best ≤ u) (hcm : CM s c b (bc pc) pc pre best) (hq : ∀ w ys, w < k_nW s → Fit s b (bc pc) pc w → CM s c b (bc pc + 1) (pc ||| 2 ^ w) (pre ++ [w]) best → (∀ w', w' < w → Fit s b (bc pc) pc w' → ¬ CM s c b (bc pc + 1) (pc ||| 2 ^ w') (pre ++ [w']) best) → SPx c (pre ++ [w]) ys → Q (some (.int (nI w))) (px_h z E M (px_l sw c2 w2 T D S S1 K R C ((W.1, W.2.1, W.2.2.1, W.2.2.2.1, W.2.2.2.2.1, W.2.2.2.2.2.1, W.2.2.2.2.2.2.1, W.2.2.2.2.2.2.2.1, ys)) U q q1 B0 B1 B2 B3))) : wm (mp_P fx) (d + 2) 179 [.ref 87, .int (nI best), .int (nI (bc pc)), .int (nI pc)] (px_h z E M (px_l sw c2 w2 T D S S1 K R C W U q q1 B0 B1 B2 B3)) Q := by
  have h7 := ho.1.2.2.2.1
  have hp27 := p27 h7
  have htl := hK.1.2.2.2.2.2.2
  have key : ∀ (m w : Nat) (ys : List Int32), w + m = k_nW s → ys.length = 11 → (∀ w', w' < w → Fit s b (bc pc) pc w' → ¬ CM s c b (bc pc + 1) (pc ||| 2 ^ w') (pre ++ [w']) best) → ww (mp_P fx) (d + 2) 179 3 [some (.ref 87), some (.int (nI best)), some (.int (nI (bc pc))), some (.int (nI pc)), some (.int (nI w))] [] (px_h z E M (px_l sw c2 w2 T D S S1 K R C ((W.1, W.2.1, W.2.2.1, W.2.2.2.1, W.2.2.2.2.1, W.2.2.2.2.2.1, W.2.2.2.2.2.2.1, W.2.2.2.2.2.2.2.1, ys)) U q q1 B0 B1 B2 B3)) Q := by
    intro m
    induction m with
    | zero =>
      intro w ys hw hl hno
      obtain ⟨w', g1, g2⟩ := (CM_s hN).mp hcm
      exact absurd g2 (hno w' (by have := g1.1; omega) g1)
    | succ m ih =>
      intro w ys hw hl hno
      have hwl : w < k_nW s := by omega
      rw [q179_3]
      simp only [q179_5, q179_6, q179_9, q179_12, q179_13, q179_15, q179_16, xc_W, xg_W_0, xg_W_1, xs_W_1, xg_W_2, xs_W_2, xg_W_3, xg_W_4, xg_W_5, xg_W_6, xg_W_7, xg_W_8, xa_W_row, xb_W_row, xn_W_row, xa_W_wanted, xb_W_wanted, xn_W_wanted, xa_W_shown, xb_W_shown, xn_W_shown, xa_W_places, xb_W_places, xn_W_places, xa_W_rest, xb_W_rest, xn_W_rest, xa_W_spent, xb_W_spent, xn_W_spent, xa_W_tried, xb_W_tried, xn_W_tried, wx_some, wx_ref, isl_i, isl_r, isl_n]
      rw [if_neg (by rw [hK.2.2.1, nI_leI (by omega) (by omega)]; omega)]
      simp only [q179_17, xc_W, xg_W_0, xg_W_1, xs_W_1, xg_W_2, xs_W_2, xg_W_3, xg_W_4, xg_W_5, xg_W_6, xg_W_7, xg_W_8, xa_W_row, xb_W_row, xn_W_row, xa_W_wanted, xb_W_wanted, xn_W_wanted, xa_W_shown, xb_W_shown, xn_W_shown, xa_W_places, xb_W_places, xn_W_places, xa_W_rest, xb_W_rest, xn_W_rest, xa_W_spent, xb_W_spent, xn_W_spent, xa_W_tried, xb_W_tried, xn_W_tried]
      have hgo : ∀ zs : List Int32, zs.length = 11 → (Fit s b (bc pc) pc w → ¬ CM s c b (bc pc + 1) (pc ||| 2 ^ w) (pre ++ [w]) best) → ww (mp_P fx) (d + 2) 179 37 [some (.ref 87), some (.int (nI best)), some (.int (nI (bc pc))), some (.int (nI pc)), some (.int (nI w))] [] (px_h z E M (px_l sw c2 w2 T D S S1 K R C ((W.1, W.2.1, W.2.2.1, W.2.2.2.1, W.2.2.2.2.1, W.2.2.2.2.2.1, W.2.2.2.2.2.2.1, W.2.2.2.2.2.2.2.1, zs)) U q q1 B0 B1 B2 B3)) Q := by
        intro zs hz hn
        simp only [q179_37i, q179_40, isl_i, isl_r, isl_n, nI_1]
        refine ih (w + 1) zs (by omega) hz (fun w' h1 h2 => ?_)
        by_cases e : w' = w
        · subst e; exact hn h2
        · exact hno w' (by omega) h2
      apply t_wfits (W := (W.1, W.2.1, W.2.2.1, W.2.2.2.1, W.2.2.2.2.1, W.2.2.2.2.2.1, W.2.2.2.2.2.2.1, W.2.2.2.2.2.2.2.1, ys)) ho hb (WHk_tried hK hl) hwl hN (by omega)
      · intro hf
        simp only [sl_i, q179_20, q179_23, q179_24, q179_26]
        rw [if_neg (by decide)]
        simp only [q179_27, xc_W, xg_W_0, xg_W_1, xs_W_1, xg_W_2, xs_W_2, xg_W_3, xg_W_4, xg_W_5, xg_W_6, xg_W_7, xg_W_8, xa_W_row, xb_W_row, xn_W_row, xa_W_wanted, xb_W_wanted, xn_W_wanted, xa_W_shown, xb_W_shown, xn_W_shown, xa_W_places, xb_W_places, xn_W_places, xa_W_rest, xb_W_rest, xn_W_rest, xa_W_spent, xb_W_spent, xn_W_spent, xa_W_tried, xb_W_tried, xn_W_tried]
        apply t_bestWith (W := (W.1, W.2.1, W.2.2.1, W.2.2.2.1, W.2.2.2.2.1, W.2.2.2.2.2.1, W.2.2.2.2.2.2.1, W.2.2.2.2.2.2.2.1, ys)) (pre := pre) ho hc (WHk_tried hK hl) hwl hpc hN hf hR hS
        intro x zs hx mx hz
        simp only [sl_i, q179_30, q179_31, q179_34, q179_36]
        by_cases e : x = best
        · subst e
          rw [if_neg (fun z => z rfl)]
          exact hq w zs hwl hf (mx.2 hbest) hno hz
        · rw [if_pos (by rw [nI_eq (by omega) (by omega)]; exact e)]
          refine hgo zs hz.1 (fun _ hcmb => e ?_)
          have h1 := mx.1 best hcmb
          exact Nat.le_antisymm h1 (hlow w x hf (mx.2 (by omega)))
      · intro hf
        simp only [sl_i, q179_20]
        rw [if_pos (by decide)]
        exact hgo ys hl (fun h => absurd h hf)
  simp only [e179, q179_0, q179_1i, isl_i, isl_r, isl_n]
  exact key (k_nW s) 0 W.2.2.2.2.2.2.2.2 (by omega) htl (fun w' h => by omega)
theorem CM_pre {k pc w u : Nat} {pre : List Nat} (hk : k < b.2.1.1) (hf : Fit s b k pc w) (h : CM s c b (k + 1) (pc ||| 2 ^ w) (pre ++ [w]) u) : CM s c b k pc pre u := (CM_s hk).mpr ⟨w, hf, h⟩
theorem t_findRow {best : Nat} (ho : k_ok s) (hc : c_ok s c) (hb : b_ok s b) (hK : WHk s c b W) (hR : RSd s c b (fun _ => True) W.2.2.2.2.2.2.1) (hbest : best < 1000) (hlow : ∀ u, CM s c b 0 0 [] u → best ≤ u) (hcm : CM s c b 0 0 [] best) (hq : ∀ row w2' W', BR s c b best 0 0 [] row → WHl W' → W'.2.2.2.2.2.2.1 = W.2.2.2.2.2.2.1 → (∀ (i w : Nat), row[i]? = some w → (W'.1)[i]? = some (nI w)) → Q none (px_h z E M (px_l sw c2 (w2') T D S S1 K R C (W') U q q1 B0 B1 B2 B3))) : wm (mp_P fx) (d + 3) 178 [.ref 87, .int (nI best)] (px_h z E M (px_l sw c2 w2 T D S S1 K R C W U q q1 B0 B1 B2 B3)) Q := by
  have h7 := ho.1.2.2.2.1
  have hp27 := p27 h7
  have hN7 := hb.2.1.1
  have hspl := hK.1.2.2.2.2.2.1
  have key : ∀ (m pc : Nat) (pre : List Nat) (w2' : Bool) (W' : px_W) (l4 l5 : Option Value), pre.length + m = b.2.1.1 → pc < 2 ^ k_nW s → bc pc = pre.length → WHk s c b W' → W'.2.2.2.2.2.2.1 = W.2.2.2.2.2.2.1 → SPx c pre W'.2.2.2.2.2.2.2.1 → (∀ (i w : Nat), pre[i]? = some w → (W'.1)[i]? = some (nI w)) → CM s c b (bc pc) pc pre best → (∀ u, CM s c b (bc pc) pc pre u → best ≤ u) → (∀ r, BR s c b best (bc pc) pc pre r → BR s c b best 0 0 [] (pre ++ r)) → ww (mp_P fx) (d + 3) 178 21 [some (.ref 87), some (.int (nI best)), some (.int (nI pc)), some (.int (nI pre.length)), l4, l5] [] (px_h z E M (px_l sw c2 (w2') T D S S1 K R C (W') U q q1 B0 B1 B2 B3)) Q := by
    intro m
    induction m with
    | zero =>
      intro pc pre w2' W' l4 l5 hm hpc hbc hK' hr hS hrow hcm' hlow' hbr
      rw [q178_21]
      simp only [q178_22, q178_23, q178_26, q178_79, xc_W, xg_W_0, xg_W_1, xs_W_1, xg_W_2, xs_W_2, xg_W_3, xg_W_4, xg_W_5, xg_W_6, xg_W_7, xg_W_8, xa_W_row, xb_W_row, xn_W_row, xa_W_wanted, xb_W_wanted, xn_W_wanted, xa_W_shown, xb_W_shown, xn_W_shown, xa_W_places, xb_W_places, xn_W_places, xa_W_rest, xb_W_rest, xn_W_rest, xa_W_spent, xb_W_spent, xn_W_spent, xa_W_tried, xb_W_tried, xn_W_tried, wx_some, wx_ref]
      rw [if_pos (by rw [hK'.2.1, nI_leI (by omega) (by omega)]; omega)]
      have hb0 := hbr [] ⟨by omega, (CM_e (by omega)).mp hcm'⟩
      rw [List.append_nil] at hb0
      exact hq pre w2' W' hb0 hK'.1 hr hrow
    | succ m ih =>
      intro pc pre w2' W' l4 l5 hm hpc hbc hK' hr hS hrow hcm' hlow' hbr
      have hN : bc pc < b.2.1.1 := by omega
      have hrl := hK'.1.1
      rw [q178_21]
      simp only [q178_22, q178_23, q178_26, q178_29, q178_30, q178_31, q178_32, xc_W, xg_W_0, xg_W_1, xs_W_1, xg_W_2, xs_W_2, xg_W_3, xg_W_4, xg_W_5, xg_W_6, xg_W_7, xg_W_8, xa_W_row, xb_W_row, xn_W_row, xa_W_wanted, xb_W_wanted, xn_W_wanted, xa_W_shown, xb_W_shown, xn_W_shown, xa_W_places, xb_W_places, xn_W_places, xa_W_rest, xb_W_rest, xn_W_rest, xa_W_spent, xb_W_spent, xn_W_spent, xa_W_tried, xb_W_tried, xn_W_tried, wx_some, wx_ref, isl_i, isl_r, isl_n]
      rw [if_neg (by rw [hK'.2.1, nI_leI (by omega) (by omega)]; omega), ← hbc]
      simp only [q178_33, xc_W, xg_W_0, xg_W_1, xs_W_1, xg_W_2, xs_W_2, xg_W_3, xg_W_4, xg_W_5, xg_W_6, xg_W_7, xg_W_8, xa_W_row, xb_W_row, xn_W_row, xa_W_wanted, xb_W_wanted, xn_W_wanted, xa_W_shown, xb_W_shown, xn_W_shown, xa_W_places, xb_W_places, xn_W_places, xa_W_rest, xb_W_rest, xn_W_rest, xa_W_spent, xb_W_spent, xn_W_spent, xa_W_tried, xb_W_tried, xn_W_tried]
      apply t_firstBy (W := W') (w2 := w2') (pre := pre) ho hc hb hK' hpc hN (by rw [hr]; exact hR) hS hbest (fun w u hf h => hlow' u (CM_pre hN hf h)) hcm'
      intro w ys hw hf hcw hno hys
      have hbo := bc_or pc (by omega) w (by omega) hf.2.1
      simp only [sl_i, q178_36i, q178_38, q178_39, q178_42, q178_43, q178_45, q178_46, q178_47, q178_48, q178_50, q178_51, q178_52i, q178_53, q178_54, q178_57i, q178_59, q178_60, q178_61, q178_64, q178_67, q178_68, q178_70, xc_W, xg_W_0, xg_W_1, xs_W_1, xg_W_2, xs_W_2, xg_W_3, xg_W_4, xg_W_5, xg_W_6, xg_W_7, xg_W_8, xa_W_row, xb_W_row, xn_W_row, xa_W_wanted, xb_W_wanted, xn_W_wanted, xa_W_shown, xb_W_shown, xn_W_shown, xa_W_places, xb_W_places, xn_W_places, xa_W_rest, xb_W_rest, xn_W_rest, xa_W_spent, xb_W_spent, xn_W_spent, xa_W_tried, xb_W_tried, xn_W_tried, wx_some, wx_ref, isl_i, isl_r, isl_n, aS_n (show bc pc < (W'.1).length by omega) (show (W'.1).length < 2 ^ 31 by omega), k7_or pc (show pc < 128 by omega) w (show w < 7 by omega), xw_W1, xw_W2]
      simp only [q178_73i, q178_76, isl_i, isl_r, isl_n, nI_1]
      have := ih (pc ||| 2 ^ w) (pre ++ [w]) (!w2') ((W'.1).set (bc pc) (nI w), W'.2.1, W'.2.2.1, W'.2.2.2.1, W'.2.2.2.2.1, W'.2.2.2.2.2.1, W'.2.2.2.2.2.2.1, ys, W'.2.2.2.2.2.2.2.1) (some (.int (nI w))) (some (.ref (px_wa w2'))) (by rw [List.length_append, List.length_singleton]; omega) (or_lt hpc hw) (by rw [hbo.1, List.length_append, List.length_singleton, hbc]) (WHk_row (WHk_tried (WHk_spent hK' hys.1) hS.1) (by rw [List.length_set]; exact hrl)) hr hys (fun i w' hi => ?_) (by rw [hbo.1]; exact hcw) (fun u hu => hlow' u (CM_pre hN hf (by rw [hbo.1] at hu; exact hu))) (fun r hr' => ?_)
      · rw [List.length_append, List.length_singleton, ← hbc] at this
        exact this
      · rw [hbc]
        rw [List.getElem?_append] at hi
        show ((W'.1).set pre.length (nI w))[i]? = _
        split at hi
        · rw [List.getElem?_set_ne (by omega)]; exact hrow i w' hi
        · have e : i = pre.length := by
            rcases Nat.lt_or_ge (i - pre.length) 1 with h | h
            · omega
            · rw [List.getElem?_eq_none (by rw [List.length_singleton]; exact h)] at hi; cases hi
          subst e
          rw [Nat.sub_self] at hi
          cases hi
          rw [List.getElem?_set_self (by omega)]
      · rw [hbo.1] at hr'
        have := hbr (w :: r) ⟨hN, hf, hno, hr'⟩
        rw [List.append_assoc]; exact this
  simp only [e178, q178_0, q178_1, q178_4, xc_W, xg_W_0, xg_W_1, xs_W_1, xg_W_2, xs_W_2, xg_W_3, xg_W_4, xg_W_5, xg_W_6, xg_W_7, xg_W_8, xa_W_row, xb_W_row, xn_W_row, xa_W_wanted, xb_W_wanted, xn_W_wanted, xa_W_shown, xb_W_shown, xn_W_shown, xa_W_places, xb_W_places, xn_W_places, xa_W_rest, xb_W_rest, xn_W_rest, xa_W_spent, xb_W_spent, xn_W_spent, xa_W_tried, xb_W_tried, xn_W_tried, wx_some, wx_ref, isl_i, isl_r, isl_n]
  simp only [q178_7]
  apply t_fill (H := fun l => (px_h z E M (px_l sw c2 w2 T D S S1 K R C ((W.1, W.2.1, W.2.2.1, W.2.2.2.1, W.2.2.2.2.1, W.2.2.2.2.2.1, W.2.2.2.2.2.2.1, l, W.2.2.2.2.2.2.2.2)) U q q1 B0 B1 B2 B3))) (fun _ _ _ => xb_W_spent) (fun _ => xn_W_spent) (xs := W.2.2.2.2.2.2.2.1)
  · rw [hspl]; omega
  rw [hspl]
  have h0 : ∀ {β : Type} {f : List Int32 → β}, aS (List.replicate 11 (1000 : Int32)) 0 0 f = some (f ((List.replicate 11 (1000 : Int32)).set 0 0)) := aS_n (j := 0) (by decide) (by decide)
  simp only [sl_n, q178_10, q178_11, q178_14, q178_15, q178_16, q178_17, q178_18i, q178_19, q178_20i, xc_W, xg_W_0, xg_W_1, xs_W_1, xg_W_2, xs_W_2, xg_W_3, xg_W_4, xg_W_5, xg_W_6, xg_W_7, xg_W_8, xa_W_row, xb_W_row, xn_W_row, xa_W_wanted, xb_W_wanted, xn_W_wanted, xa_W_shown, xb_W_shown, xn_W_shown, xa_W_places, xb_W_places, xn_W_places, xa_W_rest, xb_W_rest, xn_W_rest, xa_W_spent, xb_W_spent, xn_W_spent, xa_W_tried, xb_W_tried, xn_W_tried, wx_some, wx_ref, isl_i, isl_r, isl_n, h0]
  refine key b.2.1.1 0 [] w2 (W.1, W.2.1, W.2.2.1, W.2.2.2.1, W.2.2.2.2.1, W.2.2.2.2.2.1, W.2.2.2.2.2.2.1, (List.replicate 11 (1000 : Int32)).set 0 0, W.2.2.2.2.2.2.2.2) none none (by rw [List.length_nil]; omega) (Nat.two_pow_pos _) (by decide) (WHk_spent hK rfl) rfl ⟨rfl, fun p hp => ?_⟩ (fun i w h => by cases h) hcm hlow (fun r hr => hr)
  cases p with
  | zero => exact ⟨0, rfl, by omega, fun u _ => Nat.zero_le u, fun _ => ⟨rfl, rfl⟩⟩
  | succ p =>
    refine ⟨1000, ?_, by omega, mc_no (fun u hu => by have := hu.1; omega) (by omega)⟩
    show ((List.replicate 11 (1000 : Int32)).set 0 0)[p + 1]? = _
    rw [List.getElem?_set_ne (by omega), List.getElem?_replicate, if_pos (by omega)]; rfl
theorem t_fewest (hs : SQx q s) (ho : k_ok s) (hc : c_ok s c) (hS : SCx s S c) (hb : b_ok s b) (hB : BKx b K) (hW : WHl W) (hq0 : ∀ W', WHl W' → (b.2.1.1 = 0 ∨ ∀ x, ¬ CM s c b 0 0 [] x) → Q (some (.int (-1))) (px_h z E M (px_l sw c2 w2 T D S S1 K R C (W') U q q1 B0 B1 B2 B3))) (hq1 : ∀ best row w2' W', 1 ≤ b.2.1.1 → best < 1000 → WHl W' → CM s c b 0 0 [] best → (∀ x, CM s c b 0 0 [] x → best ≤ x) → BR s c b best 0 0 [] row → (∀ (i w : Nat), row[i]? = some w → (W'.1)[i]? = some (nI w)) → Q (some (.int (nI best))) (px_h z E M (px_l sw c2 (w2') T D S S1 K R C (W') U q q1 B0 B1 B2 B3))) : wm (mp_P fx) (d + 4) 172 [.ref 87, .ref (px_ta sw), .ref 67, .ref 71] (px_h z E M (px_l sw c2 w2 T D S S1 K R C W U q q1 B0 B1 B2 B3)) Q := by
  have h7 := ho.1.2.2.2.1
  have hp27 := p27 h7
  have hN7 := hb.2.1.1
  have hbc0 : bc 0 = 0 := by decide
  simp only [e172, q172_0, q172_1, q172_2, q172_3, q172_4, xc_W, xg_W_0, xg_W_1, xs_W_1, xg_W_2, xs_W_2, xg_W_3, xg_W_4, xg_W_5, xg_W_6, xg_W_7, xg_W_8, xa_W_row, xb_W_row, xn_W_row, xa_W_wanted, xb_W_wanted, xn_W_wanted, xa_W_shown, xb_W_shown, xn_W_shown, xa_W_places, xb_W_places, xn_W_places, xa_W_rest, xb_W_rest, xn_W_rest, xa_W_spent, xb_W_spent, xn_W_spent, xa_W_tried, xb_W_tried, xn_W_tried]
  apply t_wtake hs ho hc hS hb hB hW
  intro W' hK
  simp only [sl_n, q172_7, q172_8, q172_11, q172_12, q172_15, q172_16, q172_19, q172_20, q172_23, q172_26, q172_27, q172_28, q172_29, q172_30, q172_33, q172_34, q172_35, q172_36r, xc_W, xg_W_0, xg_W_1, xs_W_1, xg_W_2, xs_W_2, xg_W_3, xg_W_4, xg_W_5, xg_W_6, xg_W_7, xg_W_8, xa_W_row, xb_W_row, xn_W_row, xa_W_wanted, xb_W_wanted, xn_W_wanted, xa_W_shown, xb_W_shown, xn_W_shown, xa_W_places, xb_W_places, xn_W_places, xa_W_rest, xb_W_rest, xn_W_rest, xa_W_spent, xb_W_spent, xn_W_spent, xa_W_tried, xb_W_tried, xn_W_tried, wx_some, wx_ref, isl_i, isl_r, isl_n]
  by_cases e0 : b.2.1.1 = 0
  · rw [if_pos (by rw [hK.2.1, e0]; decide)]
    exact hq0 W' hK.1 (Or.inl e0)
  have hN : 1 ≤ b.2.1.1 := by omega
  rw [if_neg (by rw [hK.2.1, nl_1, nI_ltI (by omega) (by omega)]; omega)]
  by_cases e1 : b.2.1.1 ≤ k_nW s
  · rw [if_pos (by rw [hK.2.1, hK.2.2.1, nI_leI (by omega) (by omega)]; omega), hK.2.2.1, k7_shl _ h7]
    have key : ∀ (m : Nat) (ys : List Int32), m ≤ 2 ^ k_nW s → RSd s c b (fun x => m ≤ x) ys → ww (mp_P fx) (d + 4) 172 38 [some (.ref 87), some (.ref (px_ta sw)), some (.ref 67), some (.ref 71), some (.int (nI m - 1))] [] (px_h z E M (px_l sw c2 w2 T D S S1 K R C ((W'.1, W'.2.1, W'.2.2.1, W'.2.2.2.1, W'.2.2.2.2.1, W'.2.2.2.2.2.1, ys, W'.2.2.2.2.2.2.2.1, W'.2.2.2.2.2.2.2.2)) U q q1 B0 B1 B2 B3)) Q := by
      intro m
      induction m with
      | zero =>
        intro ys hm hY
        have hyl := hY.1
        have hY' : RSd s c b (fun _ => True) ys := ⟨hY.1, fun a _ h2 h3 j hj => hY.2 a (Nat.zero_le a) h2 h3 j hj⟩
        obtain ⟨x, x1, x2, x3⟩ := hY.2 0 (Nat.le_refl 0) (Nat.two_pow_pos _) (by omega) 0 (by omega)
        have x3 : mc (CM s c b 0 0 []) x := x3
        have hx : aG ys 0 = some (nI x) := aG_n x1 (by omega)
        rw [q172_38]
        simp only [q172_40, q172_55, q172_56, q172_59, q172_60, q172_61, q172_64, q172_67, q172_68, q172_69, q172_70, q172_71, q172_74, q172_75, xc_W, xg_W_0, xg_W_1, xs_W_1, xg_W_2, xs_W_2, xg_W_3, xg_W_4, xg_W_5, xg_W_6, xg_W_7, xg_W_8, xa_W_row, xb_W_row, xn_W_row, xa_W_wanted, xb_W_wanted, xn_W_wanted, xa_W_shown, xb_W_shown, xn_W_shown, xa_W_places, xb_W_places, xn_W_places, xa_W_rest, xb_W_rest, xn_W_rest, xa_W_spent, xb_W_spent, xn_W_spent, xa_W_tried, xb_W_tried, xn_W_tried, wx_some, wx_ref, isl_i, isl_r, isl_n, hx]
        rw [if_pos (by decide)]
        by_cases e2 : x < 1000
        · rw [if_pos (by rw [show (1000 : Int32) = nI 1000 from rfl, nI_ltI (by omega) (by omega)]; exact e2)]
          simp only [q172_76, xc_W, xg_W_0, xg_W_1, xs_W_1, xg_W_2, xs_W_2, xg_W_3, xg_W_4, xg_W_5, xg_W_6, xg_W_7, xg_W_8, xa_W_row, xb_W_row, xn_W_row, xa_W_wanted, xb_W_wanted, xn_W_wanted, xa_W_shown, xb_W_shown, xn_W_shown, xa_W_places, xb_W_places, xn_W_places, xa_W_rest, xb_W_rest, xn_W_rest, xa_W_spent, xb_W_spent, xn_W_spent, xa_W_tried, xb_W_tried, xn_W_tried]
          apply t_findRow (W := (W'.1, W'.2.1, W'.2.2.1, W'.2.2.2.1, W'.2.2.2.2.1, W'.2.2.2.2.2.1, ys, W'.2.2.2.2.2.2.2.1, W'.2.2.2.2.2.2.2.2)) ho hc hb (WHk_rest hK hyl) hY' e2 x3.1 (x3.2 e2)
          intro row w2' W2 h1 h2 h3 h4
          have hx2 : aG (W2.2.2.2.2.2.2.1) 0 = some (nI x) := by rw [h3]; exact hx
          simp only [sl_n, q172_79, q172_80, q172_83, q172_84, q172_85, xc_W, xg_W_0, xg_W_1, xs_W_1, xg_W_2, xs_W_2, xg_W_3, xg_W_4, xg_W_5, xg_W_6, xg_W_7, xg_W_8, xa_W_row, xb_W_row, xn_W_row, xa_W_wanted, xb_W_wanted, xn_W_wanted, xa_W_shown, xb_W_shown, xn_W_shown, xa_W_places, xb_W_places, xn_W_places, xa_W_rest, xb_W_rest, xn_W_rest, xa_W_spent, xb_W_spent, xn_W_spent, xa_W_tried, xb_W_tried, xn_W_tried, wx_some, wx_ref, hx2]
          exact hq1 x row w2' W2 hN e2 h2 (x3.2 e2) x3.1 h1 h4
        · rw [if_neg (by rw [show (1000 : Int32) = nI 1000 from rfl, nI_ltI (by omega) (by omega)]; exact e2)]
          exact hq0 _ (WHk_rest hK hyl).1 (Or.inr (fun u hu => by
            have := x3.1 u hu
            have := CM_lt hc hb hu
            omega))
      | succ m ih =>
        intro ys hm hY
        rw [nl_1, nI_sub (show 1 ≤ m + 1 by omega), Nat.add_sub_cancel, q172_38]
        simp only [q172_40, q172_43, q172_44]
        rw [if_neg (by rw [nl_0, nI_ltI (by omega) (by omega)]; omega)]
        simp only [q172_46, xc_W, xg_W_0, xg_W_1, xs_W_1, xg_W_2, xs_W_2, xg_W_3, xg_W_4, xg_W_5, xg_W_6, xg_W_7, xg_W_8, xa_W_row, xb_W_row, xn_W_row, xa_W_wanted, xb_W_wanted, xn_W_wanted, xa_W_shown, xb_W_shown, xn_W_shown, xa_W_places, xb_W_places, xn_W_places, xa_W_rest, xb_W_rest, xn_W_rest, xa_W_spent, xb_W_spent, xn_W_spent, xa_W_tried, xb_W_tried, xn_W_tried]
        apply t_fillRest (W := W') ho hc hb hK (show m < 2 ^ k_nW s by omega) ⟨hY.1, fun a h1 => hY.2 a h1⟩
        intro zs hZ
        simp only [sl_n, q172_49r, q172_52, isl_i, isl_r, isl_n]
        rw [i_m1]
        exact ih zs (by omega) hZ
    exact key (2 ^ k_nW s) W'.2.2.2.2.2.2.1 (Nat.le_refl _) ⟨hK.1.2.2.2.2.1, fun a h1 h2 => by omega⟩
  · rw [if_neg (by rw [hK.2.1, hK.2.2.1, nI_leI (by omega) (by omega)]; omega)]
    exact hq0 W' hK.1 (Or.inr (fun x ⟨row, h1, h2⟩ => e1 (VR_le h7 row 0 0 (Nat.two_pow_pos _) hbc0 h1)))
theorem t_steps {v : Int32} (hK : KX nm s q R C) (hc : c_ok s c) (hS : SCx s S c) (hb : b_ok s b) (hB : BKx b K) (hW : WHl W) (hq : ∀ u w2' W', WHl W' → SPst s c b v u → Q (some (.int u)) (px_h z E M (px_l sw c2 (w2') T D S S1 K R C (W') U q q1 B0 B1 B2 B3))) : wm (mp_P fx) (d + 5) 171 [.ref 59, .int v] (px_h z E M (px_l sw c2 w2 T D S S1 K R C W U q q1 B0 B1 B2 B3)) Q := by
  have ho := hK.2.2.1
  have hN7 := hb.2.1.1
  have hwc := hB.2.1.2.1
  simp only [q171_0, q171_1, q171_2, q171_5, q171_6, q171_7, q171_10, q171_13, q171_16, q171_18, q171_19, q171_20, q171_23, q171_24, q171_27, q171_28, q171_31, q171_32, q171_35, q171_38i, e171, xc_x, xg_x_0, xg_x_1, xg_x_2, xg_x_3, xg_x_4, xg_x_5, xg_x_6, xg_x_7, xg_x_8, xg_x_9, xg_x_10, xg_x_11, xg_x_12, xg_x_13, xg_x_14, xs_x_14, xg_x_15, xs_x_15, xc_K, xg_K_0, xg_K_1, xs_K_1, xg_K_2, xg_K_3, xs_K_3, xg_K_4, xg_K_5, xs_K_5, xa_K_lines, xb_K_lines, xn_K_lines, xa_K_wishes, xb_K_wishes, xn_K_wishes, xa_K_sights, xb_K_sights, xn_K_sights, xc_q, xg_q_0, xg_q_1, xs_q_1, xg_q_2, xg_q_3, xg_q_4, xs_q_4, xg_q_5, xg_q_6, xg_q_7, xg_q_8, xs_q_8, xg_q_9, xs_q_9, xg_q_10, xg_q_11, xg_q_12, xg_q_13, xg_q_14, xg_q_15, xg_q_16, xs_q_16, xg_q_17, xg_q_18, xs_q_18, xg_q_19, xa_q_sortNames, xb_q_sortNames, xn_q_sortNames, xa_q_colourNames, xb_q_colourNames, xn_q_colourNames, xa_q_colourSorts, xb_q_colourSorts, xn_q_colourSorts, xa_q_ruleMakes, xb_q_ruleMakes, xn_q_ruleMakes, xa_q_ruleFirsts, xb_q_ruleFirsts, xn_q_ruleFirsts, xa_q_ruleSeconds, xb_q_ruleSeconds, xn_q_ruleSeconds, xa_q_walkerNames, xb_q_walkerNames, xn_q_walkerNames, xa_q_kinds, xb_q_kinds, xn_q_kinds, xa_q_walkerColours, xb_q_walkerColours, xn_q_walkerColours, xa_q_starts, xb_q_starts, xn_q_starts, xa_q_stepRows, xb_q_stepRows, xn_q_stepRows, xa_q_stepCounts, xb_q_stepCounts, xn_q_stepCounts, xa_q_gusts, xb_q_gusts, xn_q_gusts, xc_ql, xg_ql_0, xg_ql_1, xs_ql_1, xg_ql_2, xg_ql_3, xs_ql_3, xa_q_parts, xb_q_parts, xn_q_parts, xa_q_stack, xb_q_stack, xn_q_stack, wx_some, wx_ref, isl_i, isl_r, isl_n]
  by_cases e1 : v < -1
  · rw [if_pos e1]
    exact hq _ w2 W hW (Or.inl ⟨Or.inr (Or.inl e1), rfl⟩)
  rw [if_neg e1]
  by_cases e2 : nI b.2.1.1 ≤ v
  · rw [if_neg (by rw [hwc]; exact Int32.not_lt.mpr e2)]
    exact hq _ w2 W hW (Or.inl ⟨Or.inr (Or.inr e2), rfl⟩)
  rw [if_pos (by rw [hwc]; exact Int32.not_le.mp e2)]
  have hnb : ¬ b.2.1.1 = 0 → ¬ SPbad b v := fun e0 h => by
    rcases h with h | h | h
    · exact e0 h
    · exact e1 h
    · exact e2 h
  simp only [q171_35, xc_W, xg_W_0, xg_W_1, xs_W_1, xg_W_2, xs_W_2, xg_W_3, xg_W_4, xg_W_5, xg_W_6, xg_W_7, xg_W_8, xa_W_row, xb_W_row, xn_W_row, xa_W_wanted, xb_W_wanted, xn_W_wanted, xa_W_shown, xb_W_shown, xn_W_shown, xa_W_places, xb_W_places, xn_W_places, xa_W_rest, xb_W_rest, xn_W_rest, xa_W_spent, xb_W_spent, xn_W_spent, xa_W_tried, xb_W_tried, xn_W_tried]
  apply t_fewest hK.1 ho hc hS hb hB hW
  · intro W' hW' hno
    simp only [sl_i, q171_38i, q171_39, q171_40, q171_41, q171_44, q171_46, isl_i, isl_r, isl_n]
    rw [if_neg (fun z => z trivial)]
    by_cases e0 : b.2.1.1 = 0
    · exact hq _ w2 W' hW' (Or.inl ⟨Or.inl e0, rfl⟩)
    · exact hq _ w2 W' hW' (Or.inr ⟨hnb e0, Or.inl ⟨hno.resolve_left e0, rfl⟩⟩)
  · intro best row w2' W' hN1 hbl hW' h1 h2 h3 h4
    have hnb := hnb (by omega)
    obtain ⟨g1, g2⟩ := BR_len _ _ _ _ h3
    rw [Nat.zero_add] at g1
    have hm : ∀ i : Nat, i < 2 ^ 31 → ¬ nI i = -1 := fun i hi z => by
      have := congrArg Int32.toInt z
      rw [nI_toInt (by omega)] at this
      have h9 : (-1 : Int32).toInt = -1 := by decide
      omega
    simp only [sl_i, q171_38i, q171_39, q171_40, q171_41, q171_44, q171_46, isl_i, isl_r, isl_n]
    rw [if_pos (hm best (by omega))]
    simp only [q171_47, q171_48, q171_49, q171_52, q171_53]
    by_cases e3 : v = -1
    · subst e3
      rw [if_neg (fun z => z rfl)]
      simp only [q171_53, q171_65]
      exact hq _ w2' W' hW' (Or.inr ⟨hnb, Or.inr ⟨best, row, h1, h2, h3, Or.inl ⟨rfl, rfl⟩⟩⟩)
    · rw [if_pos e3]
      rcases iv v with hv | ⟨i, hi, rfl⟩
      · have a1 := Int32.lt_iff_toInt_lt.mp hv
        have a2 : ¬ v.toInt < (-1 : Int32).toInt := fun z => e1 (Int32.lt_iff_toInt_lt.mpr z)
        have h9 : (-1 : Int32).toInt = -1 := by decide
        have h8 : (0 : Int32).toInt = 0 := by decide
        exact absurd (Int32.toInt_inj.mp (show v.toInt = (-1 : Int32).toInt by omega)) e3
      · have hi2 : i < b.2.1.1 := by
          rcases Nat.lt_or_ge i b.2.1.1 with h | h
          · exact h
          · exact absurd ((nI_leI (by omega) hi).mpr h) e2
        have hw : ∃ w, row[i]? = some w := ⟨_, List.getElem?_eq_getElem (by omega)⟩
        obtain ⟨w, hw⟩ := hw
        have hl := hW'.1
        simp only [q171_56, q171_57, q171_60, q171_63, q171_64, q171_65, xc_x, xg_x_0, xg_x_1, xg_x_2, xg_x_3, xg_x_4, xg_x_5, xg_x_6, xg_x_7, xg_x_8, xg_x_9, xg_x_10, xg_x_11, xg_x_12, xg_x_13, xg_x_14, xs_x_14, xg_x_15, xs_x_15, xc_W, xg_W_0, xg_W_1, xs_W_1, xg_W_2, xs_W_2, xg_W_3, xg_W_4, xg_W_5, xg_W_6, xg_W_7, xg_W_8, xa_W_row, xb_W_row, xn_W_row, xa_W_wanted, xb_W_wanted, xn_W_wanted, xa_W_shown, xb_W_shown, xn_W_shown, xa_W_places, xb_W_places, xn_W_places, xa_W_rest, xb_W_rest, xn_W_rest, xa_W_spent, xb_W_spent, xn_W_spent, xa_W_tried, xb_W_tried, xn_W_tried, wx_some, wx_ref, aG_n (h4 i w hw) (show (W'.1).length < 2 ^ 31 by omega)]
        exact hq _ w2' W' hW' (Or.inr ⟨hnb, Or.inr ⟨best, row, h1, h2, h3, Or.inr ⟨i, w, hi2, rfl, hw, rfl⟩⟩⟩)
end WF
