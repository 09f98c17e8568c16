/-! the model reads a law -/
def CDl (g : Nat → GR) : Prop := ∀ i, (g i).1 = 0 → ∀ c, c ∈ (g i).2.2.2.1 → c < 2 ^ 20
theorem CDl_lp {sub : Nat → GR} {op : Nat → Option (Int32 × Nat)} (hs : CDl sub) (hop : ∀ j pc, op j = some pc → pc.2 < 2 ^ 20) : ∀ m x, (∀ c, c ∈ x.2.2.2.1 → c < 2 ^ 20) → (g_lp sub op m x).1 = 0 → ∀ c, c ∈ (g_lp sub op m x).2.2.2.1 → c < 2 ^ 20 := by
  intro m
  induction m with
  | zero => intro x hx _; exact hx
  | succ m ih =>
    intro x hx h0
    rw [g_lp_s] at h0 ⊢
    cases e : op x.2.1 with
    | none => exact hx
    | some pc =>
      rw [e] at h0
      simp only [] at h0 ⊢
      by_cases e2 : (sub (x.2.1 + 1)).1 = 0
      · rw [if_pos e2] at h0 ⊢
        refine ih _ ?_ h0
        intro c hc
        have hc : c ∈ x.2.2.2.1 ++ pc.2 :: (sub (x.2.1 + 1)).2.2.2.1 := hc
        rw [List.mem_append, List.mem_cons] at hc
        rcases hc with hc | hc | hc
        · exact hx c hc
        · rw [hc]; exact hop _ _ e
        · exact hs _ e2 c hc
      · rw [if_neg e2] at h0; exact absurd h0 e2
theorem opM_c {tp : List Nat} {j : Nat} {pc : Int32 × Nat} (h : opM tp j = some pc) : pc.2 < 2 ^ 20 := by
  unfold opM at h
  split at h
  · cases h; decide
  · cases h
theorem opS_c {tp : List Nat} {j : Nat} {pc : Int32 × Nat} (h : opS tp j = some pc) : pc.2 < 2 ^ 20 := by
  unfold opS at h
  split at h
  · cases h; decide
  · split at h
    · cases h; decide
    · cases h
theorem opT_c {tp : List Nat} {j : Nat} {pc : Int32 × Nat} (h : opT tp j = some pc) : pc.2 < 2 ^ 20 := by
  unfold opT at h
  split at h
  · cases h; decide
  · split at h
    · cases h; decide
    · cases h
theorem opE_c {tp : List Nat} {j : Nat} {pc : Int32 × Nat} (h : opE tp j = some pc) : pc.2 < 2 ^ 20 := by
  unfold opE at h
  split at h
  · cases h; decide
  · split at h
    · cases h; decide
    · cases h
theorem CDl_P {tp : List Nat} {pt : Nat → GR} (hp : CDl pt) : CDl (g_P tp pt) := by
  intro i h0
  unfold g_P at h0 ⊢
  by_cases e : (pt i).1 = 0
  · rw [if_pos e] at h0 ⊢; exact CDl_lp hp (fun _ _ => opM_c) 1000 _ (hp i e) h0
  · rw [if_neg e] at h0; exact absurd h0 e
theorem CDl_S {tp : List Nat} {pt : Nat → GR} (hp : CDl pt) : CDl (g_S tp pt) := by
  intro i h0
  have hP := CDl_P (tp := tp) hp
  unfold g_S at h0 ⊢
  by_cases e : (g_P tp pt i).1 = 0
  · rw [if_pos e] at h0 ⊢; exact CDl_lp hP (fun _ _ => opS_c) 1000 _ (hP i e) h0
  · rw [if_neg e] at h0; exact absurd h0 e
theorem CDl_T {tp : List Nat} {pt : Nat → GR} (hp : CDl pt) : CDl (g_T tp pt) := by
  intro i h0
  have hS := CDl_S (tp := tp) hp
  unfold g_T at h0 ⊢
  by_cases e : (g_S tp pt i).1 = 0
  · rw [if_pos e] at h0 ⊢
    cases eo : opT tp (g_S tp pt i).2.1 with
    | none => exact hS i e
    | some pc =>
      rw [eo] at h0
      simp only [] at h0 ⊢
      by_cases e2 : (g_S tp pt ((g_S tp pt i).2.1 + 1)).1 = 0
      · rw [if_pos e2]
        intro c hc
        have hc : c ∈ (g_S tp pt i).2.2.2.1 ++ pc.2 :: (g_S tp pt ((g_S tp pt i).2.1 + 1)).2.2.2.1 := hc
        rw [List.mem_append, List.mem_cons] at hc
        rcases hc with hc | hc | hc
        · exact hS i e c hc
        · rw [hc]; exact opT_c eo
        · exact hS _ e2 c hc
      · rw [if_neg e2] at h0; exact absurd h0 e2
  · rw [if_neg e] at h0; exact absurd h0 e
theorem CDl_E {tp : List Nat} {pt : Nat → GR} (hp : CDl pt) : CDl (g_E tp pt) := by
  intro i h0
  have hT := CDl_T (tp := tp) hp
  unfold g_E at h0 ⊢
  by_cases e : (g_T tp pt i).1 = 0
  · rw [if_pos e] at h0 ⊢; exact CDl_lp hT (fun _ _ => opE_c) 1000 _ (hT i e) h0
  · rw [if_neg e] at h0; exact absurd h0 e
theorem CDl_part {tp : List Nat} : ∀ k, CDl (g_part tp k) := by
  intro k
  induction k with
  | zero =>
    intro i h0
    rw [g_part] at h0
    split at h0
    · exact absurd h0 (flt_ne (by omega))
    · exact absurd h0 (flt_ne (by omega))
  | succ k ih =>
    intro i h0
    rw [g_part] at h0 ⊢
    by_cases y : g_st tp i = true
    · rw [if_pos y] at h0 ⊢
      by_cases e1 : wdB tp i 19 = true
      · rw [if_pos e1] at h0 ⊢
        by_cases e : (g_part tp k (i + 1)).1 = 0
        · rw [if_pos e]
          intro c hc
          have hc : c ∈ 30 :: (g_part tp k (i + 1)).2.2.2.1 := hc
          rw [List.mem_cons] at hc
          rcases hc with hc | hc
          · omega
          · exact ih _ e c hc
        · rw [if_neg e] at h0; exact absurd h0 e
      rw [if_neg e1] at h0 ⊢
      by_cases e2 : snB tp i 40 = true
      · rw [if_pos e2] at h0 ⊢
        by_cases e : (g_E tp (g_part tp k) (i + 1)).1 = 0
        · rw [if_pos e] at h0 ⊢
          by_cases e3 : snB tp (g_E tp (g_part tp k) (i + 1)).2.1 41 = true
          · rw [if_pos e3]
            intro c hc
            have hc : c ∈ 28 :: ((g_E tp (g_part tp k) (i + 1)).2.2.2.1 ++ [29]) := hc
            rw [List.mem_cons, List.mem_append, List.mem_singleton] at hc
            rcases hc with hc | hc | hc
            · omega
            · exact CDl_E (tp := tp) ih _ e c hc
            · omega
          · rw [if_neg e3] at h0; exact absurd h0 (flt_ne (by omega))
        · rw [if_neg e] at h0; exact absurd h0 e
      rw [if_neg e2]
      by_cases e3 : g_fc tp i = 0
      · rw [if_pos e3]
        intro c hc
        have hc : c ∈ [100 + VL tp i] := hc
        rw [List.mem_singleton] at hc
        have h2 : TY tp i = 2 := by
          unfold g_st at y
          rw [Bool.or_eq_true, Bool.or_eq_true, Bool.or_eq_true] at y
          rcases y with y | y | y | y
          · rw [e3] at y; exact absurd y (by decide)
          · exact absurd y e1
          · exact absurd y e2
          · exact of_decide_eq_true y
        have := VL_lt h2
        omega
      · rw [if_neg e3]
        intro c hc
        have hc : c ∈ [g_fc tp i] := hc
        rw [List.mem_singleton] at hc
        have hf : g_fc tp i ≤ 4 := by unfold g_fc; repeat' split
                                      all_goals omega
        omega
    · rw [if_neg y] at h0; exact absurd h0 (flt_ne (by omega))
section GY
variable {fx : List Value → mm_H → Option (List Value × mm_H)} {z : Nat} {X Y : Nat → mm_C} {mV : pm_V} {mT : pm_T} {mQ : pm_Q} {mO : pm_O} {mE : pm_E} {mB : pm_B} {mS : pm_S} {mR : pm_R} {mW : pm_W} {m_thrown : Int32} {m_given : Int32} {m_fresh : Int64} {m_code : Int32} {m_taped : Int32} {m_tape : List Int32} {m_size : Int32} {m_place : Int32} {m_begin : Int32} {m_token : Int32} {m_word : Int64} {m_told : Int32} {m_wrong : Int32} {m_square : List Int32} {m_sortName : List Int64} {m_colourName : List Int64} {m_walkerName : List Int64} {m_sortOf : List Int32} {m_rules : List Int32} {m_kind : List Int32} {m_colour : List Int32} {m_atTold : List Int32} {m_goesMany : List Int32} {m_goes : List Int32} {m_gusts : List Int32} {m_lineFrom : List Int32} {m_lineTo : List Int32} {m_codes : List Int32} {m_opened : List Int32} {m_compared : List Int32} {m_kept : List Int32} {m_keptBy : List Int32} {m_ahead : List Int32} {m_against : List Int32} {m_sum : List Int32} {m_sumBy : List Int32} {m_term : List Int32} {m_termBy : List Int32} {m_byNot : List Int32} {m_valueOf : List Int32} {m_lines : List Int32} {m_lineWhat : List Int32} {m_lineA : List Int32} {m_lineB : List Int32} {m_wishes : List Int32} {m_wishOf : List Int32} {m_seens : List Int32} {m_seenAt : List Int32} {m_seenIn : List Int32} {m_seenThere : List Int32} {m_s : List Int32} {m_aside : List Int32} {m_before : List Int32} {m_marked : List Int32} {m_undone : List Int32} {m_isLaid : List Int32} {m_done : Int32} {m_gustNow : Int32} {m_shown : List Int32} {m_shownMany : Int32} {m_from7 : List Int32} {m_long7 : List Int32} {m_sentences : Int32} {m_text7 : List Int32} {m_textMany : Int32} {m_waysOf : List Int32} {m_rowOf : List Int32} {m_row : List Int32} {m_bestRow : List Int32} {m_leastSteps : Int32} {m_steps10 : List Int32} {m_placeIn : List Int32} {m_g : Int64}
variable {Q : Option Value → mm_H → Prop} {tp : List Nat} {i k dep : Nat} {mV0 : pm_V} {mQ0 : pm_Q} {op cm : Nat → Int32} {o : PS} {a : pm_Q}
theorem tm_reads (ht : tp_ok tp) (hT : TKm tp i mT) (hL : LQm mV0 mQ0 [] mV mQ) (hO : OPm op cm mO) (hq1 : (g_E tp (g_part tp 5) i).1 = 0 → snB tp (g_E tp (g_part tp 5) i).2.1 59 = true → ∀ mV' mT' mQ' mO' op' cm', TKm tp ((g_E tp (g_part tp 5) i).2.1 + 1) mT' → LQm mV0 mQ0 (g_E tp (g_part tp 5) i).2.2.2.1 mV' mQ' → OPm op' cm' mO' → Q (some (.int 1)) (pm_h z X Y (pm_l (mV') (mT') (mQ') (mO') mE mB mS mR mW))) (hq0 : (g_E tp (g_part tp 5) i).1 = 0 → ¬ snB tp (g_E tp (g_part tp 5) i).2.1 59 = true → BR0 fx z X Y mE mB mS mR mW mV0 mQ0 tp dep Q (flt tp 1 (g_E tp (g_part tp 5) i).2.1)) (hqb : ¬ (g_E tp (g_part tp 5) i).1 = 0 → BR0 fx z X Y mE mB mS mR mW mV0 mQ0 tp dep Q (g_E tp (g_part tp 5) i).1) : wm (mp_P fx) (dep + 3) 246 [.ref 149] (pm_h z X Y (pm_l mV mT mQ mO mE mB mS mR mW)) Q := by
  have o2 := hO.2.1
  have hE := MP_E (fx := fx) (z := z) (X := X) (Y := Y) (mE := mE) (mB := mB) (mS := mS) (mR := mR) (mW := mW) (mV0 := mV0) (mQ0 := mQ0) (dep := dep) (Q := Q) (dp := 0) (by omega) ht (GLn_part 5) (fun i cs op cm hb _ h1 h2 => MP_part ht 5 0 i cs op cm (by omega) (fun a0 op' cm' ho hc => by rw [hb]; exact h1 a0 op' cm' ho (fun j hj => hc j (by omega)) trivial) h2)
  have hW : WR fx z X Y mE mB mS mR mW mV0 mQ0 tp dep Q 0 1 i [] op (uL cm 0 0) := by
    apply hE i [] op (uL cm 0 0) rfl uL_eq
    · intro a0 op' cm' ho hc hpo
      apply w0_off (by omega) hpo.1.2.1 hpo.1.1 hpo.1.2.2 hpo.2
      · intro _ h; omega
      · intro _ y59 mV' mT' mQ' mO' b1 b2 b3
        exact hq1 a0 y59 mV' mT' mQ' mO' op' cm' b1 b2 b3
      · intro _ n2
        exact hq0 a0 (fun e => n2 ⟨rfl, e⟩)
    · exact hqb
  simp only [e246, b246_0, b246_1, bn_0 b246_0, bn_1 b246_1, q246_0, q246_1r, q246_2, q246_3i, q246_4, q246_5, q246_8, q246_9, q246_10, mc_o, mg_compared, ma_compared, mb_compared, mn_compared, wx_some, wx_ref, isl_i, isl_r, isl_n, nar_0, nl_0, aS_n (show 0 < (mO.2).length by omega) (show (mO.2).length < 2 ^ 31 by omega)]
  exact hW mV mT mQ (mO.1, (mO.2).set 0 0) _ _ _ hT hL ⟨hO.1, af_set hO.2 (by omega) (fun j => rfl)⟩ (Nat.zero_le _) rfl rfl rfl
end GY
