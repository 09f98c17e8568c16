/-! depth and tree, of the model: all rows -/
def RTg (s : SQ) (t : Nat → Nat) (n a y i k : Nat) (xs : List Int32) : Prop := xs.length = 2058 ∧ ∀ a' y' i' k', a' < 7 → y' < 6 → i' ≤ k' → k' < n → (a' < a ∨ (a' = a ∧ (y' < y ∨ (y' = y ∧ (i' < i ∨ (i' = i ∧ k' < k)))))) → xs[cq a' y' i' k']? = some (io (rwf s t a' (k' - i') i' y'))
theorem RTg_m {s : SQ} {t : Nat → Nat} {n a y i k : Nat} {xs : List Int32} (h : RTg s t n a y i k xs) (ha : a < 7) : RTm s t n a xs := ⟨h.1, fun dp i k y h1 h2 h3 h4 => h.2 dp y i k (by omega) h4 h2 h3 (Or.inl h1)⟩
theorem RTg_set {s : SQ} {t : Nat → Nat} {n a y i k : Nat} {xs : List Int32} (h : RTg s t n a y i k xs) (ha : a < 7) (hy : y < 6) (hik : i ≤ k) (hk : k < n) (hn : n ≤ 7) : RTg s t n a y i (k + 1) (xs.set (cq a y i k) (io (rwf s t a (k - i) i y))) := by
  refine ⟨by rw [List.length_set]; exact h.1, fun a' y' i' k' g1 g2 g3 g4 g5 => ?_⟩
  rw [List.getElem?_set]
  by_cases e : cq a y i k = cq a' y' i' k'
  · obtain ⟨e1, e2, e3, e4⟩ := cq_inj hy (by omega) (by omega) g2 (by omega) (by omega) e
    subst e1; subst e2; subst e3; subst e4
    rw [if_pos rfl, if_pos (by rw [h.1]; exact cq_lt ha hy (by omega) (by omega))]
  · rw [if_neg e]
    refine h.2 a' y' i' k' g1 g2 g3 g4 ?_
    have : ¬ (a' = a ∧ y' = y ∧ i' = i ∧ k' = k) := fun z => e (by rw [z.1, z.2.1, z.2.2.1, z.2.2.2])
    omega
theorem RTg_to {s : SQ} {t : Nat → Nat} {n a y i k b z j l : Nat} {xs : List Int32} (h : RTg s t n a y i k xs) (hi : ∀ a' y' i' k', a' < 7 → y' < 6 → i' ≤ k' → k' < n → (a' < b ∨ (a' = b ∧ (y' < z ∨ (y' = z ∧ (i' < j ∨ (i' = j ∧ k' < l)))))) → (a' < a ∨ (a' = a ∧ (y' < y ∨ (y' = y ∧ (i' < i ∨ (i' = i ∧ k' < k))))))) : RTg s t n b z j l xs := ⟨h.1, fun a' y' i' k' g1 g2 g3 g4 g5 => h.2 a' y' i' k' g1 g2 g3 g4 (hi a' y' i' k' g1 g2 g3 g4 g5)⟩
section MT
variable {fx : List Value → mm_H → Option (List Value × mm_H)} {z : Nat} {X Y : Nat → mm_C} {mV : pm_V} {mT : pm_T} {mQ : pm_Q} {mO : pm_O} {mE : pm_E} {mB : pm_B} {mS : pm_S} {mR : pm_R} {mW : pm_W} {m_thrown : Int32} {m_given : Int32} {m_fresh : Int64} {m_code : Int32} {m_taped : Int32} {m_tape : List Int32} {m_size : Int32} {m_place : Int32} {m_begin : Int32} {m_token : Int32} {m_word : Int64} {m_told : Int32} {m_wrong : Int32} {m_square : List Int32} {m_sortName : List Int64} {m_colourName : List Int64} {m_walkerName : List Int64} {m_sortOf : List Int32} {m_rules : List Int32} {m_kind : List Int32} {m_colour : List Int32} {m_atTold : List Int32} {m_goesMany : List Int32} {m_goes : List Int32} {m_gusts : List Int32} {m_lineFrom : List Int32} {m_lineTo : List Int32} {m_codes : List Int32} {m_opened : List Int32} {m_compared : List Int32} {m_kept : List Int32} {m_keptBy : List Int32} {m_ahead : List Int32} {m_against : List Int32} {m_sum : List Int32} {m_sumBy : List Int32} {m_term : List Int32} {m_termBy : List Int32} {m_byNot : List Int32} {m_valueOf : List Int32} {m_lines : List Int32} {m_lineWhat : List Int32} {m_lineA : List Int32} {m_lineB : List Int32} {m_wishes : List Int32} {m_wishOf : List Int32} {m_seens : List Int32} {m_seenAt : List Int32} {m_seenIn : List Int32} {m_seenThere : List Int32} {m_s : List Int32} {m_aside : List Int32} {m_before : List Int32} {m_marked : List Int32} {m_undone : List Int32} {m_isLaid : List Int32} {m_done : Int32} {m_gustNow : Int32} {m_shown : List Int32} {m_shownMany : Int32} {m_from7 : List Int32} {m_long7 : List Int32} {m_sentences : Int32} {m_text7 : List Int32} {m_textMany : Int32} {m_waysOf : List Int32} {m_rowOf : List Int32} {m_row : List Int32} {m_bestRow : List Int32} {m_leastSteps : Int32} {m_steps10 : List Int32} {m_placeIn : List Int32} {m_g : Int64}
variable {d : Nat} {Q : Option Value → mm_H → Prop} {s : SQ} {c : SC} {t : Nat → Nat} {n : Nat} {nm : NMs}
theorem tm_grows (hs : SQm mQ s) (ho : k_ok s) (hn1 : 1 ≤ n) (hn7 : n ≤ 7) (h0 : 0 < k_nS s) (hR : RLm mR) (htm : mR.2.2.2.2.2.2.1 = nI n) (ht : ∀ j, j < n → (mR.2.2.2.2.2.1)[j]? = some (nI (t j)) ∧ t j < k_nC s) (hq : ∀ xs, RTm s t n 7 xs → Q (some (.int (io (sp_dep s t n)))) (pm_h z X Y (pm_l mV mT mQ mO mE mB mS ((mR.1, mR.2.1, mR.2.2.1, mR.2.2.2.1, mR.2.2.2.2.1, mR.2.2.2.2.2.1, mR.2.2.2.2.2.2.1, mR.2.2.2.2.2.2.2.1, xs)) mW))) : wm (mp_P fx) (d + 2) 293 [.ref 149] (pm_h z X Y (pm_l mV mT mQ mO mE mB mS mR mW)) Q := by
  obtain ⟨r1, r2, r3, r4, r5, r6⟩ := id hR
  have hsl := hs.1.1
  have hS6 := ho.1.1
  obtain ⟨y0, h1, h2⟩ := hs.2.2.1
  rcases h2 with h2 | h2
  · omega
  obtain ⟨h2, h3⟩ := h2
  subst h2
  have h4 : aG (mQ.1) 4 = some (nI (k_sy s)) := aG_n h1 (by omega)
  have keyB : ∀ (xs : List Int32), RTm s t n 7 xs → ∀ (m a : Nat) (l2 l3 l4 : Option Value), a + m = 7 → (∀ j, j < a → (rwf s t j (n - 1) 0 (k_sy s)).isSome = false) → ww (mp_P fx) (d + 2) 293 98 [some (.ref 149), some (.int (nI a)), l2, l3, l4] [] (pm_h z X Y (pm_l mV mT mQ mO mE mB mS ((mR.1, mR.2.1, mR.2.2.1, mR.2.2.2.1, mR.2.2.2.2.1, mR.2.2.2.2.2.1, mR.2.2.2.2.2.2.1, mR.2.2.2.2.2.2.2.1, xs)) mW)) Q := by
    intro xs hX m
    have hxl := hX.1
    induction m with
    | zero =>
      intro a l2 l3 l4 ha hno
      have ha2 : a = 7 := by omega
      subst ha2
      rw [q293_98]
      simp only [q293_99, q293_101, q293_138, q293_139]
      rw [if_pos (by decide)]
      have := hq xs hX
      rw [show sp_dep s t n = none from ffl_none _ hno] at this
      exact this
    | succ m ih =>
      intro a l2 l3 l4 ha hno
      have hv := hX.2 a 0 (n - 1) (k_sy s) (by omega) (by omega) (by omega) (by omega)
      rw [Nat.sub_zero] at hv
      have hlt : ∀ v, rwf s t a (n - 1) 0 (k_sy s) = some v → v < 2 ^ 31 := fun v hv => Nat.lt_of_lt_of_le (rwf_lt ho _ _ _ _ _ hv) (Nat.pow_le_pow_right (by omega) (by omega))
      rw [q293_98]
      simp only [q293_99, q293_101, q293_104, q293_105, q293_108, q293_109, q293_110, q293_111, q293_114, q293_115, q293_116, q293_117, q293_118, q293_121, q293_122, mc_o, mg_rowOf, ma_rowOf, mb_rowOf, mn_rowOf, mg_square, ma_square, mb_square, mn_square, mg_textMany, mf_textMany, wx_some, wx_ref, h4]
      rw [if_neg (by rw [nl_7, nI_leI (by omega) (by omega)]; omega), show mR.2.2.2.2.2.2.1 - 1 = nI (n - 1) by rw [htm, nl_1, nI_sub hn1]]
      simp only [q293_123, mc_o]
      apply tm_cellOf (i := 0)
      simp only [sl_i, q293_126, q293_127, q293_130, q293_131, q293_132r, q293_135, mc_o, mg_rowOf, ma_rowOf, mb_rowOf, mn_rowOf, wx_some, wx_ref, isl_i, isl_r, isl_n, aG_n hv (show xs.length < 2 ^ 31 by omega), nI_1]
      cases eo : rwf s t a (n - 1) 0 (k_sy s) with
      | none =>
        rw [if_pos (by decide)]
        refine ih (a + 1) l2 l3 l4 (by omega) (fun j hj => ?_)
        by_cases ej : j = a
        · subst ej; rw [eo]; rfl
        · exact hno j (by omega)
      | some v =>
        rw [if_neg (fun z => by have := (io_lt0 (fun v' hv' => by cases hv'; exact hlt v eo)).mp z; cases this)]
        have := hq xs hX
        rw [show sp_dep s t n = some a from ffl_at hno (by rw [eo]; rfl) 7 (by omega)] at this
        exact this
  have key4 : ∀ (a y i : Nat), a < 7 → y < 6 → i < n → (∀ xs l4, RTg s t n a y (i + 1) (i + 1) xs → ww (mp_P fx) (d + 2) 293 29 [some (.ref 149), some (.int (nI a)), some (.int (nI y)), some (.int (nI (i + 1))), l4] [] (pm_h z X Y (pm_l mV mT mQ mO mE mB mS ((mR.1, mR.2.1, mR.2.2.1, mR.2.2.2.1, mR.2.2.2.2.1, mR.2.2.2.2.2.1, mR.2.2.2.2.2.2.1, mR.2.2.2.2.2.2.2.1, xs)) mW)) Q) → ∀ (m k : Nat) (xs : List Int32), k + m = n → i ≤ k → RTg s t n a y i k xs → ww (mp_P fx) (d + 2) 293 40 [some (.ref 149), some (.int (nI a)), some (.int (nI y)), some (.int (nI i)), some (.int (nI k))] [] (pm_h z X Y (pm_l mV mT mQ mO mE mB mS ((mR.1, mR.2.1, mR.2.2.1, mR.2.2.2.1, mR.2.2.2.2.1, mR.2.2.2.2.2.1, mR.2.2.2.2.2.2.1, mR.2.2.2.2.2.2.2.1, xs)) mW)) Q := by
    intro a y i ha hy hi hgo m
    induction m with
    | zero =>
      intro k xs hk hik hX
      have hk2 : k = n := by omega
      subst hk2
      rw [q293_40]
      simp only [q293_42, q293_43, q293_46, q293_78i, q293_81, mc_o, mg_textMany, mf_textMany, wx_some, wx_ref, isl_i, isl_r, isl_n, nI_1]
      rw [if_pos (by rw [htm, nI_leI (by omega) (by omega)]; omega)]
      exact hgo xs _ (RTg_to hX (fun a' y' i' k' g1 g2 g3 g4 g5 => by omega))
    | succ m ih =>
      intro k xs hk hik hX
      have hxl := hX.1
      have hcq := cq_lt (i := i) (k := k) ha hy (by omega) (by omega)
      rw [q293_40]
      simp only [q293_42, q293_43, q293_46, q293_49, q293_50, q293_53, q293_54, q293_55, q293_56, q293_57, mc_o, mg_textMany, mf_textMany, mg_rowOf, ma_rowOf, mb_rowOf, mn_rowOf, wx_some, wx_ref, isl_i, isl_r, isl_n]
      rw [if_neg (by rw [htm, nI_leI (by omega) (by omega)]; omega)]
      simp only [q293_59, mc_o]
      apply tm_cellOf
      simp only [sl_i, q293_62, q293_63, q293_64, q293_65, q293_66, q293_68, mc_o]
      apply tm_rowBy hs ho hn7 ha hik (by omega) hy r4 ht (RTg_m hX ha)
      simp only [sl_i, q293_71, q293_72i, q293_75, mc_o, mg_rowOf, ma_rowOf, mb_rowOf, mn_rowOf, wx_some, wx_ref, isl_i, isl_r, isl_n, aS_n (show cq a y i k < xs.length by omega) (show xs.length < 2 ^ 31 by omega), nI_1]
      exact ih (k + 1) _ (by omega) (by omega) (RTg_set hX ha hy hik (by omega) hn7)
  have key3 : ∀ (a y : Nat), a < 7 → y < 6 → (∀ xs l3 l4, RTg s t n a (y + 1) 0 0 xs → ww (mp_P fx) (d + 2) 293 21 [some (.ref 149), some (.int (nI a)), some (.int (nI (y + 1))), l3, l4] [] (pm_h z X Y (pm_l mV mT mQ mO mE mB mS ((mR.1, mR.2.1, mR.2.2.1, mR.2.2.2.1, mR.2.2.2.2.1, mR.2.2.2.2.2.1, mR.2.2.2.2.2.2.1, mR.2.2.2.2.2.2.2.1, xs)) mW)) Q) → ∀ (m i : Nat) (xs : List Int32) (l4 : Option Value), i + m = n → RTg s t n a y i i xs → ww (mp_P fx) (d + 2) 293 29 [some (.ref 149), some (.int (nI a)), some (.int (nI y)), some (.int (nI i)), l4] [] (pm_h z X Y (pm_l mV mT mQ mO mE mB mS ((mR.1, mR.2.1, mR.2.2.1, mR.2.2.2.1, mR.2.2.2.2.1, mR.2.2.2.2.2.1, mR.2.2.2.2.2.2.1, mR.2.2.2.2.2.2.2.1, xs)) mW)) Q := by
    intro a y ha hy hgo m
    induction m with
    | zero =>
      intro i xs l4 hi hX
      have hi2 : i = n := by omega
      subst hi2
      rw [q293_29]
      simp only [q293_30, q293_31, q293_34, q293_84i, q293_87, mc_o, mg_textMany, mf_textMany, wx_some, wx_ref, isl_i, isl_r, isl_n, nI_1]
      rw [if_pos (by rw [htm, nI_leI (by omega) (by omega)]; omega)]
      exact hgo xs _ _ (RTg_to hX (fun a' y' i' k' g1 g2 g3 g4 g5 => by omega))
    | succ m ih =>
      intro i xs l4 hi hX
      rw [q293_29]
      simp only [q293_30, q293_31, q293_34, q293_37, q293_38i, mc_o, mg_textMany, mf_textMany, wx_some, wx_ref, isl_i, isl_r, isl_n]
      rw [if_neg (by rw [htm, nI_leI (by omega) (by omega)]; omega)]
      exact key4 a y i ha hy (by omega) (fun xs l4 h => ih (i + 1) xs l4 (by omega) h) (n - i) i xs (by omega) (by omega) hX
  have key2 : ∀ (a : Nat), a < 7 → (∀ xs l2 l3 l4, RTg s t n (a + 1) 0 0 0 xs → ww (mp_P fx) (d + 2) 293 13 [some (.ref 149), some (.int (nI (a + 1))), l2, l3, l4] [] (pm_h z X Y (pm_l mV mT mQ mO mE mB mS ((mR.1, mR.2.1, mR.2.2.1, mR.2.2.2.1, mR.2.2.2.2.1, mR.2.2.2.2.2.1, mR.2.2.2.2.2.2.1, mR.2.2.2.2.2.2.2.1, xs)) mW)) Q) → ∀ (m y : Nat) (xs : List Int32) (l3 l4 : Option Value), y + m = 6 → RTg s t n a y 0 0 xs → ww (mp_P fx) (d + 2) 293 21 [some (.ref 149), some (.int (nI a)), some (.int (nI y)), l3, l4] [] (pm_h z X Y (pm_l mV mT mQ mO mE mB mS ((mR.1, mR.2.1, mR.2.2.1, mR.2.2.2.1, mR.2.2.2.2.1, mR.2.2.2.2.2.1, mR.2.2.2.2.2.2.1, mR.2.2.2.2.2.2.2.1, xs)) mW)) Q := by
    intro a ha hgo m
    induction m with
    | zero =>
      intro y xs l3 l4 hy hX
      have hy2 : y = 6 := by omega
      subst hy2
      rw [q293_21]
      simp only [q293_22, q293_24, q293_90r, q293_93, isl_i, isl_r, isl_n, nI_1]
      rw [if_pos (by decide)]
      exact hgo xs _ _ _ (RTg_to hX (fun a' y' i' k' g1 g2 g3 g4 g5 => by omega))
    | succ m ih =>
      intro y xs l3 l4 hy hX
      rw [q293_21]
      simp only [q293_22, q293_24, q293_27, q293_28i, isl_i, isl_r, isl_n]
      rw [if_neg (by rw [nl_6, nI_leI (by omega) (by omega)]; omega)]
      exact key3 a y ha (by omega) (fun xs l3 l4 h => ih (y + 1) xs l3 l4 (by omega) h) n 0 xs l4 (by omega) hX
  have key1 : ∀ (m a : Nat) (xs : List Int32) (l2 l3 l4 : Option Value), a + m = 7 → RTg s t n a 0 0 0 xs → ww (mp_P fx) (d + 2) 293 13 [some (.ref 149), some (.int (nI a)), l2, l3, l4] [] (pm_h z X Y (pm_l mV mT mQ mO mE mB mS ((mR.1, mR.2.1, mR.2.2.1, mR.2.2.2.1, mR.2.2.2.2.1, mR.2.2.2.2.2.1, mR.2.2.2.2.2.2.1, mR.2.2.2.2.2.2.2.1, xs)) mW)) Q := by
    intro m
    induction m with
    | zero =>
      intro a xs l2 l3 l4 ha hX
      have ha2 : a = 7 := by omega
      subst ha2
      rw [q293_13]
      simp only [q293_14, q293_16, q293_96, q293_97r, isl_i, isl_r, isl_n]
      rw [if_pos (by decide)]
      exact keyB xs ⟨hX.1, fun dp i k y g1 g2 g3 g4 => hX.2 dp y i k g1 g4 g2 g3 (Or.inl g1)⟩ 7 0 _ _ _ (by omega) (fun j hj => by omega)
    | succ m ih =>
      intro a xs l2 l3 l4 ha hX
      rw [q293_13]
      simp only [q293_14, q293_16, q293_19, q293_20i, isl_i, isl_r, isl_n]
      rw [if_neg (by rw [nl_7, nI_leI (by omega) (by omega)]; omega)]
      exact key2 a (by omega) (fun xs l2 l3 l4 h => ih (a + 1) xs l2 l3 l4 (by omega) h) 6 0 xs l3 l4 (by omega) hX
  simp only [e293, q293_0, q293_1, q293_4, q293_5, q293_6, q293_9, q293_10, q293_11, q293_12r, mc_o, mg_square, ma_square, mb_square, mn_square, wx_some, wx_ref, isl_i, isl_r, isl_n, h4]
  rw [if_pos (by rw [nl_0, nI_leI (by omega) (by omega)]; omega)]
  exact key1 7 0 mR.2.2.2.2.2.2.2.2 none none none (by omega) ⟨r6, fun a' y' i' k' g1 g2 g3 g4 g5 => by omega⟩
theorem KE_rows {xs : List Int32} (h : KE mE mR) (hl : xs.length = 2058) : KE mE (mR.1, mR.2.1, mR.2.2.1, mR.2.2.2.1, mR.2.2.2.2.1, mR.2.2.2.2.2.1, mR.2.2.2.2.2.2.1, mR.2.2.2.2.2.2.2.1, xs) := ⟨h.1, h.2.1, h.2.2.1, h.2.2.2.1, h.2.2.2.2.1, h.2.2.2.2.2.1, hl⟩
theorem tm_depth {v : Int32} (hK : KM nm s mQ) (hE : KE mE mR) (hc : c_ok s c) (hS : SCm s mS.1 c) (hg : mS.2.2.2.2.2.2.2 = -1) (hq : ∀ mE' mR', KE mE' mR' → Q (some (.int (match sx (snk (sp_now s c) (sp_now s c).length).1 v with
    | none => -1
    | some k => io (sp_dep s (sp_text (sp_now s c) k) (sp_tlen (sp_now s c) k))))) (pm_h z X Y (pm_l ((0, mV.2.1, mV.2.2.1, mV.2.2.2)) mT mQ mO (mE') mB mS (mR') mW))) : wm (mp_P fx) (d + 6) 292 [.ref 149, .int v] (pm_h z X Y (pm_l mV mT mQ mO mE mB mS mR mW)) Q := by
  simp only [e292, q292_0, q292_1, q292_2, q292_5, q292_6, q292_7, q292_10, q292_13, q292_14, q292_17, q292_20, q292_21, mc_o, mg_thrown, mf_thrown, wx_some]
  apply tm_isSentence hK hE hc hS hg
  · intro mE' mR' h e
    have hqq := hq mE' mR' h
    rw [e] at hqq
    simp only [sl_i, e292, q292_0, q292_1, q292_2, q292_5, q292_6, q292_7, q292_10, q292_13, q292_14, q292_17, q292_20, q292_21]
    rw [if_pos (by decide)]; exact hqq
  · intro mE' mR' k h e hT h1 h7 h0 hcol
    simp only [sl_i, e292, q292_0, q292_1, q292_2, q292_5, q292_6, q292_7, q292_10, q292_13, q292_14, q292_17, q292_20, q292_21, mc_o]
    rw [if_neg (by decide)]
    apply tm_grows hK.1 hK.2.2.1 h1 h7 h0 h.2 hT.1 (fun j hj => ⟨hT.2.1 j hj, hcol j hj⟩)
    intro xs hX
    have hqq := hq mE' _ (KE_rows h hX.1)
    rw [e] at hqq
    simp only [sl_i, e292, q292_0, q292_1, q292_2, q292_5, q292_6, q292_7, q292_10, q292_13, q292_14, q292_17, q292_20, q292_21]
    exact hqq
theorem tm_tree {v u : Int32} (hK : KM nm s mQ) (hE : KE mE mR) (hc : c_ok s c) (hS : SCm s mS.1 c) (hg : mS.2.2.2.2.2.2.2 = -1) (hq : ∀ mE' mR', KE mE' mR' → Q (some (.int (match sx (snk (sp_now s c) (sp_now s c).length).1 v with
    | none => -1
    | some k => (match sx (sp_tlen (sp_now s c) k - 1) u with
      | none => -1
      | some i => sp_tree s (sp_text (sp_now s c) k) (sp_tlen (sp_now s c) k) i)))) (pm_h z X Y (pm_l ((0, mV.2.1, mV.2.2.1, mV.2.2.2)) mT mQ mO (mE') mB mS (mR') mW))) : wm (mp_P fx) (d + 6) 297 [.ref 149, .int v, .int u] (pm_h z X Y (pm_l mV mT mQ mO mE mB mS mR mW)) Q := by
  simp only [e297, q297_0, q297_1, q297_2, q297_5, q297_6, q297_7, q297_10, q297_13, q297_14, q297_17, q297_18, q297_19, q297_22, q297_23, q297_24, q297_27, q297_28, q297_29, q297_30, q297_33i, q297_34, q297_35, q297_38, q297_39, q297_40, q297_41, q297_44, q297_45, q297_46, q297_47, q297_50, q297_51, q297_52, q297_53, q297_54, q297_57, q297_58, q297_59, q297_62, q297_63, q297_64, q297_67, q297_68, q297_69, q297_70, q297_71, q297_74, q297_75, q297_77, q297_78, mc_o, mg_thrown, mf_thrown, wx_some, isl_i, isl_r, isl_n]
  apply tm_isSentence hK hE hc hS hg
  · intro mE' mR' h e
    have hqq := hq mE' mR' h
    rw [e] at hqq
    simp only [sl_i, q297_10, q297_13, q297_14, q297_17, q297_18, q297_19, q297_22, q297_23, q297_24, q297_27, q297_28, q297_29]
    rw [if_pos (by decide)]; exact hqq
  · intro mE' mR' k h e hT h1 h7 h0 hcol
    have hqq := hq mE'
    rw [e] at hqq
    simp only [] at hqq
    obtain ⟨t1, t2, t3⟩ := hT
    generalize sp_tlen (sp_now s c) k = n at *
    generalize sp_text (sp_now s c) k = t at *
    simp only [sl_i, q297_10, q297_13, q297_14, q297_17, q297_18, q297_19, q297_22, q297_23, q297_24, q297_27, q297_28, mc_o, mg_textMany, mf_textMany, wx_some, wx_ref, t1, nl_1, nI_sub h1]
    rw [if_neg (by decide)]
    rcases sx_c (n - 1) u (by omega) with ⟨e2, hu⟩ | ⟨i, hi, rfl, e2⟩
    · have hqq := hqq mR' h
      rw [e2] at hqq
      rcases hu with hu | ⟨hu, hu2⟩
      · rw [if_pos hu]; exact hqq
      · rw [if_neg hu, if_neg (Int32.not_lt.mpr hu2)]; exact hqq
    · rw [e2] at hqq
      simp only [] at hqq
      rw [if_neg (by rw [nl_0, nI_ltI (by omega) (by omega)]; omega), if_pos (by rw [nI_ltI (by omega) (by omega)]; omega)]
      simp only [q297_29, q297_30, mc_o]
      apply tm_grows hK.1 hK.2.2.1 h1 h7 h0 h.2 t1 (fun j hj => ⟨t2 j hj, hcol j hj⟩)
      intro xs hX
      have hqq := hqq _ (KE_rows h hX.1)
      unfold sp_tree at hqq
      have hsl := hK.1.1.1
      have hS6 := hK.2.2.1.1.1
      obtain ⟨y0, g1, g2⟩ := hK.1.2.2.1
      rcases g2 with g2 | g2
      · omega
      obtain ⟨g2, g3⟩ := g2
      subst g2
      have h4 : aG (mQ.1) 4 = some (nI (k_sy s)) := aG_n g1 (by omega)
      simp only [sl_i, q297_33i, q297_34, q297_35, q297_38, q297_39, q297_40, q297_41, q297_44, q297_45, q297_46, q297_47, q297_50, q297_51, q297_52, q297_53, q297_54, q297_57, q297_58, mc_o, mg_rowOf, ma_rowOf, mb_rowOf, mn_rowOf, mg_square, ma_square, mb_square, mn_square, mg_textMany, mf_textMany, wx_some, wx_ref, isl_i, isl_r, isl_n, h4]
      cases ed : sp_dep s t n with
      | none =>
        rw [ed] at hqq
        rw [if_neg (by decide)]
        exact hqq
      | some a =>
        rw [ed] at hqq
        have ha := ffl_lt _ _ ed
        have hxl := hX.1
        have hv := hX.2 a 0 (n - 1) (k_sy s) (by omega) (by omega) (by omega) (by omega)
        rw [Nat.sub_zero] at hv
        rw [if_pos (show (0 : Int32) ≤ io (some a) from by rw [show io (some a) = nI a from rfl, nl_0, nI_leI (by omega) (by omega)]; omega), show mR'.2.2.2.2.2.2.1 - 1 = nI (n - 1) by rw [t1, nl_1, nI_sub h1], show io (some a) = nI a from rfl]
        simp only [q297_59, mc_o]
        apply tm_cellOf (i := 0)
        simp only [sl_i, q297_62, q297_63, q297_64, q297_67, q297_68, q297_69, q297_70, mc_o, mg_rowOf, ma_rowOf, mb_rowOf, mn_rowOf, mg_textMany, mf_textMany, wx_some, wx_ref, isl_i, isl_r, isl_n, aG_n hv (show xs.length < 2 ^ 31 by omega)]
        rw [show mR'.2.2.2.2.2.2.1 - 2 = nI (n - 2) by rw [t1, nl_2, nI_sub (show 2 ≤ n by omega)], nI_sub (show i ≤ n - 2 by omega)]
        simp only [q297_71]
        apply tm_shiftsBy
        simp only [sl_i, q297_74, q297_75, q297_77, q297_78]
        exact hqq
end MT
