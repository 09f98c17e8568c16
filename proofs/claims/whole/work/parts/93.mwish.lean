/-! the fewest steps, of the model -/
theorem PE_pos {xs : List Nat} {a e v : Nat} (h : PE xs a e v) (hx : ¬ xs = []) : 1 ≤ e ∧ e ≤ 10 := by
  cases xs with
  | nil => exact absurd rfl hx
  | cons p ps =>
    obtain ⟨k, u, h1, h2, h3, h4⟩ := h
    have := PE_lt _ _ _ _ h3 (by omega)
    omega
section MS
variable {fx : List Value → mm_H → Option (List Value × mm_H)} {z : Nat} {X Y : Nat → mm_C} {mV : pm_V} {mT : pm_T} {mQ : pm_Q} {mO : pm_O} {mE : pm_E} {mB : pm_B} {mS : pm_S} {mR : pm_R} {mW : pm_W} {m_thrown : Int32} {m_given : Int32} {m_fresh : Int64} {m_code : Int32} {m_taped : Int32} {m_tape : List Int32} {m_size : Int32} {m_place : Int32} {m_begin : Int32} {m_token : Int32} {m_word : Int64} {m_told : Int32} {m_wrong : Int32} {m_square : List Int32} {m_sortName : List Int64} {m_colourName : List Int64} {m_walkerName : List Int64} {m_sortOf : List Int32} {m_rules : List Int32} {m_kind : List Int32} {m_colour : List Int32} {m_atTold : List Int32} {m_goesMany : List Int32} {m_goes : List Int32} {m_gusts : List Int32} {m_lineFrom : List Int32} {m_lineTo : List Int32} {m_codes : List Int32} {m_opened : List Int32} {m_compared : List Int32} {m_kept : List Int32} {m_keptBy : List Int32} {m_ahead : List Int32} {m_against : List Int32} {m_sum : List Int32} {m_sumBy : List Int32} {m_term : List Int32} {m_termBy : List Int32} {m_byNot : List Int32} {m_valueOf : List Int32} {m_lines : List Int32} {m_lineWhat : List Int32} {m_lineA : List Int32} {m_lineB : List Int32} {m_wishes : List Int32} {m_wishOf : List Int32} {m_seens : List Int32} {m_seenAt : List Int32} {m_seenIn : List Int32} {m_seenThere : List Int32} {m_s : List Int32} {m_aside : List Int32} {m_before : List Int32} {m_marked : List Int32} {m_undone : List Int32} {m_isLaid : List Int32} {m_done : Int32} {m_gustNow : Int32} {m_shown : List Int32} {m_shownMany : Int32} {m_from7 : List Int32} {m_long7 : List Int32} {m_sentences : Int32} {m_text7 : List Int32} {m_textMany : Int32} {m_waysOf : List Int32} {m_rowOf : List Int32} {m_row : List Int32} {m_bestRow : List Int32} {m_leastSteps : Int32} {m_steps10 : List Int32} {m_placeIn : List Int32} {m_g : Int64}
variable {d : Nat} {Q : Option Value → mm_H → Prop} {s : SQ} {c : SC} {b : BK} {nm : NMs}
def WMl (mW : pm_W) : Prop := (mW.1).length = 7 ∧ (mW.2.1).length = 7 ∧ (mW.2.2.2.1).length = 20 ∧ (mW.2.2.2.2.1).length = 287
def ST (c : SC) (ps : List Nat) (n : Nat) (xs : List Int32) : Prop := xs.length = 20 ∧ ∀ a, a < n → ∃ x, xs[a]? = some (nI x) ∧ x ≤ 1000 ∧ mc (PE (ps.map c.2.2) 0 (a + 1)) x
theorem tm_stepsOf {pre : List Nat} (h7 : k_nW s ≤ 7) (hc : c_ok s c) (hS : SCm s mS.1 c) (hp1 : 1 ≤ pre.length) (hp7 : pre.length ≤ 7) (hpw : ∀ w ∈ pre, w < k_nW s) (hrl : (mW.1).length = 7) (hsl : (mW.2.2.2.1).length = 20) (hrow : ∀ (i w : Nat), pre[i]? = some w → (mW.1)[i]? = some (nI w)) (hq : ∀ x ys, x ≤ 1000 → mc (PL (pre.map c.2.2) 0) x → ys.length = 20 → Q (some (.int (nI x))) (pm_h z X Y (pm_l mV mT mQ mO mE mB mS mR ((mW.1, mW.2.1, mW.2.2.1, ys, mW.2.2.2.2.1, mW.2.2.2.2.2))))) : wm (mp_P fx) d 308 [.ref 149, .int (nI pre.length)] (pm_h z X Y (pm_l mV mT mQ mO mE mB mS mR mW)) Q := by
  have hs9 := hS.1
  have hpl : ∀ w, w < k_nW s → (mS.1)[2 + w]? = some (nI (c.2.2 w)) := fun w hw => by have := hS.2.2.2 w (by omega); rw [if_pos hw] at this; exact this
  have keyD : ∀ (m a y : Nat) (ys : List Int32), a + m = 10 → ST c pre 10 ys → y ≤ 1000 → mc (fun v => ∃ j, j < a ∧ PE (pre.map c.2.2) 0 (j + 1) v) y → ∀ l4, ww (mp_P fx) d 308 159 [some (.ref 149), some (.int (nI pre.length)), some (.int (nI y)), some (.int (nI a)), l4] [] (pm_h z X Y (pm_l mV mT mQ mO mE mB mS mR ((mW.1, mW.2.1, mW.2.2.1, ys, mW.2.2.2.2.1, mW.2.2.2.2.2)))) Q := by
    intro m
    induction m with
    | zero =>
      intro a y ys ha hY hy my l4
      have ha2 : a = 10 := by omega
      subst ha2
      rw [q308_159]
      simp only [q308_160, q308_162, q308_182, q308_183]
      rw [if_pos (by decide)]
      refine hq y ys hy (mc_iff my (fun u => ⟨fun ⟨e, h⟩ => ?_, fun ⟨j, h1, h2⟩ => ⟨_, h2⟩⟩)) hY.1
      have := PE_pos h (fun z => by have := congrArg List.length z; rw [List.length_map, List.length_nil] at this; omega)
      exact ⟨e - 1, by omega, by rw [Nat.sub_add_cancel this.1]; exact h⟩
    | succ m ih =>
      intro a y ys ha hY hy my l4
      have hl := hY.1
      obtain ⟨x, x1, x2, x3⟩ := hY.2 a (by omega)
      rw [q308_159]
      simp only [q308_160, q308_162, q308_165, q308_166, q308_167, q308_170, q308_171, q308_172, q308_175i, q308_176i, q308_179, mc_o, mg_steps10, ma_steps10, mb_steps10, mn_steps10, wx_some, wx_ref, isl_i, isl_r, isl_n, aG_n x1 (show ys.length < 2 ^ 31 by omega), nI_min (show y < 2 ^ 31 by omega) (show x < 2 ^ 31 by omega), nI_1]
      rw [if_neg (by rw [nl_10, nI_leI (by omega) (by omega)]; omega)]
      refine ih (a + 1) _ ys (by omega) hY (by omega) (mc_or my x3 (fun u => ?_)) l4
      constructor
      · rintro ⟨j, h1, h2⟩
        by_cases e : j = a
        · subst e; exact Or.inr h2
        · exact Or.inl ⟨j, by omega, h2⟩
      · rintro (⟨j, h1, h2⟩ | h2)
        · exact ⟨j, by omega, h2⟩
        · exact ⟨a, by omega, h2⟩
  have keyC : ∀ (k : Nat), 1 ≤ k → k < pre.length → (∀ ys l3 l4, ST c (pre.take (k + 1)) 10 ys → ww (mp_P fx) d 308 40 [some (.ref 149), some (.int (nI pre.length)), some (.int (nI (k + 1))), l3, l4] [] (pm_h z X Y (pm_l mV mT mQ mO mE mB mS mR ((mW.1, mW.2.1, mW.2.2.1, ys, mW.2.2.2.2.1, mW.2.2.2.2.2)))) Q) → ∀ (m a : Nat) (ys : List Int32), a + m = 10 → ST c (pre.take (k + 1)) a ys → (∀ j, j < 10 → ∃ x, ys[10 + j]? = some (nI x) ∧ x ≤ 1000 ∧ mc (PE ((pre.take (k + 1)).map c.2.2) 0 (j + 1)) x) → ∀ (l3 : Int32), ww (mp_P fx) d 308 117 [some (.ref 149), some (.int (nI pre.length)), some (.int (nI k)), some (.int l3), some (.int (nI a))] [] (pm_h z X Y (pm_l mV mT mQ mO mE mB mS mR ((mW.1, mW.2.1, mW.2.2.1, ys, mW.2.2.2.2.1, mW.2.2.2.2.2)))) Q := by
    intro k hk1 hk hgo m
    induction m with
    | zero =>
      intro a ys ha hY hZ l3
      have ha2 : a = 10 := by omega
      subst ha2
      rw [q308_117]
      simp only [q308_119, q308_121, q308_147i, q308_150, isl_i, isl_r, isl_n, nI_1]
      rw [if_pos (by decide)]
      exact hgo ys _ _ hY
    | succ m ih =>
      intro a ys ha hY hZ l3
      have hl := hY.1
      obtain ⟨x, x1, x2, x3⟩ := hZ a (by omega)
      rw [q308_117]
      simp only [q308_119, q308_121, q308_124, q308_125, q308_128, q308_130, q308_131, q308_134, q308_136, q308_138, q308_139, q308_140, q308_141i, q308_144, mc_o, mg_steps10, ma_steps10, mb_steps10, mn_steps10, wx_some, wx_ref, isl_i, isl_r, isl_n, nl_10, nI_add, aG_n x1 (show ys.length < 2 ^ 31 by omega), aS_n (show a < ys.length by omega) (show ys.length < 2 ^ 31 by omega), nI_1]
      rw [if_neg (by rw [nI_leI (by omega) (by omega)]; omega)]
      refine ih (a + 1) (ys.set a (nI x)) (by omega) ⟨by rw [List.length_set]; exact hl, fun j hj => ?_⟩ (fun j hj => ?_) l3
      · by_cases e : j = a
        · subst e; exact ⟨x, List.getElem?_set_self (by omega), x2, x3⟩
        · rw [List.getElem?_set_ne (by omega)]; exact hY.2 j (by omega)
      · rw [List.getElem?_set_ne (by omega)]; exact hZ j hj
  have keyB : ∀ (k : Nat), 1 ≤ k → k < pre.length → (∀ ys l3 l4, ST c (pre.take (k + 1)) 10 ys → ww (mp_P fx) d 308 40 [some (.ref 149), some (.int (nI pre.length)), some (.int (nI (k + 1))), l3, l4] [] (pm_h z X Y (pm_l mV mT mQ mO mE mB mS mR ((mW.1, mW.2.1, mW.2.2.1, ys, mW.2.2.2.2.1, mW.2.2.2.2.2)))) Q) → ∀ (m a y : Nat) (ys : List Int32), a + m = 10 → ST c (pre.take k) 10 ys → (∀ j, j < a → ∃ x, ys[10 + j]? = some (nI x) ∧ x ≤ 1000 ∧ mc (PE ((pre.take (k + 1)).map c.2.2) 0 (j + 1)) x) → y ≤ 1000 → mc (fun v => ∃ j, j < a ∧ PE ((pre.take k).map c.2.2) 0 (j + 1) v) y → ww (mp_P fx) d 308 52 [some (.ref 149), some (.int (nI pre.length)), some (.int (nI k)), some (.int (nI y)), some (.int (nI a))] [] (pm_h z X Y (pm_l mV mT mQ mO mE mB mS mR ((mW.1, mW.2.1, mW.2.2.1, ys, mW.2.2.2.2.1, mW.2.2.2.2.2)))) Q := by
    intro k hk1 hk hgo m
    obtain ⟨w, hw⟩ : ∃ w, pre[k]? = some w := ⟨_, List.getElem?_eq_getElem hk⟩
    have hwl : w < k_nW s := hpw w (List.mem_of_getElem? hw)
    have htk : pre.take (k + 1) = pre.take k ++ [w] := by rw [List.take_add_one, hw]; rfl
    have hne : ¬ (pre.take k).map c.2.2 = [] := fun z => by have := congrArg List.length z; rw [List.length_map, List.length_take, List.length_nil] at this; omega
    induction m with
    | zero =>
      intro a y ys ha hY hZ hy my
      have ha2 : a = 10 := by omega
      subst ha2
      rw [q308_52]
      simp only [q308_54, q308_56, q308_114, q308_115i, isl_i, isl_r, isl_n]
      rw [if_pos (by decide)]
      exact keyC k hk1 hk hgo 10 0 ys (by omega) ⟨hY.1, fun j hj => by omega⟩ hZ _
    | succ m ih =>
      intro a y ys ha hY hZ hy my
      have hl := hY.1
      obtain ⟨x, x1, x2, x3⟩ := hY.2 a (by omega)
      have hd := dst_le (hc.2.2 w hwl) (show a < 10 by omega)
      have x1' : (ys.set (10 + a) (nI (min 1000 (y + dst (c.2.2 w) a))))[a]? = some (nI x) := by rw [List.getElem?_set_ne (by omega)]; exact x1
      have ht : mc (PE ((pre.take (k + 1)).map c.2.2) 0 (a + 1)) (min 1000 (y + dst (c.2.2 w) a)) := by
        rw [Nat.min_comm, Nat.add_comm y]
        refine mc_cap (mc_add my (fun u => ?_))
        rw [htk, List.map_append, List.map_singleton, PE_snoc (by omega)]
        constructor
        · rintro ⟨v, ⟨j, h1, h2⟩, h3⟩
          have := PE_pos h2 hne
          exact ⟨v, ⟨j - 1, by omega, by rw [Nat.sub_add_cancel this.1]; exact h2⟩, h3⟩
        · rintro ⟨v, ⟨j, h1, h2⟩, h3⟩; exact ⟨v, ⟨j + 1, by omega, h2⟩, h3⟩
      rw [q308_52]
      simp only [q308_54, q308_56, q308_59, q308_60, q308_63, q308_65, q308_67, q308_68, q308_71, q308_72, q308_73, q308_76, q308_77, q308_78, q308_81, q308_82, q308_83, q308_84, q308_85, q308_87, q308_88, q308_91, q308_92, q308_95, q308_96, q308_97, q308_98, q308_101, q308_103, q308_104, q308_107i, q308_108i, q308_111, mc_o, mg_steps10, ma_steps10, mb_steps10, mn_steps10, mg_s, ma_s, mb_s, mn_s, mg_row, ma_row, mb_row, mn_row, wx_some, wx_ref, isl_i, isl_r, isl_n, nl_10, nl_2, nI_add, show (1000 : Int32) = nI 1000 from rfl, aG_n (hrow k w hw) (show (mW.1).length < 2 ^ 31 by omega), aG_n (hpl w hwl) (show (mS.1).length < 2 ^ 31 by omega), absI (hc.2.2 w hwl) (show a < 10 by omega), nI_min (show 1000 < 2 ^ 31 by omega) (show y + dst (c.2.2 w) a < 2 ^ 31 by omega), aS_n (show 10 + a < ys.length by omega) (show ys.length < 2 ^ 31 by omega), aG_n x1' (show (ys.set (10 + a) (nI (min 1000 (y + dst (c.2.2 w) a)))).length < 2 ^ 31 by rw [List.length_set]; omega), nI_min (show y < 2 ^ 31 by omega) (show x < 2 ^ 31 by omega), nI_1]
      rw [if_neg (by rw [nI_leI (by omega) (by omega)]; omega)]
      refine ih (a + 1) _ _ (by omega) ⟨by rw [List.length_set]; exact hl, fun j hj => ?_⟩ (fun j hj => ?_) (by omega) (mc_or my x3 (fun u => ?_))
      · rw [List.getElem?_set_ne (by omega)]; exact hY.2 j hj
      · by_cases e : j = a
        · subst e; exact ⟨_, List.getElem?_set_self (by omega), by omega, ht⟩
        · rw [List.getElem?_set_ne (by omega)]; exact hZ j (by omega)
      · constructor
        · rintro ⟨j, h1, h2⟩
          by_cases e : j = a
          · subst e; exact Or.inr h2
          · exact Or.inl ⟨j, by omega, h2⟩
        · rintro (⟨j, h1, h2⟩ | h2)
          · exact ⟨j, by omega, h2⟩
          · exact ⟨a, by omega, h2⟩
  have keyK : ∀ (m k : Nat) (ys : List Int32), k + m = pre.length → 1 ≤ k → ST c (pre.take k) 10 ys → ∀ l3 l4, ww (mp_P fx) d 308 40 [some (.ref 149), some (.int (nI pre.length)), some (.int (nI k)), l3, l4] [] (pm_h z X Y (pm_l mV mT mQ mO mE mB mS mR ((mW.1, mW.2.1, mW.2.2.1, ys, mW.2.2.2.2.1, mW.2.2.2.2.2)))) Q := by
    intro m
    induction m with
    | zero =>
      intro k ys hk hk1 hY l3 l4
      have hk2 : k = pre.length := by omega
      subst hk2
      rw [List.take_length] at hY
      rw [q308_40]
      simp only [q308_41, q308_42, q308_153, q308_156i, q308_157, q308_158i, isl_i, isl_r, isl_n]
      rw [if_pos (by rw [nI_leI (by omega) (by omega)]; omega)]
      exact keyD 10 0 1000 ys (by omega) hY (by omega) (mc_no (fun u ⟨j, h, _⟩ => by omega) (by omega)) _
    | succ m ih =>
      intro k ys hk hk1 hY l3 l4
      rw [q308_40]
      simp only [q308_41, q308_42, q308_45, q308_48i, q308_49, q308_50i, isl_i, isl_r, isl_n]
      rw [if_neg (by rw [nI_leI (by omega) (by omega)]; omega)]
      exact keyB k hk1 (by omega) (fun ys l3 l4 h => ih (k + 1) ys (by omega) (by omega) h l3 l4) 10 0 1000 ys (by omega) hY (fun j hj => by omega) (by omega) (mc_no (fun u ⟨j, h, _⟩ => by omega) (by omega))
  obtain ⟨w, hw⟩ : ∃ w, pre[0]? = some w := ⟨_, List.getElem?_eq_getElem (by omega)⟩
  have hwl : w < k_nW s := hpw w (List.mem_of_getElem? hw)
  have htk : pre.take 1 = [w] := by rw [List.take_add_one, hw]; rfl
  have h0 : aG (mW.1) 0 = some (nI w) := aG_n (hrow 0 w hw) (by omega)
  have keyA : ∀ (m a : Nat) (ys : List Int32), a + m = 10 → ST c [w] a ys → ww (mp_P fx) d 308 2 [some (.ref 149), some (.int (nI pre.length)), some (.int (nI a)), none, none] [] (pm_h z X Y (pm_l mV mT mQ mO mE mB mS mR ((mW.1, mW.2.1, mW.2.2.1, ys, mW.2.2.2.2.1, mW.2.2.2.2.2)))) Q := by
    intro m
    induction m with
    | zero =>
      intro a ys ha hY
      have ha2 : a = 10 := by omega
      subst ha2
      rw [q308_2]
      simp only [q308_3, q308_5, q308_38, q308_39i, isl_i, isl_r, isl_n]
      rw [if_pos (by decide)]
      exact keyK (pre.length - 1) 1 ys (by omega) (by omega) (by rw [htk]; exact hY) _ _
    | succ m ih =>
      intro a ys ha hY
      have hl := hY.1
      have hd := dst_le (hc.2.2 w hwl) (show a < 10 by omega)
      rw [q308_2]
      simp only [q308_3, q308_5, q308_8, q308_9, q308_12, q308_13, q308_14, q308_17, q308_18, q308_19, q308_22, q308_23, q308_24, q308_25, q308_26, q308_27, q308_28, q308_31, q308_32i, q308_35, mc_o, mg_steps10, ma_steps10, mb_steps10, mn_steps10, mg_s, ma_s, mb_s, mn_s, mg_row, ma_row, mb_row, mn_row, wx_some, wx_ref, isl_i, isl_r, isl_n, nl_2, nI_add, h0, aG_n (hpl w hwl) (show (mS.1).length < 2 ^ 31 by omega), absI (hc.2.2 w hwl) (show a < 10 by omega), aS_n (show a < ys.length by omega) (show ys.length < 2 ^ 31 by omega), nI_1]
      rw [if_neg (by rw [nl_10, nI_leI (by omega) (by omega)]; omega)]
      refine ih (a + 1) _ (by omega) ⟨by rw [List.length_set]; exact hl, fun j hj => ?_⟩
      by_cases e : j = a
      · subst e
        refine ⟨_, List.getElem?_set_self (by omega), by omega, fun u hu => ?_, fun _ => PE_one.mpr ⟨j, by omega, by omega, rfl, rfl⟩⟩
        obtain ⟨k, g1, g2, g3, g4⟩ := PE_one.mp hu
        have : k = j := by omega
        subst this; omega
      · rw [List.getElem?_set_ne (by omega)]; exact hY.2 j (by omega)
  simp only [e308, q308_0, q308_1i, isl_i, isl_r, isl_n]
  exact keyA 10 0 mW.2.2.2.1 (by omega) ⟨hsl, fun j hj => by omega⟩
/-- what a search leaves -/
def SHp (s : SQ) (c : SC) (b : BK) (k pc : Nat) (pre : List Nat) (L0 : Nat) (B0 : List Int32) (L1 : Nat) (B1 : List Int32) : Prop := (L1 = L0 ∧ B1 = B0 ∧ ∀ v, CM s c b k pc pre v → L0 ≤ v) ∨ (L1 < L0 ∧ (∀ v, CM s c b k pc pre v → L1 ≤ v) ∧ ∃ r, BR s c b L1 k pc pre r ∧ ∀ (i w : Nat), (pre ++ r)[i]? = some w → B1[i]? = some (nI w))
theorem tm_shows (hs : SQm mQ s) (ho : k_ok s) (hc : c_ok s c) (hS : SCm s mS.1 c) (hb : b_ok s b) (hL : BLm mB) (hB : BKm b mB 0) (hN : 1 ≤ b.2.1.1) : ∀ (m k pc L0 : Nat) (pre : List Nat) (mW : pm_W) (Q : Option Value → mm_H → Prop), k + m = b.2.1.1 → pre.length = k → (∀ w ∈ pre, w < k_nW s) → pc < 2 ^ k_nW s → L0 ≤ 1000 → WMl mW → mW.2.2.1 = nI L0 → (∀ (i w : Nat), pre[i]? = some w → (mW.1)[i]? = some (nI w)) → (∀ mW' L1, WMl mW' → L1 ≤ 1000 → mW'.2.2.1 = nI L1 → (∀ (i w : Nat), pre[i]? = some w → (mW'.1)[i]? = some (nI w)) → SHp s c b k pc pre L0 mW.2.1 L1 mW'.2.1 → Q none (pm_h z X Y (pm_l mV mT mQ mO mE mB mS mR (mW')))) → wm (mp_P fx) (d + m + 1) 307 [.ref 149, .int (nI k), .int (nI pc)] (pm_h z X Y (pm_l mV mT mQ mO mE mB mS mR mW)) Q := by
  have h7 := ho.1.2.2.2.1
  have hC6 := ho.1.2.1
  have hp27 := p27 h7
  have hN7 := hb.2.1.1
  have hwl := hL.2.2.2.2.1
  have hwol := hL.2.2.2.2.2.1
  have hsl := hs.1.1
  have hkl := hs.1.2.2.2.2.2.2.1
  have hkd := hs.2.2.2.1.2.2.1
  have hw0 : aG (mB.2.2.2.2.1) 0 = some (nI b.2.1.1) := aG_n hB.2.1.1 (by omega)
  have hnW := hs.2.1.2.2.2.1
  intro m
  induction m with
  | zero =>
    intro k pc L0 pre mW Q hk hpl hpw hpc hL0 hW hls hrow hq
    have hk2 : k = b.2.1.1 := by omega
    obtain ⟨w1, w2, w3, w4⟩ := id hW
    simp only [e307, q307_0, q307_1, q307_2, q307_5, q307_6, q307_7, q307_10, q307_11, mc_o, mg_wishes, ma_wishes, mb_wishes, mn_wishes, wx_some, wx_ref, isl_i, isl_r, isl_n, hw0]
    rw [if_neg (by rw [hk2]; exact fun z => z rfl), ← hpl]
    simp only [q307_12, mc_o]
    apply tm_stepsOf (pre := pre) h7 hc hS (by omega) (by omega) hpw w1 w3 hrow
    intro x ys hx mx hy
    simp only [sl_i, q307_15i, q307_16, q307_17, q307_18, q307_21, q307_24, q307_25, q307_26, q307_27, q307_30, q307_31i, mc_o, mg_leastSteps, mf_leastSteps, wx_some, wx_ref, isl_i, isl_r, isl_n]
    by_cases e : x < L0
    · rw [if_pos (by rw [hls, nI_ltI (by omega) (by omega)]; exact e)]
      have key : ∀ (m i : Nat) (zs : List Int32), i + m = 7 → zs.length = 7 → (∀ j, j < i → zs[j]? = (mW.1)[j]?) → ww (mp_P fx) (d + 0 + 1) 307 33 [some (.ref 149), some (.int (nI pre.length)), some (.int (nI pc)), some (.int (nI x)), some (.int (nI i))] [] (pm_h z X Y (pm_l mV mT mQ mO mE mB mS mR ((mW.1, zs, nI x, ys, mW.2.2.2.2.1, mW.2.2.2.2.2)))) Q := by
        intro m
        induction m with
        | zero =>
          intro i zs hi hz hZ
          have hi2 : i = 7 := by omega
          subst hi2
          rw [q307_33]
          simp only [q307_35, q307_37, q307_60]
          rw [if_pos (by decide)]
          refine hq _ x ⟨w1, hz, hy, w4⟩ hx rfl hrow (Or.inr ⟨e, fun v hv => mx.1 v ((CM_e hk2).mp hv), [], ⟨hk2, mx.2 (by omega)⟩, fun i w hi => ?_⟩)
          rw [List.append_nil] at hi
          have hlt : i < pre.length := by
            rcases Nat.lt_or_ge i pre.length with h | h
            · exact h
            · rw [List.getElem?_eq_none h] at hi; cases hi
          show zs[i]? = _
          rw [hZ i (by omega)]; exact hrow i w hi
        | succ m ih =>
          intro i zs hi hz hZ
          obtain ⟨v, hv⟩ : ∃ v, (mW.1)[i]? = some v := ⟨_, List.getElem?_eq_getElem (by omega)⟩
          rw [q307_33]
          simp only [q307_35, q307_37, q307_40, q307_41, q307_44, q307_46, q307_47, q307_50, q307_52, q307_53, q307_54i, q307_57, mc_o, mg_bestRow, ma_bestRow, mb_bestRow, mn_bestRow, mg_row, ma_row, mb_row, mn_row, wx_some, wx_ref, isl_i, isl_r, isl_n, aG_n hv (show (mW.1).length < 2 ^ 31 by omega), aS_n (show i < zs.length by omega) (show zs.length < 2 ^ 31 by omega), nI_1]
          rw [if_neg (by rw [nl_7, nI_leI (by omega) (by omega)]; omega)]
          refine ih (i + 1) _ (by omega) (by rw [List.length_set]; exact hz) (fun j hj => ?_)
          by_cases ej : j = i
          · subst ej; rw [List.getElem?_set_self (by omega), hv]
          · rw [List.getElem?_set_ne (by omega)]; exact hZ j (by omega)
      exact key 7 0 mW.2.1 (by omega) w2 (fun j hj => by omega)
    · rw [if_neg (by rw [hls, nI_ltI (by omega) (by omega)]; exact e)]
      exact hq _ L0 ⟨w1, w2, hy, w4⟩ hL0 hls hrow (Or.inl ⟨rfl, rfl, fun v hv => by have := mx.1 v ((CM_e hk2).mp hv); omega⟩)
  | succ m ih =>
    intro k pc L0 pre mW Q hk hpl hpw hpc hL0 hW hls hrow hq
    have hkN : k < b.2.1.1 := by omega
    have hwk : aG (mB.2.2.2.2.2.1) (nI k) = some (nI (b.2.1.2 k)) := aG_n (by have := hB.2.1.2 k hkN; rw [Nat.mul_zero, Nat.zero_add] at this; exact this) (by omega)
    have hwk6 := hb.2.1.2 k hkN
    simp only [e307, q307_0, q307_1, q307_2, q307_5, q307_6, q307_7, q307_61, q307_62i, mc_o, mg_wishes, ma_wishes, mb_wishes, mn_wishes, wx_some, wx_ref, isl_i, isl_r, isl_n, hw0]
    rw [if_pos (by rw [nI_eq (by omega) (by omega)]; omega)]
    have key : ∀ (mm w L1 : Nat) (mW' : pm_W), w + mm = k_nW s → WMl mW' → L1 ≤ 1000 → mW'.2.2.1 = nI L1 → (∀ (i w : Nat), pre[i]? = some w → (mW'.1)[i]? = some (nI w)) → ((L1 = L0 ∧ mW'.2.1 = mW.2.1 ∧ ∀ w', w' < w → Fit s b k pc w' → ∀ v, CM s c b (k + 1) (pc ||| 2 ^ w') (pre ++ [w']) v → L0 ≤ v) ∨ (L1 < L0 ∧ (∀ w', w' < w → Fit s b k pc w' → ∀ v, CM s c b (k + 1) (pc ||| 2 ^ w') (pre ++ [w']) v → L1 ≤ v) ∧ ∃ w1 r1, w1 < w ∧ Fit s b k pc w1 ∧ (∀ w', w' < w1 → Fit s b k pc w' → ¬ CM s c b (k + 1) (pc ||| 2 ^ w') (pre ++ [w']) L1) ∧ BR s c b L1 (k + 1) (pc ||| 2 ^ w1) (pre ++ [w1]) r1 ∧ ∀ (i x : Nat), (pre ++ [w1] ++ r1)[i]? = some x → (mW'.2.1)[i]? = some (nI x))) → ww (mp_P fx) (d + (m + 1) + 1) 307 63 [some (.ref 149), some (.int (nI k)), some (.int (nI pc)), some (.int (nI w)), none] [] (pm_h z X Y (pm_l mV mT mQ mO mE mB mS mR (mW'))) Q := by
      intro mm
      induction mm with
      | zero =>
        intro w L1 mW' hw hW' hL1 hls' hrow' hI
        have hw2 : w = k_nW s := by omega
        subst hw2
        rw [q307_63]
        simp only [q307_64, q307_65, q307_68, q307_69, q307_70, q307_134, mc_o, mg_square, ma_square, mb_square, mn_square, wx_some, wx_ref, nl_3, aG_n hnW (show (mQ.1).length < 2 ^ 31 by omega)]
        rw [if_pos (by rw [nI_leI (by omega) (by omega)]; omega)]
        refine hq mW' L1 hW' hL1 hls' hrow' ?_
        rcases hI with ⟨i1, i2, i3⟩ | ⟨i1, i3, w1, r1, i4, i5, i6, i7, i8⟩
        · refine Or.inl ⟨i1, i2, fun v hv => ?_⟩
          obtain ⟨w', g1, g2⟩ := (CM_s hkN).mp hv
          exact i3 w' g1.1 g1 v g2
        · refine Or.inr ⟨i1, fun v hv => ?_, w1 :: r1, ⟨hkN, i5, i6, i7⟩, fun i x hx => i8 i x (by rw [List.append_assoc]; exact hx)⟩
          obtain ⟨w', g1, g2⟩ := (CM_s hkN).mp hv
          exact i3 w' g1.1 g1 v g2
      | succ mm ihm =>
        intro w L1 mW' hw hW' hL1 hls' hrow' hI
        have hwW : w < k_nW s := by omega
        have hk4 := (ho.2.2.2.1 w hwW).1
        have hs6 := sp_show_le ho hwW
        obtain ⟨w1, w2, w3, w4⟩ := id hW'
        have hskip : ¬ Fit s b k pc w → ww (mp_P fx) (d + (m + 1) + 1) 307 128 [some (.ref 149), some (.int (nI k)), some (.int (nI pc)), some (.int (nI w)), none] [] (pm_h z X Y (pm_l mV mT mQ mO mE mB mS mR (mW'))) Q := by
          intro hnf
          simp only [q307_128i, q307_131, isl_i, isl_r, isl_n, nI_1]
          refine ihm (w + 1) L1 mW' (by omega) hW' hL1 hls' hrow' ?_
          rcases hI with ⟨i1, i2, i3⟩ | ⟨i1, i3, w1, r1, i4, i5, i6, i7, i8⟩
          · refine Or.inl ⟨i1, i2, fun w' h1 h2 => ?_⟩
            by_cases e : w' = w
            · subst e; exact absurd h2 hnf
            · exact i3 w' (by omega) h2
          · refine Or.inr ⟨i1, fun w' h1 h2 => ?_, w1, r1, by omega, i5, i6, i7, i8⟩
            by_cases e : w' = w
            · subst e; exact absurd h2 hnf
            · exact i3 w' (by omega) h2
        rw [q307_63]
        simp only [q307_64, q307_65, q307_68, q307_69, q307_70, q307_73, q307_74, q307_75, q307_76, q307_77, q307_78, q307_79, q307_82, q307_83, q307_86, q307_87, q307_88, q307_89, q307_92, q307_93, mc_o, mg_square, ma_square, mb_square, mn_square, mg_kind, ma_kind, mb_kind, mn_kind, wx_some, wx_ref, isl_i, isl_r, isl_n, nl_3, aG_n hnW (show (mQ.1).length < 2 ^ 31 by omega), ag_G hkd (show (mQ.2.2.2.2.2.2.1).length < 2 ^ 31 by omega) hwW]
        rw [if_neg (by rw [nI_leI (by omega) (by omega)]; omega)]
        by_cases e1 : pc.testBit w = true
        · rw [if_pos ((k7_bit pc (by omega) w (by omega)).mpr e1)]
          exact hskip (fun h => by rw [h.2.1] at e1; cases e1)
        rw [if_neg (fun z => e1 ((k7_bit pc (by omega) w (by omega)).mp z))]
        by_cases e2 : k_kd s w = 1
        · rw [if_pos (by rw [e2]; rfl)]
          refine hskip (fun h => ?_)
          have := h.2.2
          unfold sp_show at this
          rw [if_pos e2] at this
          omega
        rw [if_neg (by rw [nl_1, nI_eq (by omega) (by omega)]; exact e2)]
        simp only [q307_94, mc_o]
        apply tm_colourRead hs ho hwW e2
        simp only [sl_i, q307_97, q307_98, q307_101, q307_102, q307_103, q307_106, q307_109, q307_110, q307_113, q307_114, q307_115, q307_116, q307_117, q307_118, q307_119, q307_120, q307_121, q307_122, q307_123, q307_124, mc_o, mg_wishOf, ma_wishOf, mb_wishOf, mn_wishOf, mg_row, ma_row, mb_row, mn_row, wx_some, wx_ref, isl_i, isl_r, isl_n, hwk, aS_n (show k < (mW'.1).length by omega) (show (mW'.1).length < 2 ^ 31 by omega), k7_or pc (show pc < 128 by omega) w (show w < 7 by omega), nI_1]
        by_cases e3 : sp_show s w = b.2.1.2 k
        · rw [if_pos (by rw [e3])]
          have hf : Fit s b k pc w := ⟨hwW, by rw [Bool.not_eq_true] at e1; exact e1, e3⟩
          simp only [q307_125, mc_o]
          apply ih (k + 1) (pc ||| 2 ^ w) L1 (pre ++ [w]) ((mW'.1).set k (nI w), mW'.2.1, mW'.2.2.1, mW'.2.2.2.1, mW'.2.2.2.2.1, mW'.2.2.2.2.2) _ (by omega) (by rw [List.length_append, hpl]; rfl) (fun x hx => by
            rcases List.mem_append.mp hx with h | h
            · exact hpw x h
            · rw [List.mem_singleton.mp h]; exact hwW) (or_lt hpc hwW) hL1 ⟨by rw [List.length_set]; exact w1, w2, w3, w4⟩ hls' (fun i x hx => by
            show ((mW'.1).set k (nI w))[i]? = _
            rw [List.getElem?_append] at hx
            split at hx
            · rw [List.getElem?_set_ne (by omega)]; exact hrow' i x hx
            · have e : i = pre.length := by
                rcases Nat.lt_or_ge (i - pre.length) 1 with h | h
                · omega
                · rw [List.getElem?_eq_none (by rw [List.length_singleton]; exact h)] at hx; cases hx
              subst e
              rw [Nat.sub_self] at hx
              cases hx
              rw [← hpl, List.getElem?_set_self (by omega)])
          intro mW2 L2 hW2 hL2 hls2 hrow2 hP
          simp only [sl_n, q307_128i, q307_131, isl_i, isl_r, isl_n, nI_1]
          have hlow : ∀ w', w' < w → Fit s b k pc w' → ∀ v, CM s c b (k + 1) (pc ||| 2 ^ w') (pre ++ [w']) v → L1 ≤ v := by
            rcases hI with ⟨i1, i2, i3⟩ | ⟨i1, i3, -⟩
            · intro w' a1 a2 v a3; rw [i1]; exact i3 w' a1 a2 v a3
            · exact i3
          refine ihm (w + 1) L2 mW2 (by omega) hW2 hL2 hls2 (fun i x hx => hrow2 i x (by
            have hlt : i < pre.length := by
              rcases Nat.lt_or_ge i pre.length with h | h
              · exact h
              · rw [List.getElem?_eq_none h] at hx; cases hx
            rw [List.getElem?_append, if_pos hlt]; exact hx)) ?_
          rcases hP with ⟨p1, p2, p3⟩ | ⟨p1, p3, r, p4, p5⟩
          · have hall : ∀ w', w' < w + 1 → Fit s b k pc w' → ∀ v, CM s c b (k + 1) (pc ||| 2 ^ w') (pre ++ [w']) v → L2 ≤ v := by
              intro w' a1 a2 v a3
              by_cases e : w' = w
              · subst e; rw [p1]; exact p3 v a3
              · rw [p1]; exact hlow w' (by omega) a2 v a3
            rcases hI with ⟨i1, i2, i3⟩ | ⟨i1, i3, w1, r1, i4, i5, i6, i7, i8⟩
            · exact Or.inl ⟨by omega, p2.trans i2, fun w' a1 a2 v a3 => by have := hall w' a1 a2 v a3; omega⟩
            · refine Or.inr ⟨by omega, hall, w1, r1, by omega, i5, ?_, ?_, fun i x hx => ?_⟩
              · rw [p1]; exact i6
              · rw [p1]; exact i7
              · rw [p2]; exact i8 i x hx
          · refine Or.inr ⟨by rcases hI with ⟨i1, -⟩ | ⟨i1, -⟩ <;> omega, fun w' a1 a2 v a3 => ?_, w, r, by omega, hf, fun w' a1 a2 a3 => ?_, p4, p5⟩
            · by_cases e : w' = w
              · subst e; exact p3 v a3
              · have := hlow w' (by omega) a2 v a3; omega
            · have := hlow w' a1 a2 _ a3; omega
        · rw [if_neg (by rw [nI_eq (by omega) (by omega)]; exact e3)]
          exact hskip (fun h => e3 h.2.2)
    exact key (k_nW s) 0 L0 mW (by omega) hW hL0 hls hrow (Or.inl ⟨rfl, rfl, fun w' h => by omega⟩)
theorem tm_steps {v : Int32} (hK : KM nm s mQ) (hc : c_ok s c) (hS : SCm s mS.1 c) (hb : b_ok s b) (hL : BLm mB) (hB : BKm b mB 0) (hW : WMl mW) (hq : ∀ u mW', WMl mW' → SPst s c b v u → Q (some (.int u)) (pm_h z X Y (pm_l ((0, mV.2.1, mV.2.2.1, mV.2.2.2)) mT mQ mO mE mB mS mR (mW')))) : wm (mp_P fx) (d + 9) 306 [.ref 149, .int v] (pm_h z X Y (pm_l mV mT mQ mO mE mB mS mR mW)) Q := by
  have ho := hK.2.2.1
  have hN7 := hb.2.1.1
  have hwl := hL.2.2.2.2.1
  have hw0 : aG (mB.2.2.2.2.1) 0 = some (nI b.2.1.1) := aG_n hB.2.1.1 (by omega)
  have h9 : (-1 : Int32).toInt = -1 := by decide
  simp only [e306, q306_0, q306_1, q306_2, q306_5, q306_6, q306_9, q306_10, q306_11, q306_14, q306_15, q306_16, q306_17, q306_20, q306_21, q306_22, q306_23, mc_o, mg_thrown, mf_thrown, mg_wishes, ma_wishes, mb_wishes, mn_wishes, wx_some, wx_ref, isl_i, isl_r, isl_n, hw0]
  by_cases e0 : b.2.1.1 = 0
  · rw [if_pos (by rw [e0]; rfl)]
    simp only [q306_30, q306_32]
    exact hq _ mW hW (Or.inl ⟨Or.inl e0, rfl⟩)
  rw [if_neg (nI_ne0 (by omega) (by omega)), nl_1, nI_sub (by omega)]
  simp only [q306_24]
  apply tm_in
  · intro h
    simp only [sl_i, q306_27, q306_30, q306_32]
    rw [if_neg (by decide)]
    refine hq _ mW hW (Or.inl ⟨Or.inr ?_, rfl⟩)
    rcases h with h | h
    · exact Or.inl h
    · refine Or.inr (Int32.le_iff_toInt_le.mpr ?_)
      have := Int32.lt_iff_toInt_lt.mp h
      rw [nI_toInt (by omega)] at this ⊢
      omega
  · intro g1 g2
    have hv1 := Int32.le_iff_toInt_le.mp g1
    have hv2 := Int32.le_iff_toInt_le.mp g2
    have hv1 : -1 ≤ v.toInt := by have : (-nI 1 : Int32).toInt = -1 := by decide
                                  omega
    rw [nI_toInt (by omega)] at hv2
    have hnb : ¬ SPbad b v := fun h => by
      rcases h with h | h | h
      · exact e0 h
      · have := Int32.lt_iff_toInt_lt.mp h; omega
      · have := Int32.le_iff_toInt_le.mp h
        rw [nI_toInt (by omega)] at this
        omega
    simp only [sl_i, q306_27, q306_33, q306_34, q306_37, q306_40, q306_41, q306_42, mc_o, mg_leastSteps, mf_leastSteps, wx_some, wx_ref]
    rw [if_pos (by decide)]
    simp only [q306_43, mc_o]
    rw [show d + 8 = (d + (7 - b.2.1.1)) + b.2.1.1 + 1 by omega]
    obtain ⟨w1, w2, w3, w4⟩ := id hW
    apply tm_shows hK.1 ho hc hS hb hL hB (by omega) b.2.1.1 0 0 1000 [] (mW.1, mW.2.1, 1000, mW.2.2.2.1, mW.2.2.2.2.1, mW.2.2.2.2.2) _ (by omega) rfl (fun w h => by cases h) (Nat.two_pow_pos _) (by omega) ⟨w1, w2, w3, w4⟩ rfl (fun i w h => by cases h)
    intro mW' L1 hW' hL1 hls hrow hP
    simp only [sl_n, q306_46, q306_47, q306_50, q306_53, q306_56, q306_58, mc_o, mg_leastSteps, mf_leastSteps, wx_some, wx_ref]
    rcases hP with ⟨p1, p2, p3⟩ | ⟨p1, p3, r, p4, p5⟩
    · rw [if_neg (by rw [hls, p1]; exact fun z => z rfl)]
      simp only [q306_58, q306_79]
      exact hq _ mW' hW' (Or.inr ⟨hnb, Or.inl ⟨fun x hx => by have := p3 x hx; have := CM_lt hc hb hx; omega, rfl⟩⟩)
    · obtain ⟨g1, g2⟩ := BR_len _ _ _ _ p4
      rw [Nat.zero_add] at g1
      rw [if_pos (by rw [hls, show (1000 : Int32) = nI 1000 from rfl, nI_eq (by omega) (by omega)]; omega)]
      simp only [q306_61, q306_62, q306_63]
      by_cases e3 : v = -1
      · rw [if_neg (fun z => z e3)]
        simp only [q306_66, q306_67, q306_70, q306_79, mc_o, mg_leastSteps, mf_leastSteps, wx_some, wx_ref, hls]
        exact hq _ mW' hW' (Or.inr ⟨hnb, Or.inr ⟨L1, r, BR_CM _ _ _ _ p4, p3, p4, Or.inl ⟨e3, rfl⟩⟩⟩)
      · rw [if_pos e3]
        rcases iv v with hv | ⟨i, hi, rfl⟩
        · have a1 := Int32.lt_iff_toInt_lt.mp hv
          have h8 : (0 : Int32).toInt = 0 := by decide
          exact absurd (Int32.toInt_inj.mp (show v.toInt = (-1 : Int32).toInt by omega)) e3
        · rw [nI_toInt hi] at hv2
          have hi2 : i < b.2.1.1 := by omega
          obtain ⟨w, hw⟩ : ∃ w, r[i]? = some w := ⟨_, List.getElem?_eq_getElem (by omega)⟩
          have hl := hW'.2.1
          simp only [q306_73, q306_74, q306_77, q306_78, q306_79, mc_o, mg_bestRow, ma_bestRow, mb_bestRow, mn_bestRow, wx_some, wx_ref, aG_n (p5 i w hw) (show (mW'.2.1).length < 2 ^ 31 by omega)]
          exact hq _ mW' hW' (Or.inr ⟨hnb, Or.inr ⟨L1, r, BR_CM _ _ _ _ p4, p3, p4, Or.inr ⟨i, w, hi2, rfl, hw, rfl⟩⟩⟩)
end MS
