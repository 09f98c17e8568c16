/-! the law's reader of the model: its steps -/
def LQm (mV0 : pm_V) (mQ0 : pm_Q) (cs : List Nat) (mV : pm_V) (mQ : pm_Q) : Prop := (∃ xs, mQ = (mQ0.1, mQ0.2.1, mQ0.2.2.1, mQ0.2.2.2.1, mQ0.2.2.2.2.1, mQ0.2.2.2.2.2.1, mQ0.2.2.2.2.2.2.1, mQ0.2.2.2.2.2.2.2.1, mQ0.2.2.2.2.2.2.2.2.1, mQ0.2.2.2.2.2.2.2.2.2.1, mQ0.2.2.2.2.2.2.2.2.2.2.1, mQ0.2.2.2.2.2.2.2.2.2.2.2.1, mQ0.2.2.2.2.2.2.2.2.2.2.2.2.1, mQ0.2.2.2.2.2.2.2.2.2.2.2.2.2.1, xs)) ∧ (∃ c, mV = (mV0.1, mV0.2.1, mV0.2.2.1, c)) ∧ (mQ.2.2.2.2.2.2.2.2.2.2.2.2.2.2).length = 2000 ∧ mV.2.2.2 = nI (1000 + cs.length) ∧ (∀ j, j < cs.length → (mQ.2.2.2.2.2.2.2.2.2.2.2.2.2.2)[1000 + j]? = some (nI (cs.getD j 0))) ∧ (∀ j, j < 1000 → (mQ.2.2.2.2.2.2.2.2.2.2.2.2.2.2)[j]? = (mQ0.2.2.2.2.2.2.2.2.2.2.2.2.2.2)[j]?)
def OPm (op cm : Nat → Int32) (mO : pm_O) : Prop := af mO.1 7 op ∧ af mO.2 7 cm
def bsd (op : Nat → Int32) : Nat → Nat
  | 0 => 0
  | d + 1 => if op (d + 1) = 1 then bsd op d else d + 1
theorem bsd_le {op : Nat → Int32} : ∀ d, bsd op d ≤ d := by
  intro d
  induction d with
  | zero => exact Nat.le_refl _
  | succ d ih => rw [bsd]; split <;> omega
def WR (fx : List Value → mm_H → Option (List Value × mm_H)) (z : Nat) (X Y : Nat → mm_C) (mE : pm_E) (mB : pm_B) (mS : pm_S) (mR : pm_R) (mW : pm_W) (mV0 : pm_V) (mQ0 : pm_Q) (tp : List Nat) (dep : Nat) (Q : Option Value → mm_H → Prop) (dp : Nat) (wants : Int32) (i : Nat) (cs : List Nat) (op cm : Nat → Int32) : Prop :=
  ∀ (mV : pm_V) (mT : pm_T) (mQ : pm_Q) (mO : pm_O) (l3 l4 l5 : Option Value), TKm tp i mT → LQm mV0 mQ0 cs mV mQ → OPm op cm mO → cs.length ≤ i → mm_isL l3 = false → mm_isL l4 = false → mm_isL l5 = false → ww (mp_P fx) (dep + 3) 246 11 [some (.ref 149), some (.int (nI dp)), some (.int wants), l3, l4, l5] [] (pm_h z X Y (pm_l mV mT mQ mO mE mB mS mR mW)) Q
def BR0 (fx : List Value → mm_H → Option (List Value × mm_H)) (z : Nat) (X Y : Nat → mm_C) (mE : pm_E) (mB : pm_B) (mS : pm_S) (mR : pm_R) (mW : pm_W) (mV0 : pm_V) (mQ0 : pm_Q) (tp : List Nat) (dep : Nat) (Q : Option Value → mm_H → Prop) (f : Nat) : Prop :=
  ∀ (mV : pm_V) (mT : pm_T) (mQ : pm_Q) (mO : pm_O) (cs : List Nat) (op cm : Nat → Int32) (k : Nat), TKm tp k mT → mT.2.2.2.2.2.2.2.2 = nI f → LQm mV0 mQ0 cs mV mQ → OPm op cm mO → Q (some (.int 0)) (pm_h z X Y (pm_l mV mT mQ mO mE mB mS mR mW))
theorem tk_mono {tp : List Nat} (hl : tp.length ≤ 1000) : ∀ j i, i ≤ j → tk tp j < tp.length → tk tp i < tp.length := by
  intro j
  induction j with
  | zero => intro i hi h; rw [show i = 0 by omega]; exact h
  | succ j ih =>
    intro i hi h
    have hj : tk tp j < tp.length := by
      rcases Nat.lt_or_ge (tk tp j) tp.length with e | e
      · exact e
      · have h1 : lx_e tp (tk tp j) = tk tp j := if_pos e
        have h2 := tk_le hl j
        rw [tk, h1] at h
        have := (lx_b_le h2 hl).1
        omega
    by_cases e : i = j + 1
    · rw [e]; exact h
    · exact ih i (by omega) hj
theorem TY_1000 {tp : List Nat} {j : Nat} (ht : tp_ok tp) (h : ¬ TY tp j = 0) : j < 1000 := by
  have hlt : tk tp j < tp.length := by
    rcases Nat.lt_or_ge (tk tp j) tp.length with e | e
    · exact e
    · exact absurd (show lx_t tp (tk tp j) = 0 from if_pos e) h
  have := tk_ge ht.1 j (fun i hi => tk_mono ht.1 j i (by omega) hlt)
  have := ht.1
  omega
section GU
variable {fx : List Value → mm_H → Option (List Value × mm_H)} {z : Nat} {X Y : Nat → mm_C} {mV : pm_V} {mT : pm_T} {mQ : pm_Q} {mO : pm_O} {mE : pm_E} {mB : pm_B} {mS : pm_S} {mR : pm_R} {mW : pm_W} {m_thrown : Int32} {m_given : Int32} {m_fresh : Int64} {m_code : Int32} {m_taped : Int32} {m_tape : List Int32} {m_size : Int32} {m_place : Int32} {m_begin : Int32} {m_token : Int32} {m_word : Int64} {m_told : Int32} {m_wrong : Int32} {m_square : List Int32} {m_sortName : List Int64} {m_colourName : List Int64} {m_walkerName : List Int64} {m_sortOf : List Int32} {m_rules : List Int32} {m_kind : List Int32} {m_colour : List Int32} {m_atTold : List Int32} {m_goesMany : List Int32} {m_goes : List Int32} {m_gusts : List Int32} {m_lineFrom : List Int32} {m_lineTo : List Int32} {m_codes : List Int32} {m_opened : List Int32} {m_compared : List Int32} {m_kept : List Int32} {m_keptBy : List Int32} {m_ahead : List Int32} {m_against : List Int32} {m_sum : List Int32} {m_sumBy : List Int32} {m_term : List Int32} {m_termBy : List Int32} {m_byNot : List Int32} {m_valueOf : List Int32} {m_lines : List Int32} {m_lineWhat : List Int32} {m_lineA : List Int32} {m_lineB : List Int32} {m_wishes : List Int32} {m_wishOf : List Int32} {m_seens : List Int32} {m_seenAt : List Int32} {m_seenIn : List Int32} {m_seenThere : List Int32} {m_s : List Int32} {m_aside : List Int32} {m_before : List Int32} {m_marked : List Int32} {m_undone : List Int32} {m_isLaid : List Int32} {m_done : Int32} {m_gustNow : Int32} {m_shown : List Int32} {m_shownMany : Int32} {m_from7 : List Int32} {m_long7 : List Int32} {m_sentences : Int32} {m_text7 : List Int32} {m_textMany : Int32} {m_waysOf : List Int32} {m_rowOf : List Int32} {m_row : List Int32} {m_bestRow : List Int32} {m_leastSteps : Int32} {m_steps10 : List Int32} {m_placeIn : List Int32} {m_g : Int64}
variable {d : Nat} {Q : Option Value → mm_H → Prop} {tp : List Nat} {k i dp dep : Nat} {mV0 : pm_V} {mQ0 : pm_Q} {cs : List Nat} {op cm : Nat → Int32}
theorem LQm_add {mV : pm_V} {mQ : pm_Q} {c : Nat} (h : LQm mV0 mQ0 cs mV mQ) (hc : cs.length < 1000) : LQm mV0 mQ0 (cs ++ [c]) (mV.1, mV.2.1, mV.2.2.1, nI (1000 + cs.length + 1)) (mQ.1, mQ.2.1, mQ.2.2.1, mQ.2.2.2.1, mQ.2.2.2.2.1, mQ.2.2.2.2.2.1, mQ.2.2.2.2.2.2.1, mQ.2.2.2.2.2.2.2.1, mQ.2.2.2.2.2.2.2.2.1, mQ.2.2.2.2.2.2.2.2.2.1, mQ.2.2.2.2.2.2.2.2.2.2.1, mQ.2.2.2.2.2.2.2.2.2.2.2.1, mQ.2.2.2.2.2.2.2.2.2.2.2.2.1, mQ.2.2.2.2.2.2.2.2.2.2.2.2.2.1, (mQ.2.2.2.2.2.2.2.2.2.2.2.2.2.2).set (1000 + cs.length) (nI c)) := by
  obtain ⟨⟨xs, e1⟩, ⟨cc, e2⟩, h1, h2, h3, h4⟩ := h
  subst e1; subst e2
  refine ⟨⟨_, rfl⟩, ⟨_, rfl⟩, by show (List.set _ _ _).length = 2000; rw [List.length_set]; exact h1, by show nI _ = nI _; rw [List.length_append]; rfl, fun j hj => ?_, fun j hj => ?_⟩
  · show (xs.set (1000 + cs.length) (nI c))[1000 + j]? = _
    have h1 : xs.length = 2000 := h1
    rw [List.length_append, List.length_singleton] at hj
    rw [List.getD, List.getElem?_append]
    by_cases e : j < cs.length
    · rw [if_pos e, List.getElem?_set_ne (by omega)]; exact h3 j e
    · rw [if_neg e, show j - cs.length = 0 by omega, show j = cs.length by omega, List.getElem?_set_self (by omega)]; rfl
  · show (xs.set (1000 + cs.length) (nI c))[j]? = _
    rw [List.getElem?_set_ne (by omega)]; exact h4 j hj
theorem tm_puts {c : Nat} (h : LQm mV0 mQ0 cs mV mQ) (hc : cs.length < 1000) (hq : LQm mV0 mQ0 (cs ++ [c]) (mV.1, mV.2.1, mV.2.2.1, nI (1000 + cs.length + 1)) (mQ.1, mQ.2.1, mQ.2.2.1, mQ.2.2.2.1, mQ.2.2.2.2.1, mQ.2.2.2.2.2.1, mQ.2.2.2.2.2.2.1, mQ.2.2.2.2.2.2.2.1, mQ.2.2.2.2.2.2.2.2.1, mQ.2.2.2.2.2.2.2.2.2.1, mQ.2.2.2.2.2.2.2.2.2.2.1, mQ.2.2.2.2.2.2.2.2.2.2.2.1, mQ.2.2.2.2.2.2.2.2.2.2.2.2.1, mQ.2.2.2.2.2.2.2.2.2.2.2.2.2.1, (mQ.2.2.2.2.2.2.2.2.2.2.2.2.2.2).set (1000 + cs.length) (nI c)) → Q none (pm_h z X Y (pm_l ((mV.1, mV.2.1, mV.2.2.1, nI (1000 + cs.length + 1))) mT ((mQ.1, mQ.2.1, mQ.2.2.1, mQ.2.2.2.1, mQ.2.2.2.2.1, mQ.2.2.2.2.2.1, mQ.2.2.2.2.2.2.1, mQ.2.2.2.2.2.2.2.1, mQ.2.2.2.2.2.2.2.2.1, mQ.2.2.2.2.2.2.2.2.2.1, mQ.2.2.2.2.2.2.2.2.2.2.1, mQ.2.2.2.2.2.2.2.2.2.2.2.1, mQ.2.2.2.2.2.2.2.2.2.2.2.2.1, mQ.2.2.2.2.2.2.2.2.2.2.2.2.2.1, (mQ.2.2.2.2.2.2.2.2.2.2.2.2.2.2).set (1000 + cs.length) (nI c))) mO mE mB mS mR mW))) : wm (mp_P fx) d 248 [.ref 149, .int (nI c)] (pm_h z X Y (pm_l mV mT mQ mO mE mB mS mR mW)) Q := by
  have hl := h.2.2.1
  have hcd := h.2.2.2.1
  simp only [q248_0, q248_1, q248_4, q248_5, q248_8, q248_9, q248_10, q248_11, e248, mc_o, mg_codes, ma_codes, mb_codes, mn_codes, mg_code, mf_code, wx_some, wx_ref, hcd, aS_n (show 1000 + cs.length < (mQ.2.2.2.2.2.2.2.2.2.2.2.2.2.2).length by omega) (show (mQ.2.2.2.2.2.2.2.2.2.2.2.2.2.2).length < 2 ^ 31 by omega)]
  simp only [q248_12, q248_15, q248_16, q248_17, q248_20, mc_o, mg_code, mf_code, wx_some, wx_ref, hcd, nI_1]
  exact hq (LQm_add h hc)
theorem tm_fact (h : TKm tp k mT) (hq : Q (some (.int (nI (g_fc tp k)))) (pm_h z X Y (pm_l mV mT mQ mO mE mB mS mR mW))) : wm (mp_P fx) d 247 [.ref 149] (pm_h z X Y (pm_l mV mT mQ mO mE mB mS mR mW)) Q := by
  have hl := TY_le (tp := tp) (i := k)
  unfold g_fc at hq
  by_cases e : TY tp k = 1
  · have hwd := TKm_word h e
    obtain ⟨l1, l2⟩ := LT_ok e
    have hc : ∀ w, w < 27 → ∀ W, w_m (kw w) = W → (lg_cmp (w_m (LT tp k)) W = 0 ↔ wdB tp k w = true) := fun w hw W hW => by
      obtain ⟨k1, k2⟩ := kw_ok w hw
      rw [lg_cmp_eq, ← hW, w_m_inj l2 k2 l1 k1, wdB_t]
      exact ⟨fun y => ⟨e, y⟩, fun y => y.2⟩
    simp only [e247, q247_0, q247_1, q247_4, q247_5, q247_8, q247_9, q247_10, q247_11, q247_14, q247_17, q247_18, q247_21, q247_22, q247_23, q247_24, q247_27, q247_30, q247_31, q247_34, q247_35, q247_36, q247_37, q247_40, q247_43, q247_44, q247_47, q247_48, q247_51, q247_52, q247_55, q247_58, q247_59, q247_62, q247_63, q247_66, q247_67, mc_o, mg_token, mf_token, mg_word, mf_word, wx_some, wx_ref, TKm_ty h, hwd, hc 23 (by omega) 386066 (by decide), hc 24 (by omega) 1960177 (by decide), hc 25 (by omega) 168984 (by decide), hc 26 (by omega) 3379448 (by decide)]
    rw [if_pos (by rw [e]; rfl)]
    by_cases y1 : wdB tp k 23 = true
    · rw [if_pos y1] at hq; rw [if_neg (fun y => y y1)]; exact hq
    rw [if_neg y1] at hq; rw [if_pos y1]
    by_cases y2 : wdB tp k 24 = true
    · rw [if_pos y2] at hq; rw [if_neg (fun y => y y2)]; exact hq
    rw [if_neg y2] at hq; rw [if_pos y2]
    by_cases y3 : wdB tp k 25 = true
    · rw [if_pos y3] at hq; rw [if_neg (fun y => y y3)]; exact hq
    rw [if_neg y3] at hq; rw [if_pos y3]
    by_cases y4 : wdB tp k 26 = true
    · rw [if_pos y4] at hq; rw [if_neg (fun y => y y4)]; exact hq
    rw [if_neg y4] at hq; rw [if_pos y4]; exact hq
  · have hno : ∀ w, ¬ wdB tp k w = true := fun w y => e (wdB_t.mp y).1
    rw [if_neg (hno _), if_neg (hno _), if_neg (hno _), if_neg (hno _)] at hq
    simp only [q247_0, q247_1, q247_4, q247_5, q247_8, q247_9, e247, mc_o, mg_token, mf_token, wx_some, wx_ref, TKm_ty h]
    rw [if_neg (by rw [nl_1, nI_eq (by omega) (by omega)]; exact e)]
    exact hq
/-- wants a part: up to where it is known what stands there -/
theorem w1_pre (hbad : g_st tp i = false → BR0 fx z X Y mE mB mS mR mW mV0 mQ0 tp dep Q (flt tp 1 i)) (hgo : ∀ (mV : pm_V) (mT : pm_T) (mQ : pm_Q) (mO : pm_O), g_st tp i = true → TKm tp i mT → LQm mV0 mQ0 cs mV mQ → OPm op cm mO → cs.length ≤ i → ww (mp_P fx) (dep + 3) 246 65 [some (.ref 149), some (.int (nI dp)), some (.int 1), some (.int (nI (g_fc tp i))), some (.int (if wdB tp i 19 = true then 1 else 0)), some (.int (if snB tp i 40 = true then 1 else 0))] [] (pm_h z X Y (pm_l mV mT mQ mO mE mB mS mR mW)) Q) : WR fx z X Y mE mB mS mR mW mV0 mQ0 tp dep Q dp 1 i cs op cm := by
  intro mV mT mQ mO l3 l4 l5 hT hL hO hlen i3 i4 i5
  have hf5 := g_fc_lt (tp := tp) (i := i)
  have hTl := TY_le (tp := tp) (i := i)
  have hgo := fun h => hgo mV mT mQ mO h hT hL hO hlen
  unfold g_st at hgo hbad
  rw [q246_11]
  simp only [b246_0, b246_1, bn_0 b246_0, bn_1 b246_1, q246_12, q246_15, q246_16, mc_o]
  rw [if_neg (by decide)]
  apply tm_fact hT
  simp only [sl_i, b246_0, b246_1, bn_0 b246_0, bn_1 b246_1, q246_19i, q246_20, q246_21, isl_i, isl_r, isl_n, i3, i4, i5]
  simp only [b246_0, b246_1, bn_0 b246_0, bn_1 b246_1, q246_24, mc_o]
  have rest : ∀ x : Int32, x = (if wdB tp i 19 = true then 1 else 0) → ww (mp_P fx) (dep + 3) 246 27 [some (.ref 149), some (.int (nI dp)), some (.int 1), some (.int (nI (g_fc tp i))), l4, l5] [.int x] (pm_h z X Y (pm_l mV mT mQ mO mE mB mS mR mW)) Q := by
    intro x hx
    simp only [b246_0, b246_1, bn_0 b246_0, bn_1 b246_1, q246_27i, q246_29, q246_30, isl_i, isl_r, isl_n, i4, i5]
    simp only [b246_0, b246_1, bn_0 b246_0, bn_1 b246_1, q246_32, mc_o]
    have rest2 : ∀ b : Int32, b = (if snB tp i 40 = true then 1 else 0) → ww (mp_P fx) (dep + 3) 246 35 [some (.ref 149), some (.int (nI dp)), some (.int 1), some (.int (nI (g_fc tp i))), some (.int x), l5] [.int b] (pm_h z X Y (pm_l mV mT mQ mO mE mB mS mR mW)) Q := by
      intro b hb
      rw [← hx, ← hb] at hgo
      simp only [b246_0, b246_1, bn_0 b246_0, bn_1 b246_1, q246_35i, q246_37, q246_38, q246_41, q246_43, q246_46, q246_48, q246_51, q246_52, q246_55, q246_56, q246_59, q246_60, mc_o, mg_token, mf_token, wx_some, wx_ref, isl_i, isl_r, isl_n, i5, TKm_ty hT]
      by_cases e1 : g_fc tp i = 0
      · rw [if_neg (by rw [e1]; exact fun y => y rfl)]
        rw [decide_eq_true e1] at hgo hbad
        by_cases e2 : wdB tp i 19 = true
        · rw [if_pos (by rw [hx, if_pos e2]; decide)]
          exact hgo (by rw [e2]; rfl)
        · rw [if_neg (by rw [hx, if_neg e2]; decide)]
          rw [Bool.not_eq_true] at e2
          by_cases e3 : snB tp i 40 = true
          · rw [if_pos (by rw [hb, if_pos e3]; decide)]
            exact hgo (by rw [e2, e3]; rfl)
          · rw [if_neg (by rw [hb, if_neg e3]; decide)]
            rw [Bool.not_eq_true] at e3
            by_cases e4 : TY tp i = 2
            · rw [if_pos (by rw [e4]; rfl)]
              exact hgo (by rw [e2, e3, decide_eq_true e4]; rfl)
            · rw [if_neg (by rw [nl_2, nI_eq (by omega) (by omega)]; exact e4)]
              simp only [b246_0, b246_1, bn_0 b246_0, bn_1 b246_1, q246_61, mc_o]
              apply tm_fails (kd := 1) hT
              intro mT' h2 h3
              simp only [sl_i, b246_0, b246_1, bn_0 b246_0, bn_1 b246_1, q246_64]
              exact hbad (by rw [e2, e3, decide_eq_false e4]; rfl) mV mT' mQ mO cs op cm i h2 h3 hL hO
      · rw [if_pos (by rw [nl_0, nI_eq (by omega) (by omega)]; exact e1)]
        exact hgo (by rw [decide_eq_false e1]; rfl)
    apply tm_isSign (c := 40) (by omega) hT
    · intro y
      exact rest2 1 (by rw [if_pos (snB_t.mpr y)])
    · intro y
      exact rest2 0 (by rw [if_neg (fun e => y (snB_t.mp e))])
  apply tm_isWord (w := 19) (by omega) (by decide) hT
  · intro y
    exact rest 1 (by rw [if_pos (wdB_t.mpr y)])
  · intro y
    exact rest 0 (by rw [if_neg (fun e => y (wdB_t.mp e))])
theorem w1_deep (hbad1 : g_st tp i = false → BR0 fx z X Y mE mB mS mR mW mV0 mQ0 tp dep Q (flt tp 1 i)) (hbad5 : g_st tp i = true → BR0 fx z X Y mE mB mS mR mW mV0 mQ0 tp dep Q (flt tp 5 i)) : WR fx z X Y mE mB mS mR mW mV0 mQ0 tp dep Q 5 1 i cs op cm := by
  refine w1_pre hbad1 (fun mV mT mQ mO y hT hL hO hlen => ?_)
  simp only [b246_0, b246_1, bn_0 b246_0, bn_1 b246_1, q246_65, q246_66, q246_67, q246_70, q246_71]
  rw [if_neg (fun y => y (by decide))]
  simp only [b246_0, b246_1, bn_0 b246_0, bn_1 b246_1, q246_72, mc_o]
  apply tm_fails (kd := 5) hT
  intro mT' h2 h3
  simp only [sl_i, b246_0, b246_1, bn_0 b246_0, bn_1 b246_1, q246_75]
  exact hbad5 y mV mT' mQ mO cs op cm i h2 h3 hL hO
theorem g_st_ty (y : g_st tp i = true) : ¬ TY tp i = 0 := by
  unfold g_st at y
  intro e
  have n1 : ∀ w, wdB tp i w = false := fun w => by unfold wdB; rw [e]; rfl
  have n2 : ∀ w, snB tp i w = false := fun w => by unfold snB; rw [e]; rfl
  have n3 : g_fc tp i = 0 := by unfold g_fc; rw [n1, n1, n1, n1]; rfl
  rw [n1, n2, n3, e] at y
  exact absurd y (by decide)
theorem w1_not (hdp : dp < 5) (y : g_st tp i = true) (e1 : wdB tp i 19 = true) (hgo : WR fx z X Y mE mB mS mR mW mV0 mQ0 tp dep Q (dp + 1) 1 (i + 1) (cs ++ [30]) (uL op (dp + 1) 1) (uL cm (dp + 1) 0)) : WR fx z X Y mE mB mS mR mW mV0 mQ0 tp dep Q dp 1 i cs op cm := by
  refine w1_pre (fun z => by rw [y] at z; cases z) (fun mV mT mQ mO y hT hL hO hlen => ?_)
  have h1000 := TY_1000 hT.2.1 (g_st_ty y)
  have o1 := hO.1.1
  have o2 := hO.2.1
  rw [if_pos e1]
  simp only [b246_0, b246_1, bn_0 b246_0, bn_1 b246_1, q246_65, q246_66, q246_67, b246_0, b246_1, bn_0 b246_0, bn_1 b246_1, q246_76, q246_78, q246_81, q246_83, q246_86, q246_87, q246_89, q246_92, q246_94, q246_97]
  rw [if_pos (by rw [nl_5, nI_eq (by omega) (by omega)]; omega), if_pos (by decide), if_neg (by decide)]
  simp only [b246_0, b246_1, bn_0 b246_0, bn_1 b246_1, q246_99, mc_o]
  apply tm_puts (c := 30) hL (by omega)
  intro hL2
  simp only [sl_n, b246_0, b246_1, bn_0 b246_0, bn_1 b246_1, q246_102r, q246_105, q246_106, q246_109, q246_110, q246_112, q246_115, q246_116, q246_119, q246_120, q246_121, q246_122, q246_125, q246_126, q246_127, q246_128, q246_131, q246_132, q246_133, q246_136, q246_137, q246_140, q246_142, q246_143, q246_146, q246_147, q246_150, q246_151i, q246_152, q246_153, q246_156, q246_157, q246_160, q246_161, q246_162, q246_163, q246_166r, q246_169, q246_172, mc_o, mg_opened, ma_opened, mb_opened, mn_opened, mg_compared, ma_compared, mb_compared, mn_compared, wx_some, wx_ref, isl_i, isl_r, isl_n, nI_1, nar_0, aS_n (show dp + 1 < (mO.1).length by omega) (show (mO.1).length < 2 ^ 31 by omega), aS_n (show dp + 1 < (mO.2).length by omega) (show (mO.2).length < 2 ^ 31 by omega)]
  rw [if_neg (by decide)]
  simp only [b246_0, b246_1, bn_0 b246_0, bn_1 b246_1, q246_120, q246_121, q246_122, q246_125, q246_126, q246_127, q246_128, b246_0, b246_1, bn_0 b246_0, bn_1 b246_1, q246_172, q246_173, mc_o, mg_opened, ma_opened, mb_opened, mn_opened, mg_compared, ma_compared, mb_compared, mn_compared, wx_some, wx_ref, isl_i, isl_r, isl_n, nar_0, aS_n (show dp + 1 < (mO.1).length by omega) (show (mO.1).length < 2 ^ 31 by omega), aS_n (show dp + 1 < (mO.2).length by omega) (show (mO.2).length < 2 ^ 31 by omega)]
  apply tm_nx hT
  intro mT2 h1 _
  simp only [sl_n, b246_0, b246_1, bn_0 b246_0, bn_1 b246_1, q246_176]
  exact hgo _ mT2 _ ((mO.1).set (dp + 1) 1, (mO.2).set (dp + 1) 0) _ _ _ h1 hL2 ⟨af_set hO.1 (by omega) (fun j => rfl), af_set hO.2 (by omega) (fun j => rfl)⟩ (by rw [List.length_append, List.length_singleton]; omega) rfl rfl rfl
theorem w1_par (hdp : dp < 5) (y : g_st tp i = true) (e1 : ¬ wdB tp i 19 = true) (e2 : snB tp i 40 = true) (hgo : WR fx z X Y mE mB mS mR mW mV0 mQ0 tp dep Q (dp + 1) 1 (i + 1) (cs ++ [28]) (uL op (dp + 1) 2) (uL cm (dp + 1) 0)) : WR fx z X Y mE mB mS mR mW mV0 mQ0 tp dep Q dp 1 i cs op cm := by
  refine w1_pre (fun z => by rw [y] at z; cases z) (fun mV mT mQ mO y hT hL hO hlen => ?_)
  have h1000 := TY_1000 hT.2.1 (g_st_ty y)
  have o1 := hO.1.1
  have o2 := hO.2.1
  rw [if_neg e1, if_pos e2]
  simp only [b246_0, b246_1, bn_0 b246_0, bn_1 b246_1, q246_65, q246_66, q246_67, b246_0, b246_1, bn_0 b246_0, bn_1 b246_1, q246_76, q246_78, q246_81, q246_83, q246_86, q246_87, q246_89, q246_92, q246_94, q246_97]
  rw [if_pos (by rw [nl_5, nI_eq (by omega) (by omega)]; omega), if_neg (by decide), if_neg (by decide), if_pos (by decide)]
  simp only [b246_0, b246_1, bn_0 b246_0, bn_1 b246_1, q246_99, mc_o]
  apply tm_puts (c := 28) hL (by omega)
  intro hL2
  simp only [sl_n, b246_0, b246_1, bn_0 b246_0, bn_1 b246_1, q246_102r, q246_105, q246_106, q246_109, q246_110, q246_112, q246_115, q246_116, q246_119, mc_o, mg_opened, ma_opened, mb_opened, mn_opened, wx_some, wx_ref, isl_i, isl_r, isl_n, nI_1]
  rw [if_pos (by decide)]
  simp only [b246_0, b246_1, bn_0 b246_0, bn_1 b246_1, q246_120, q246_121, q246_122, q246_125, q246_126, q246_127, q246_128, b246_0, b246_1, bn_0 b246_0, bn_1 b246_1, q246_172, q246_173, mc_o, mg_opened, ma_opened, mb_opened, mn_opened, mg_compared, ma_compared, mb_compared, mn_compared, wx_some, wx_ref, isl_i, isl_r, isl_n, nar_0, aS_n (show dp + 1 < (mO.1).length by omega) (show (mO.1).length < 2 ^ 31 by omega), aS_n (show dp + 1 < (mO.2).length by omega) (show (mO.2).length < 2 ^ 31 by omega)]
  apply tm_nx hT
  intro mT2 h1 _
  simp only [sl_n, b246_0, b246_1, bn_0 b246_0, bn_1 b246_1, q246_176]
  exact hgo _ mT2 _ ((mO.1).set (dp + 1) 2, (mO.2).set (dp + 1) 0) _ _ _ h1 hL2 ⟨af_set hO.1 (by omega) (fun j => rfl), af_set hO.2 (by omega) (fun j => rfl)⟩ (by rw [List.length_append, List.length_singleton]; omega) rfl rfl rfl
theorem pop_152 {w : Int32} {l3 l4 l5 : Option Value} (hO : OPm op cm mO) : ∀ dp, dp < 7 → ww (mp_P fx) (dep + 3) 246 172 [some (.ref 149), some (.int (nI (bsd op dp))), some (.int w), l3, l4, l5] [] (pm_h z X Y (pm_l mV mT mQ mO mE mB mS mR mW)) Q → ww (mp_P fx) (dep + 3) 246 152 [some (.ref 149), some (.int (nI dp)), some (.int w), l3, l4, l5] [] (pm_h z X Y (pm_l mV mT mQ mO mE mB mS mR mW)) Q := by
  intro dp
  have o1 := hO.1.1
  induction dp with
  | zero =>
    intro _ hh
    rw [q246_152]
    simp only [b246_0, b246_1, bn_0 b246_0, bn_1 b246_1, q246_153]
    rw [if_pos (by decide)]
    exact hh
  | succ dp ih =>
    intro hdp hh
    rw [bsd] at hh
    rw [q246_152]
    simp only [b246_0, b246_1, bn_0 b246_0, bn_1 b246_1, q246_153, q246_156, q246_157, q246_160, q246_161, q246_162, q246_163, q246_166r, q246_169, mc_o, mg_opened, ma_opened, mb_opened, mn_opened, wx_some, wx_ref, isl_i, isl_r, isl_n, af_G hO.1 (by omega) hdp]
    rw [if_neg (nI_nle (by omega) (by omega))]
    by_cases e : op (dp + 1) = 1
    · rw [if_pos e] at hh
      rw [if_neg (fun y => y e), i_m1, nl_1, nI_sub (show 1 ≤ dp + 1 by omega), Nat.add_sub_cancel]
      exact ih (by omega) hh
    · rw [if_neg e] at hh
      rw [if_pos e]
      exact hh
theorem pop_379 {w : Int32} {l3 l4 l5 : Option Value} (hO : OPm op cm mO) : ∀ dp, dp < 7 → ww (mp_P fx) (dep + 3) 246 424 [some (.ref 149), some (.int (nI (bsd op dp))), some (.int w), l3, l4, l5] [] (pm_h z X Y (pm_l mV mT mQ mO mE mB mS mR mW)) Q → ww (mp_P fx) (dep + 3) 246 379 [some (.ref 149), some (.int (nI dp)), some (.int w), l3, l4, l5] [] (pm_h z X Y (pm_l mV mT mQ mO mE mB mS mR mW)) Q := by
  intro dp
  have o1 := hO.1.1
  induction dp with
  | zero =>
    intro _ hh
    rw [q246_379]
    simp only [b246_0, b246_1, bn_0 b246_0, bn_1 b246_1, q246_380]
    rw [if_pos (by decide)]
    exact hh
  | succ dp ih =>
    intro hdp hh
    rw [bsd] at hh
    rw [q246_379]
    simp only [b246_0, b246_1, bn_0 b246_0, bn_1 b246_1, q246_380, q246_383, q246_384, q246_387, q246_388, q246_389, q246_390, q246_393r, q246_396, mc_o, mg_opened, ma_opened, mb_opened, mn_opened, wx_some, wx_ref, isl_i, isl_r, isl_n, af_G hO.1 (by omega) hdp]
    rw [if_neg (nI_nle (by omega) (by omega))]
    by_cases e : op (dp + 1) = 1
    · rw [if_pos e] at hh
      rw [if_neg (fun y => y e), i_m1, nl_1, nI_sub (show 1 ≤ dp + 1 by omega), Nat.add_sub_cancel]
      exact ih (by omega) hh
    · rw [if_neg e] at hh
      rw [if_pos e]
      exact hh
theorem w1_leaf (hdp : dp < 5) (y : g_st tp i = true) (e1 : ¬ wdB tp i 19 = true) (e2 : ¬ snB tp i 40 = true) (hgo : WR fx z X Y mE mB mS mR mW mV0 mQ0 tp dep Q (bsd op dp) 0 (i + 1) (cs ++ [if g_fc tp i = 0 then 100 + VL tp i else g_fc tp i]) op cm) : WR fx z X Y mE mB mS mR mW mV0 mQ0 tp dep Q dp 1 i cs op cm := by
  refine w1_pre (fun z => by rw [y] at z; cases z) (fun mV mT mQ mO y hT hL hO hlen => ?_)
  have h1000 := TY_1000 hT.2.1 (g_st_ty y)
  have hf5 := g_fc_lt (tp := tp) (i := i)
  rw [if_neg e1, if_neg e2]
  simp only [b246_0, b246_1, bn_0 b246_0, bn_1 b246_1, q246_65, q246_66, q246_67, b246_0, b246_1, bn_0 b246_0, bn_1 b246_1, q246_76, q246_78, q246_81, q246_83, b246_0, b246_1, bn_0 b246_0, bn_1 b246_1, q246_131, q246_132, q246_133, q246_136, q246_137, q246_140, q246_142, q246_143, q246_146, mc_o, mg_told, mf_told, wx_some, wx_ref]
  rw [if_pos (by rw [nl_5, nI_eq (by omega) (by omega)]; omega), if_neg (by decide), if_pos (by decide)]
  have fin : ∀ c : Nat, c = (if g_fc tp i = 0 then 100 + VL tp i else g_fc tp i) → ww (mp_P fx) (dep + 3) 246 147 [some (.ref 149), some (.int (nI dp)), some (.int 1), some (.int (nI (g_fc tp i))), some (.int 0), some (.int 0)] [.int (nI c), .ref 149] (pm_h z X Y (pm_l mV mT mQ mO mE mB mS mR mW)) Q := by
    intro c hc
    rw [← hc] at hgo
    simp only [b246_0, b246_1, bn_0 b246_0, bn_1 b246_1, q246_147, mc_o]
    apply tm_puts (c := c) hL (by omega)
    intro hL2
    simp only [sl_n, b246_0, b246_1, bn_0 b246_0, bn_1 b246_1, q246_150, q246_151i, isl_i, isl_r, isl_n]
    apply pop_152 hO dp (by omega)
    simp only [b246_0, b246_1, bn_0 b246_0, bn_1 b246_1, q246_172, q246_173, mc_o]
    apply tm_nx hT
    intro mT2 h1 _
    simp only [sl_n, b246_0, b246_1, bn_0 b246_0, bn_1 b246_1, q246_176]
    exact hgo _ mT2 _ mO _ _ _ h1 hL2 hO (by rw [List.length_append, List.length_singleton]; omega) rfl rfl rfl
  by_cases e3 : g_fc tp i = 0
  · have h2 := g_st_num y e1 e2 e3
    have hv := VL_lt h2
    rw [if_pos (by rw [e3]; decide), TKm_told hT h2, show (100 : Int32) = nI 100 from rfl, nI_add]
    exact fin _ (by rw [if_pos e3])
  · rw [if_neg (nI_nle (by omega) (by omega))]
    exact fin _ (by rw [if_neg e3])
end GU
