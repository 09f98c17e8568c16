/-! who is read, of the model -/
theorem cn_but {p : Nat → Bool} {n w : Nat} (hw : w < n) (hp : p w = true) : cn p n = cn (fun i => p i && !decide (i = w)) n + 1 := by
  have key : ∀ m, cn p m = cn (fun i => p i && !decide (i = w)) m + (if w < m then 1 else 0) := by
    intro m
    induction m with
    | zero => rfl
    | succ m ih =>
      rw [cn, cn, ih]
      by_cases e : m = w
      · subst e
        rw [if_neg (Nat.lt_irrefl _), if_pos hp, if_pos (Nat.lt_succ_self _), if_neg (by rw [decide_eq_true rfl, Bool.not_true, Bool.and_false]; exact Bool.false_ne_true)]
      · rw [decide_eq_false e, Bool.not_false, Bool.and_true]
        by_cases e2 : w < m
        · rw [if_pos e2, if_pos (show w < m + 1 by omega)]; omega
        · rw [if_neg e2, if_neg (show ¬ w < m + 1 by omega)]; omega
  rw [key n, if_pos hw]
theorem cn_low {p : Nat → Bool} {n w : Nat} (hw : w ≤ n) : cn (fun i => p i && decide (i < w)) n = cn p w := by
  induction n with
  | zero => rw [show w = 0 by omega]; rfl
  | succ n ih =>
    by_cases e : w ≤ n
    · rw [cn, ih e, if_neg (by rw [decide_eq_false (by omega), Bool.and_false]; exact Bool.false_ne_true)]; rfl
    · have hw' : w = n + 1 := by omega
      subst hw'
      have key : ∀ m, m ≤ n + 1 → cn (fun i => p i && decide (i < n + 1)) m = cn p m := by
        intro m hm
        induction m with
        | zero => rfl
        | succ m ihm => rw [cn, cn, ihm (by omega), decide_eq_true (by omega), Bool.and_true]
      exact key _ (Nat.le_refl _)
section MR
variable {fx : List Value → mm_H → Option (List Value × mm_H)} {z : Nat} {X Y : Nat → mm_C} {mV : pm_V} {mT : pm_T} {mQ : pm_Q} {mO : pm_O} {mE : pm_E} {mB : pm_B} {mS : pm_S} {mR : pm_R} {mW : pm_W} {m_thrown : Int32} {m_given : Int32} {m_fresh : Int64} {m_code : Int32} {m_taped : Int32} {m_tape : List Int32} {m_size : Int32} {m_place : Int32} {m_begin : Int32} {m_token : Int32} {m_word : Int64} {m_told : Int32} {m_wrong : Int32} {m_square : List Int32} {m_sortName : List Int64} {m_colourName : List Int64} {m_walkerName : List Int64} {m_sortOf : List Int32} {m_rules : List Int32} {m_kind : List Int32} {m_colour : List Int32} {m_atTold : List Int32} {m_goesMany : List Int32} {m_goes : List Int32} {m_gusts : List Int32} {m_lineFrom : List Int32} {m_lineTo : List Int32} {m_codes : List Int32} {m_opened : List Int32} {m_compared : List Int32} {m_kept : List Int32} {m_keptBy : List Int32} {m_ahead : List Int32} {m_against : List Int32} {m_sum : List Int32} {m_sumBy : List Int32} {m_term : List Int32} {m_termBy : List Int32} {m_byNot : List Int32} {m_valueOf : List Int32} {m_lines : List Int32} {m_lineWhat : List Int32} {m_lineA : List Int32} {m_lineB : List Int32} {m_wishes : List Int32} {m_wishOf : List Int32} {m_seens : List Int32} {m_seenAt : List Int32} {m_seenIn : List Int32} {m_seenThere : List Int32} {m_s : List Int32} {m_aside : List Int32} {m_before : List Int32} {m_marked : List Int32} {m_undone : List Int32} {m_isLaid : List Int32} {m_done : Int32} {m_gustNow : Int32} {m_shown : List Int32} {m_shownMany : Int32} {m_from7 : List Int32} {m_long7 : List Int32} {m_sentences : Int32} {m_text7 : List Int32} {m_textMany : Int32} {m_waysOf : List Int32} {m_rowOf : List Int32} {m_row : List Int32} {m_bestRow : List Int32} {m_leastSteps : Int32} {m_steps10 : List Int32} {m_placeIn : List Int32} {m_g : Int64}
variable {d : Nat} {Q : Option Value → mm_H → Prop} {s : SQ} {c : SC}
def vl4 (a b e f : Int32) (i : Nat) : Int32 := if i = 1 then a else if i = 2 then b else if i = 3 then e else f
/-- the model's law -/
def LWm (mQ : pm_Q) (s : SQ) : Prop := ∃ (ff n : Nat) (cs : List Nat), cs.length = n ∧ ff + n ≤ 1000 ∧ (mQ.2.2.2.2.2.2.2.2.2.2.2.2.1)[0]? = some (nI ff) ∧ (mQ.2.2.2.2.2.2.2.2.2.2.2.2.2.1)[0]? = some (nI (ff + n)) ∧ (∀ j, j < n → (mQ.2.2.2.2.2.2.2.2.2.2.2.2.2.2)[ff + j]? = some (nI (cs.getD j 0)) ∧ cs.getD j 0 < 2 ^ 20) ∧ (n = 0 → ∀ a b e f, k_lw s a b e f = f) ∧ (0 < n → ∀ a b e f bn L, ∃ bn' L', lm_run (vl4 a b e f) cs (0, bn, uL L 0 (lv_opens (L 0))) = some (0, bn', L') ∧ lv_t (L' 0) = k_lw s a b e f)
theorem tm_worked {a b e f : Int32} (hs : SQm mQ s) (hl : LWm mQ s) (hn : ¬ (mQ.2.2.2.2.2.2.2.2.2.2.2.2.2.1)[0]? = (mQ.2.2.2.2.2.2.2.2.2.2.2.2.1)[0]?) (hE : ELl mE) (hv1 : (mE.2.2.2.2.2.2.2.2.2)[1]? = some a) (hv2 : (mE.2.2.2.2.2.2.2.2.2)[2]? = some b) (hv3 : (mE.2.2.2.2.2.2.2.2.2)[3]? = some e) (hv4 : (mE.2.2.2.2.2.2.2.2.2)[4]? = some f) (hq : ∀ mE', ELl mE' → Q (some (.int (k_lw s a b e f))) (pm_h z X Y (pm_l mV mT mQ mO (mE') mB mS mR mW))) : wm (mp_P fx) (d + 2) 264 [.ref 149, .int 0] (pm_h z X Y (pm_l mV mT mQ mO mE mB mS mR mW)) Q := by
  obtain ⟨ff, n, cs, h1, h2, h3, h4, h5, h6, h7⟩ := hl
  have hl1 := hs.1.2.2.2.2.2.2.2.2.2.2.2.2.1
  have hl2 := hs.1.2.2.2.2.2.2.2.2.2.2.2.2.2
  have hn0 : 0 < n := by
    rcases Nat.eq_zero_or_pos n with z | z
    · subst z; exact absurd (h4.trans h3.symm) hn
    · exact z
  obtain ⟨⟨bn, L, hEL⟩, hvl⟩ := hE
  obtain ⟨bn', L', hr, hv⟩ := h7 hn0 a b e f bn L
  show wm (mp_P fx) (d + 2) 264 [.ref 149, .int (nI 0)] (pm_h z X Y (pm_l mV mT mQ mO mE mB mS mR mW)) Q
  rw [← hv] at hq
  simp only [e264, q264_0, q264_1i, q264_2, q264_3, q264_4, mc_o, isl_i, isl_r, isl_n, nl_0]
  apply tm_opens hEL (by omega)
  intro mE1 hE1 hvo1
  simp only [sl_n, q264_7, q264_8, q264_11, q264_12, q264_13i, mc_o, mg_lineFrom, ma_lineFrom, mb_lineFrom, mn_lineFrom, wx_some, wx_ref, isl_i, isl_r, isl_n, aG_n h3 (show (mQ.2.2.2.2.2.2.2.2.2.2.2.2.1).length < 2 ^ 31 by omega)]
  refine tm_worked_l (vl := vl4 a b e f) (f := ff) (n := n) (cs := cs) h1 h2 hl2.2 hl2.1 h4 h5 (fun mE' g1 g2 => hq mE' ⟨⟨_, _, g1⟩, by rw [g2]; exact hvl⟩) hvl (fun i i1 i2 => ?_) n 0 0 none none mE1 bn _ (by omega) (by omega) hE1 hvo1 hr
  have hi : i = 1 ∨ i = 2 ∨ i = 3 ∨ i = 4 := by omega
  rcases hi with e | e | e | e <;> subst e
  · exact hv1
  · exact hv2
  · exact hv3
  · exact hv4
theorem tm_isOpen {w : Nat} (h7 : k_nW s ≤ 7) (hc : c_ok s c) (hS : SCm s mS.1 c) (hw : w < k_nW s) (hq : Q (some (.int (if c.2.1.testBit w = true then 1 else 0))) (pm_h z X Y (pm_l mV mT mQ mO mE mB mS mR mW))) : wm (mp_P fx) d 262 [.ref 149, .int (nI w)] (pm_h z X Y (pm_l mV mT mQ mO mE mB mS mR mW)) Q := by
  have h128 : c.2.1 < 128 := Nat.lt_of_lt_of_le hc.2.1 (p27 h7)
  have hb := k7_bit _ h128 w (by omega)
  obtain ⟨h9, -, hp1, -⟩ := hS
  simp only [e262, b262_0, b262_1, bn_0 b262_0, bn_1 b262_1, q262_0, q262_1, q262_4, q262_5, q262_6, q262_7, q262_8, q262_9, q262_10, q262_11, q262_14, q262_15, q262_18, q262_19, mg_s, ma_s, mb_s, mn_s, wx_some, wx_ref]
  rw [show aG (mS.1) 1 = some (nI c.2.1) from aG_n hp1 (by omega)]
  simp only [wx_some, e262, b262_0, b262_1, bn_0 b262_0, bn_1 b262_1, q262_0, q262_1, q262_4, q262_5, q262_6, q262_7, q262_8, q262_9, q262_10, q262_11, q262_14, q262_15, q262_18, q262_19]
  by_cases e : c.2.1.testBit w = true
  · rw [if_pos e] at hq; rw [if_neg (fun z => z (hb.mpr e))]; exact hq
  · rw [if_neg e] at hq; rw [if_pos (fun z => e (hb.mp z))]; exact hq
theorem tm_gustOf {hr : Nat} (hs : SQm mQ s) (ho : k_ok s) (hh : hr < 2 ^ 20) (hq : Q (some (.int (nI (sp_gust s hr)))) (pm_h z X Y (pm_l mV mT mQ mO mE mB mS mR mW))) : wm (mp_P fx) d 263 [.ref 149, .int (nI hr)] (pm_h z X Y (pm_l mV mT mQ mO mE mB mS mR mW)) Q := by
  have h8 := ho.1.2.2.2.2
  have hg := hs.2.1.2.2.2.2
  have hgl := hs.1.2.2.2.2.2.2.2.2.2.2.2.1
  have hsl := hs.1.1
  have hga := hs.2.2.2.1.2.2.2.2.2.2
  unfold sp_gust at hq
  simp only [e263, q263_0, q263_1, q263_4, q263_5, q263_6, q263_9, q263_11, q263_14, q263_15, q263_18, q263_19, q263_20, q263_23, q263_24, q263_25, q263_26, q263_27, mg_square, ma_square, mb_square, mn_square, mg_gusts, ma_gusts, mb_gusts, mn_gusts, wx_some, wx_ref, show aG (mQ.1) 5 = some (nI (k_nG s)) from aG_n hg (by omega)]
  by_cases e : k_nG s = 0
  · rw [if_pos e] at hq; rw [e, if_neg (fun z => z rfl)]; exact hq
  · rw [if_neg e] at hq
    rw [if_pos (nI_ne0 (by omega) (by omega))]
    rw [if_neg (by rw [nl_0, nI_eq (by omega) (by omega)]; exact e), nI_mod (by omega) (by omega) (by omega), ag_G hga (by omega) (Nat.mod_lt _ (by omega)), wx_some]
    exact hq
def GN (mS : pm_S) (s : SQ) (c : SC) (g : Nat) : Prop := (mS.2.2.2.2.2.2.2 = -1 ∧ g = sp_gust s c.1) ∨ (mS.2.2.2.2.2.2.2 = nI g ∧ g ≤ 10)
end MR
