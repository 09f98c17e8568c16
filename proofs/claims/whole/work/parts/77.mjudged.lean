/-! a day judged, of the model -/
theorem sp_put_self {c : SC} {w : Nat} : sp_put c w (c.2.2 w) = c := by
  unfold sp_put
  have : up c.2.2 w (c.2.2 w) = c.2.2 := by
    funext i
    unfold up
    split
    · rename_i h; rw [h]
    · rfl
  rw [this]
theorem k7_n1 : ∀ a, a < 128 → ∀ w, w < 7 → a.testBit w = false → a &&& (127 ^^^ 2 ^ w) = a := by decide +kernel
theorem k7_n0 : ∀ a, a < 128 → ∀ w, w < 7 → a.testBit w = true → a ||| 2 ^ w = a := by decide +kernel
section MJ
variable {fx : List Value → mm_H → Option (List Value × mm_H)} {z : Nat} {X Y : Nat → mm_C} {mV : pm_V} {mT : pm_T} {mQ : pm_Q} {mO : pm_O} {mE : pm_E} {mB : pm_B} {mS : pm_S} {mR : pm_R} {mW : pm_W} {m_thrown : Int32} {m_given : Int32} {m_fresh : Int64} {m_code : Int32} {m_taped : Int32} {m_tape : List Int32} {m_size : Int32} {m_place : Int32} {m_begin : Int32} {m_token : Int32} {m_word : Int64} {m_told : Int32} {m_wrong : Int32} {m_square : List Int32} {m_sortName : List Int64} {m_colourName : List Int64} {m_walkerName : List Int64} {m_sortOf : List Int32} {m_rules : List Int32} {m_kind : List Int32} {m_colour : List Int32} {m_atTold : List Int32} {m_goesMany : List Int32} {m_goes : List Int32} {m_gusts : List Int32} {m_lineFrom : List Int32} {m_lineTo : List Int32} {m_codes : List Int32} {m_opened : List Int32} {m_compared : List Int32} {m_kept : List Int32} {m_keptBy : List Int32} {m_ahead : List Int32} {m_against : List Int32} {m_sum : List Int32} {m_sumBy : List Int32} {m_term : List Int32} {m_termBy : List Int32} {m_byNot : List Int32} {m_valueOf : List Int32} {m_lines : List Int32} {m_lineWhat : List Int32} {m_lineA : List Int32} {m_lineB : List Int32} {m_wishes : List Int32} {m_wishOf : List Int32} {m_seens : List Int32} {m_seenAt : List Int32} {m_seenIn : List Int32} {m_seenThere : List Int32} {m_s : List Int32} {m_aside : List Int32} {m_before : List Int32} {m_marked : List Int32} {m_undone : List Int32} {m_isLaid : List Int32} {m_done : Int32} {m_gustNow : Int32} {m_shown : List Int32} {m_shownMany : Int32} {m_from7 : List Int32} {m_long7 : List Int32} {m_sentences : Int32} {m_text7 : List Int32} {m_textMany : Int32} {m_waysOf : List Int32} {m_rowOf : List Int32} {m_row : List Int32} {m_bestRow : List Int32} {m_leastSteps : Int32} {m_steps10 : List Int32} {m_placeIn : List Int32} {m_g : Int64}
variable {d : Nat} {Q : Option Value → mm_H → Prop} {s : SQ} {c : SC} {nm : NMs} {b : BK}
theorem tm_fresh (hs : SQm mQ s) (ho : k_ok s) (hs9 : (mS.1).length = 9) (hq : ∀ r, SCm s r (sp_fresh s) → Q none (pm_h z X Y (pm_l mV mT mQ mO mE mB ((r, mS.2.1, mS.2.2.1, mS.2.2.2.1, mS.2.2.2.2.1, mS.2.2.2.2.2.1, mS.2.2.2.2.2.2.1, mS.2.2.2.2.2.2.2)) mR mW))) : wm (mp_P fx) d 216 [.ref 149] (pm_h z X Y (pm_l mV mT mQ mO mE mB mS mR mW)) Q := by
  have h7 := ho.1.2.2.2.1
  have hsl := hs.1.1
  have hn := hs.2.1.2.2.2.1
  have hal := hs.1.2.2.2.2.2.2.2.2.1
  have hat := hs.2.2.2.1.2.2.2.2.1
  simp only [e216, q216_0, q216_1r, isl_i, isl_r, isl_n]
  have key2 : ∀ (m w : Nat) (r : List Int32), w + m = k_nW s → r.length = 9 → r[0]? = some (nI 0) → r[1]? = some (nI (2 ^ k_nW s - 1)) → (∀ i, i < 7 → r[2 + i]? = some (nI (if i < w then k_st s i else 0))) → ww (mp_P fx) d 216 39 [some (.ref 149), some (.int (nI w))] [] (pm_h z X Y (pm_l mV mT mQ mO mE mB ((r, mS.2.1, mS.2.2.1, mS.2.2.2.1, mS.2.2.2.2.1, mS.2.2.2.2.2.1, mS.2.2.2.2.2.2.1, mS.2.2.2.2.2.2.2)) mR mW)) Q := by
    intro m
    induction m with
    | zero =>
      intro w r hw h9 h0 h1 hI
      have hw2 : w = k_nW s := by omega
      subst hw2
      rw [q216_39]
      simp only [q216_40, q216_41, q216_44, q216_45, q216_46, q216_69, mg_square, ma_square, mb_square, mn_square, wx_some, wx_ref, nl_3, aG_n hn (show (mQ.1).length < 2 ^ 31 by omega)]
      rw [if_pos (by rw [nI_leI (by omega) (by omega)]; omega)]
      exact hq r ⟨h9, h0, h1, hI⟩
    | succ m ih =>
      intro w r hw h9 h0 h1 hI
      have hw' : w < k_nW s := by omega
      rw [q216_39]
      simp only [q216_40, q216_41, q216_44, q216_45, q216_46, q216_49, q216_50, q216_53, q216_54, q216_55, q216_56, q216_57, q216_60, q216_61, q216_62, q216_63r, q216_66, mg_square, ma_square, mb_square, mn_square, mg_s, ma_s, mb_s, mn_s, mg_atTold, ma_atTold, mb_atTold, mn_atTold, wx_some, wx_ref, isl_i, isl_r, isl_n, nl_1, nl_2, nl_3, nI_add, aG_n hn (show (mQ.1).length < 2 ^ 31 by omega), ag_G hat (show (mQ.2.2.2.2.2.2.2.2.1).length < 2 ^ 31 by omega) hw', aS_n (show 2 + w < r.length by omega) (show r.length < 2 ^ 31 by omega)]
      rw [if_neg (by rw [nI_leI (by omega) (by omega)]; omega)]
      refine ih (w + 1) _ (by omega) (by rw [List.length_set]; exact h9) (by rw [List.getElem?_set_ne (by omega)]; exact h0) (by rw [List.getElem?_set_ne (by omega)]; exact h1) (fun i hi => ?_)
      rw [List.getElem?_set]
      by_cases e : w = i
      · subst e; rw [if_pos rfl, if_pos (by omega), if_pos (by omega)]
      · rw [if_neg (by omega), hI i hi]
        by_cases e2 : i < w
        · rw [if_pos e2, if_pos (by omega)]
        · rw [if_neg e2, if_neg (by omega)]
  have key1 : ∀ (m k : Nat) (r : List Int32), k + m = 9 → r.length = 9 → (∀ j, j < k → r[j]? = some (nI 0)) → ww (mp_P fx) d 216 2 [some (.ref 149), some (.int (nI k))] [] (pm_h z X Y (pm_l mV mT mQ mO mE mB ((r, mS.2.1, mS.2.2.1, mS.2.2.2.1, mS.2.2.2.2.1, mS.2.2.2.2.2.1, mS.2.2.2.2.2.2.1, mS.2.2.2.2.2.2.2)) mR mW)) Q := by
    intro m
    induction m with
    | zero =>
      intro k r hk h9 hI
      have hk2 : k = 9 := by omega
      subst hk2
      rw [q216_2]
      simp only [q216_3, q216_5, q216_21, q216_22, q216_25, q216_26, q216_27, q216_28, q216_31, q216_32, q216_33, q216_34, q216_35, q216_36, q216_37, q216_38r, mg_square, ma_square, mb_square, mn_square, mg_s, ma_s, mb_s, mn_s, wx_some, wx_ref, isl_i, isl_r, isl_n, nl_3, aG_n hn (show (mQ.1).length < 2 ^ 31 by omega), k7_shm _ h7, show ∀ x (f : List Int32 → mm_H), aS r 1 x f = some (f (r.set 1 x)) from fun x f => aS_n (j := 1) (by omega) (by omega)]
      rw [if_pos (by decide)]
      refine key2 (k_nW s) 0 _ (by omega) (by rw [List.length_set]; exact h9) (by rw [List.getElem?_set_ne (by omega)]; exact hI 0 (by omega)) (by rw [List.getElem?_set_self (by omega)]) (fun i hi => ?_)
      rw [List.getElem?_set_ne (by omega), hI _ (by omega), if_neg (by omega)]
    | succ m ih =>
      intro k r hk h9 hI
      rw [q216_2]
      simp only [q216_3, q216_5, q216_8, q216_9, q216_12, q216_13, q216_14, q216_15r, q216_18, mg_s, ma_s, mb_s, mn_s, wx_some, wx_ref, isl_i, isl_r, isl_n, nl_1, nI_add, aS_n (show k < r.length by omega) (show r.length < 2 ^ 31 by omega)]
      rw [nl_9, if_neg (by rw [nI_leI (by omega) (by omega)]; omega)]
      refine ih (k + 1) _ (by omega) (by rw [List.length_set]; exact h9) (fun j hj => ?_)
      rw [List.getElem?_set]
      by_cases e : k = j
      · rw [if_pos e, if_pos (by omega)]; rfl
      · rw [if_neg e]; exact hI j (by omega)
  exact key1 9 0 mS.1 (by omega) hs9 (fun j hj => by omega)
theorem tm_isDone {i : Nat} (hs : SQm mQ s) (ho : k_ok s) (hc : c_ok s c) (hS : SCm s mS.1 c) (hb : b_ok s b) (hL : BLm mB) (hB : BKm b mB 0) (hi : i < b.1.1) (hq : ∀ r, SCm s r (sp_obey s (b.1.2 i) c).1 → Q (some (.int (if (sp_obey s (b.1.2 i) c).2 = true then 1 else 0))) (pm_h z X Y (pm_l mV mT mQ mO mE mB ((r, mS.2.1, mS.2.2.1, mS.2.2.2.1, mS.2.2.2.2.1, mS.2.2.2.2.2.1, mS.2.2.2.2.2.2.1, mS.2.2.2.2.2.2.2)) mR mW))) : wm (mp_P fx) (d + 3) 287 [.ref 149, .int (nI i)] (pm_h z X Y (pm_l mV mT mQ mO mE mB mS mR mW)) Q := by
  have h7 := ho.1.2.2.2.1
  have h40 := hb.1.1
  have hs9 := hS.1
  obtain ⟨-, l2, l3, l4, -⟩ := hL
  obtain ⟨b1, b2, b3, b4, b5⟩ := hb.1.2 i hi
  obtain ⟨g1, g2, g3⟩ := hB.1.2 i hi
  rw [Nat.mul_zero, Nat.zero_add] at g1 g2 g3
  have h128 : c.2.1 < 128 := Nat.lt_of_lt_of_le hc.2.1 (p27 h7)
  have hA : ∃ a : Int32, (mB.2.2.1)[i]? = some a ∧ (¬ (b.1.2 i).1 = 0 → a = nI (b.1.2 i).2.1) := by
    refine ⟨(mB.2.2.1)[i]'(by omega), List.getElem?_eq_getElem (by omega), fun h => ?_⟩
    have := g2 h
    rw [List.getElem?_eq_getElem (by omega)] at this
    exact Option.some.inj this
  obtain ⟨a, hA1, hA2⟩ := hA
  unfold sp_obey at hq
  generalize b.1.2 i = l at *
  obtain ⟨kd, w, st⟩ := l
  simp only [] at b1 b2 b3 b4 b5 g1 g2 g3 hq hA2
  simp only [e287, b287_0, b287_1, bn_0 b287_0, bn_1 b287_1, q287_0, q287_1, q287_4, q287_5, q287_6i, q287_7, q287_8, q287_11, q287_12, q287_13i, q287_14, q287_15, q287_18, mc_o, mg_lineA, ma_lineA, mb_lineA, mn_lineA, mg_lineWhat, ma_lineWhat, mb_lineWhat, mn_lineWhat, wx_some, wx_ref, isl_i, isl_r, isl_n, aG_n hA1 (show (mB.2.2.1).length < 2 ^ 31 by omega), aG_n g1 (show (mB.2.1).length < 2 ^ 31 by omega)]
  by_cases e0 : kd = 0
  · subst e0
    rw [if_pos rfl] at hq
    rw [if_neg (fun z => z rfl)]
    simp only [b287_0, b287_1, bn_0 b287_0, bn_1 b287_1, q287_19, mc_o]
    apply tm_passes hs ho hc hS
    intro r hr
    simp only [sl_n, b287_0, b287_1, bn_0 b287_0, bn_1 b287_1, q287_22, b287_0, b287_1, bn_0 b287_0, bn_1 b287_1, q287_106, q287_107]
    exact hq r hr
  have hw := b4 e0
  have ha := hA2 e0
  subst ha
  rw [if_neg e0] at hq
  rw [if_pos (nI_ne0 (by omega) (by omega))]
  have hpw := hS.2.2.2 w (by omega)
  rw [if_pos hw] at hpw
  have hp := hc.2.2 w hw
  simp only [b287_0, b287_1, bn_0 b287_0, bn_1 b287_1, q287_25, q287_26, q287_27, q287_30, q287_31, q287_32, q287_33, q287_36, q287_37, mc_o, mg_lineB, ma_lineB, mb_lineB, mn_lineB, wx_some, wx_ref]
  by_cases e1 : kd = 1
  · subst e1
    rw [if_pos rfl] at hq
    have h0 := b5 rfl
    have gB := g3 rfl
    have hcb := k_canb _ hp st b3 h0
    rw [if_neg (fun z => z rfl), aG_n gB (by omega), wx_some]
    simp only [b287_0, b287_1, bn_0 b287_0, bn_1 b287_1, q287_38, mc_o]
    apply tm_can hc hS hw h7 b3
    simp only [sl_i, b287_0, b287_1, bn_0 b287_0, bn_1 b287_1, q287_41, q287_44, q287_45, q287_46, q287_47, q287_50, q287_51, q287_52, q287_53, q287_54, q287_57, q287_58, q287_59, q287_60, q287_61, q287_62, q287_65, q287_66, mc_o, mg_s, ma_s, mb_s, mn_s, mg_lineB, ma_lineB, mb_lineB, mn_lineB, wx_some, wx_ref, nl_2, nI_add, aG_n hpw (show (mS.1).length < 2 ^ 31 by omega), aG_n gB (show (mB.2.2.2.1).length < 2 ^ 31 by omega)]
    by_cases ec : sp_can (c.2.2 w) st = true
    · rw [if_pos ec, if_pos (by decide)]
      rw [decide_eq_false (hcb.mp ec), Bool.not_false, if_pos rfl] at hq
      simp only [b287_0, b287_1, bn_0 b287_0, bn_1 b287_1, q287_67]
      apply tm_stepped b3
      rw [k_stI _ hp st b3 ec]
      simp only [sl_i, b287_0, b287_1, bn_0 b287_0, bn_1 b287_1, q287_70, q287_71, b287_0, b287_1, bn_0 b287_0, bn_1 b287_1, q287_106, q287_107, mc_o, mg_s, ma_s, mb_s, mn_s, wx_some, wx_ref, aS_n (show 2 + w < (mS.1).length by omega) (show (mS.1).length < 2 ^ 31 by omega)]
      exact hq _ (SCm_put hw h7 hS)
    · rw [if_neg ec, if_neg (by decide)]
      have heq : sp_behind (c.2.2 w) st = c.2.2 w := Decidable.not_not.mp (fun z => ec (hcb.mpr z))
      rw [decide_eq_true heq, Bool.not_true, if_neg Bool.false_ne_true, heq, sp_put_self] at hq
      exact hq mS.1 hS
  rw [if_neg e1] at hq
  rw [nl_1, if_pos (by rw [nI_eq (by omega) (by omega)]; exact e1)]
  simp only [b287_0, b287_1, bn_0 b287_0, bn_1 b287_1, q287_74, q287_75, q287_76, mc_o]
  apply tm_isOpen h7 hc hS hw
  have hp1 := hS.2.2.1
  have hxor : ∀ o', c.2.1 ^^^ 2 ^ w = o' → (∀ r, SCm s r (c.1, o', c.2.2) → Q (some (.int 1)) (pm_h z X Y (pm_l mV mT mQ mO mE mB ((r, mS.2.1, mS.2.2.1, mS.2.2.2.1, mS.2.2.2.2.1, mS.2.2.2.2.2.1, mS.2.2.2.2.2.2.1, mS.2.2.2.2.2.2.2)) mR mW))) → ww (mp_P fx) (d + 3) 287 94 [some (.ref 149), some (.int (nI i)), some (.int (nI w)), some (.int (nI kd))] [] (pm_h z X Y (pm_l mV mT mQ mO mE mB mS mR mW)) Q := by
    intro o' ho' hq'
    simp only [b287_0, b287_1, bn_0 b287_0, bn_1 b287_1, q287_94, q287_95, q287_98, q287_99, q287_100, q287_101, q287_102, q287_103, q287_104, q287_105, q287_106, q287_107, mc_o, mg_s, ma_s, mb_s, mn_s, wx_some, wx_ref, show aG (mS.1) 1 = some (nI c.2.1) from aG_n hp1 (by omega), k7_xor _ h128 w (show w < 7 by omega), show ∀ x (f : List Int32 → mm_H), aS (mS.1) 1 x f = some (f ((mS.1).set 1 x)) from fun x f => aS_n (j := 1) (by omega) (by omega)]
    refine hq' _ ?_
    rw [ho']
    exact SCm_open hS
  by_cases e2 : kd = 2
  · subst e2
    rw [if_pos rfl] at hq
    simp only [sl_i, b287_0, b287_1, bn_0 b287_0, bn_1 b287_1, q287_79, q287_80, q287_81, q287_84, q287_85, q287_88, q287_89, q287_92, q287_93]
    rw [if_neg (fun z => z rfl)]
    by_cases eb : c.2.1.testBit w = true
    · rw [if_pos eb, if_pos (by decide)]
      rw [eb, if_pos rfl] at hq
      exact hxor _ (k7_x1 _ h128 w (by omega) eb) hq
    · rw [if_neg eb, if_neg (by decide)]
      rw [Bool.eq_false_iff.mpr eb, if_neg Bool.false_ne_true, k7_n1 _ h128 w (by omega) (Bool.eq_false_iff.mpr eb)] at hq
      exact hq mS.1 hS
  · rw [if_neg e2] at hq
    simp only [sl_i, b287_0, b287_1, bn_0 b287_0, bn_1 b287_1, q287_79, q287_80, q287_81, q287_84, q287_85, q287_88, q287_89, q287_92, q287_93]
    rw [nl_2, if_pos (by rw [nI_eq (by omega) (by omega)]; exact e2)]
    by_cases eb : c.2.1.testBit w = true
    · rw [if_pos eb, if_neg (by decide)]
      rw [eb, Bool.not_true, if_neg Bool.false_ne_true, k7_n0 _ h128 w (by omega) eb] at hq
      exact hq mS.1 hS
    · rw [if_neg eb, if_pos (by decide)]
      rw [Bool.eq_false_iff.mpr eb, Bool.not_false, if_pos rfl] at hq
      exact hxor _ (k7_x0 _ h128 w (by omega) (Bool.eq_false_iff.mpr eb)) hq
theorem io_neg {o : Option Nat} (h : ∀ m, o = some m → m < 2 ^ 31) : (0 ≤ io o ↔ ∃ m, o = some m) := by
  cases o with
  | none => exact ⟨fun z => absurd z (by decide), fun ⟨m, hm⟩ => by cases hm⟩
  | some m =>
    refine ⟨fun _ => ⟨m, rfl⟩, fun _ => ?_⟩
    show (0 : Int32) ≤ nI m
    rw [nl_0, nI_leI (by omega) (h m rfl)]; omega
theorem ffl_lt {P : Nat → Bool} : ∀ n m, ffl P n = some m → m < n := by
  intro n
  induction n with
  | zero => intro m h; cases h
  | succ n ih =>
    intro m h
    rw [ffl] at h
    cases e : ffl P n with
    | some x => rw [e] at h; cases h; have := ih m e; omega
    | none =>
      rw [e] at h
      simp only [] at h
      split at h
      · cases h; omega
      · cases h
theorem tm_judged {v : Int32} (hK : KM nm s mQ) (hE : KE mE mR) (hS : SCm s mS.1 c) (hg : mS.2.2.2.2.2.2.2 = -1) (hb : b_ok s b) (hL : BLm mB) (hB : BKm b mB 0) (hla : (mS.2.1).length = 9) (hq : ∀ mE' mR' a', KE mE' mR' → a'.length = 9 → Q (some (.int (match sx 3 v with
    | some k => sp_judged s b k
    | none => -2))) (pm_h z X Y (pm_l ((0, mV.2.1, mV.2.2.1, mV.2.2.2)) mT mQ mO (mE') mB ((mS.1, a', mS.2.2.1, mS.2.2.2.1, mS.2.2.2.2.1, mS.2.2.2.2.2.1, mS.2.2.2.2.2.2.1, mS.2.2.2.2.2.2.2)) (mR') mW))) : wm (mp_P fx) (d + 6) 286 [.ref 149, .int v] (pm_h z X Y (pm_l mV mT mQ mO mE mB mS mR mW)) Q := by
  have ho := hK.2.2.1
  have h40 := hb.1.1
  have hs9 := hS.1
  have hl1 := hL.1
  simp only [e286, q286_0, q286_1, q286_2, q286_5, q286_6, q286_7, q286_8, mc_o, mg_thrown, mf_thrown, wx_some, isl_i, isl_r, isl_n]
  apply tm_in
  · intro h0
    have hqq := hq mE mR mS.2.1 hE hla
    rcases sx_c 3 v (by omega) with ⟨e2, -⟩ | ⟨n, hn, rfl, e2⟩
    · rw [e2] at hqq
      simp only [sl_i, q286_11, q286_14, q286_16]
      rw [if_neg (by decide)]
      exact hqq
    · rw [nl_0, nl_2, nI_ltI (by omega) (by omega), nI_ltI (by omega) (by omega)] at h0
      omega
  intro h1 h2
  rcases sx_c 3 v (by omega) with ⟨e2, h3⟩ | ⟨k, hk, rfl, e2⟩
  · rcases h3 with h3 | ⟨h3, h4⟩
    · exact absurd h1 (Int32.not_le.mpr h3)
    · exact absurd h2 (Int32.not_le.mpr (Int32.lt_of_lt_of_le (by decide : (2 : Int32) < nI 3) h4))
  rw [e2] at hq
  simp only [] at hq
  unfold sp_judged at hq
  simp only [sl_i, q286_11, q286_14, q286_16, q286_17, q286_18, q286_21, q286_22, q286_23, q286_26, q286_27, mc_o, mg_s, ma_s, mb_s, mn_s, mg_aside, ma_aside, mb_aside, mn_aside, wx_some, wx_ref]
  rw [if_pos (by decide)]
  apply tm_saveaside hs9 hla
  simp only [sl_n, q286_30, q286_31, mc_o]
  apply tm_fresh (mS := (mS.1, mS.1, mS.2.2.1, mS.2.2.2.1, mS.2.2.2.2.1, mS.2.2.2.2.2.1, mS.2.2.2.2.2.2.1, mS.2.2.2.2.2.2.2)) hK.1 ho hs9
  intro r0 hr0
  simp only [sl_n, q286_34, q286_35i, q286_36, q286_37i, q286_38, q286_39i, isl_i, isl_r, isl_n]
  have key : ∀ (m i : Nat) (bd fs : Int32) (r : List Int32) (mE' : pm_E) (mR' : pm_R), i + m = b.1.1 → KE mE' mR' → SCm s r (sp_run s b i) → bd = io (ffl (fun i => !(sp_obey s (b.1.2 i) (sp_run s b i)).2) i) → fs = io (ffl (fun i => decide (0 < sp_sd s (sp_run s b (i + 1)))) i) → ww (mp_P fx) (d + 6) 286 41 [some (.ref 149), some (.int (nI k)), some (.int bd), some (.int fs), some (.int (nI i))] [] (pm_h z X Y (pm_l ((0, mV.2.1, mV.2.2.1, mV.2.2.2)) mT mQ mO (mE') mB ((r, mS.1, mS.2.2.1, mS.2.2.2.1, mS.2.2.2.2.1, mS.2.2.2.2.2.1, mS.2.2.2.2.2.2.1, mS.2.2.2.2.2.2.2)) (mR') mW)) Q := by
    intro m
    induction m with
    | zero =>
      intro i bd fs r mE' mR' hi hE' hr hbd hfs
      have hi2 : i = b.1.1 := by omega
      subst hi2
      rw [q286_41]
      simp only [q286_43, q286_44, q286_47, q286_48, q286_49, q286_88, q286_89, mc_o, mg_lines, ma_lines, mb_lines, mn_lines, wx_some, wx_ref, show aG (mB.1) 0 = some (nI b.1.1) from aG_n hB.1.1 (by omega)]
      rw [if_pos (by rw [nI_leI (by omega) (by omega)]; omega)]
      apply tm_sd (mS := (r, mS.1, mS.2.2.1, mS.2.2.2.1, mS.2.2.2.2.1, mS.2.2.2.2.2.1, mS.2.2.2.2.2.2.1, mS.2.2.2.2.2.2.2)) hK hE' (c_run ho hb _ (Nat.le_refl _)).1 hr hg
      intro mE2 mR2 hE2
      have hqq := hq mE2 mR2 mS.1 hE2 hs9
      simp only [sl_i, q286_92i, q286_94, q286_95, q286_98, q286_99, q286_100, q286_103, q286_104, mc_o, mg_s, ma_s, mb_s, mn_s, mg_aside, ma_aside, mb_aside, mn_aside, wx_some, wx_ref, isl_i, isl_r, isl_n]
      apply tm_backaside hr.1 hs9
      simp only [sl_n, q286_107, q286_108, q286_111, q286_112, q286_115, q286_116, q286_117, q286_120, q286_121, q286_124, q286_126]
      have hk3 : k = 0 ∨ k = 1 ∨ k = 2 := by omega
      rcases hk3 with h | h | h
      · rw [if_pos h] at hqq
        subst h
        rw [if_neg (fun z => z rfl), hbd]
        exact hqq
      · rw [if_neg (by omega), if_pos h] at hqq
        subst h
        rw [if_pos (by decide), if_neg (fun z => z rfl), hfs]
        exact hqq
      · rw [if_neg (by omega), if_neg (by omega)] at hqq
        subst h
        rw [if_pos (by decide), if_pos (by decide)]
        exact hqq
    | succ m ih =>
      intro i bd fs r mE' mR' hi hE' hr hbd hfs
      obtain ⟨hci, hhi⟩ := c_run ho hb i (by omega)
      obtain ⟨hcj, hhj⟩ := c_run ho hb (i + 1) (by omega)
      have hbn : 0 ≤ bd ↔ ∃ m, ffl (fun i => !(sp_obey s (b.1.2 i) (sp_run s b i)).2) i = some m := by rw [hbd]; exact io_neg (fun m hm => by have := ffl_lt _ _ hm; omega)
      have hfn : 0 ≤ fs ↔ ∃ m, ffl (fun i => decide (0 < sp_sd s (sp_run s b (i + 1)))) i = some m := by rw [hfs]; exact io_neg (fun m hm => by have := ffl_lt _ _ hm; omega)
      rw [q286_41]
      simp only [q286_43, q286_44, q286_47, q286_48, q286_49, q286_52, q286_53, q286_55, mc_o, mg_lines, ma_lines, mb_lines, mn_lines, wx_some, wx_ref, show aG (mB.1) 0 = some (nI b.1.1) from aG_n hB.1.1 (by omega)]
      rw [if_neg (by rw [nI_leI (by omega) (by omega)]; omega)]
      apply tm_isDone (mS := (r, mS.1, mS.2.2.1, mS.2.2.2.1, mS.2.2.2.2.1, mS.2.2.2.2.2.1, mS.2.2.2.2.2.2.1, mS.2.2.2.2.2.2.2)) hK.1 ho hci hr hb hL hB (show i < b.1.1 by omega)
      intro r2 hr2
      have hr2 : SCm s r2 (sp_run s b (i + 1)) := hr2
      have second : ∀ bd2 : Int32, bd2 = io (ffl (fun i => !(sp_obey s (b.1.2 i) (sp_run s b i)).2) (i + 1)) → ww (mp_P fx) (d + 6) 286 68 [some (.ref 149), some (.int (nI k)), some (.int bd2), some (.int fs), some (.int (nI i))] [] (pm_h z X Y (pm_l ((0, mV.2.1, mV.2.2.1, mV.2.2.2)) mT mQ mO (mE') mB ((r2, mS.1, mS.2.2.1, mS.2.2.2.1, mS.2.2.2.2.1, mS.2.2.2.2.2.1, mS.2.2.2.2.2.2.1, mS.2.2.2.2.2.2.2)) (mR') mW)) Q := by
        intro bd2 hbd2
        have next : ∀ (fs2 : Int32) (mE2 : pm_E) (mR2 : pm_R), KE mE2 mR2 → fs2 = io (ffl (fun i => decide (0 < sp_sd s (sp_run s b (i + 1)))) (i + 1)) → ww (mp_P fx) (d + 6) 286 82 [some (.ref 149), some (.int (nI k)), some (.int bd2), some (.int fs2), some (.int (nI i))] [] (pm_h z X Y (pm_l ((0, mV.2.1, mV.2.2.1, mV.2.2.2)) mT mQ mO (mE2) mB ((r2, mS.1, mS.2.2.1, mS.2.2.2.1, mS.2.2.2.2.1, mS.2.2.2.2.2.1, mS.2.2.2.2.2.2.1, mS.2.2.2.2.2.2.2)) (mR2) mW)) Q := by
          intro fs2 mE2 mR2 hE2 hfs2
          simp only [q286_82i, q286_85, isl_i, isl_r, isl_n, nl_1, nI_add]
          exact ih (i + 1) bd2 fs2 r2 mE2 mR2 (by omega) hE2 hr2 hbd2 hfs2
        simp only [q286_68, q286_69, q286_72, q286_73, mc_o]
        by_cases ef : 0 ≤ fs
        · obtain ⟨m', hm'⟩ := hfn.mp ef
          rw [if_pos ef]
          exact next fs mE' mR' hE' (by rw [hfs, ffl, hm'])
        · rw [if_neg ef]
          have hnone : ffl (fun i => decide (0 < sp_sd s (sp_run s b (i + 1)))) i = none := by
            cases e : ffl (fun i => decide (0 < sp_sd s (sp_run s b (i + 1)))) i with
            | none => rfl
            | some x => exact absurd (hfn.mpr ⟨x, e⟩) ef
          apply tm_sd (mS := (r2, mS.1, mS.2.2.1, mS.2.2.2.1, mS.2.2.2.2.1, mS.2.2.2.2.2.1, mS.2.2.2.2.2.2.1, mS.2.2.2.2.2.2.2)) hK hE' hcj hr2 hg
          intro mE2 mR2 hE2
          have h7 := sp_sd_le hcj ho
          simp only [sl_i, q286_76, q286_79, q286_81i, isl_i, isl_r, isl_n]
          by_cases es : 0 < sp_sd s (sp_run s b (i + 1))
          · rw [if_neg (show ¬ nI (sp_said s (sp_now s (sp_run s b (i + 1)))) ≤ 0 from nI_nle es (by unfold sp_sd at h7; omega))]
            exact next (nI i) mE2 mR2 hE2 (by rw [ffl, hnone]; simp only []; rw [if_pos (decide_eq_true es)]; rfl)
          · rw [if_pos (by rw [show sp_said s (sp_now s (sp_run s b (i + 1))) = 0 from by unfold sp_sd at es; omega]; decide)]
            exact next fs mE2 mR2 hE2 (by rw [hfs, ffl, hnone]; simp only []; rw [if_neg (by rw [decide_eq_false es]; exact Bool.false_ne_true)])
      simp only [sl_i, q286_58, q286_61, q286_62, q286_65, q286_67i, isl_i, isl_r, isl_n]
      by_cases eo : (sp_obey s (b.1.2 i) (sp_run s b i)).2 = true
      · rw [if_pos eo, if_pos (by decide)]
        apply second bd
        rw [hbd, ffl]
        cases ffl (fun i => !(sp_obey s (b.1.2 i) (sp_run s b i)).2) i with
        | some x => rfl
        | none => simp only []; rw [if_neg (by rw [eo]; exact Bool.false_ne_true)]
      · rw [if_neg eo, if_neg (by decide)]
        by_cases eb : 0 ≤ bd
        · obtain ⟨m', hm'⟩ := hbn.mp eb
          rw [if_pos eb]
          exact second bd (by rw [hbd, ffl, hm'])
        · rw [if_neg eb]
          have hnone : ffl (fun i => !(sp_obey s (b.1.2 i) (sp_run s b i)).2) i = none := by
            cases e : ffl (fun i => !(sp_obey s (b.1.2 i) (sp_run s b i)).2) i with
            | none => rfl
            | some x => exact absurd (hbn.mpr ⟨x, e⟩) eb
          exact second (nI i) (by rw [ffl, hnone]; simp only []; rw [if_pos (by rw [Bool.eq_false_iff.mpr eo]; rfl)]; rfl)
  exact key b.1.1 0 (-1) (-1) r0 mE mR (by omega) hE hr0 rfl rfl
end MJ
