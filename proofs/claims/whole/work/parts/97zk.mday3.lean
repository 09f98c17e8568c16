/-! the call day, of the model -/
def sp_dy (tp : List Nat) (nm : NMs) (s : SQ) : Nat → Nat → Nat → (Nat → Nat × Nat × Nat) → Nat × Nat × (Nat → Nat × Nat × Nat)
  | 0, _, c, fl => (0, c, fl)
  | m + 1, i, c, fl => if TY tp i = 0 then (0, c, fl) else if (dlc tp (dl tp nm s i c)).1 = 0 then sp_dy tp nm s m (dlc tp (dl tp nm s i c)).2.1 (c + 1) (fun j => if j = c then (dlc tp (dl tp nm s i c)).2.2 else fl j) else ((dlc tp (dl tp nm s i c)).1, c, fl)
theorem PBm_tr {a b e : pm_B} (h : PBm a b) (g : PBm b e) : PBm a e := ⟨g.1, fun l r h1 h2 h3 => g.2.1 l r h1 h2 (h.2.1 l r h1 h2 h3), fun l r h1 => g.2.2.1 l r (h.2.2.1 l r h1), fun l r h1 => g.2.2.2 l r (h.2.2.2 l r h1)⟩
section GZK
variable {fx : List Value → mm_H → Option (List Value × mm_H)} {z : Nat} {X Y : Nat → mm_C} {mV : pm_V} {mT : pm_T} {mQ : pm_Q} {mO : pm_O} {mE : pm_E} {mB : pm_B} {mS : pm_S} {mR : pm_R} {mW : pm_W} {m_thrown : Int32} {m_given : Int32} {m_fresh : Int64} {m_code : Int32} {m_taped : Int32} {m_tape : List Int32} {m_size : Int32} {m_place : Int32} {m_begin : Int32} {m_token : Int32} {m_word : Int64} {m_told : Int32} {m_wrong : Int32} {m_square : List Int32} {m_sortName : List Int64} {m_colourName : List Int64} {m_walkerName : List Int64} {m_sortOf : List Int32} {m_rules : List Int32} {m_kind : List Int32} {m_colour : List Int32} {m_atTold : List Int32} {m_goesMany : List Int32} {m_goes : List Int32} {m_gusts : List Int32} {m_lineFrom : List Int32} {m_lineTo : List Int32} {m_codes : List Int32} {m_opened : List Int32} {m_compared : List Int32} {m_kept : List Int32} {m_keptBy : List Int32} {m_ahead : List Int32} {m_against : List Int32} {m_sum : List Int32} {m_sumBy : List Int32} {m_term : List Int32} {m_termBy : List Int32} {m_byNot : List Int32} {m_valueOf : List Int32} {m_lines : List Int32} {m_lineWhat : List Int32} {m_lineA : List Int32} {m_lineB : List Int32} {m_wishes : List Int32} {m_wishOf : List Int32} {m_seens : List Int32} {m_seenAt : List Int32} {m_seenIn : List Int32} {m_seenThere : List Int32} {m_s : List Int32} {m_aside : List Int32} {m_before : List Int32} {m_marked : List Int32} {m_undone : List Int32} {m_isLaid : List Int32} {m_done : Int32} {m_gustNow : Int32} {m_shown : List Int32} {m_shownMany : Int32} {m_from7 : List Int32} {m_long7 : List Int32} {m_sentences : Int32} {m_text7 : List Int32} {m_textMany : Int32} {m_waysOf : List Int32} {m_rowOf : List Int32} {m_row : List Int32} {m_bestRow : List Int32} {m_leastSteps : Int32} {m_steps10 : List Int32} {m_placeIn : List Int32} {m_g : Int64}
variable {d : Nat} {Q : Option Value → mm_H → Prop} {tp : List Nat} {nm : NMs} {s : SQ}
theorem tm_day (ht : tp_ok tp) (hT0 : TPm tp mT) (hK : KM nm s mQ) (hw : nmok nm s) (hB : BLm mB) (hq1 : ∀ (n : Nat) (fl : Nat → Nat × Nat × Nat) (mV' : pm_V) (mT' : pm_T) (mB' : pm_B), sp_dy tp nm s 41 0 0 (fun _ => (0, 0, 0)) = (0, n, fl) → n ≤ 40 → TPm [] mT' → BLm mB' → BL1 (n, fl) mB' 0 → (∀ l r, 1 ≤ r → r < 5 → l.1 ≤ 40 → BL1 l mB r → BL1 l mB' r) → (∀ l r, BL2 l mB r → BL2 l mB' r) → (∀ l r, BL3 l mB r → BL3 l mB' r) → Q (some (.int 0)) (pm_h z X Y (pm_l (mV') (mT') mQ mO mE (mB') mS mR mW))) (hq0 : ∀ (f : Nat) (mV' : pm_V) (mT' : pm_T) (mB' : pm_B), (sp_dy tp nm s 41 0 0 (fun _ => (0, 0, 0))).1 = f → ¬ f = 0 → TPm [] mT' → PBm mB mB' → Q (some (.int (nI f))) (pm_h z X Y (pm_l (mV') (mT') mQ mO mE (mB') mS mR mW))) : wm (mp_P fx) (d + 4) 252 [.ref 149] (pm_h z X Y (pm_l mV mT mQ mO mE mB mS mR mW)) Q := by
  have key : ∀ (m c i : Nat) (fl : Nat → Nat × Nat × Nat) (mV : pm_V) (mT : pm_T) (mB1 : pm_B), m + c = 41 → c ≤ 40 → TKm tp i mT → PBm mB mB1 → BL1 (c, fl) mB1 5 → sp_dy tp nm s 41 0 0 (fun _ => (0, 0, 0)) = sp_dy tp nm s m i c fl → ww (mp_P fx) (d + 4) 252 16 [some (.ref 149)] [] (pm_h z X Y (pm_l (mV) (mT) mQ mO mE (mB1) mS mR mW)) Q := by
    intro m
    induction m with
    | zero => intro c i fl mV mT mB1 hm hc; omega
    | succ m ih =>
      intro c i fl mV mT mB1 hm hc hT hP hL hsp
      have hty := TKm_ty hT
      have htl := TY_le (tp := tp) (i := i)
      rw [show sp_dy tp nm s (m + 1) i c fl = if TY tp i = 0 then (0, c, fl) else if (dlc tp (dl tp nm s i c)).1 = 0 then sp_dy tp nm s m (dlc tp (dl tp nm s i c)).2.1 (c + 1) (fun j => if j = c then (dlc tp (dl tp nm s i c)).2.2 else fl j) else ((dlc tp (dl tp nm s i c)).1, c, fl) from rfl] at hsp
      rw [q252_16]
      simp only [q252_17, q252_20, mc_o, mg_token, mf_token, wx_some, wx_ref, hty]
      by_cases e0 : TY tp i = 0
      · rw [if_pos e0] at hsp
        rw [if_pos (by rw [e0]; rfl)]
        simp only [q252_35, q252_36, q252_37, q252_38, mc_o]
        apply tm_laysLines (f := 5) (t := 0) (by omega) (by omega) (by omega) hP.1
        intro mB' c1 c2 c3 c4
        simp only [sl_n, q252_41, q252_42]
        refine hq1 c fl mV mT mB' hsp hc (TPm_0 hT) c1 (c2 (c, fl) 0 hc (by rw [if_pos rfl]; exact hL)) ?_ (fun l r h => c3 l r (hP.2.2.1 l r h)) (fun l r h => c4 l r (hP.2.2.2 l r h))
        intro l r h1 h5 h40 h
        exact c2 l r h40 (by rw [if_neg (by omega)]; exact hP.2.1 l r h5 h40 h)
      rw [if_neg e0] at hsp
      rw [if_neg (by rw [nl_0, nI_eq (by omega) (by omega)]; exact e0)]
      simp only [q252_23, q252_24, mc_o]
      apply tm_readsLine hT hK hw hP.1 hL hc
      · intro j ln mV' mT' mB' b1 b2 b3 b4 b5
        rw [b1, if_pos rfl] at hsp
        simp only [sl_i, q252_27]
        rw [if_pos (by decide)]
        exact ih (c + 1) j _ mV' mT' mB' (by omega) (by omega) b3 (PBm_tr hP b4) b5 hsp
      · intro f mV' mT' mB' b1 b2 ⟨j, b3⟩ b4 b5
        rw [if_neg (by rw [b1]; exact b2)] at hsp
        simp only [sl_i, q252_27, q252_30, q252_31, q252_34, mc_o, mg_wrong, mf_wrong, wx_some, wx_ref, b4]
        rw [if_neg (by decide)]
        exact hq0 f mV' mT' mB' (by rw [hsp]; exact b1) b2 (TPm_0 b3) (PBm_tr hP b5)
  have p1 := hB.1
  simp only [e252, q252_0, q252_1, q252_2, q252_5, q252_6, q252_9, q252_10, q252_11, q252_12, q252_13, mc_o, mg_thrown, mf_thrown, mg_lines, ma_lines, mb_lines, mn_lines, wx_some, wx_ref, show ∀ (x : Int32) (f : List Int32 → mm_H), aS (mB.1) 5 x f = some (f ((mB.1).set 5 x)) from fun x f => aS_n (j := 5) (by omega) (by omega)]
  apply tm_begins ht hT0
  intro mT1 hT1
  simp only [sl_n]
  exact key 41 0 0 _ _ mT1 _ rfl (by omega) hT1 (PBm_of hB (by rw [List.length_set]; exact p1) hB.2.1 hB.2.2.1 hB.2.2.2.1 (fun i hi => List.getElem?_set_ne (by omega)) (fun i hi => rfl) (fun i hi => rfl) (fun i hi => rfl)) ⟨List.getElem?_set_self (by omega), fun i hi => absurd hi (Nat.not_lt_zero _)⟩ rfl
end GZK
