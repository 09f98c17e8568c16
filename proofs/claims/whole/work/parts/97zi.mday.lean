/-! the model reads a line of a day -/
def kdD (tp : List Nat) (i : Nat) : Option Nat := if wdB tp i 11 = true then some 0 else if wdB tp i 12 = true then some 1 else if wdB tp i 13 = true then some 2 else if wdB tp i 14 = true then some 3 else none
def dl0 (tp : List Nat) (nm : NMs) (s : SQ) (i kd : Nat) : Nat × Nat × (Nat × Nat × Nat) :=
  if kd = 0 then (0, i + 1, (0, 0, 0)) else if (c_named tp nm 2 (k_nW s) (i + 1)).1 = 0 then (if kd = 1 then (if TY tp (i + 2) = 2 then (if 1 ≤ VL tp (i + 2) ∧ VL tp (i + 2) ≤ 2 then (0, i + 3, (1, (c_named tp nm 2 (k_nW s) (i + 1)).2, VL tp (i + 2))) else (flt tp 4 (i + 2), i, (0, 0, 0))) else (flt tp 1 (i + 2), i, (0, 0, 0))) else (0, i + 2, (kd, (c_named tp nm 2 (k_nW s) (i + 1)).2, 0))) else ((c_named tp nm 2 (k_nW s) (i + 1)).1, i, (0, 0, 0))
def dl (tp : List Nat) (nm : NMs) (s : SQ) (i c : Nat) : Nat × Nat × (Nat × Nat × Nat) :=
  match kdD tp i with
  | none => (flt tp 1 i, i, (0, 0, 0))
  | some kd => if c = 40 then (flt tp 5 i, i, (0, 0, 0)) else dl0 tp nm s i kd
def dlc (tp : List Nat) (r : Nat × Nat × (Nat × Nat × Nat)) : Nat × Nat × (Nat × Nat × Nat) := if r.1 = 0 then (if snB tp r.2.1 59 = true then (0, r.2.1 + 1, r.2.2) else (flt tp 1 r.2.1, r.2)) else r
section GZI
variable {fx : List Value → mm_H → Option (List Value × mm_H)} {z : Nat} {X Y : Nat → mm_C} {mV : pm_V} {mT : pm_T} {mQ : pm_Q} {mO : pm_O} {mE : pm_E} {mB : pm_B} {mS : pm_S} {mR : pm_R} {mW : pm_W} {m_thrown : Int32} {m_given : Int32} {m_fresh : Int64} {m_code : Int32} {m_taped : Int32} {m_tape : List Int32} {m_size : Int32} {m_place : Int32} {m_begin : Int32} {m_token : Int32} {m_word : Int64} {m_told : Int32} {m_wrong : Int32} {m_square : List Int32} {m_sortName : List Int64} {m_colourName : List Int64} {m_walkerName : List Int64} {m_sortOf : List Int32} {m_rules : List Int32} {m_kind : List Int32} {m_colour : List Int32} {m_atTold : List Int32} {m_goesMany : List Int32} {m_goes : List Int32} {m_gusts : List Int32} {m_lineFrom : List Int32} {m_lineTo : List Int32} {m_codes : List Int32} {m_opened : List Int32} {m_compared : List Int32} {m_kept : List Int32} {m_keptBy : List Int32} {m_ahead : List Int32} {m_against : List Int32} {m_sum : List Int32} {m_sumBy : List Int32} {m_term : List Int32} {m_termBy : List Int32} {m_byNot : List Int32} {m_valueOf : List Int32} {m_lines : List Int32} {m_lineWhat : List Int32} {m_lineA : List Int32} {m_lineB : List Int32} {m_wishes : List Int32} {m_wishOf : List Int32} {m_seens : List Int32} {m_seenAt : List Int32} {m_seenIn : List Int32} {m_seenThere : List Int32} {m_s : List Int32} {m_aside : List Int32} {m_before : List Int32} {m_marked : List Int32} {m_undone : List Int32} {m_isLaid : List Int32} {m_done : Int32} {m_gustNow : Int32} {m_shown : List Int32} {m_shownMany : Int32} {m_from7 : List Int32} {m_long7 : List Int32} {m_sentences : Int32} {m_text7 : List Int32} {m_textMany : Int32} {m_waysOf : List Int32} {m_rowOf : List Int32} {m_row : List Int32} {m_bestRow : List Int32} {m_leastSteps : Int32} {m_steps10 : List Int32} {m_placeIn : List Int32} {m_g : Int64}
variable {d : Nat} {Q : Option Value → mm_H → Prop} {tp : List Nat} {nm : NMs} {s : SQ} {k c : Nat} {fl : Nat → Nat × Nat × Nat}
/-- the other rows of the book stay -/
def PBm (mB mB' : pm_B) : Prop := BLm mB' ∧ (∀ l r, r < 5 → l.1 ≤ 40 → BL1 l mB r → BL1 l mB' r) ∧ (∀ l r, BL2 l mB r → BL2 l mB' r) ∧ (∀ l r, BL3 l mB r → BL3 l mB' r)
theorem PBm_of {ls lw la lb : List Int32} (hB : BLm mB) (a1 : ls.length = 6) (a2 : lw.length = 240) (a3 : la.length = 240) (a4 : lb.length = 240) (b1 : ∀ i : Nat, i < 5 → ls[i]? = (mB.1)[i]?) (b2 : ∀ i : Nat, i < 200 → lw[i]? = (mB.2.1)[i]?) (b3 : ∀ i : Nat, i < 200 → la[i]? = (mB.2.2.1)[i]?) (b4 : ∀ i : Nat, i < 200 → lb[i]? = (mB.2.2.2.1)[i]?) : PBm mB (ls, lw, la, lb, mB.2.2.2.2.1, mB.2.2.2.2.2.1, mB.2.2.2.2.2.2.1, mB.2.2.2.2.2.2.2.1, mB.2.2.2.2.2.2.2.2.1, mB.2.2.2.2.2.2.2.2.2) := by
  obtain ⟨p1, p2, p3, p4, p5, p6, p7, p8, p9, p10⟩ := id hB
  refine ⟨⟨a1, a2, a3, a4, p5, p6, p7, p8, p9, p10⟩, fun l r hr hl h => ⟨(b1 r hr).trans h.1, fun i hi => ?_⟩, fun l r h => h, fun l r h => h⟩
  obtain ⟨u1, u2, u3⟩ := h.2 i hi
  exact ⟨(b2 _ (by omega)).trans u1, fun e => (b3 _ (by omega)).trans (u2 e), fun e => (b4 _ (by omega)).trans (u3 e)⟩
theorem dl_end (hB : BLm mB) (hL : BL1 (c, fl) mB 5) {j : Nat} {ln : Nat × Nat × Nat} {lw la lb : List Int32} {l1 l2 : Option Value} (hdl : dl tp nm s k c = (0, j, ln)) (hc : c < 40) (hT : TKm tp j mT) (a2 : lw.length = 240) (a3 : la.length = 240) (a4 : lb.length = 240) (b2 : ∀ i : Nat, i < 200 + c → lw[i]? = (mB.2.1)[i]?) (b3 : ∀ i : Nat, i < 200 + c → la[i]? = (mB.2.2.1)[i]?) (b4 : ∀ i : Nat, i < 200 + c → lb[i]? = (mB.2.2.2.1)[i]?) (e2 : lw[200 + c]? = some (nI ln.1)) (e3 : ¬ ln.1 = 0 → la[200 + c]? = some (nI ln.2.1)) (e4 : ln.1 = 1 → lb[200 + c]? = some (nI ln.2.2)) (hq1 : ∀ (mT' : pm_T) (mB' : pm_B), dlc tp (dl tp nm s k c) = (0, j + 1, ln) → TKm tp (j + 1) mT' → PBm mB mB' → BL1 (c + 1, fun i => if i = c then ln else fl i) mB' 5 → Q (some (.int 1)) (pm_h z X Y (pm_l mV (mT') mQ mO mE (mB') mS mR mW))) (hq0 : ∀ (mT' : pm_T) (mB' : pm_B), (dlc tp (dl tp nm s k c)).1 = flt tp 1 j → TKm tp j mT' → mT'.2.2.2.2.2.2.2.2 = nI (flt tp 1 j) → PBm mB mB' → Q (some (.int 0)) (pm_h z X Y (pm_l mV (mT') mQ mO mE (mB') mS mR mW))) : ww (mp_P fx) (d + 3) 253 180 [some (.ref 149), l1, l2] [] (pm_h z X Y (pm_l mV mT mQ mO mE ((mB.1, lw, la, lb, mB.2.2.2.2.1, mB.2.2.2.2.2.1, mB.2.2.2.2.2.2.1, mB.2.2.2.2.2.2.2.1, mB.2.2.2.2.2.2.2.2.1, mB.2.2.2.2.2.2.2.2.2)) mS mR mW)) Q := by
  have p1 := hB.1
  have g5 : aG (mB.1) 5 = some (nI c) := aG_n hL.1 (by omega)
  have hP : PBm mB ((mB.1).set 5 (nI (c + 1)), lw, la, lb, mB.2.2.2.2.1, mB.2.2.2.2.2.1, mB.2.2.2.2.2.2.1, mB.2.2.2.2.2.2.2.1, mB.2.2.2.2.2.2.2.2.1, mB.2.2.2.2.2.2.2.2.2) := PBm_of hB (by rw [List.length_set]; exact p1) a2 a3 a4 (fun i hi => List.getElem?_set_ne (by omega)) (fun i hi => b2 i (by omega)) (fun i hi => b3 i (by omega)) (fun i hi => b4 i (by omega))
  unfold dlc at hq1 hq0
  rw [hdl, if_pos rfl] at hq1 hq0
  simp only [b253_0, b253_1, bn_0 b253_0, bn_1 b253_1, q253_180, q253_181, q253_184, q253_185, q253_186, q253_187, q253_188, q253_189, q253_190, q253_191, mc_o, mg_lines, ma_lines, mb_lines, mn_lines, wx_some, wx_ref, g5, nI_1, show ∀ (x : Int32) (f : List Int32 → mm_H), aS (mB.1) 5 x f = some (f ((mB.1).set 5 x)) from fun x f => aS_n (j := 5) (by omega) (by omega)]
  apply tm_closes hT
  · intro y mT' h1
    rw [if_pos (snB_t.mpr y)] at hq1
    simp only [sl_i, b253_0, b253_1, bn_0 b253_0, bn_1 b253_1, q253_194]
    refine hq1 mT' _ rfl h1 hP ⟨List.getElem?_set_self (by omega), fun i hi => ?_⟩
    by_cases e : i = c
    · subst e
      simp only [if_true]
      exact ⟨e2, e3, e4⟩
    · have hi : i < c + 1 := hi
      obtain ⟨u1, u2, u3⟩ := hL.2 i (show i < c by omega)
      simp only [if_neg e]
      exact ⟨(b2 _ (by omega)).trans u1, fun w => (b3 _ (by omega)).trans (u2 w), fun w => (b4 _ (by omega)).trans (u3 w)⟩
  · intro y mT' h1 h2
    rw [if_neg (fun e => y (snB_t.mp e))] at hq0
    simp only [sl_i, b253_0, b253_1, bn_0 b253_0, bn_1 b253_1, q253_194]
    exact hq0 mT' _ rfl h1 h2 hP
end GZI
