/-! tokens, of the class -/
theorem lN_s40 {a : Nat} (h : a < 2 ^ 63) : lN a >>> ((40 : Int32).toInt64 &&& 63) = lN (a / 2 ^ 40) := by
  have e : ((40 : Int32).toInt64 &&& 63) = lN 40 := by decide
  rw [e]
  apply Int64.toInt_inj.mp
  rw [lN_t (Nat.lt_of_le_of_lt (Nat.div_le_self _ _) h)]
  have e2 : (lN 40).toBitVec.smod 64 = 40#64 := by decide
  have hx : (BitVec.ofNat 64 a).toInt = (a : Int) := lN_t h
  show (BitVec.sshiftRight (BitVec.ofNat 64 a) ((lN 40).toBitVec.smod 64).toNat).toInt = _
  rw [e2, BitVec.toInt_sshiftRight, hx]
  show ((a : Int) >>> 40) = _
  rw [Int.shiftRight_eq_div_pow]; rfl
theorem lN_l5 (a : Nat) : lN a <<< ((5 : Int32).toInt64 &&& 63) = lN (a * 32) := by
  have e : (((5 : Int32).toInt64 &&& 63).toBitVec.smod 64).toNat = 5 := by decide
  apply Int64.toBitVec_inj.mp
  show BitVec.ofNat 64 a <<< (((5 : Int32).toInt64 &&& 63).toBitVec.smod 64) = BitVec.ofNat 64 (a * 32)
  apply BitVec.eq_of_toNat_eq
  rw [BitVec.shiftLeft_eq', BitVec.toNat_shiftLeft, e, BitVec.toNat_ofNat, BitVec.toNat_ofNat, Nat.shiftLeft_eq, Nat.mod_mul_mod]
theorem lN_l40 (a : Nat) : lN a <<< ((40 : Int32).toInt64 &&& 63) = lN (a * 2 ^ 40) := by
  have e : (((40 : Int32).toInt64 &&& 63).toBitVec.smod 64).toNat = 40 := by decide
  apply Int64.toBitVec_inj.mp
  show BitVec.ofNat 64 a <<< (((40 : Int32).toInt64 &&& 63).toBitVec.smod 64) = BitVec.ofNat 64 (a * 2 ^ 40)
  apply BitVec.eq_of_toNat_eq
  rw [BitVec.shiftLeft_eq', BitVec.toNat_shiftLeft, e, BitVec.toNat_ofNat, BitVec.toNat_ofNat, Nat.shiftLeft_eq, Nat.mod_mul_mod]
theorem ltI : ∀ x, x < 123 → 97 ≤ x → (nI x - 97 + 1).toInt64 = lN (x - 96) := by decide
theorem ho_at {xs : List Int32} {tp : List Nat} {j : Nat} (h : ho_ xs tp) (hj : j < tp.length) : aG xs (nI j) = some (nI (tp.getD j 0)) := aG_n (h.2 j _ (getD_get hj)) (by rw [h.1]; omega)
theorem tp_lt {tp : List Nat} (h : tp_ok tp) (j : Nat) : tp.getD j 0 < 127 := by
  rcases Nat.lt_or_ge j tp.length with e | e
  · have := h.2 j _ (getD_get e); omega
  · rw [getD_ge e]; omega
def tyx (tp : List Nat) (i : Nat) : Nat := if TY tp i = 0 then 0 else if TY tp i = 1 then (if kept (LT tp i) = true then 2 else 3) else if TY tp i = 2 then 4 else if TY tp i = 3 then 5 else 1
def ELt (E : Nat → mm_C) : Prop := ∀ i, 1 ≤ i → i < 59 → E i = mm_x0 [] mp_byt i
section XL
variable {fx : List Value → mm_H → Option (List Value × mm_H)} {z : Nat} {E M : Nat → mm_C} {sw c2 w2 : Bool} {T : px_T} {D : px_D} {S : px_S} {S1 : px_S} {K : px_K} {R : px_R} {C : px_C} {W : px_W} {U : px_U} {q : px_q} {q1 : px_q} {B0 : px_K} {B1 : px_K} {B2 : px_K} {B3 : px_K} {T_signs : List Int32} {T_length : Int32} {T_fault : Int32} {T_types : List Int32} {T_starts : List Int32} {T_values : List Int64} {T_tokens : Int32} {T_at : Int32} {T_behind : Int32} {S_hour : Int32} {S_open : Int32} {S_places : List Int32} {S1_hour : Int32} {S1_open : Int32} {S1_places : List Int32} {K_lines : List Int32} {K_lineCount : Int32} {K_wishes : List Int32} {K_wishCount : Int32} {K_sights : List Int32} {K_sightCount : Int32} {R_shown : List Int32} {R_length : Int32} {R_readers : Int32} {R_begins : List Int32} {R_lengths : List Int32} {R_sentences : Int32} {R_order : List Int32} {R_able : Int32} {R_standing : List Int32} {R_lovers : List Int32} {R_lowest : List Int32} {C_ways : List Int32} {C_rows : List Int32} {C_shallower : List Int32} {C_length : Int32} {C_goal : Int32} {W_row : List Int32} {W_walkers : Int32} {W_names : Int32} {W_wanted : List Int32} {W_shown : List Int32} {W_places : List Int32} {W_rest : List Int32} {W_spent : List Int32} {W_tried : List Int32} {U_undoRows : List Int64} {U_markScenes : List Int64} {U_marksLaid : List Int32} {U_undoCount : Int32} {U_undoEnd : Int32} {q_sortNames : List Int64} {q_sortCount : Int32} {q_colourNames : List Int64} {q_colourSorts : List Int32} {q_colourCount : Int32} {q_ruleMakes : List Int32} {q_ruleFirsts : List Int32} {q_ruleSeconds : List Int32} {q_ruleCount : Int32} {q_saysSort : Int32} {q_walkerNames : List Int64} {q_kinds : List Int32} {q_walkerColours : List Int32} {q_starts : List Int32} {q_stepRows : List Int32} {q_stepCounts : List Int32} {q_walkerCount : Int32} {q_gusts : List Int32} {q_gustCount : Int32} {q_parts : List Int32} {q_count : Int32} {q_stack : List Int32} {q_height : Int32} {q1_sortNames : List Int64} {q1_sortCount : Int32} {q1_colourNames : List Int64} {q1_colourSorts : List Int32} {q1_colourCount : Int32} {q1_ruleMakes : List Int32} {q1_ruleFirsts : List Int32} {q1_ruleSeconds : List Int32} {q1_ruleCount : Int32} {q1_saysSort : Int32} {q1_walkerNames : List Int64} {q1_kinds : List Int32} {q1_walkerColours : List Int32} {q1_starts : List Int32} {q1_stepRows : List Int32} {q1_stepCounts : List Int32} {q1_walkerCount : Int32} {q1_gusts : List Int32} {q1_gustCount : Int32} {q1_parts : List Int32} {q1_count : Int32} {q1_stack : List Int32} {q1_height : Int32} {B0_lines : List Int32} {B0_lineCount : Int32} {B0_wishes : List Int32} {B0_wishCount : Int32} {B0_sights : List Int32} {B0_sightCount : Int32} {B1_lines : List Int32} {B1_lineCount : Int32} {B1_wishes : List Int32} {B1_wishCount : Int32} {B1_sights : List Int32} {B1_sightCount : Int32} {B2_lines : List Int32} {B2_lineCount : Int32} {B2_wishes : List Int32} {B2_wishCount : Int32} {B2_sights : List Int32} {B2_sightCount : Int32} {B3_lines : List Int32} {B3_lineCount : Int32} {B3_wishes : List Int32} {B3_wishCount : Int32} {B3_sights : List Int32} {B3_sightCount : Int32}
variable {d : Nat} {Q : Option Value → mm_H → Prop} {tp : List Nat}
def TKc (tp : List Nat) (n : Nat) (T : px_T) : Prop := ∀ (i : Nat), i < n → (T.2.2.2.1)[i]? = some (nI (tyx tp i)) ∧ (T.2.2.2.2.1)[i]? = some (nI (tk tp i)) ∧ (TY tp i = 1 → (T.2.2.2.2.2.1)[i]? = some (w_x (LT tp i))) ∧ (TY tp i = 2 → (T.2.2.2.2.2.1)[i]? = some (lN (VL tp i))) ∧ (TY tp i = 3 → (T.2.2.2.2.2.1)[i]? = some (lN (SG tp i)))
def TB (tp : List Nat) (i n p : Nat) (T : px_T) : Prop := TPl T ∧ ho_ T.1 tp ∧ T.2.1 = nI tp.length ∧ T.2.2.2.2.2.2.1 = nI i ∧ T.2.2.2.2.2.2.2.2 = nI p ∧ TKc tp n T ∧ T.2.2.1 = 0
/-- literals -/
theorem lit_o {n : Nat} (hE : ELt E) (hn : n < 29) : ((px_h z E M (px_l sw c2 w2 T D S S1 K R C W U q q1 B0 B1 B2 B3))).2.2 (2 * n + 1) = mm_O 900 [.ref (2 * n + 2), .int 0] := by
  show px_f E M _ (2 * n + 1) = _
  unfold px_f
  rw [if_pos (by omega), hE _ (by omega) (by omega)]
  unfold mm_x0
  rw [if_neg (by omega), if_pos (by omega)]
theorem lit_b {n : Nat} (hE : ELt E) (hn : n < 29) : ((px_h z E M (px_l sw c2 w2 T D S S1 K R C W U q q1 B0 B1 B2 B3))).2.2 (2 * n + 2) = mm_I 8 (mp_byt.getD n []) := by
  show px_f E M _ (2 * n + 2) = _
  unfold px_f
  by_cases e : 2 * n + 2 < 59
  · rw [if_pos e, hE _ (by omega) e]
    unfold mm_x0
    rw [if_neg (by omega), if_neg (by omega), show (2 * n + 2) / 2 - 1 = n by omega]
  · omega
theorem lit_8 {h : mm_H} {a : Nat} {i : Int32} {xs : List Int32} (hc : h.2.2 a = mm_I 8 xs) : mm_gI h a 2 8 i = aG xs i := by
  unfold mm_gI aG; rw [hc]; simp only []; rw [if_pos (Or.inr trivial)]
theorem kw_b : ∀ n, n < 27 → ¬ n = 22 → mp_byt.getD n [] = (kw n).map (fun x => nI (x + 96)) := by decide
theorem kw_ok : ∀ n, n < 27 → (kw n).length ≤ 8 ∧ ∀ x ∈ kw n, 1 ≤ x ∧ x ≤ 26 := by decide
theorem t_slen {n : Nat} (hE : ELt E) (hn : n < 29) (hq : Q (some (.int (nI (mp_byt.getD n []).length))) (px_h z E M (px_l sw c2 w2 T D S S1 K R C W U q q1 B0 B1 B2 B3))) : wm (mp_P fx) (d + 1) 23 [.ref (2 * n + 1)] (px_h z E M (px_l sw c2 w2 T D S S1 K R C W U q q1 B0 B1 B2 B3)) Q := by
  have h1 := aF_g (i := 0) (lit_o (z := z) (M := M) (sw := sw) (c2 := c2) (w2 := w2) (T := T) (D := D) (S := S) (S1 := S1) (K := K) (R := R) (C := C) (W := W) (U := U) (q := q) (q1 := q1) (B0 := B0) (B1 := B1) (B2 := B2) (B3 := B3) hE hn) (by decide) rfl
  have h2 := aF_g (i := 1) (lit_o (z := z) (M := M) (sw := sw) (c2 := c2) (w2 := w2) (T := T) (D := D) (S := S) (S1 := S1) (K := K) (R := R) (C := C) (W := W) (U := U) (q := q) (q1 := q1) (B0 := B0) (B1 := B1) (B2 := B2) (B3 := B3) hE hn) (by decide) rfl
  have h3 := aN_I (lit_b (z := z) (M := M) (sw := sw) (c2 := c2) (w2 := w2) (T := T) (D := D) (S := S) (S1 := S1) (K := K) (R := R) (C := C) (W := W) (U := U) (q := q) (q1 := q1) (B0 := B0) (B1 := B1) (B2 := B2) (B3 := B3) hE hn)
  have h4 := aF_c (lit_o (z := z) (M := M) (sw := sw) (c2 := c2) (w2 := w2) (T := T) (D := D) (S := S) (S1 := S1) (K := K) (R := R) (C := C) (W := W) (U := U) (q := q) (q1 := q1) (B0 := B0) (B1 := B1) (B2 := B2) (B3 := B3) hE hn)
  have hz : ∀ x : Int32, x >>> ((0 : Int32) &&& 31) = x := fun x => by
    rw [show ((0 : Int32) &&& 31) = 0 from by decide]
    exact Int32.shiftRight_zero
  have r24 : mm_ret (mp_sig 24).2.2.2 (.int 0) = true := by decide
  simp only [e23, q23_0, q23_1, q23_4, q23_5, q23_6, q23_9, q23_10, e24, q24_0, q24_3, q24_6, q24_7, q24_10, q24_13, q24_14, h1, h2, h3, h4, wx_some, wx_ref, sl_i, hz, r24]
  rw [if_neg (by decide)]
  exact hq
theorem t_scharAt {n j : Nat} (hE : ELt E) (hn : n < 27) (h22 : ¬ n = 22) (hj : j < (kw n).length) (hq : Q (some (.int (nI ((kw n).getD j 0 + 96)))) (px_h z E M (px_l sw c2 w2 T D S S1 K R C W U q q1 B0 B1 B2 B3))) : wm (mp_P fx) (d + 1) 25 [.ref (2 * n + 1), .int (nI j)] (px_h z E M (px_l sw c2 w2 T D S S1 K R C W U q q1 B0 B1 B2 B3)) Q := by
  have h1 := aF_g (i := 0) (lit_o (z := z) (M := M) (sw := sw) (c2 := c2) (w2 := w2) (T := T) (D := D) (S := S) (S1 := S1) (K := K) (R := R) (C := C) (W := W) (U := U) (q := q) (q1 := q1) (B0 := B0) (B1 := B1) (B2 := B2) (B3 := B3) hE (show n < 29 by omega)) (by decide) rfl
  have h2 := aF_g (i := 1) (lit_o (z := z) (M := M) (sw := sw) (c2 := c2) (w2 := w2) (T := T) (D := D) (S := S) (S1 := S1) (K := K) (R := R) (C := C) (W := W) (U := U) (q := q) (q1 := q1) (B0 := B0) (B1 := B1) (B2 := B2) (B3 := B3) hE (show n < 29 by omega)) (by decide) rfl
  have hb := lit_b (z := z) (M := M) (sw := sw) (c2 := c2) (w2 := w2) (T := T) (D := D) (S := S) (S1 := S1) (K := K) (R := R) (C := C) (W := W) (U := U) (q := q) (q1 := q1) (B0 := B0) (B1 := B1) (B2 := B2) (B3 := B3) hE (show n < 29 by omega)
  rw [kw_b n hn h22] at hb
  have h3 := aN_I hb
  have h4 := aF_c (lit_o (z := z) (M := M) (sw := sw) (c2 := c2) (w2 := w2) (T := T) (D := D) (S := S) (S1 := S1) (K := K) (R := R) (C := C) (W := W) (U := U) (q := q) (q1 := q1) (B0 := B0) (B1 := B1) (B2 := B2) (B3 := B3) hE (show n < 29 by omega))
  have h5 := fun i => lit_8 (i := i) hb
  obtain ⟨k1, k2⟩ := kw_ok n hn
  have hl : ((kw n).map (fun x => nI (x + 96))).length = (kw n).length := List.length_map _
  have hg : ((kw n).map (fun x => nI (x + 96)))[j]? = some (nI ((kw n).getD j 0 + 96)) := by
    rw [List.getElem?_map, List.getD, List.getElem?_eq_getElem hj]; rfl
  have hx26 : (kw n).getD j 0 ≤ 26 := by
    rw [List.getD, List.getElem?_eq_getElem hj]
    exact (k2 _ (List.getElem_mem hj)).2
  have hch : ∀ x, x ≤ 26 → ((nI (x + 96) &&& 255).toUInt32 % 65536).toInt32 = nI (x + 96) := by decide
  have hch2 : ∀ x, x ≤ 26 → vp_nar .char (nI (x + 96)) = nI (x + 96) := by decide
  have r27 : ∀ x, x ≤ 26 → mm_ret (mp_sig 27).2.2.2 (.int (nI (x + 96))) = true := by decide
  have r25 : ∀ x, x ≤ 26 → mm_ret (mp_sig 25).2.2.2 (.int (nI (x + 96))) = true := by decide
  have hc1 : ¬ nI j < 0 ∧ nI j < nI (kw n).length := ⟨by rw [nl_0, nI_ltI (by omega) (by omega)]; omega, by rw [nI_ltI (by omega) (by omega)]; exact hj⟩
  simp only [q25_0, q25_1, e26, b26_0, b26_1, bn_0 b26_0, bn_1 b26_1, q26_0, q26_3, q26_6, q26_7, q26_10, q26_13, q26_14, q26_17, q26_18, e25, h1, h2, h4, wx_some, wx_ref, sl_i]
  rw [if_neg (by decide), if_neg (by decide)]
  simp only [q25_4, q25_7, q25_8, q25_11, q25_12, q25_15, e27, q27_0, q27_1, q27_2, q27_3, q27_6, q27_7, q27_8, q27_9, q27_12, q27_13, q27_14, h1, h3, h5, hl, wx_some, wx_ref, sl_i, aG_n hg (show ((kw n).map (fun x => nI (x + 96))).length < 2 ^ 31 by omega), hch _ hx26, r27 _ hx26, r25 _ hx26]
  rw [if_neg (by decide)]
  exact ⟨hc1, hq⟩
/-- the letters of a token -/
theorem LT_at {i j : Nat} (h : TY tp i = 1) (hj : j < (LT tp i).length) : tp.getD (tk tp i + j) 0 = (LT tp i).getD j 0 + 96 ∧ tk tp i + j < tp.length := by
  obtain ⟨h1, h2, h3, h4⟩ := TY_1 h
  have hl : (LT tp i).length = lx_e tp (tk tp i) - tk tp i := by unfold LT lx_w; rw [List.length_map, List.length_range]
  have hb := (run_p (P := lx_lt tp) 1001 (tk tp i)).2 (tk tp i + j) (by omega) (by rw [← h3]; omega)
  have hlt : tk tp i + j < tp.length := by
    rcases Nat.lt_or_ge (tk tp i + j) tp.length with e | e
    · exact e
    · rw [lx_lt_ge _ e] at hb; cases hb
  refine ⟨?_, hlt⟩
  unfold lx_lt at hb
  rw [Bool.and_eq_true, decide_eq_true_eq, decide_eq_true_eq] at hb
  have : (LT tp i).getD j 0 = tp.getD (tk tp i + j) 0 - 96 := by
    unfold LT lx_w
    rw [List.getD, List.getElem?_map, List.getElem?_range (by omega)]; rfl
  omega
theorem t_spells {n i : Nat} (hE : ELt E) (ht : tp_ok tp) (hn : n < 27) (h22 : ¬ n = 22) (hT : TPl T) (hs : ho_ T.1 tp) (hi : i < 1001) (h1 : TY tp i = 1) (hv : (T.2.2.2.2.2.1)[i]? = some (w_x (LT tp i))) (hst : (T.2.2.2.2.1)[i]? = some (nI (tk tp i))) (hq1 : LT tp i = kw n → Q (some (.int 1)) (px_h z E M (px_l sw c2 w2 T D S S1 K R C W U q q1 B0 B1 B2 B3))) (hq0 : ¬ LT tp i = kw n → Q (some (.int 0)) (px_h z E M (px_l sw c2 w2 T D S S1 K R C W U q q1 B0 B1 B2 B3))) : wm (mp_P fx) (d + 2) 22 [.ref 60, .int (nI i), .ref (2 * n + 1)] (px_h z E M (px_l sw c2 w2 T D S S1 K R C W U q q1 B0 B1 B2 B3)) Q := by
  obtain ⟨l1, l2⟩ := LT_ok h1
  obtain ⟨k1, k2⟩ := kw_ok n hn
  obtain ⟨t1, t2, t3, t4⟩ := hT
  have hlen : (mp_byt.getD n []).length = (kw n).length := by rw [kw_b n hn h22, List.length_map]
  have hw : w_x (LT tp i) >>> ((40 : Int32).toInt64 &&& 63) = lN (LT tp i).length := by
    have b1 := w_32_lt (LT tp i) (fun x hx => (l2 x hx).2)
    have c1 : 32 ^ (LT tp i).length ≤ 32 ^ 8 := Nat.pow_le_pow_right (by omega) l1
    have c3 : (32 : Nat) ^ 8 = 2 ^ 40 := by decide
    show lN _ >>> _ = _
    rw [lN_s40 (by omega)]; congr 1; omega
  have h4 := aF_c (lit_o (z := z) (M := M) (sw := sw) (c2 := c2) (w2 := w2) (T := T) (D := D) (S := S) (S1 := S1) (K := K) (R := R) (C := C) (W := W) (U := U) (q := q) (q1 := q1) (B0 := B0) (B1 := B1) (B2 := B2) (B3 := B3) hE (show n < 29 by omega))
  have key : (LT tp i).length = (kw n).length → ∀ (m j : Nat), j + m = (kw n).length → (∀ j', j' < j → (LT tp i).getD j' 0 = (kw n).getD j' 0) → ww (mp_P fx) (d + 2) 22 22 [some (.ref 60), some (.int (nI i)), some (.ref (2 * n + 1)), some (.int (nI j))] [] (px_h z E M (px_l sw c2 w2 T D S S1 K R C W U q q1 B0 B1 B2 B3)) Q := by
    intro hll m
    induction m with
    | zero =>
      intro j hj hS
      rw [q22_22]
      simp only [b22_0, b22_1, bn_0 b22_0, bn_1 b22_1, q22_23, q22_24, h4]
      apply t_slen hE (by omega)
      simp only [sl_i, b22_0, b22_1, bn_0 b22_0, bn_1 b22_1, q22_27, b22_0, b22_1, bn_0 b22_0, bn_1 b22_1, q22_59, q22_60, hlen]
      rw [if_pos (by rw [nI_leI (by omega) (by omega)]; omega)]
      refine hq1 (List.ext_getElem hll (fun j' a1 a2 => ?_))
      have := hS j' (by omega)
      rw [List.getD, List.getD, List.getElem?_eq_getElem a1, List.getElem?_eq_getElem a2] at this
      exact this
    | succ m ih =>
      intro j hj hS
      obtain ⟨g1, g2⟩ := LT_at h1 (show j < (LT tp i).length by omega)
      have g3 : (LT tp i).getD j 0 ≤ 26 := by
        rw [List.getD, List.getElem?_eq_getElem (show j < (LT tp i).length by omega)]
        exact (l2 _ (List.getElem_mem _)).2
      have g4 : (kw n).getD j 0 ≤ 26 := by
        rw [List.getD, List.getElem?_eq_getElem (show j < (kw n).length by omega)]
        exact (k2 _ (List.getElem_mem _)).2
      have g5 := ho_at hs g2
      rw [g1] at g5
      rw [q22_22]
      simp only [b22_0, b22_1, bn_0 b22_0, bn_1 b22_1, q22_23, q22_24, h4]
      apply t_slen hE (by omega)
      simp only [sl_i, b22_0, b22_1, bn_0 b22_0, bn_1 b22_1, q22_27, q22_30, q22_31, q22_34, q22_35, q22_38, q22_39, q22_40, q22_41, q22_42, q22_43, q22_44, xc_T, xg_T_0, xg_T_1, xs_T_1, xg_T_2, xs_T_2, xg_T_3, xg_T_4, xg_T_5, xg_T_6, xs_T_6, xg_T_7, xs_T_7, xg_T_8, xs_T_8, xa_T_signs, xb_T_signs, xn_T_signs, xa_T_types, xb_T_types, xn_T_types, xa_T_starts, xb_T_starts, xn_T_starts, xa_T_values, xb_T_values, xn_T_values, wx_some, wx_ref, hlen, aG_n hst (show (T.2.2.2.2.1).length < 2 ^ 31 by omega), nI_add, g5]
      rw [if_neg (by rw [nI_leI (by omega) (by omega)]; omega)]
      simp only [b22_0, b22_1, bn_0 b22_0, bn_1 b22_1, q22_45, h4]
      apply t_scharAt hE hn h22 (by omega)
      simp only [sl_i, b22_0, b22_1, bn_0 b22_0, bn_1 b22_1, q22_48, q22_51, q22_52, q22_53r, q22_56, isl_i, isl_r, isl_n, nI_1]
      by_cases e : (LT tp i).getD j 0 = (kw n).getD j 0
      · rw [if_pos (by rw [e])]
        refine ih (j + 1) (by omega) (fun j' hj' => ?_)
        by_cases ej : j' = j
        · subst ej; exact e
        · exact hS j' (by omega)
      · rw [if_neg (by rw [nI_eq (by omega) (by omega)]; omega)]
        exact hq0 (fun z => e (by rw [z]))
  simp only [b22_0, b22_1, bn_0 b22_0, bn_1 b22_1, q22_0, q22_1, q22_4, q22_5, q22_6, q22_8, q22_9, e22, xc_T, xg_T_0, xg_T_1, xs_T_1, xg_T_2, xs_T_2, xg_T_3, xg_T_4, xg_T_5, xg_T_6, xs_T_6, xg_T_7, xs_T_7, xg_T_8, xs_T_8, xa_T_signs, xb_T_signs, xn_T_signs, xa_T_types, xb_T_types, xn_T_types, xa_T_starts, xb_T_starts, xn_T_starts, xa_T_values, xb_T_values, xn_T_values, wx_some, wx_ref, isl_i, isl_r, isl_n, aG_n hv (show (T.2.2.2.2.2.1).length < 2 ^ 31 by omega), hw]
  simp only [b22_0, b22_1, bn_0 b22_0, bn_1 b22_1, q22_10, h4]
  apply t_slen hE (by omega)
  simp only [sl_i, b22_0, b22_1, bn_0 b22_0, bn_1 b22_1, q22_13, q22_14, q22_15, q22_18, q22_19, q22_20, q22_21r, isl_i, isl_r, isl_n, hlen, nI_l (show (kw n).length < 2 ^ 31 by omega)]
  by_cases e : (LT tp i).length = (kw n).length
  · rw [if_pos (by rw [e, lg_cmp_eq])]
    exact key e (kw n).length 0 (by omega) (fun j' h => by omega)
  · rw [if_neg (by
      rw [lg_cmp_eq]
      intro z
      have := congrArg Int64.toInt z
      rw [lN_t (by omega), lN_t (by omega)] at this
      omega)]
    exact hq0 (fun z => e (by rw [z]))
end XL
