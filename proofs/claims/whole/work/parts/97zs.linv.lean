/-! both in one heap; what holds between two calls of the law -/
theorem pw_xm {z : Nat} {E Y : Nat → mm_C} {lx lm : List mm_C} : px_h z E (pm_f E Y lm) lx = pm_h z (px_f E E lx) Y lm := by
  unfold px_h pm_h
  congr 2
  funext j
  unfold px_f pm_f
  show (if j < 59 then E j else if j < 149 then lx.getD (j - 59) (mm_I 0 []) else if j < 149 then E j else if j < 204 then lm.getD (j - 149) (mm_I 0 []) else Y j) = if j < 149 then (if j < 59 then E j else if j < 149 then lx.getD (j - 59) (mm_I 0 []) else E j) else if j < 204 then lm.getD (j - 149) (mm_I 0 []) else Y j
  by_cases h1 : j < 59
  · rw [if_pos h1, if_pos (show j < 149 by omega), if_pos h1]
  · rw [if_neg h1]
    by_cases h2 : j < 149
    · rw [if_pos h2, if_pos h2, if_neg h1, if_pos h2]
    · rw [if_neg h2, if_neg h2, if_neg h2]
theorem nI_p2 {i : Nat} : nI i + 2 = nI (i + 2) := nI_add i 2
theorem nI_p3 {i : Nat} : nI i + 3 = nI (i + 3) := nI_add i 3
theorem nI_p4 {i : Nat} : nI i + 4 = nI (i + 4) := nI_add i 4
theorem nI_p5 {i : Nat} : nI i + 5 = nI (i + 5) := nI_add i 5
theorem nI_p6 {i : Nat} : nI i + 6 = nI (i + 6) := nI_add i 6
theorem nI_p7 {i : Nat} : nI i + 7 = nI (i + 7) := nI_add i 7
theorem gS {z j : Nat} {E M : Nat → mm_C} {L : List mm_C} {xs : List Int32} (h0 : E 0 = mm_I 9 xs) (hj : j < xs.length) (hl : xs.length ≤ 448) : mm_gI (px_h z E M L) 0 0 9 (nI j) = some (xs.getD j 0) := by
  have hc : (px_h z E M L).2.2 0 = mm_I 9 xs := h0
  have hv : xs[j]? = some (xs.getD j 0) := by rw [List.getD_eq_getElem?_getD, List.getElem?_eq_getElem hj]; rfl
  have ha : mm_gI (px_h z E M L) 0 0 9 (nI j) = aG xs (nI j) := by
    unfold mm_gI aG; rw [hc]; simp only []; rw [if_pos (Or.inr trivial)]
  rw [ha]
  exact aG_n hv (by omega)
theorem gS_n {z : Nat} {E M : Nat → mm_C} {L : List mm_C} {xs : List Int32} (h0 : E 0 = mm_I 9 xs) : mm_gN (px_h z E M L) 0 = some (nI xs.length) := by
  have hc : (px_h z E M L).2.2 0 = mm_I 9 xs := h0
  unfold mm_gN; rw [hc]; rfl
def IX (tp : List Nat) (nm : NMs) (s : SQ) (c : SC) (us : List SC) (b : BK) (mk : Nat → Option (SC × BK)) (T : px_T) (D : px_D) (S S1 : px_S) (K : px_K) (R : px_R) (C : px_C) (W : px_W) (U : px_U) (q q1 : px_q) (B0 B1 B2 B3 : px_K) : Prop := TPx tp T ∧ D.length = 40 ∧ KX nm s q R C ∧ SCx s S c ∧ (S1.2.2).length = 7 ∧ BKx b K ∧ UNx s us U ∧ MKx s mk U B0 B1 B2 B3 ∧ WHl W ∧ QLx q1
def IM (tp : List Nat) (nm : NMs) (s : SQ) (c : SC) (us : List SC) (b : BK) (mk : Nat → Option (SC × BK)) (mT : pm_T) (mQ : pm_Q) (mO : pm_O) (mE : pm_E) (mB : pm_B) (mS : pm_S) (mR : pm_R) (mW : pm_W) : Prop := TPm tp mT ∧ KM nm s mQ ∧ KE mE mR ∧ SCm s mS.1 c ∧ mS.2.2.2.2.2.2.2 = -1 ∧ (∃ op cm, OPm op cm mO) ∧ BLm mB ∧ BKm b mB 0 ∧ UNm s us mS ∧ MKm s mk mS mB ∧ WMl mW ∧ (mS.2.2.1).length = 9 ∧ (mS.2.1).length = 9
def IS (t : Nat) (tp : List Nat) (nm : NMs) (s : SQ) (c : SC) (us : List SC) (b : BK) (mk : Nat → Option (SC × BK)) : Prop := tp_ok tp ∧ nmok nm s ∧ c_ok s c ∧ b_ok s b ∧ (c.1 ≤ t ∧ (∀ x ∈ us, x.1 ≤ t) ∧ ∀ k x y, mk k = some (x, y) → x.1 ≤ t)
theorem hb_up {t : Nat} {c : SC} {us : List SC} {mk : Nat → Option (SC × BK)} (h : c.1 ≤ t ∧ (∀ x ∈ us, x.1 ≤ t) ∧ ∀ k x y, mk k = some (x, y) → x.1 ≤ t) : c.1 ≤ t + 1 ∧ (∀ x ∈ us, x.1 ≤ t + 1) ∧ ∀ k x y, mk k = some (x, y) → x.1 ≤ t + 1 := ⟨by have := h.1; omega, fun x hx => by have := h.2.1 x hx; omega, fun k x y e => by have := h.2.2 k x y e; omega⟩
theorem IS_up {t : Nat} {tp : List Nat} {nm : NMs} {s : SQ} {c : SC} {us : List SC} {b : BK} {mk : Nat → Option (SC × BK)} (h : IS t tp nm s c us b mk) : IS (t + 1) tp nm s c us b mk := ⟨h.1, h.2.1, h.2.2.1, h.2.2.2.1, hb_up h.2.2.2.2⟩
/-- a step that is kept for undo -/
theorem IS_keep {t : Nat} {tp : List Nat} {nm : NMs} {s : SQ} {c c' : SC} {us : List SC} {b : BK} {mk : Nat → Option (SC × BK)} (h : IS t tp nm s c us b mk) (hc : c_ok s c') (h1 : c'.1 ≤ t + 1) : IS (t + 1) tp nm s c' (sp_keep c us) b mk := by
  have hb := hb_up h.2.2.2.2
  refine ⟨h.1, h.2.1, hc, h.2.2.2.1, h1, fun x hx => ?_, hb.2.2⟩
  rcases List.mem_cons.mp (List.mem_of_mem_take hx) with e | e
  · rw [e]; exact hb.1
  · exact hb.2.1 x e
theorem KX_dr {o : PS} {q : px_q} {R : px_R} {C : px_C} (h : DRx o q) (ho : PSok o) (hR : RDl R) (hC : CHl C) : KX o.2.1 o.1 q R C := by
  obtain ⟨m, h1, h2, -, h4⟩ := h.2.2.2
  exact ⟨h.1, ⟨m, h1, h2, h4⟩, ho.1, h.2.1, hR, hC⟩
theorem BKl_x {b : BK} {K : px_K} (h : BKx b K) : BKl K := ⟨h.1.1, h.2.1.1, h.2.2.1⟩
theorem USl_x {s : SQ} {us : List SC} {mk : Nat → Option (SC × BK)} {U : px_U} {B0 B1 B2 B3 : px_K} (h : UNx s us U) (h2 : MKx s mk U B0 B1 B2 B3) : USl U := ⟨h.2.2.1, h2.1, h2.2.1⟩
theorem bk0_ok {s : SQ} : b_ok s bk0 := ⟨⟨by decide, fun i hi => absurd hi (Nat.not_lt_zero _)⟩, ⟨by decide, fun i hi => absurd hi (Nat.not_lt_zero _)⟩, ⟨by decide, fun i hi => absurd hi (Nat.not_lt_zero _)⟩⟩
/-- the marks of a book whose other rows stay -/
theorem MKm_b {s : SQ} {mk : Nat → Option (SC × BK)} {mS : pm_S} {mB mB' : pm_B} (h : MKm s mk mS mB) (h1 : ∀ b r, 1 ≤ r → r < 5 → b_ok s b → BKm b mB r → BKm b mB' r) : MKm s mk mS mB' := by
  refine ⟨h.1, h.2.1, fun k hk => ⟨(h.2.2 k hk).1, fun c b e => ?_⟩⟩
  obtain ⟨u1, u2, u3⟩ := (h.2.2 k hk).2 c b e
  exact ⟨u1, u2, h1 b (1 + k) (by omega) (by omega) u1 u3⟩
theorem tp_ok_nil : tp_ok [] := ⟨by decide, fun i x h => by cases h⟩
/-- what the special call does -/
def fxr : List Value → mm_H → Option (List Value × mm_H) := fun st h => match st with
  | [.ref o, .int d, .int c, .int b, .int a, .ref x] => (match h.2.2 x, h.2.2 o with
    | .inr (.inr (k, _)), .inr (.inl [_]) => if k = 9 then (match sp_rests a b c d with
      | none => some ([.int 1], (h.1, h.2.1 + 6, h.2.2))
      | some v => some ([.int 0], mm_hs h o (.inr (.inl [v.toInt64])))) else none
    | _, _ => none)
  | _ => none
theorem wr_fmul {P : mm_P} {d k pc : Nat} {ls : mm_V} {st st' : List Value} {h h' : mm_H} {Q : Option Value → mm_H → Prop} (hi : P.1 k pc = .fmul) (hf : P.2.2.2.2.2 st h = some (st', h')) (hle : h.1 ≤ h'.1 ∧ h.2.1 ≤ h'.2.1) : ww P d k pc ls st h Q ↔ ww P d k (pc + 3) ls st' h' Q := by
  refine ww_step ?_
  rw [hi]
  show (match P.2.2.2.2.2 st h with
    | some (st', h') => if h.1 ≤ h'.1 ∧ h.2.1 ≤ h'.2.1 then mm_nx (pc + 3) ls st' h' else none
    | none => none) = _
  rw [hf]
  exact if_pos hle
theorem fxr_0 {h : mm_H} {o x : Nat} {a b c d : Int32} {fs : List Value} {u : Int64} (hx : h.2.2 x = mm_O 9 fs) (ho : h.2.2 o = mm_L [u]) (hn : sp_rests a b c d = none) : fxr [.ref o, .int d, .int c, .int b, .int a, .ref x] h = some ([.int 1], (h.1, h.2.1 + 6, h.2.2)) := by
  unfold fxr
  simp only []
  rw [hx, ho]
  simp only [if_true, hn]
theorem fxr_1 {h : mm_H} {o x : Nat} {a b c d v : Int32} {fs : List Value} {u : Int64} (hx : h.2.2 x = mm_O 9 fs) (ho : h.2.2 o = mm_L [u]) (hn : sp_rests a b c d = some v) : fxr [.ref o, .int d, .int c, .int b, .int a, .ref x] h = some ([.int 0], mm_hs h o (.inr (.inl [v.toInt64]))) := by
  unfold fxr
  simp only []
  rw [hx, ho]
  simp only [if_true, hn]
theorem pw_Y {z : Nat} {E Y : Nat → mm_C} {lx lm : List mm_C} {c : mm_C} : mm_hs (px_h z E (pm_f E Y lm) lx) 204 c = px_h z E (pm_f E (fun j => if j = 204 then c else Y j) lm) lx := by
  unfold mm_hs px_h
  congr 2
  funext j
  show (if j = 204 then c else px_f E (pm_f E Y lm) lx j) = px_f E (pm_f E (fun j => if j = 204 then c else Y j) lm) lx j
  unfold px_f pm_f
  by_cases h1 : j < 59
  · rw [if_pos h1, if_pos h1, if_neg (by omega)]
  · rw [if_neg h1, if_neg h1]
    by_cases h2 : j < 149
    · rw [if_pos h2, if_pos h2, if_neg (by omega)]
    · rw [if_neg h2, if_neg h2, if_neg h2, if_neg h2]
      by_cases h3 : j < 204
      · rw [if_pos h3, if_pos h3, if_neg (by omega)]
      · rw [if_neg h3, if_neg h3]
theorem pw_204 {z : Nat} {E Y : Nat → mm_C} {lx lm : List mm_C} : (px_h z E (pm_f E Y lm) lx).2.2 204 = Y 204 := by
  show px_f E (pm_f E Y lm) lx 204 = Y 204
  unfold px_f pm_f
  rw [if_neg (by omega), if_neg (by omega), if_neg (by omega), if_neg (by omega)]
theorem lg_self (x : Int64) : lg_cmp x x = 0 := by
  unfold lg_cmp
  simp
theorem if_t {C A B : Prop} [Decidable C] (h : C) (a : A) : if C then A else B := by rw [if_pos h]; exact a
