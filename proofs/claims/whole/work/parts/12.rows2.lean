/-! MINI 12: more rows; reading cells behind writes -/
section MW2
variable {P : mm_P} {d k pc : Nat} {ls ls' : mm_V} {st : List Value} {h : mm_H} {Q Q' : Option Value → mm_H → Prop}
theorem mm_s1_ok {ls : mm_V} {i : Nat} {v : Value} (h1 : i < ls.length) (h2 : mm_free ls i = true) : mm_s1 ls i v = some (ls.set i (some v)) := if_pos (by rw [h2, decide_eq_true h1]; rfl)
theorem mm_s2_ok {ls : mm_V} {i : Nat} {v : Value} (h1 : i + 1 < ls.length) (h2 : mm_free ls i = true) : mm_s2 ls i v = some ((ls.set i (some v)).set (i + 1) none) := if_pos (by rw [h2, decide_eq_true h1]; rfl)
theorem wr_istore_n {n : Fin 4} {x : Int32} (hi : P.1 k pc = .istore_n n) (hs : mm_s1 ls n (.int x) = some ls') : ww P d k pc ls (.int x :: st) h Q ↔ ww P d k (pc + 1) ls' st h Q := ww_step (by rw [hi]; show mm_k0 (mm_s1 ls n (.int x)) _ = _; rw [hs]; rfl)
theorem wr_istore {n : Nat} {x : Int32} (hi : P.1 k pc = .istore n) (hs : mm_s1 ls n (.int x) = some ls') : ww P d k pc ls (.int x :: st) h Q ↔ ww P d k (pc + 2) ls' st h Q := ww_step (by rw [hi]; show mm_k0 (mm_s1 ls n (.int x)) _ = _; rw [hs]; rfl)
theorem wr_astore_n {n : Fin 4} {x : Nat} (hi : P.1 k pc = .astore_n n) (hs : mm_s1 ls n (.ref x) = some ls') : ww P d k pc ls (.ref x :: st) h Q ↔ ww P d k (pc + 1) ls' st h Q := ww_step (by rw [hi]; show mm_k0 (mm_s1 ls n (.ref x)) _ = _; rw [hs]; rfl)
theorem wr_astore {n : Nat} {x : Nat} (hi : P.1 k pc = .astore n) (hs : mm_s1 ls n (.ref x) = some ls') : ww P d k pc ls (.ref x :: st) h Q ↔ ww P d k (pc + 2) ls' st h Q := ww_step (by rw [hi]; show mm_k0 (mm_s1 ls n (.ref x)) _ = _; rw [hs]; rfl)
theorem wr_lstore_n {n : Fin 4} {x : Int64} (hi : P.1 k pc = .lstore_n n) (hs : mm_s2 ls n (.long x) = some ls') : ww P d k pc ls (.long x :: st) h Q ↔ ww P d k (pc + 1) ls' st h Q := ww_step (by rw [hi]; show mm_k0 (mm_s2 ls n (.long x)) _ = _; rw [hs]; rfl)
theorem wr_lstore {n : Nat} {x : Int64} (hi : P.1 k pc = .lstore n) (hs : mm_s2 ls n (.long x) = some ls') : ww P d k pc ls (.long x :: st) h Q ↔ ww P d k (pc + 2) ls' st h Q := ww_step (by rw [hi]; show mm_k0 (mm_s2 ls n (.long x)) _ = _; rw [hs]; rfl)
theorem wr_iinc {n : Nat} {i : Int} {x : Int32} (hi : P.1 k pc = .iinc n i) (hl : mm_lk ls n = some (.int x)) (hs : mm_s1 ls n (.int (x + Int32.ofInt i)) = some ls') : ww P d k pc ls st h Q ↔ ww P d k (pc + 3) ls' st h Q := ww_step (by rw [hi]; show mm_k3 (mm_lk ls n) _ = _; rw [hl]; show mm_k0 (mm_s1 ls n _) _ = _; rw [hs]; rfl)
theorem wr_i2b {x : Int32} (hi : P.1 k pc = .i2b) : ww P d k pc ls (.int x :: st) h Q ↔ ww P d k (pc + 1) ls (.int x.toInt8.toInt32 :: st) h Q := ww_step (by rw [hi]; rfl)
theorem wr_chk {x y : Int32} (hi : P.1 k pc = .d2f) (hw : mm_words st ≤ 8) : ww P d k pc ls (.int y :: .int x :: st) h Q ↔ ((¬ x < 0 ∧ x < y) ∧ ww P d k (pc + 3) ls st h Q) := by
  by_cases hc : ¬ x < 0 ∧ x < y
  · rw [ww_step (pc' := pc + 3) (ls' := ls) (st' := st) (h' := h) (by rw [hi]; exact if_pos ⟨hc.1, hc.2, hw⟩)]
    exact ⟨fun q => ⟨hc, q⟩, fun q => q.2⟩
  · constructor
    · intro q; exact ((ww_no (by rw [hi]; exact if_neg (fun z => hc ⟨z.1, z.2.1⟩))).mp q).elim
    · intro q; exact absurd q.1 hc
/-- the class of a cell -/
def mm_cls (h : mm_H) (b : Nat) : Nat := match h.2.2 b with
  | .inr (.inr (c, _)) => c
  | _ => 9999
theorem mm_recv_ok {k' b n rc : Nat} (hn : (P.2.1 k').1 - 1 = n ∧ (P.2.1 k').2.2.1 = rc) (hb : st[n]? = some (.ref b)) (hc : mm_cls h b = rc) (hr : rc ≠ 9999) : mm_recv P h k' st = true := by
  unfold mm_recv
  rw [hn.1, hb]
  unfold mm_cls at hc
  simp only []
  split at hc
  · rename_i c fs hcell
    rw [hcell]
    exact decide_eq_true (hc.trans hn.2.symm)
  · exact absurd hc.symm hr
/-- reading behind a write -/
theorem mm_hs_at {i j : Nat} {c : mm_C} : (mm_hs h i c).2.2 j = if j = i then c else h.2.2 j := rfl
theorem mm_hs_eq {i : Nat} {c : mm_C} : (mm_hs h i c).2.2 i = c := if_pos rfl
theorem mm_hs_ne {i j : Nat} {c : mm_C} (hij : j ≠ i) : (mm_hs h i c).2.2 j = h.2.2 j := if_neg hij
theorem mm_hs_1 {i : Nat} {c : mm_C} : (mm_hs h i c).1 = h.1 := rfl
theorem mm_hs_2 {i : Nat} {c : mm_C} : (mm_hs h i c).2.1 = h.2.1 := rfl
theorem mm_hs_hs {i : Nat} {c c' : mm_C} : mm_hs (mm_hs h i c) i c' = mm_hs h i c' := by
  unfold mm_hs
  congr 2
  funext j
  show (if j = i then c' else (if j = i then c else h.2.2 j)) = _
  split <;> rfl
theorem mm_hs_id {i : Nat} {c : mm_C} (hc : h.2.2 i = c) : mm_hs h i c = h := by
  unfold mm_hs
  have : (fun j => if j = i then c else h.2.2 j) = h.2.2 := by
    funext j
    split
    · rename_i e; rw [e, hc]
    · rfl
  rw [this]
theorem mm_hs_comm {i j : Nat} {c c' : mm_C} (hij : i ≠ j) : mm_hs (mm_hs h i c) j c' = mm_hs (mm_hs h j c') i c := by
  unfold mm_hs
  congr 2
  funext a
  show (if a = j then c' else (if a = i then c else h.2.2 a)) = (if a = i then c else (if a = j then c' else h.2.2 a))
  by_cases h1 : a = j
  · rw [if_pos h1, if_neg (by omega), if_pos h1]
  · rw [if_neg h1]
    by_cases h2 : a = i
    · rw [if_pos h2, if_pos h2]
    · rw [if_neg h2, if_neg h2, if_neg h1]
/-- fields, rows -/
theorem mm_gF_at {a c i : Nat} {fs : List Value} (hc : h.2.2 a = .inr (.inr (c, fs))) (h9 : c < 1000) : mm_gF h a c i = fs[i]? := by
  unfold mm_gF
  rw [hc]
  exact if_pos ⟨rfl, h9⟩
theorem mm_gI_at {a t t' j : Nat} {xs : List Int32} (hc : h.2.2 a = .inl (t, xs)) (hj : j < xs.length) (hl : xs.length < 2 ^ 31) : mm_gI h a t t' (nI j) = some (xs[j]) := by
  unfold mm_gI
  rw [hc]
  simp only []
  rw [if_pos (Or.inl trivial), if_neg (nI_in hj hl), nI_clamp (by omega), List.getElem?_eq_getElem hj]
theorem mm_gI_at' {a t t' j : Nat} {xs : List Int32} (hc : h.2.2 a = .inl (t', xs)) (hj : j < xs.length) (hl : xs.length < 2 ^ 31) : mm_gI h a t t' (nI j) = some (xs[j]) := by
  unfold mm_gI
  rw [hc]
  simp only []
  rw [if_pos (Or.inr trivial), if_neg (nI_in hj hl), nI_clamp (by omega), List.getElem?_eq_getElem hj]
theorem mm_gL_at {a j : Nat} {xs : List Int64} (hc : h.2.2 a = .inr (.inl xs)) (hj : j < xs.length) (hl : xs.length < 2 ^ 31) : mm_gL h a (nI j) = some (xs[j]) := by
  unfold mm_gL
  rw [hc]
  simp only []
  rw [if_neg (nI_in hj hl), nI_clamp (by omega), List.getElem?_eq_getElem hj]
theorem mm_sI_at {a t j : Nat} {x : Int32} {xs : List Int32} (hc : h.2.2 a = .inl (t, xs)) (hj : j < xs.length) (hl : xs.length < 2 ^ 31) : mm_sI h a t (nI j) x = some (mm_hs h a (.inl (t, xs.set j x))) := by
  unfold mm_sI
  rw [hc]
  simp only []
  rw [if_pos trivial, if_neg (nI_in hj hl), nI_clamp (by omega)]
theorem mm_sL_at {a j : Nat} {x : Int64} {xs : List Int64} (hc : h.2.2 a = .inr (.inl xs)) (hj : j < xs.length) (hl : xs.length < 2 ^ 31) : mm_sL h a (nI j) x = some (mm_hs h a (.inr (.inl (xs.set j x)))) := by
  unfold mm_sL
  rw [hc]
  simp only []
  rw [if_neg (nI_in hj hl), nI_clamp (by omega)]
theorem mm_sF_at {a c i : Nat} {v : Value} {fs : List Value} (hc : h.2.2 a = .inr (.inr (c, fs))) (hk : (decide (c < 900) && (decide (i < fs.length) && mm_ok ((P.2.2.1 c).getD i .byte) v)) = true) : mm_sF P h a c i v = some (mm_hs h a (.inr (.inr (c, fs.set i v)))) := by
  unfold mm_sF
  rw [hc]
  exact if_pos (by rw [hk, decide_eq_true rfl]; rfl)
theorem mm_gN_at {a t : Nat} {xs : List Int32} (hc : h.2.2 a = .inl (t, xs)) : mm_gN h a = some (nI xs.length) := by
  unfold mm_gN
  rw [hc]
  rfl
end MW2
