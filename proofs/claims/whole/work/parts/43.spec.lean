/-! what a square is, what a scene is: numbers and functions; how the class's cells and the model's hold them -/
/-- a row agrees with a function up to a place -/
def ag (xs : List Int32) (n : Nat) (f : Nat → Nat) : Prop := ∀ i, i < n → xs[i]? = some (nI (f i))
theorem ag_len {xs : List Int32} {n : Nat} {f : Nat → Nat} (h : ag xs n f) : n ≤ xs.length := by
  cases n with
  | zero => omega
  | succ n =>
    have h1 := h n (by omega)
    rcases Nat.lt_or_ge n xs.length with h2 | h2
    · omega
    · rw [List.getElem?_eq_none h2] at h1; cases h1
theorem ag_G {xs : List Int32} {n j : Nat} {f : Nat → Nat} (h : ag xs n f) (hl : xs.length < 2 ^ 31) (hj : j < n) : aG xs (nI j) = some (nI (f j)) := aG_n (h j hj) hl
theorem ag_set {xs : List Int32} {n i v : Nat} {f g : Nat → Nat} (h : ag xs n f) (hi : i < xs.length) (hg : ∀ j, j < n → g j = if j = i then v else f j) : ag (xs.set i (nI v)) n g := by
  intro j hj
  rw [List.getElem?_set, hg j hj]
  by_cases e : i = j
  · subst e; rw [if_pos rfl, if_pos hi, if_pos rfl]
  · rw [if_neg e, if_neg (fun z => e z.symm), h j hj]
theorem ag_le {xs : List Int32} {n m : Nat} {f : Nat → Nat} (h : ag xs n f) (hm : m ≤ n) : ag xs m f := fun i hi => h i (by omega)
theorem ag_ext {xs : List Int32} {n : Nat} {f g : Nat → Nat} (h : ag xs n f) (hg : ∀ i, i < n → g i = f i) : ag xs n g := fun i hi => by rw [hg i hi]; exact h i hi
/-- all places of a row hold numbers below b -/
def rg (xs : List Int32) (n b : Nat) : Prop := xs.length = n ∧ ∀ i, i < n → ∃ p, p < b ∧ xs[i]? = some (nI p)
theorem rg_set {xs : List Int32} {n b i v : Nat} (h : rg xs n b) (hv : v < b) : rg (xs.set i (nI v)) n b := by
  refine ⟨by rw [List.length_set]; exact h.1, fun j hj => ?_⟩
  rw [List.getElem?_set]
  by_cases e : i = j
  · subst e; exact ⟨v, hv, by rw [if_pos rfl, if_pos (by rw [h.1]; exact hj)]⟩
  · obtain ⟨p, h1, h2⟩ := h.2 j hj
    exact ⟨p, h1, by rw [if_neg e]; exact h2⟩
abbrev SQ : Type := (Nat × Nat × Nat × Nat × Nat × Nat) × ((Nat → Nat) × (Nat → Nat) × (Nat → Nat) × (Nat → Nat)) × ((Nat → Nat) × (Nat → Nat) × (Nat → Nat) × (Nat → Nat) × (Nat → Nat)) × (Nat → Nat → Nat) × (Int32 → Int32 → Int32 → Int32 → Int32)
def k_nS (s : SQ) : Nat := s.1.1
def k_nC (s : SQ) : Nat := s.1.2.1
def k_nR (s : SQ) : Nat := s.1.2.2.1
def k_nW (s : SQ) : Nat := s.1.2.2.2.1
def k_nG (s : SQ) : Nat := s.1.2.2.2.2.1
def k_sy (s : SQ) : Nat := s.1.2.2.2.2.2
def k_cs (s : SQ) : Nat → Nat := s.2.1.1
def k_rm (s : SQ) : Nat → Nat := s.2.1.2.1
def k_rf (s : SQ) : Nat → Nat := s.2.1.2.2.1
def k_rs (s : SQ) : Nat → Nat := s.2.1.2.2.2
def k_kd (s : SQ) : Nat → Nat := s.2.2.1.1
def k_wc (s : SQ) : Nat → Nat := s.2.2.1.2.1
def k_st (s : SQ) : Nat → Nat := s.2.2.1.2.2.1
def k_sc (s : SQ) : Nat → Nat := s.2.2.1.2.2.2.1
def k_gu (s : SQ) : Nat → Nat := s.2.2.1.2.2.2.2
def k_sr (s : SQ) : Nat → Nat → Nat := s.2.2.2.1
def k_lw (s : SQ) : Int32 → Int32 → Int32 → Int32 → Int32 := s.2.2.2.2
/-- what holds of every square -/
def k_ok (s : SQ) : Prop := (k_nS s ≤ 6 ∧ k_nC s ≤ 6 ∧ k_nR s ≤ 12 ∧ k_nW s ≤ 7 ∧ k_nG s ≤ 8) ∧ (∀ i, i < k_nC s → k_cs s i < k_nS s) ∧ (∀ i, i < k_nR s → k_rm s i < k_nS s ∧ k_rf s i < k_nS s ∧ k_rs s i < k_nS s) ∧
  (∀ w, w < k_nW s → k_kd s w < 4 ∧ k_wc s w < k_nC s ∧ k_st s w < 10 ∧ (0 < k_sc s w ∧ k_sc s w ≤ 6) ∧ ∀ i, i < k_sc s w → k_sr s w i ≤ 2) ∧ (∀ i, i < k_nG s → k_gu s i ≤ 10) ∧ (k_sy s < 6)
/-- the hour, who is open, where they stand -/
abbrev SC : Type := Nat × Nat × (Nat → Nat)
def c_ok (s : SQ) (c : SC) : Prop := c.1 < 2 ^ 20 ∧ c.2.1 < 2 ^ k_nW s ∧ ∀ w, w < k_nW s → c.2.2 w < 10
section SX
variable (q : px_q) (s : SQ)
/-- the class's square but its law -/
def SQx : Prop := ((q.1).length = 6 ∧ (q.2.2.1).length = 6 ∧ (q.2.2.2.1).length = 6 ∧ (q.2.2.2.2.2.1).length = 12 ∧ (q.2.2.2.2.2.2.1).length = 12 ∧ (q.2.2.2.2.2.2.2.1).length = 12 ∧ (q.2.2.2.2.2.2.2.2.2.2.1).length = 7 ∧ (q.2.2.2.2.2.2.2.2.2.2.2.1).length = 7 ∧ (q.2.2.2.2.2.2.2.2.2.2.2.2.1).length = 7 ∧ (q.2.2.2.2.2.2.2.2.2.2.2.2.2.2.1).length = 42 ∧ (q.2.2.2.2.2.2.2.2.2.2.2.2.2.2.2.1).length = 7 ∧ (q.2.2.2.2.2.2.2.2.2.2.2.2.2.2.2.2.2.1).length = 8 ∧ (q.2.2.2.2.2.2.2.2.2.2.2.2.2.2.2.2.2.2.2.1).length = 1000 ∧ (q.2.2.2.2.2.2.2.2.2.2.2.2.2.2.2.2.2.2.2.2.2.1).length = 32 ∧ rg q.2.2.2.2.2.2.2.2.2.2.2.2.2.1 7 10) ∧
  (q.2.1 = nI (k_nS s) ∧ q.2.2.2.2.1 = nI (k_nC s) ∧ q.2.2.2.2.2.2.2.2.1 = nI (k_nR s) ∧ q.2.2.2.2.2.2.2.2.2.2.2.2.2.2.2.2.1 = nI (k_nW s) ∧ q.2.2.2.2.2.2.2.2.2.2.2.2.2.2.2.2.2.2.1 = nI (k_nG s)) ∧
  (ag q.2.2.2.1 (k_nC s) (k_cs s) ∧ ag q.2.2.2.2.2.1 (k_nR s) (k_rm s) ∧ ag q.2.2.2.2.2.2.1 (k_nR s) (k_rf s) ∧ ag q.2.2.2.2.2.2.2.1 (k_nR s) (k_rs s)) ∧ ((if q.2.2.2.2.2.2.2.2.2.1 = -1 then 0 else q.2.2.2.2.2.2.2.2.2.1) = nI (k_sy s)) ∧
  (ag q.2.2.2.2.2.2.2.2.2.2.2.1 (k_nW s) (k_kd s) ∧ ag q.2.2.2.2.2.2.2.2.2.2.2.2.1 (k_nW s) (k_wc s) ∧ ag q.2.2.2.2.2.2.2.2.2.2.2.2.2.1 (k_nW s) (k_st s) ∧ ag q.2.2.2.2.2.2.2.2.2.2.2.2.2.2.2.1 (k_nW s) (k_sc s) ∧ ag q.2.2.2.2.2.2.2.2.2.2.2.2.2.2.2.2.2.1 (k_nG s) (k_gu s)) ∧
  (∀ w, w < k_nW s → ∀ i, i < k_sc s w → (q.2.2.2.2.2.2.2.2.2.2.2.2.2.2.1)[w * 6 + i]? = some (nI (k_sr s w i)))
end SX
/-- the class's scene -/
def SCx (s : SQ) (S : px_S) (c : SC) : Prop := S.1 = nI c.1 ∧ S.2.1 = nI c.2.1 ∧ rg S.2.2 7 10 ∧ ag S.2.2 (k_nW s) c.2.2
section SM
variable (mQ : pm_Q) (s : SQ)
/-- the model's square but its law -/
def SQm : Prop := ((mQ.1).length = 12 ∧ (mQ.2.1).length = 12 ∧ (mQ.2.2.1).length = 12 ∧ (mQ.2.2.2.1).length = 14 ∧ (mQ.2.2.2.2.1).length = 12 ∧ (mQ.2.2.2.2.2.1).length = 24 ∧ (mQ.2.2.2.2.2.2.1).length = 14 ∧ (mQ.2.2.2.2.2.2.2.1).length = 14 ∧ (mQ.2.2.2.2.2.2.2.2.1).length = 14 ∧ (mQ.2.2.2.2.2.2.2.2.2.1).length = 14 ∧ (mQ.2.2.2.2.2.2.2.2.2.2.1).length = 84 ∧ (mQ.2.2.2.2.2.2.2.2.2.2.2.1).length = 16 ∧ (mQ.2.2.2.2.2.2.2.2.2.2.2.2.1).length = 2 ∧ (mQ.2.2.2.2.2.2.2.2.2.2.2.2.2.1).length = 2 ∧ (mQ.2.2.2.2.2.2.2.2.2.2.2.2.2.2).length = 2000) ∧
  ((mQ.1)[0]? = some (nI (k_nS s)) ∧ (mQ.1)[1]? = some (nI (k_nC s)) ∧ (mQ.1)[2]? = some (nI (k_nR s)) ∧ (mQ.1)[3]? = some (nI (k_nW s)) ∧ (mQ.1)[5]? = some (nI (k_nG s))) ∧ (∃ y : Int32, (mQ.1)[4]? = some y ∧ ((y = -1 ∧ k_nS s = 0) ∨ (y = nI (k_sy s) ∧ k_sy s < k_nS s))) ∧
  (ag mQ.2.2.2.2.1 (k_nC s) (k_cs s) ∧ ag mQ.2.2.2.2.2.1 (k_nR s) (fun r => 36 * k_rm s r + 6 * k_rf s r + k_rs s r) ∧ ag mQ.2.2.2.2.2.2.1 (k_nW s) (k_kd s) ∧ ag mQ.2.2.2.2.2.2.2.1 (k_nW s) (k_wc s) ∧ ag mQ.2.2.2.2.2.2.2.2.1 (k_nW s) (k_st s) ∧ ag mQ.2.2.2.2.2.2.2.2.2.1 (k_nW s) (k_sc s) ∧ ag mQ.2.2.2.2.2.2.2.2.2.2.2.1 (k_nG s) (k_gu s)) ∧
  (∀ w, w < k_nW s → ∀ i, i < k_sc s w → (mQ.2.2.2.2.2.2.2.2.2.2.1)[6 * w + i]? = some (nI (k_sr s w i)))
end SM
/-- the model's row of a scene -/
def SCm (s : SQ) (r : List Int32) (c : SC) : Prop := r.length = 9 ∧ r[0]? = some (nI c.1) ∧ r[1]? = some (nI c.2.1) ∧ ∀ i, i < 7 → r[2 + i]? = some (nI (if i < k_nW s then c.2.2 i else 0))
/-- where a step leads; a tick -/
def sp_behind (p st : Nat) : Nat := if st = 1 then (if p + 1 < 10 then p + 1 else p) else if st = 2 ∧ 0 < p then p - 1 else p
theorem sp_behind_lt {p st : Nat} (h : p < 10) : sp_behind p st < 10 := by
  unfold sp_behind
  split
  · split <;> omega
  · split <;> omega
def sp_step (s : SQ) (w hr : Nat) : Nat := k_sr s w (hr % k_sc s w)
def sp_on (s : SQ) (c : SC) : SC := (c.1 + 1, c.2.1, fun i => sp_behind (c.2.2 i) (sp_step s i c.1))
def sp_gust (s : SQ) (hr : Nat) : Nat := if k_nG s = 0 then 10 else k_gu s (hr % k_nG s)
theorem sp_step_le {s : SQ} {w hr : Nat} (ho : k_ok s) (hw : w < k_nW s) : sp_step s w hr ≤ 2 := (ho.2.2.2.1 w hw).2.2.2.2 _ (Nat.mod_lt _ (ho.2.2.2.1 w hw).2.2.2.1.1)
