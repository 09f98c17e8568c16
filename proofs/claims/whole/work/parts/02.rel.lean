/-! MINI 2: how the small machine's states stand to the machine's. rho: where a numbered cell lies. -/
def mm_tv (ρ : Nat → Nat) : Value → Value
  | .ref i => .ref (ρ i)
  | v => v
def mm_rf (ρ : Nat → Nat) : Value → Option Nat
  | .ref i => some (ρ i)
  | _ => none
def mm_te (dA : Nat → ClassId) (ρ : Nat → Nat) : mm_C → va_E
  | .inl (t, xs) => .inl (dA t, xs.length, .inl (fun k => xs.getD k 0))
  | .inr (.inl xs) => .inl (dA 4, xs.length, .inr (.inl (fun k => xs.getD k 0)))
  | .inr (.inr (c, fs)) => if 1000 ≤ c then .inl (dA c, fs.length, .inr (.inr (.inr (.inr (fun k => mm_rf ρ (fs.getD k .null)))))) else .inr (c, fs.map (mm_tv ρ))
def mm_ws (dA : Nat → ClassId) (NE : Nat) (ρ : Nat → Nat) (h : mm_H) : va_W := (List.range (h.1 - NE)).map (fun j => (ρ (NE + j), mm_te dA ρ (h.2.2 (NE + j))))
theorem mm_ws_get {dA : Nat → ClassId} {NE : Nat} {ρ : Nat → Nat} {h : mm_H} {i : Nat} (h1 : NE ≤ i) (h2 : i < h.1) : (mm_ws dA NE ρ h)[i - NE]? = some (ρ i, mm_te dA ρ (h.2.2 i)) := by
  unfold mm_ws
  rw [List.getElem?_map, List.getElem?_range (by omega)]
  simp only [Option.map_some]
  rw [show NE + (i - NE) = i by omega]
theorem mm_ws_at {dA : Nat → ClassId} {NE : Nat} {ρ : Nat → Nat} {h : mm_H} {k : Nat} {q : Nat × va_E} (hq : (mm_ws dA NE ρ h)[k]? = some q) : k < h.1 - NE ∧ q = (ρ (NE + k), mm_te dA ρ (h.2.2 (NE + k))) := by
  unfold mm_ws at hq
  rw [List.getElem?_map] at hq
  by_cases hk : k < h.1 - NE
  · rw [List.getElem?_range hk] at hq
    exact ⟨hk, (Option.some.inj hq).symm⟩
  · rw [List.getElem?_eq_none (by simp; omega)] at hq
    cases hq
theorem mm_ws_none {dA : Nat → ClassId} {NE : Nat} {ρ : Nat → Nat} {h : mm_H} {k : Nat} (hk : ¬ k < h.1 - NE) : (mm_ws dA NE ρ h)[k]? = none := by
  unfold mm_ws
  rw [List.getElem?_eq_none (by simp; omega)]
theorem mm_ws_set {dA : Nat → ClassId} {NE : Nat} {ρ : Nat → Nat} {h : mm_H} {i : Nat} {c : mm_C} (h1 : NE ≤ i) (h2 : i < h.1) : mm_ws dA NE ρ (mm_hs h i c) = (mm_ws dA NE ρ h).set (i - NE) (ρ i, mm_te dA ρ c) := by
  apply List.ext_getElem?
  intro k
  rw [List.getElem?_set]
  by_cases hk : k < h.1 - NE
  · have e1 := mm_ws_get (dA := dA) (ρ := ρ) (h := mm_hs h i c) (i := NE + k) (NE := NE) (by omega) (show NE + k < h.1 by omega)
    have e2 := mm_ws_get (dA := dA) (ρ := ρ) (h := h) (i := NE + k) (NE := NE) (by omega) (show NE + k < h.1 by omega)
    rw [show NE + k - NE = k by omega] at e1 e2
    rw [e1, e2]
    by_cases hik : i - NE = k
    · rw [if_pos hik, if_pos (by simp [mm_ws]; omega)]
      have : NE + k = i := by omega
      rw [this]
      simp [mm_hs]
    · rw [if_neg hik]
      simp only [mm_hs]
      rw [if_neg (by omega)]
  · rw [mm_ws_none hk, mm_ws_none (h := mm_hs h i c) (show ¬ k < h.1 - NE from hk)]
    rw [if_neg (by omega)]
def mm_bv (n : Nat) : Value → Prop
  | .ref i => i < n
  | _ => True
def mm_bc (n : Nat) : mm_C → Prop
  | .inr (.inr (_, fs)) => ∀ v ∈ fs, mm_bv n v
  | _ => True
def mm_bh (NE : Nat) (h : mm_H) : Prop := NE ≤ h.1 ∧ ∀ i, i < h.1 → mm_bc h.1 (h.2.2 i)
theorem mm_bv_le {n n' : Nat} (hn : n ≤ n') {v : Value} (h : mm_bv n v) : mm_bv n' v := by
  cases v <;> first | exact Nat.lt_of_lt_of_le h hn | trivial
theorem mm_bc_le {n n' : Nat} (hn : n ≤ n') {c : mm_C} (h : mm_bc n c) : mm_bc n' c := by
  rcases c with x | x | ⟨k, fs⟩
  · trivial
  · trivial
  · exact fun v hv => mm_bv_le hn (h v hv)
theorem mm_bh_set {NE : Nat} {h : mm_H} (hb : mm_bh NE h) {i : Nat} {c : mm_C} (hc : mm_bc h.1 c) : mm_bh NE (mm_hs h i c) := by
  refine ⟨hb.1, fun j hj => ?_⟩
  show mm_bc h.1 (if j = i then c else h.2.2 j)
  split
  · exact hc
  · exact hb.2 j hj
theorem mm_bh_new {NE : Nat} {h : mm_H} (hb : mm_bh NE h) {c : mm_C} {z : Nat} (hc : mm_bc (h.1 + 1) c) : mm_bh NE (mm_hn h c z) := by
  refine ⟨Nat.le_succ_of_le hb.1, fun j hj => ?_⟩
  show mm_bc (h.1 + 1) (if j = h.1 then c else h.2.2 j)
  split
  · exact hc
  · exact mm_bc_le (Nat.le_succ _) (hb.2 j (by have hj' : j < h.1 + 1 := hj; omega))
theorem mm_tv_eq {ρ ρ' : Nat → Nat} {n : Nat} (hr : ∀ i, i < n → ρ' i = ρ i) {v : Value} (hv : mm_bv n v) : mm_tv ρ' v = mm_tv ρ v := by
  cases v <;> first | (show Value.ref _ = Value.ref _; rw [hr _ hv]) | rfl
theorem mm_rf_eq {ρ ρ' : Nat → Nat} {n : Nat} (hr : ∀ i, i < n → ρ' i = ρ i) {v : Value} (hv : mm_bv n v) : mm_rf ρ' v = mm_rf ρ v := by
  cases v <;> first | (show some _ = some _; rw [hr _ hv]) | rfl
theorem mm_te_eq {dA : Nat → ClassId} {ρ ρ' : Nat → Nat} {n : Nat} (hr : ∀ i, i < n → ρ' i = ρ i) {c : mm_C} (hc : mm_bc n c) : mm_te dA ρ' c = mm_te dA ρ c := by
  rcases c with x | x | ⟨k, fs⟩
  · rfl
  · rfl
  · have e1 : fs.map (mm_tv ρ') = fs.map (mm_tv ρ) := List.map_congr_left (fun v hv => mm_tv_eq hr (hc v hv))
    have e2 : (fun k => mm_rf ρ' (fs.getD k .null)) = (fun k => mm_rf ρ (fs.getD k .null)) := by
      funext k
      rw [List.getD_eq_getElem?_getD]
      cases hk : fs[k]? with
      | none => rfl
      | some v => exact mm_rf_eq hr (hc v (List.mem_of_getElem? hk))
    simp only [mm_te, e1, e2]
/-- a new cell at q -/
theorem mm_ws_new {dA : Nat → ClassId} {NE : Nat} {ρ : Nat → Nat} {h : mm_H} (hb : mm_bh NE h) {c : mm_C} {z q : Nat} : mm_ws dA NE (fun i => if i = h.1 then q else ρ i) (mm_hn h c z) = mm_ws dA NE ρ h ++ [(q, mm_te dA (fun i => if i = h.1 then q else ρ i) c)] := by
  have hr : ∀ i, i < h.1 → (fun i => if i = h.1 then q else ρ i) i = ρ i := fun i hi => if_neg (by omega)
  apply List.ext_getElem?
  intro k
  have hNE := hb.1
  by_cases hk : k < h.1 - NE
  · rw [List.getElem?_append_left (by simp [mm_ws]; omega)]
    have e1 := mm_ws_get (dA := dA) (ρ := fun i => if i = h.1 then q else ρ i) (h := mm_hn h c z) (i := NE + k) (NE := NE) (by omega) (show NE + k < h.1 + 1 by omega)
    have e2 := mm_ws_get (dA := dA) (ρ := ρ) (h := h) (i := NE + k) (NE := NE) (by omega) (show NE + k < h.1 by omega)
    rw [show NE + k - NE = k by omega] at e1 e2
    rw [e1, e2]
    have e3 : (mm_hn h c z).2.2 (NE + k) = h.2.2 (NE + k) := if_neg (by omega)
    rw [e3, mm_te_eq hr (hb.2 _ (by omega))]
    exact congrArg (fun z => some (z, mm_te dA ρ (h.2.2 (NE + k)))) (hr (NE + k) (by omega))
  · by_cases hk2 : k = h.1 - NE
    · subst hk2
      rw [List.getElem?_append_right (by simp [mm_ws])]
      have e1 := mm_ws_get (dA := dA) (ρ := fun i => if i = h.1 then q else ρ i) (h := mm_hn h c z) (i := h.1) (NE := NE) hNE (show h.1 < h.1 + 1 by omega)
      rw [e1]
      have e3 : (mm_hn h c z).2.2 h.1 = c := if_pos rfl
      rw [e3]
      simp [mm_ws]
    · rw [mm_ws_none (h := mm_hn h c z) (show ¬ k < h.1 + 1 - NE by omega), List.getElem?_eq_none (by simp [mm_ws]; omega)]
/-- the locals -/
def mm_LR (ρ : Nat → Nat) (L : mm_V) (ls : Array Slot) (nL : Nat) : Prop := L.length = nL ∧ ls.size = nL ∧ lv_wf ls ∧ ∀ i v, mm_lk L i = some v → ls[i]? = some (.val (mm_tv ρ v))
def mm_lv (ρ : Nat → Nat) (L : mm_V) : List (Nat × Value) := (List.range L.length).filterMap (fun i => (mm_lk L i).map (fun v => (i, mm_tv ρ v)))
theorem mm_lk_lt {L : mm_V} {i : Nat} {v : Value} (h : mm_lk L i = some v) : i < L.length := by
  unfold mm_lk at h
  rw [List.getD_eq_getElem?_getD] at h
  cases hl : L[i]? with
  | none => rw [hl] at h; cases h
  | some x => exact (List.getElem?_eq_some_iff.mp hl).1
theorem mm_lv_mem {ρ : Nat → Nat} {L : mm_V} {i : Nat} {v : Value} : (i, v) ∈ mm_lv ρ L ↔ ∃ w, mm_lk L i = some w ∧ v = mm_tv ρ w := by
  unfold mm_lv
  rw [List.mem_filterMap]
  constructor
  · rintro ⟨j, -, hj⟩
    cases hl : mm_lk L j with
    | none => rw [hl] at hj; cases hj
    | some w =>
      rw [hl] at hj
      have := Option.some.inj hj
      cases this
      exact ⟨w, hl, rfl⟩
  · rintro ⟨w, hw, rfl⟩
    exact ⟨i, List.mem_range.mpr (mm_lk_lt hw), by rw [hw]; rfl⟩
theorem mm_LR_has {ρ : Nat → Nat} {L : mm_V} {ls : Array Slot} {nL : Nat} (h : mm_LR ρ L ls nL) : lv_has ls nL (mm_lv ρ L) := by
  refine ⟨h.2.1, h.2.2.1, fun q hq => ?_⟩
  obtain ⟨i, v⟩ := q
  obtain ⟨w, hw, rfl⟩ := mm_lv_mem.mp hq
  exact h.2.2.2 i w hw
theorem mm_lk_set {L : mm_V} {i j : Nat} {x : Option Value} : mm_lk (L.set i x) j = if i = j ∧ i < L.length then x else mm_lk L j := by
  unfold mm_lk
  rw [List.getD_eq_getElem?_getD, List.getD_eq_getElem?_getD, List.getElem?_set]
  by_cases hij : i = j
  · subst hij
    by_cases hl : i < L.length
    · simp [hl]
    · simp [hl]
  · simp [hij]
theorem mm_isL_tv {ρ : Nat → Nat} {v : Value} (h : mm_isL (some v) = false) : ((mm_tv ρ v).category == 2) = false := by
  cases v <;> first | rfl | (exact absurd h (by decide)) | (simp [mm_isL] at h)
/-- a store of one word -/
theorem mm_LR_s1 {ρ : Nat → Nat} {L L' : mm_V} {ls : Array Slot} {nL i : Nat} {v : Value} (h : mm_LR ρ L ls nL) (hs : mm_s1 L i v = some L') : i < nL ∧ ∀ ls', lv_has ls' nL ((i, mm_tv ρ v) :: (mm_lv ρ L).filter (fun q => !(q.1 == i) && !(q.1 + 1 == i && q.2.category == 2))) → mm_LR ρ L' ls' nL := by
  unfold mm_s1 at hs
  split at hs
  · rename_i hc
    simp only [Bool.and_eq_true, decide_eq_true_eq] at hc
    obtain ⟨hi, hf⟩ := hc
    cases hs
    refine ⟨h.1 ▸ hi, fun ls' h' => ⟨by rw [List.length_set]; exact h.1, h'.1, h'.2.1, fun j w hw => ?_⟩⟩
    rw [mm_lk_set] at hw
    split at hw
    · rename_i hij
      cases hw
      exact hij.1 ▸ h'.2.2 _ (List.mem_cons_self)
    · rename_i hij
      refine h'.2.2 (j, mm_tv ρ w) (List.mem_cons_of_mem _ (List.mem_filter.mpr ⟨mm_lv_mem.mpr ⟨w, hw, rfl⟩, ?_⟩))
      have hne : ¬ j = i := fun e => hij ⟨e.symm, hi⟩
      simp only [Bool.and_eq_true, Bool.not_eq_true', beq_eq_false_iff_ne, ne_eq]
      refine ⟨hne, ?_⟩
      by_cases hj : j + 1 = i
      · unfold mm_free at hf
        rw [show (i == 0) = false by simp; omega, Bool.false_or, show i - 1 = j by omega, hw] at hf
        have h2 : mm_isL (some w) = false := by simpa using hf
        rw [mm_isL_tv h2, Bool.and_false]
      · rw [show (j + 1 == i) = false by simpa using hj, Bool.false_and]
  · cases hs
theorem mm_LR_s2 {ρ : Nat → Nat} {L L' : mm_V} {ls : Array Slot} {nL i : Nat} {v : Value} (h : mm_LR ρ L ls nL) (hs : mm_s2 L i v = some L') : i + 1 < nL ∧ ∀ ls', lv_has ls' nL ((i, mm_tv ρ v) :: (mm_lv ρ L).filter (fun q => !(q.1 == i) && (!(q.1 == i + 1) && !(q.1 + 1 == i && q.2.category == 2)))) → mm_LR ρ L' ls' nL := by
  unfold mm_s2 at hs
  split at hs
  · rename_i hc
    simp only [Bool.and_eq_true, decide_eq_true_eq] at hc
    obtain ⟨hi, hf⟩ := hc
    cases hs
    refine ⟨h.1 ▸ hi, fun ls' h' => ⟨by rw [List.length_set, List.length_set]; exact h.1, h'.1, h'.2.1, fun j w hw => ?_⟩⟩
    rw [mm_lk_set, mm_lk_set] at hw
    split at hw
    · cases hw
    · rename_i hij1
      rw [List.length_set] at hij1
      split at hw
      · rename_i hij
        cases hw
        exact hij.1 ▸ h'.2.2 _ (List.mem_cons_self)
      · rename_i hij
        refine h'.2.2 (j, mm_tv ρ w) (List.mem_cons_of_mem _ (List.mem_filter.mpr ⟨mm_lv_mem.mpr ⟨w, hw, rfl⟩, ?_⟩))
        have hne : ¬ j = i := fun e => hij ⟨e.symm, by omega⟩
        have hne1 : ¬ j = i + 1 := fun e => hij1 ⟨e.symm, hi⟩
        simp only [Bool.and_eq_true, Bool.not_eq_true', beq_eq_false_iff_ne, ne_eq]
        refine ⟨hne, hne1, ?_⟩
        by_cases hj : j + 1 = i
        · unfold mm_free at hf
          rw [show (i == 0) = false by simp; omega, Bool.false_or, show i - 1 = j by omega, hw] at hf
          have h2 : mm_isL (some w) = false := by simpa using hf
          rw [mm_isL_tv h2, Bool.and_false]
        · rw [show (j + 1 == i) = false by simpa using hj, Bool.false_and]
  · cases hs
theorem mm_LR_mono {ρ ρ' : Nat → Nat} {n : Nat} {L : mm_V} {ls : Array Slot} {nL : Nat} (h : mm_LR ρ L ls nL) (hr : ∀ i, i < n → ρ' i = ρ i) (hb : ∀ i v, mm_lk L i = some v → mm_bv n v) : mm_LR ρ' L ls nL :=
  ⟨h.1, h.2.1, h.2.2.1, fun i v hv => by rw [mm_tv_eq hr (hb i v hv)]; exact h.2.2.2 i v hv⟩
