/-! numbers and rows of numbers -/
theorem isl_i (x : Int32) : mm_isL (some (.int x)) = false := rfl
theorem isl_r (x : Nat) : mm_isL (some (.ref x)) = false := rfl
theorem isl_n : mm_isL none = false := rfl
theorem wx_some {α : Type} {a : α} {p : α → Prop} : (∃ x, some a = some x ∧ p x) ↔ p a := ⟨fun ⟨_, h, q⟩ => by cases h; exact q, fun q => ⟨a, rfl, q⟩⟩
theorem wx_ref {a : Nat} {p : Nat → Prop} : (∃ x, some (Value.ref a) = some (.ref x) ∧ p x) ↔ p a := ⟨fun ⟨_, h, q⟩ => by cases h; exact q, fun q => ⟨a, rfl, q⟩⟩
theorem sl_i (v : Value) (r : List Value) : (some v).toList ++ r = v :: r := rfl
theorem sl_n (r : List Value) : (none : Option Value).toList ++ r = r := rfl
theorem aG_n {α : Type} {xs : List α} {j : Nat} {v : α} (hv : xs[j]? = some v) (hl : xs.length < 2 ^ 31) : aG xs (nI j) = some v := by
  have hj : j < xs.length := by
    rcases Nat.lt_or_ge j xs.length with h | h
    · exact h
    · rw [List.getElem?_eq_none h] at hv; cases hv
  unfold aG
  rw [if_neg (nI_in hj hl), nI_clamp (by omega), hv]
theorem aS_n {α β : Type} {xs : List α} {j : Nat} {x : α} {f : List α → β} (hj : j < xs.length) (hl : xs.length < 2 ^ 31) : aS xs (nI j) x f = some (f (xs.set j x)) := by
  unfold aS
  rw [if_neg (nI_in hj hl), nI_clamp (by omega)]
theorem aG_m {ps : List Nat} {j : Nat} (hj : j < ps.length) (hl : ps.length < 2 ^ 31) : aG (ps.map nI) (nI j) = some (nI (ps.getD j 0)) := by
  apply aG_n _ (by rw [List.length_map]; exact hl)
  rw [List.getElem?_map, List.getD, List.getElem?_eq_getElem hj]; rfl
theorem aS_m {β : Type} {ps : List Nat} {j x : Nat} {f : List Int32 → β} (hj : j < ps.length) (hl : ps.length < 2 ^ 31) : aS (ps.map nI) (nI j) (nI x) f = some (f ((ps.set j x).map nI)) := by
  rw [aS_n (by rw [List.length_map]; exact hj) (by rw [List.length_map]; exact hl), List.map_set]
theorem nI_mod {a b : Nat} (ha : a < 2 ^ 31) (hb : b < 2 ^ 31) (h0 : 0 < b) : nI a - nI a / nI b * nI b = nI (a % b) := by
  rw [pk_div ha h0 hb, pk_mul]
  have h1 := Nat.div_add_mod a b
  have h2 : a / b * b + a % b = a := by rw [Nat.mul_comm]; exact h1
  have h3 : nI a = nI (a / b * b) + nI (a % b) := by rw [nI_add, h2]
  rw [h3, Int32.add_comm, Int32.add_sub_cancel]
theorem nI_sub {a b : Nat} (h : b ≤ a) : nI a - nI b = nI (a - b) := by
  have h3 : nI a = nI (a - b) + nI b := by rw [nI_add, Nat.sub_add_cancel h]
  rw [h3, Int32.add_sub_cancel]
theorem nl_0 : (0 : Int32) = nI 0 := rfl
theorem nl_1 : (1 : Int32) = nI 1 := rfl
theorem nl_2 : (2 : Int32) = nI 2 := rfl
theorem nl_3 : (3 : Int32) = nI 3 := rfl
theorem nl_4 : (4 : Int32) = nI 4 := rfl
theorem nl_5 : (5 : Int32) = nI 5 := rfl
theorem nl_6 : (6 : Int32) = nI 6 := rfl
theorem nl_7 : (7 : Int32) = nI 7 := rfl
theorem nl_8 : (8 : Int32) = nI 8 := rfl
theorem nl_9 : (9 : Int32) = nI 9 := rfl
theorem nl_10 : (10 : Int32) = nI 10 := rfl
theorem getD_set {α : Type} {xs : List α} {i j : Nat} {x d : α} : (xs.set i x).getD j d = if i = j ∧ j < xs.length then x else xs.getD j d := by
  rw [List.getD, List.getD, List.getElem?_set]
  by_cases h : i = j
  · subst h
    by_cases h2 : i < xs.length
    · rw [if_pos rfl, if_pos h2, if_pos ⟨rfl, h2⟩]; rfl
    · rw [if_pos rfl, if_neg h2, if_neg (fun z => h2 z.2), List.getElem?_eq_none (by omega)]
  · rw [if_neg h, if_neg (fun z => h z.1)]
theorem getD_lt {α : Type} {xs : List α} {j : Nat} {d : α} {p : α → Prop} (h : ∀ x ∈ xs, p x) (h0 : p d) : p (xs.getD j d) := by
  rw [List.getD]
  cases e : xs[j]? with
  | none => exact h0
  | some v => exact h v (List.mem_of_getElem? e)
theorem bn_0 {k : Nat} (h : mm_ret (mp_sig k).2.2.2 (.int 0) = true) : mm_ret (mp_sig k).2.2.2 (.int (nI 0)) = true := h
theorem bn_1 {k : Nat} (h : mm_ret (mp_sig k).2.2.2 (.int 1) = true) : mm_ret (mp_sig k).2.2.2 (.int (nI 1)) = true := h
