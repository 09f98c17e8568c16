/-! faults are small -/
theorem flt_sm {tp : List Nat} {k i : Nat} (ht : tp_ok tp) (hk : k ≤ 5) : flt tp k i < 2 ^ 20 := by
  have h1 := tk_le ht.1 i
  have h2 := ht.1
  unfold flt
  omega
def FTl (g : Nat → GR) : Prop := ∀ i, (g i).1 < 2 ^ 20
theorem FTl_lp {sub : Nat → GR} {op : Nat → Option (Int32 × Nat)} (hs : FTl sub) : ∀ m x, x.1 < 2 ^ 20 → (g_lp sub op m x).1 < 2 ^ 20 := by
  intro m
  induction m with
  | zero => intro x hx; exact hx
  | succ m ih =>
    intro x hx
    rw [g_lp_s]
    cases e : op x.2.1 with
    | none => exact hx
    | some pc =>
      simp only []
      by_cases e2 : (sub (x.2.1 + 1)).1 = 0
      · rw [if_pos e2]
        exact ih _ (show (0 : Nat) < 2 ^ 20 by omega)
      · rw [if_neg e2]; exact hs _
theorem FTl_P {tp : List Nat} {pt : Nat → GR} (hp : FTl pt) : FTl (g_P tp pt) := by
  intro i
  unfold g_P
  split
  · exact FTl_lp hp 1000 _ (hp i)
  · exact hp i
theorem FTl_S {tp : List Nat} {pt : Nat → GR} (hp : FTl pt) : FTl (g_S tp pt) := by
  intro i
  have hP := FTl_P (tp := tp) hp
  unfold g_S
  split
  · exact FTl_lp hP 1000 _ (hP i)
  · exact hP i
theorem FTl_T {tp : List Nat} {pt : Nat → GR} (hp : FTl pt) : FTl (g_T tp pt) := by
  intro i
  have hS := FTl_S (tp := tp) hp
  unfold g_T
  by_cases e : (g_S tp pt i).1 = 0
  · rw [if_pos e]
    cases eo : opT tp (g_S tp pt i).2.1 with
    | none => exact hS i
    | some pc =>
      simp only []
      by_cases e2 : (g_S tp pt ((g_S tp pt i).2.1 + 1)).1 = 0
      · rw [if_pos e2]; exact (show (0 : Nat) < 2 ^ 20 by omega)
      · rw [if_neg e2]; exact hS _
  · rw [if_neg e]; exact hS i
theorem FTl_E {tp : List Nat} {pt : Nat → GR} (hp : FTl pt) : FTl (g_E tp pt) := by
  intro i
  have hT := FTl_T (tp := tp) hp
  unfold g_E
  split
  · exact FTl_lp hT 1000 _ (hT i)
  · exact hT i
theorem FTl_part {tp : List Nat} (ht : tp_ok tp) : ∀ k, FTl (g_part tp k) := by
  intro k
  induction k with
  | zero =>
    intro i
    rw [g_part]
    split
    · exact flt_sm ht (by omega)
    · exact flt_sm ht (by omega)
  | succ k ih =>
    intro i
    have hE := FTl_E (tp := tp) ih
    rw [g_part]
    split
    · split
      · split
        · exact (show (0 : Nat) < 2 ^ 20 by omega)
        · exact ih _
      · split
        · split
          · split
            · exact (show (0 : Nat) < 2 ^ 20 by omega)
            · exact flt_sm ht (by omega)
          · exact hE _
        · split
          · exact (show (0 : Nat) < 2 ^ 20 by omega)
          · exact (show (0 : Nat) < 2 ^ 20 by omega)
    · exact flt_sm ht (by omega)
theorem c_new_lt {tp : List Nat} {nm : NMs} {s : SQ} {i : Nat} (ht : tp_ok tp) : c_new tp nm s i < 2 ^ 20 := by
  unfold c_new; repeat' split
  all_goals first | exact flt_sm ht (by omega) | omega
theorem c_named_sm {tp : List Nat} {nm : NMs} {a b i : Nat} (ht : tp_ok tp) : (c_named tp nm a b i).1 < 2 ^ 20 := by
  unfold c_named; repeat' split
  all_goals first | exact flt_sm ht (by omega) | exact (show (0 : Nat) < 2 ^ 20 by omega)
theorem l_nm_lt {tp : List Nat} {mx j : Nat} (ht : tp_ok tp) : ∀ r t, (l_nm tp mx j r t).1 < 2 ^ 20 := by
  intro r
  induction r with
  | zero =>
    intro t
    rw [l_nm]; repeat' split
    all_goals first | exact flt_sm ht (by omega) | exact (show (0 : Nat) < 2 ^ 20 by omega)
  | succ r ih =>
    intro t
    rw [l_nm]; repeat' split
    all_goals first | exact ih _ | exact flt_sm ht (by omega) | exact (show (0 : Nat) < 2 ^ 20 by omega)
theorem l_sort_lt {tp : List Nat} {i : Nat} {o : PS} (ht : tp_ok tp) : (l_sort tp i o).1 < 2 ^ 20 := by
  unfold l_sort; repeat' split
  all_goals first | exact flt_sm ht (by omega) | exact (show (0 : Nat) < 2 ^ 20 by omega) | exact c_new_lt ht | exact c_named_sm ht
theorem l_col_lt {tp : List Nat} {i : Nat} {o : PS} (ht : tp_ok tp) : (l_col tp i o).1 < 2 ^ 20 := by
  unfold l_col; repeat' split
  all_goals first | exact flt_sm ht (by omega) | exact (show (0 : Nat) < 2 ^ 20 by omega) | exact c_new_lt ht | exact c_named_sm ht
theorem l_says_lt {tp : List Nat} {i : Nat} {o : PS} (ht : tp_ok tp) : (l_says tp i o).1 < 2 ^ 20 := by
  unfold l_says; repeat' split
  all_goals first | exact flt_sm ht (by omega) | exact (show (0 : Nat) < 2 ^ 20 by omega) | exact c_new_lt ht | exact c_named_sm ht
theorem l_rule_lt {tp : List Nat} {i : Nat} {o : PS} (ht : tp_ok tp) : (l_rule tp i o).1 < 2 ^ 20 := by
  unfold l_rule; repeat' split
  all_goals first | exact flt_sm ht (by omega) | exact (show (0 : Nat) < 2 ^ 20 by omega) | exact c_new_lt ht | exact c_named_sm ht
theorem l_walk_lt {tp : List Nat} {i : Nat} {o : PS} (ht : tp_ok tp) : (l_walk tp i o).1 < 2 ^ 20 := by
  unfold l_walk; repeat' split
  all_goals first | exact flt_sm ht (by omega) | exact (show (0 : Nat) < 2 ^ 20 by omega) | exact c_new_lt ht | exact c_named_sm ht | exact l_nm_lt ht _ _
theorem l_gust_lt {tp : List Nat} {i : Nat} {o : PS} (ht : tp_ok tp) : (l_gust tp i o).1 < 2 ^ 20 := by
  unfold l_gust; repeat' split
  all_goals first | exact flt_sm ht (by omega) | exact (show (0 : Nat) < 2 ^ 20 by omega) | exact l_nm_lt ht _ _
theorem l_reads_lt {tp : List Nat} {i : Nat} {o : PS} (ht : tp_ok tp) : (l_reads tp i o).1 < 2 ^ 20 := by
  unfold l_reads; repeat' split
  all_goals first | exact flt_sm ht (by omega) | exact (show (0 : Nat) < 2 ^ 20 by omega) | exact FTl_E (FTl_part ht 5) _
theorem sp_line_lt {tp : List Nat} {i : Nat} {o : PS} (ht : tp_ok tp) : (sp_line tp i o).1 < 2 ^ 20 := by
  unfold sp_line
  split
  · exact l_sort_lt ht
  split
  · exact l_col_lt ht
  split
  · exact l_rule_lt ht
  split
  · exact l_says_lt ht
  split
  · exact l_walk_lt ht
  split
  · exact l_gust_lt ht
  split
  · exact l_reads_lt ht
  exact flt_sm ht (by omega)
theorem sp_cl_lt {tp : List Nat} {r : PR} (ht : tp_ok tp) (h : r.1 < 2 ^ 20) : (sp_cl tp r).1 < 2 ^ 20 := by
  unfold sp_cl
  split
  · split
    · exact (show (0 : Nat) < 2 ^ 20 by omega)
    · exact flt_sm ht (by omega)
  · exact h
theorem sp_sq_lt {tp : List Nat} (ht : tp_ok tp) : ∀ m i o, (sp_sq tp m i o).1 < 2 ^ 20 := by
  intro m
  induction m with
  | zero => intro i o; exact (show (0 : Nat) < 2 ^ 20 by omega)
  | succ m ih =>
    intro i o
    rw [sp_sq_s]
    split
    · exact (show (0 : Nat) < 2 ^ 20 by omega)
    · split
      · exact ih _ _
      · exact sp_cl_lt ht (sp_line_lt ht)
