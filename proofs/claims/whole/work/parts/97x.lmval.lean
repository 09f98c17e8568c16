/-! the law's value, of the model: its codes -/
theorem lv_dv_b {bn : Nat → Int32} : ∀ d (v : Int32), (lv_dv bn d v).1 = bsd bn d := by
  intro d
  induction d with
  | zero => intro v; rfl
  | succ d ih =>
    intro v
    rw [lv_dv, bsd]
    split
    · exact ih _
    · rfl
theorem lv_dv_ext {bn bn' : Nat → Int32} : ∀ d (v : Int32), (∀ j, j ≤ d → bn' j = bn j) → lv_dv bn' d v = lv_dv bn d v := by
  intro d
  induction d with
  | zero => intro v _; rfl
  | succ d ih =>
    intro v h
    rw [lv_dv, lv_dv, h (d + 1) (Nat.le_refl _)]
    split
    · exact ih _ (fun j hj => h j (by omega))
    · rfl
theorem lv_dv_s {bn : Nat → Int32} {d : Nat} {v : Int32} (h : bsd bn d = d) : lv_dv bn d v = (d, v) := by
  cases d with
  | zero => rfl
  | succ d =>
    rw [bsd] at h
    rw [lv_dv]
    by_cases e : bn (d + 1) = 1
    · rw [if_pos e] at h
      have := bsd_le (op := bn) d
      omega
    · rw [if_neg e]
/-- what a part does to its level -/
def PTv (g : Nat → GR) (dp : Nat) : Prop := ∀ (i : Nat) (a b e f : Int32) (bn : Nat → Int32) (L : Nat → LV), (g i).1 = 0 → ∃ bn' L', lm_run (vl4 a b e f) (g i).2.2.2.1 (dp, bn, L) = some ((lv_dv bn dp ((g i).2.2.2.2 a b e f)).1, bn', L') ∧ (∀ j, j ≤ dp → bn' j = bn j) ∧ (∀ j, j ≤ dp → ¬ j = bsd bn dp → L' j = L j) ∧ L' (bsd bn dp) = lv_val (L (bsd bn dp)) (lv_dv bn dp ((g i).2.2.2.2 a b e f)).2
/-- what a row of parts does to its level: from a level that is as it must be, to one of which something holds -/
def LVv (g : Nat → GR) (dp : Nat) (pre : LV → Prop) (rel : LV → LV → Int32 → Prop) : Prop := ∀ (i : Nat) (a b e f : Int32) (bn : Nat → Int32) (L : Nat → LV), (g i).1 = 0 → bsd bn dp = dp → pre (L dp) → ∃ bn' L', lm_run (vl4 a b e f) (g i).2.2.2.1 (dp, bn, L) = some (dp, bn', L') ∧ (∀ j, j ≤ dp → bn' j = bn j) ∧ (∀ j, j < dp → L' j = L j) ∧ rel (L dp) (L' dp) ((g i).2.2.2.2 a b e f)
theorem LVv_lp {sub : Nat → GR} {opf : Nat → Option (Int32 × Nat)} {dp : Nat} {pre : LV → Prop} {rel : LV → LV → Int32 → Prop} (hsub : LVv sub dp pre rel) (step : ∀ (j : Nat) (p : Int32) (c : Nat) (vl : Nat → Int32) (bn : Nat → Int32) (L : Nat → LV) (l0 : LV) (v : Int32), opf j = some (p, c) → rel l0 (L dp) v → ∃ l1, lm_1 vl c (dp, bn, L) = some (dp, bn, uL L dp l1) ∧ pre l1 ∧ ∀ l2 v2, rel l1 l2 v2 → rel l0 l2 (lx_op p v v2)) : LVv (fun i => if (sub i).1 = 0 then g_lp sub opf 1000 (sub i) else g_bad (sub i).1) dp pre rel := by
  intro i a b e f bn L h0 hb hpre
  simp only [] at h0 ⊢
  by_cases g0 : (sub i).1 = 0
  rotate_left
  · rw [if_neg g0] at h0; exact absurd h0 g0
  rw [if_pos g0] at h0 ⊢
  have lp : ∀ (m : Nat) (x : GR), (∃ bn' L', lm_run (vl4 a b e f) x.2.2.2.1 (dp, bn, L) = some (dp, bn', L') ∧ (∀ j, j ≤ dp → bn' j = bn j) ∧ (∀ j, j < dp → L' j = L j) ∧ rel (L dp) (L' dp) (x.2.2.2.2 a b e f)) → (g_lp sub opf m x).1 = 0 → ∃ bn' L', lm_run (vl4 a b e f) (g_lp sub opf m x).2.2.2.1 (dp, bn, L) = some (dp, bn', L') ∧ (∀ j, j ≤ dp → bn' j = bn j) ∧ (∀ j, j < dp → L' j = L j) ∧ rel (L dp) (L' dp) ((g_lp sub opf m x).2.2.2.2 a b e f) := by
    intro m
    induction m with
    | zero => intro x hx _; exact hx
    | succ m ih =>
      intro x hx h1
      rw [g_lp_s] at h1 ⊢
      cases eo : opf x.2.1 with
      | none => exact hx
      | some pc =>
        rw [eo] at h1
        simp only [] at h1 ⊢
        by_cases e2 : (sub (x.2.1 + 1)).1 = 0
        rotate_left
        · rw [if_neg e2] at h1; exact absurd h1 e2
        rw [if_pos e2] at h1 ⊢
        refine ih _ ?_ h1
        obtain ⟨bn1, L1, r1, r2, r3, r4⟩ := hx
        obtain ⟨l1, s1, s2, s3⟩ := step x.2.1 pc.1 pc.2 (vl4 a b e f) bn1 L1 (L dp) _ eo r4
        obtain ⟨bn2, L2, t1, t2, t3, t4⟩ := hsub (x.2.1 + 1) a b e f bn1 (uL L1 dp l1) e2 ((bsd_ext dp r2).trans hb) (by rw [uL_eq]; exact s2)
        refine ⟨bn2, L2, ?_, fun j hj => (t2 j hj).trans (r2 j hj), fun j hj => by rw [t3 j hj, uL_ne (by omega)]; exact r3 j hj, ?_⟩
        · show lm_run (vl4 a b e f) (x.2.2.2.1 ++ pc.2 :: (sub (x.2.1 + 1)).2.2.2.1) (dp, bn, L) = _
          rw [lm_app r1, lm_run, s1]; exact t1
        · rw [uL_eq] at t4
          exact s3 _ _ t4
  exact lp 1000 (sub i) (hsub i a b e f bn L g0 hb hpre) h0
def rlP (l l' : LV) (v : Int32) : Prop := l' = (l.1, l.2.1, l.2.2.1, l.2.2.2.1, l.2.2.2.2.1, l.2.2.2.2.2.1, v, l'.2.2.2.2.2.2.2)
def prP (l : LV) : Prop := l.2.2.2.2.2.2.2 = 0
def prS (l : LV) : Prop := l.2.2.2.2.2.2.2 = 0 ∧ l.2.2.2.2.1 = 0 ∧ l.2.2.2.2.2.1 = 20
def rlS (l l' : LV) (v : Int32) : Prop := l'.1 = l.1 ∧ l'.2.1 = l.2.1 ∧ l'.2.2.1 = l.2.2.1 ∧ l'.2.2.2.1 = l.2.2.2.1 ∧ lv_s l' = v
def prT (l : LV) : Prop := prS l ∧ l.2.2.2.1 = 0
def rlT (l l' : LV) (v : Int32) : Prop := l'.1 = l.1 ∧ l'.2.1 = l.2.1 ∧ lv_t1 l' = v
def prE (l : LV) : Prop := prT l ∧ l.2.1 = 0
def rlE (_ l' : LV) (v : Int32) : Prop := lv_t l' = v
/-- a product -/
theorem LV_P {tp : List Nat} {pt : Nat → GR} {dp : Nat} (h : PTv pt dp) : LVv (g_P tp pt) dp prP rlP := by
  intro i a b e f bn L h0 hb hpre
  unfold g_P at h0 ⊢
  by_cases g0 : (pt i).1 = 0
  rotate_left
  · rw [if_neg g0] at h0; exact absurd h0 g0
  rw [if_pos g0] at h0 ⊢
  have lp : ∀ (m : Nat) (x : GR), (∃ bn' L', lm_run (vl4 a b e f) x.2.2.2.1 (dp, bn, L) = some (dp, bn', L') ∧ (∀ j, j ≤ dp → bn' j = bn j) ∧ (∀ j, j < dp → L' j = L j) ∧ rlP (L dp) (L' dp) (x.2.2.2.2 a b e f)) → (g_lp pt (opM tp) m x).1 = 0 → ∃ bn' L', lm_run (vl4 a b e f) (g_lp pt (opM tp) m x).2.2.2.1 (dp, bn, L) = some (dp, bn', L') ∧ (∀ j, j ≤ dp → bn' j = bn j) ∧ (∀ j, j < dp → L' j = L j) ∧ rlP (L dp) (L' dp) ((g_lp pt (opM tp) m x).2.2.2.2 a b e f) := by
    intro m
    induction m with
    | zero => intro x hx _; exact hx
    | succ m ih =>
      intro x hx h1
      rw [g_lp_s] at h1 ⊢
      cases eo : opM tp x.2.1 with
      | none => exact hx
      | some pc =>
        rw [eo] at h1
        simp only [] at h1 ⊢
        have hpc : pc = (-12, 22) := by
          unfold opM at eo
          split at eo
          · cases eo; rfl
          · cases eo
        subst hpc
        by_cases e2 : (pt (x.2.1 + 1)).1 = 0
        rotate_left
        · rw [if_neg e2] at h1; exact absurd h1 e2
        rw [if_pos e2] at h1 ⊢
        refine ih _ ?_ h1
        obtain ⟨bn1, L1, r1, r2, r3, r4⟩ := hx
        have hb1 : bsd bn1 dp = dp := (bsd_ext dp r2).trans hb
        obtain ⟨bn2, L2, t1, t2, t3, t4⟩ := h (x.2.1 + 1) a b e f bn1 (uL L1 dp ((L1 dp).1, (L1 dp).2.1, (L1 dp).2.2.1, (L1 dp).2.2.2.1, (L1 dp).2.2.2.2.1, (L1 dp).2.2.2.2.2.1, (L1 dp).2.2.2.2.2.2.1, nI 22)) e2
        rw [hb1, lv_dv_s hb1, uL_eq] at t4
        rw [lv_dv_s hb1] at t1
        refine ⟨bn2, L2, ?_, fun j hj => (t2 j hj).trans (r2 j hj), fun j hj => by rw [t3 j (by omega) (by omega), uL_ne (by omega)]; exact r3 j hj, ?_⟩
        · show lm_run (vl4 a b e f) (x.2.2.2.1 ++ 22 :: (pt (x.2.1 + 1)).2.2.2.1) (dp, bn, L) = _
          rw [lm_app r1, lm_run]; exact t1
        · unfold rlP at r4 ⊢
          rw [t4, r4]
          show lv_val _ _ = _
          unfold lv_val
          simp only []
          rw [if_neg (show ¬ nI 22 = 0 by decide)]
          rfl
  refine lp 1000 (pt i) ?_ h0
  obtain ⟨bn2, L2, t1, t2, t3, t4⟩ := h i a b e f bn L g0
  rw [hb, lv_dv_s hb] at t4
  rw [lv_dv_s hb] at t1
  refine ⟨bn2, L2, t1, t2, fun j hj => t3 j (by omega) (by omega), ?_⟩
  unfold rlP
  rw [t4]
  unfold lv_val
  simp only []
  rw [if_pos (show (L dp).2.2.2.2.2.2.2 = 0 from hpre)]
theorem lm_20 {vl : Nat → Int32} {c : Nat} {t : LSt} (h : c = 20 ∨ c = 21) : lm_1 vl c t = some (t.1, t.2.1, uL t.2.2 t.1 ((t.2.2 t.1).1, (t.2.2 t.1).2.1, (t.2.2 t.1).2.2.1, (t.2.2 t.1).2.2.2.1, lv_s (t.2.2 t.1), nI c, (t.2.2 t.1).2.2.2.2.2.2.1, 0)) := by
  unfold lm_1; rw [if_neg (by omega), if_pos h]
theorem lm_24 {vl : Nat → Int32} {c : Nat} {t : LSt} (h : c = 24 ∨ c = 25) : lm_1 vl c t = some (t.1, t.2.1, uL t.2.2 t.1 ((t.2.2 t.1).1, (t.2.2 t.1).2.1, lv_s (t.2.2 t.1), nI c, 0, 20, (t.2.2 t.1).2.2.2.2.2.2.1, 0)) := by
  unfold lm_1; rw [if_neg (by omega), if_neg (by omega), if_neg (by omega), if_pos h]
theorem lm_26 {vl : Nat → Int32} {c : Nat} {t : LSt} (h : c = 26 ∨ c = 27) : lm_1 vl c t = some (t.1, t.2.1, uL t.2.2 t.1 (lv_t (t.2.2 t.1), nI c, (t.2.2 t.1).2.2.1, 0, 0, 20, (t.2.2 t.1).2.2.2.2.2.2.1, 0)) := by
  unfold lm_1; rw [if_neg (by omega), if_neg (by omega), if_neg (by omega), if_neg (by omega), if_pos h]
/-- a sum -/
theorem LV_S {tp : List Nat} {pt : Nat → GR} {dp : Nat} (h : PTv pt dp) : LVv (g_S tp pt) dp prS rlS := by
  have hP : LVv (g_P tp pt) dp prP rlP := LV_P h
  have hP2 : ∀ (i : Nat) (a b e f : Int32) (bn : Nat → Int32) (L : Nat → LV), (g_P tp pt i).1 = 0 → bsd bn dp = dp → prP (L dp) → ∃ bn' L', lm_run (vl4 a b e f) (g_P tp pt i).2.2.2.1 (dp, bn, L) = some (dp, bn', L') ∧ (∀ j, j ≤ dp → bn' j = bn j) ∧ (∀ j, j < dp → L' j = L j) ∧ rlP (L dp) (L' dp) ((g_P tp pt i).2.2.2.2 a b e f) := hP
  intro i a b e f bn L h0 hb hpre
  unfold g_S at h0 ⊢
  by_cases g0 : (g_P tp pt i).1 = 0
  rotate_left
  · rw [if_neg g0] at h0; exact absurd h0 g0
  rw [if_pos g0] at h0 ⊢
  have lp : ∀ (m : Nat) (x : GR), (∃ bn' L', lm_run (vl4 a b e f) x.2.2.2.1 (dp, bn, L) = some (dp, bn', L') ∧ (∀ j, j ≤ dp → bn' j = bn j) ∧ (∀ j, j < dp → L' j = L j) ∧ rlS (L dp) (L' dp) (x.2.2.2.2 a b e f)) → (g_lp (g_P tp pt) (opS tp) m x).1 = 0 → ∃ bn' L', lm_run (vl4 a b e f) (g_lp (g_P tp pt) (opS tp) m x).2.2.2.1 (dp, bn, L) = some (dp, bn', L') ∧ (∀ j, j ≤ dp → bn' j = bn j) ∧ (∀ j, j < dp → L' j = L j) ∧ rlS (L dp) (L' dp) ((g_lp (g_P tp pt) (opS tp) m x).2.2.2.2 a b e f) := by
    intro m
    induction m with
    | zero => intro x hx _; exact hx
    | succ m ih =>
      intro x hx h1
      rw [g_lp_s] at h1 ⊢
      cases eo : opS tp x.2.1 with
      | none => exact hx
      | some pc =>
        rw [eo] at h1
        simp only [] at h1 ⊢
        have hpc : (pc = (-10, 20) ∨ pc = (-11, 21)) := by
          unfold opS at eo
          split at eo
          · cases eo; exact Or.inl rfl
          · split at eo
            · cases eo; exact Or.inr rfl
            · cases eo
        by_cases e2 : (g_P tp pt (x.2.1 + 1)).1 = 0
        rotate_left
        · rw [if_neg e2] at h1; exact absurd h1 e2
        rw [if_pos e2] at h1 ⊢
        refine ih _ ?_ h1
        obtain ⟨bn1, L1, r1, r2, r3, r4⟩ := hx
        have hb1 : bsd bn1 dp = dp := (bsd_ext dp r2).trans hb
        obtain ⟨bn2, L2, t1, t2, t3, t4⟩ := hP2 (x.2.1 + 1) a b e f bn1 (uL L1 dp ((L1 dp).1, (L1 dp).2.1, (L1 dp).2.2.1, (L1 dp).2.2.2.1, lv_s (L1 dp), nI pc.2, (L1 dp).2.2.2.2.2.2.1, 0)) e2 hb1 (by rw [uL_eq]; exact rfl)
        rw [uL_eq] at t4
        refine ⟨bn2, L2, ?_, fun j hj => (t2 j hj).trans (r2 j hj), fun j hj => by rw [t3 j hj, uL_ne (by omega)]; exact r3 j hj, ?_⟩
        · show lm_run (vl4 a b e f) (x.2.2.2.1 ++ pc.2 :: (g_P tp pt (x.2.1 + 1)).2.2.2.1) (dp, bn, L) = _
          rw [lm_app r1, lm_run, lm_20 (by rcases hpc with h | h <;> rw [h] <;> omega)]; exact t1
        · obtain ⟨u1, u2, u3, u4, u5⟩ := r4
          unfold rlP at t4
          rw [t4]
          refine ⟨u1, u2, u3, u4, ?_⟩
          show lv_s _ = lx_op pc.1 (x.2.2.2.2 a b e f) ((g_P tp pt (x.2.1 + 1)).2.2.2.2 a b e f)
          rw [← u5]
          rcases hpc with h | h <;> rw [h] <;> rfl
  refine lp 1000 (g_P tp pt i) ?_ h0
  obtain ⟨bn2, L2, t1, t2, t3, t4⟩ := hP2 i a b e f bn L g0 hb hpre.1
  refine ⟨bn2, L2, t1, t2, t3, ?_⟩
  unfold rlP at t4
  rw [t4]
  refine ⟨rfl, rfl, rfl, rfl, ?_⟩
  unfold lv_s
  simp only []
  rw [hpre.2.2, if_neg (by decide), hpre.2.1, Int32.zero_add]
