/-! the law's value, of the model: a test, tests, a part -/
theorem LV_T {tp : List Nat} {pt : Nat → GR} {dp : Nat} (h : PTv pt dp) : LVv (g_T tp pt) dp prT rlT := by
  have hS : ∀ (i : Nat) (a b e f : Int32) (bn : Nat → Int32) (L : Nat → LV), (g_S tp pt i).1 = 0 → bsd bn dp = dp → prS (L dp) → ∃ bn' L', lm_run (vl4 a b e f) (g_S tp pt i).2.2.2.1 (dp, bn, L) = some (dp, bn', L') ∧ (∀ j, j ≤ dp → bn' j = bn j) ∧ (∀ j, j < dp → L' j = L j) ∧ rlS (L dp) (L' dp) ((g_S tp pt i).2.2.2.2 a b e f) := LV_S h
  intro i a b e f bn L h0 hb hpre
  unfold g_T at h0 ⊢
  by_cases g0 : (g_S tp pt i).1 = 0
  rotate_left
  · rw [if_neg g0] at h0; exact absurd h0 g0
  rw [if_pos g0] at h0 ⊢
  obtain ⟨bn1, L1, r1, r2, r3, r4⟩ := hS i a b e f bn L g0 hb hpre.1
  obtain ⟨u1, u2, u3, u4, u5⟩ := r4
  cases eo : opT tp (g_S tp pt i).2.1 with
  | none =>
    refine ⟨bn1, L1, r1, r2, r3, u1, u2, ?_⟩
    unfold lv_t1
    rw [u4, hpre.2, if_neg (by decide), if_neg (by decide)]
    exact u5
  | some pc =>
    rw [eo] at h0
    simp only [] at h0 ⊢
    have hpc : (pc = (-8, 24) ∨ pc = (-9, 25)) := by
      unfold opT at eo
      split at eo
      · cases eo; exact Or.inl rfl
      · split at eo
        · cases eo; exact Or.inr rfl
        · cases eo
    by_cases e2 : (g_S tp pt ((g_S tp pt i).2.1 + 1)).1 = 0
    rotate_left
    · rw [if_neg e2] at h0; exact absurd h0 e2
    rw [if_pos e2] at h0 ⊢
    have hb1 : bsd bn1 dp = dp := (bsd_ext dp r2).trans hb
    obtain ⟨bn2, L2, t1, t2, t3, t4⟩ := hS ((g_S tp pt i).2.1 + 1) a b e f bn1 (uL L1 dp ((L1 dp).1, (L1 dp).2.1, lv_s (L1 dp), nI pc.2, 0, 20, (L1 dp).2.2.2.2.2.2.1, 0)) e2 hb1 (by rw [uL_eq]; exact ⟨rfl, rfl, rfl⟩)
    rw [uL_eq] at t4
    obtain ⟨w1, w2, w3, w4, w5⟩ := t4
    refine ⟨bn2, L2, ?_, fun j hj => (t2 j hj).trans (r2 j hj), fun j hj => by rw [t3 j hj, uL_ne (by omega)]; exact r3 j hj, w1.trans u1, w2.trans u2, ?_⟩
    · show lm_run (vl4 a b e f) ((g_S tp pt i).2.2.2.1 ++ pc.2 :: (g_S tp pt ((g_S tp pt i).2.1 + 1)).2.2.2.1) (dp, bn, L) = _
      rw [lm_app r1, lm_run, lm_24 (by rcases hpc with h | h <;> rw [h] <;> omega)]; exact t1
    · show lv_t1 _ = lx_op pc.1 ((g_S tp pt i).2.2.2.2 a b e f) ((g_S tp pt ((g_S tp pt i).2.1 + 1)).2.2.2.2 a b e f)
      unfold lv_t1
      rw [w3, w4, w5]
      simp only []
      rw [u5]
      rcases hpc with h | h <;> rw [h] <;> rfl
/-- tests -/
theorem LV_E {tp : List Nat} {pt : Nat → GR} {dp : Nat} (h : PTv pt dp) : LVv (g_E tp pt) dp prE rlE := by
  have hT : ∀ (i : Nat) (a b e f : Int32) (bn : Nat → Int32) (L : Nat → LV), (g_T tp pt i).1 = 0 → bsd bn dp = dp → prT (L dp) → ∃ bn' L', lm_run (vl4 a b e f) (g_T tp pt i).2.2.2.1 (dp, bn, L) = some (dp, bn', L') ∧ (∀ j, j ≤ dp → bn' j = bn j) ∧ (∀ j, j < dp → L' j = L j) ∧ rlT (L dp) (L' dp) ((g_T tp pt i).2.2.2.2 a b e f) := LV_T h
  intro i a b e f bn L h0 hb hpre
  unfold g_E at h0 ⊢
  by_cases g0 : (g_T tp pt i).1 = 0
  rotate_left
  · rw [if_neg g0] at h0; exact absurd h0 g0
  rw [if_pos g0] at h0 ⊢
  have lp : ∀ (m : Nat) (x : GR), (∃ bn' L', lm_run (vl4 a b e f) x.2.2.2.1 (dp, bn, L) = some (dp, bn', L') ∧ (∀ j, j ≤ dp → bn' j = bn j) ∧ (∀ j, j < dp → L' j = L j) ∧ rlE (L dp) (L' dp) (x.2.2.2.2 a b e f)) → (g_lp (g_T tp pt) (opE tp) m x).1 = 0 → ∃ bn' L', lm_run (vl4 a b e f) (g_lp (g_T tp pt) (opE tp) m x).2.2.2.1 (dp, bn, L) = some (dp, bn', L') ∧ (∀ j, j ≤ dp → bn' j = bn j) ∧ (∀ j, j < dp → L' j = L j) ∧ rlE (L dp) (L' dp) ((g_lp (g_T tp pt) (opE tp) m x).2.2.2.2 a b e f) := by
    intro m
    induction m with
    | zero => intro x hx _; exact hx
    | succ m ih =>
      intro x hx h1
      rw [g_lp_s] at h1 ⊢
      cases eo : opE tp x.2.1 with
      | none => exact hx
      | some pc =>
        rw [eo] at h1
        simp only [] at h1 ⊢
        have hpc : (pc = (-6, 26) ∨ pc = (-7, 27)) := by
          unfold opE at eo
          split at eo
          · cases eo; exact Or.inl rfl
          · split at eo
            · cases eo; exact Or.inr rfl
            · cases eo
        by_cases e2 : (g_T tp pt (x.2.1 + 1)).1 = 0
        rotate_left
        · rw [if_neg e2] at h1; exact absurd h1 e2
        rw [if_pos e2] at h1 ⊢
        refine ih _ ?_ h1
        obtain ⟨bn1, L1, r1, r2, r3, r4⟩ := hx
        have hb1 : bsd bn1 dp = dp := (bsd_ext dp r2).trans hb
        obtain ⟨bn2, L2, t1, t2, t3, t4⟩ := hT (x.2.1 + 1) a b e f bn1 (uL L1 dp (lv_t (L1 dp), nI pc.2, (L1 dp).2.2.1, 0, 0, 20, (L1 dp).2.2.2.2.2.2.1, 0)) e2 hb1 (by rw [uL_eq]; exact ⟨⟨rfl, rfl, rfl⟩, rfl⟩)
        rw [uL_eq] at t4
        refine ⟨bn2, L2, ?_, fun j hj => (t2 j hj).trans (r2 j hj), fun j hj => by rw [t3 j hj, uL_ne (by omega)]; exact r3 j hj, ?_⟩
        · show lm_run (vl4 a b e f) (x.2.2.2.1 ++ pc.2 :: (g_T tp pt (x.2.1 + 1)).2.2.2.1) (dp, bn, L) = _
          rw [lm_app r1, lm_run, lm_26 (by rcases hpc with h | h <;> rw [h] <;> omega)]; exact t1
        · obtain ⟨w1, w2, w3⟩ := t4
          show lv_t _ = lx_op pc.1 (x.2.2.2.2 a b e f) ((g_T tp pt (x.2.1 + 1)).2.2.2.2 a b e f)
          unfold lv_t
          rw [w1, w2, w3]
          simp only []
          rw [show lv_t (L1 dp) = x.2.2.2.2 a b e f from r4]
          rcases hpc with h | h <;> rw [h] <;> rfl
  refine lp 1000 (g_T tp pt i) ?_ h0
  obtain ⟨bn2, L2, t1, t2, t3, w1, w2, w3⟩ := hT i a b e f bn L g0 hb hpre.1
  refine ⟨bn2, L2, t1, t2, t3, ?_⟩
  show lv_t _ = _
  unfold lv_t
  rw [w2, hpre.2, if_neg (by decide), if_neg (by decide)]
  exact w3
theorem lm_28 {vl : Nat → Int32} {c : Nat} {t : LSt} (h : c = 28 ∨ c = 30) (h6 : t.1 < 6) : lm_1 vl c t = some (t.1 + 1, uL t.2.1 (t.1 + 1) (if c = 30 then 1 else 0), uL t.2.2 (t.1 + 1) (lv_opens (t.2.2 (t.1 + 1)))) := by
  unfold lm_1; rw [if_pos h, if_pos h6]
theorem lm_29 {vl : Nat → Int32} {t : LSt} (h6 : 0 < t.1) : lm_1 vl 29 t = some (lv_put (t.1 - 1, t.2.1, uL t.2.2 t.1 (lv_tests (t.2.2 t.1))) (lv_t (t.2.2 t.1))) := by
  unfold lm_1; rw [if_neg (by omega), if_neg (by omega), if_neg (by omega), if_neg (by omega), if_neg (by omega), if_pos rfl, if_pos h6]
theorem lm_lf {vl : Nat → Int32} {c : Nat} {t : LSt} (h : 100 ≤ c) : lm_1 vl c t = some (lv_put t (nI (c - 100))) := by
  unfold lm_1; rw [if_neg (by omega), if_neg (by omega), if_neg (by omega), if_neg (by omega), if_neg (by omega), if_neg (by omega), if_pos h]
theorem lm_fc {vl : Nat → Int32} {c : Nat} {t : LSt} (h : 1 ≤ c ∧ c ≤ 4) : lm_1 vl c t = some (lv_put t (vl c)) := by
  unfold lm_1; rw [if_neg (by omega), if_neg (by omega), if_neg (by omega), if_neg (by omega), if_neg (by omega), if_neg (by omega), if_neg (by omega), if_pos h]
theorem lv_put_f {dp : Nat} {bn bn' : Nat → Int32} {L L' : Nat → LV} {v : Int32} (hb : ∀ j, j ≤ dp → bn' j = bn j) (hL : ∀ j, j ≤ dp → L' j = L j) : ∃ bn2 L2, lv_put (dp, bn', L') v = ((lv_dv bn dp v).1, bn2, L2) ∧ (∀ j, j ≤ dp → bn2 j = bn j) ∧ (∀ j, j ≤ dp → ¬ j = bsd bn dp → L2 j = L j) ∧ L2 (bsd bn dp) = lv_val (L (bsd bn dp)) (lv_dv bn dp v).2 := by
  have hle := bsd_le (op := bn) dp
  refine ⟨_, _, by unfold lv_put; simp only []; rw [lv_dv_ext dp v hb], hb, ?_, ?_⟩
  · intro j hj hn
    rw [lv_dv_b, uL_ne hn]; exact hL j hj
  · rw [lv_dv_b, uL_eq, hL _ hle]
/-- a part -/
theorem PTv_part {tp : List Nat} : ∀ (k dp : Nat), dp + k ≤ 5 → PTv (g_part tp k) dp := by
  intro k
  induction k with
  | zero =>
    intro dp _ i a b e f bn L h0
    exfalso
    rw [g_part] at h0
    split at h0
    · exact absurd h0 (by unfold g_bad flt; simp only []; omega)
    · exact absurd h0 (by unfold g_bad flt; simp only []; omega)
  | succ k ih =>
    intro dp hd i a b e f bn L h0
    have hle := bsd_le (op := bn) dp
    rw [g_part] at h0 ⊢
    by_cases es : g_st tp i = true
    rotate_left
    · rw [if_neg es] at h0; exact absurd h0 (by unfold g_bad flt; simp only []; omega)
    rw [if_pos es] at h0 ⊢
    by_cases e19 : wdB tp i 19 = true
    · rw [if_pos e19] at h0 ⊢
      by_cases e1 : (g_part tp k (i + 1)).1 = 0
      rotate_left
      · rw [if_neg e1] at h0; exact absurd h0 e1
      rw [if_pos e1] at h0 ⊢
      obtain ⟨bn2, L2, t1, t2, t3, t4⟩ := ih (dp + 1) (by omega) (i + 1) a b e f (uL bn (dp + 1) 1) (uL L (dp + 1) (lv_opens (L (dp + 1)))) e1
      have hbx : ∀ j, j ≤ dp → uL bn (dp + 1) (1 : Int32) j = bn j := fun j hj => uL_ne (by omega)
      have hbs : bsd (uL bn (dp + 1) (1 : Int32)) (dp + 1) = bsd bn dp := by rw [bsd, uL_eq, if_pos rfl]; exact bsd_ext dp hbx
      have hdv : ∀ v : Int32, lv_dv (uL bn (dp + 1) (1 : Int32)) (dp + 1) v = lv_dv bn dp (if v = 0 then 1 else 0) := by
        intro v; rw [lv_dv, uL_eq, if_pos rfl]; exact lv_dv_ext dp _ hbx
      rw [hdv] at t1 t4
      rw [hbs] at t3 t4
      refine ⟨bn2, L2, ?_, fun j hj => (t2 j (by omega)).trans (hbx j hj), fun j hj hn => by rw [t3 j (by omega) hn, uL_ne (by omega)], ?_⟩
      · show lm_run (vl4 a b e f) (30 :: (g_part tp k (i + 1)).2.2.2.1) (dp, bn, L) = _
        rw [lm_run, lm_28 (Or.inr rfl) (by show dp < 6; omega)]
        exact t1
      · rw [t4, uL_ne (by omega)]
    rw [if_neg e19] at h0 ⊢
    by_cases e40 : snB tp i 40 = true
    · rw [if_pos e40] at h0 ⊢
      by_cases e1 : (g_E tp (g_part tp k) (i + 1)).1 = 0
      rotate_left
      · rw [if_neg e1] at h0; exact absurd h0 e1
      rw [if_pos e1] at h0 ⊢
      by_cases e41 : snB tp (g_E tp (g_part tp k) (i + 1)).2.1 41 = true
      rotate_left
      · rw [if_neg e41] at h0; exact absurd h0 (by unfold g_bad flt; simp only []; omega)
      rw [if_pos e41] at h0 ⊢
      have hE := LV_E (tp := tp) (ih (dp + 1) (by omega))
      obtain ⟨bn2, L2, t1, t2, t3, t4⟩ := hE (i + 1) a b e f (uL bn (dp + 1) 0) (uL L (dp + 1) (lv_opens (L (dp + 1)))) e1 (by rw [bsd, uL_eq, if_neg (by decide)]) (by rw [uL_eq]; exact ⟨⟨⟨rfl, rfl, rfl⟩, rfl⟩, rfl⟩)
      obtain ⟨bn3, L3, s1, s2, s3, s4⟩ := lv_put_f (dp := dp) (bn := bn) (bn' := bn2) (L := L) (L' := uL L2 (dp + 1) (lv_tests (L2 (dp + 1)))) (v := (g_E tp (g_part tp k) (i + 1)).2.2.2.2 a b e f) (fun j hj => by rw [t2 j (by omega), uL_ne (by omega)]) (fun j hj => by rw [uL_ne (by omega), t3 j (by omega), uL_ne (by omega)])
      refine ⟨bn3, L3, ?_, s2, s3, s4⟩
      show lm_run (vl4 a b e f) (28 :: ((g_E tp (g_part tp k) (i + 1)).2.2.2.1 ++ [29])) (dp, bn, L) = _
      rw [lm_run, lm_28 (Or.inl rfl) (by show dp < 6; omega)]
      show lm_run (vl4 a b e f) ((g_E tp (g_part tp k) (i + 1)).2.2.2.1 ++ [29]) (dp + 1, uL bn (dp + 1) 0, uL L (dp + 1) (lv_opens (L (dp + 1)))) = _
      rw [lm_app t1, lm_run, lm_29 (by show 0 < dp + 1; omega)]
      show some (lv_put (dp, bn2, uL L2 (dp + 1) (lv_tests (L2 (dp + 1)))) (lv_t (L2 (dp + 1)))) = _
      rw [show lv_t (L2 (dp + 1)) = _ from t4, s1]
    rw [if_neg e40] at h0 ⊢
    by_cases ef : g_fc tp i = 0
    · rw [if_pos ef] at h0 ⊢
      obtain ⟨bn3, L3, s1, s2, s3, s4⟩ := lv_put_f (dp := dp) (bn := bn) (bn' := bn) (L := L) (L' := L) (v := nI (VL tp i)) (fun _ _ => rfl) (fun _ _ => rfl)
      refine ⟨bn3, L3, ?_, s2, s3, s4⟩
      show lm_run (vl4 a b e f) [100 + VL tp i] (dp, bn, L) = _
      rw [lm_run, lm_lf (by omega), show 100 + VL tp i - 100 = VL tp i by omega, s1]
      rfl
    · rw [if_neg ef] at h0 ⊢
      obtain ⟨bn3, L3, s1, s2, s3, s4⟩ := lv_put_f (dp := dp) (bn := bn) (bn' := bn) (L := L) (L' := L) (v := g_pj (g_fc tp i) a b e f) (fun _ _ => rfl) (fun _ _ => rfl)
      refine ⟨bn3, L3, ?_, s2, s3, s4⟩
      show lm_run (vl4 a b e f) [g_fc tp i] (dp, bn, L) = _
      have hf : g_fc tp i ≤ 4 := by unfold g_fc; repeat' split
                                    all_goals omega
      rw [lm_run, lm_fc (by omega), show vl4 a b e f (g_fc tp i) = g_pj (g_fc tp i) a b e f from rfl, s1]
      rfl
/-- the value of the whole law -/
theorem lm_E {tp : List Nat} {i : Nat} {a b e f : Int32} {bn : Nat → Int32} {L : Nat → LV} (h : (g_E tp (g_part tp 5) i).1 = 0) : ∃ bn' L', lm_run (vl4 a b e f) (g_E tp (g_part tp 5) i).2.2.2.1 (0, bn, uL L 0 (lv_opens (L 0))) = some (0, bn', L') ∧ lv_t (L' 0) = (g_E tp (g_part tp 5) i).2.2.2.2 a b e f := by
  obtain ⟨bn2, L2, t1, _, _, t4⟩ := LV_E (tp := tp) (PTv_part (tp := tp) 5 0 (by omega)) i a b e f bn (uL L 0 (lv_opens (L 0))) h rfl (by rw [uL_eq]; exact ⟨⟨⟨rfl, rfl, rfl⟩, rfl⟩, rfl⟩)
  exact ⟨bn2, L2, t1, t4⟩
