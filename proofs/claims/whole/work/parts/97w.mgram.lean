/-! the law's reader of the model: its grammar -/
def GLn (g : Nat → GR) : Prop := ∀ i, (g i).1 = 0 → i < (g i).2.1 ∧ i + (g i).2.2.2.1.length = (g i).2.1
theorem GLn_lp {sub : Nat → GR} {op : Nat → Option (Int32 × Nat)} {i : Nat} (hs : GLn sub) : ∀ m x, (i < x.2.1 ∧ i + x.2.2.2.1.length = x.2.1) → (g_lp sub op m x).1 = 0 → i < (g_lp sub op m x).2.1 ∧ i + (g_lp sub op m x).2.2.2.1.length = (g_lp sub op m x).2.1 := by
  intro m
  induction m with
  | zero => intro x hx _; exact hx
  | succ m ih =>
    intro x hx h0
    rw [g_lp_s] at h0 ⊢
    cases e : op x.2.1 with
    | none => exact hx
    | some pc =>
      rw [e] at h0
      simp only [] at h0 ⊢
      by_cases e2 : (sub (x.2.1 + 1)).1 = 0
      · rw [if_pos e2] at h0 ⊢
        obtain ⟨a1, a2⟩ := hs _ e2
        refine ih _ ⟨?_, ?_⟩ h0
        · show i < (sub (x.2.1 + 1)).2.1; omega
        · show i + (x.2.2.2.1 ++ pc.2 :: (sub (x.2.1 + 1)).2.2.2.1).length = (sub (x.2.1 + 1)).2.1
          rw [List.length_append, List.length_cons]; omega
      · rw [if_neg e2] at h0; exact absurd h0 e2
theorem GLn_P {tp : List Nat} {pt : Nat → GR} (hp : GLn pt) : GLn (g_P tp pt) := by
  intro i h0
  unfold g_P at h0 ⊢
  by_cases e : (pt i).1 = 0
  · rw [if_pos e] at h0 ⊢; exact GLn_lp hp 1000 _ (hp i e) h0
  · rw [if_neg e] at h0; exact absurd h0 e
theorem GLn_S {tp : List Nat} {pt : Nat → GR} (hp : GLn pt) : GLn (g_S tp pt) := by
  intro i h0
  have hP := GLn_P (tp := tp) hp
  unfold g_S at h0 ⊢
  by_cases e : (g_P tp pt i).1 = 0
  · rw [if_pos e] at h0 ⊢; exact GLn_lp hP 1000 _ (hP i e) h0
  · rw [if_neg e] at h0; exact absurd h0 e
theorem GLn_T {tp : List Nat} {pt : Nat → GR} (hp : GLn pt) : GLn (g_T tp pt) := by
  intro i h0
  have hS := GLn_S (tp := tp) hp
  unfold g_T at h0 ⊢
  by_cases e : (g_S tp pt i).1 = 0
  · rw [if_pos e] at h0 ⊢
    obtain ⟨b1, b2⟩ := hS i e
    cases eo : opT tp (g_S tp pt i).2.1 with
    | none => exact ⟨b1, b2⟩
    | some pc =>
      rw [eo] at h0
      simp only [] at h0 ⊢
      by_cases e2 : (g_S tp pt ((g_S tp pt i).2.1 + 1)).1 = 0
      · obtain ⟨a1, a2⟩ := hS _ e2
        rw [if_pos e2]
        refine ⟨?_, ?_⟩
        · show i < (g_S tp pt ((g_S tp pt i).2.1 + 1)).2.1; omega
        · show i + ((g_S tp pt i).2.2.2.1 ++ pc.2 :: (g_S tp pt ((g_S tp pt i).2.1 + 1)).2.2.2.1).length = (g_S tp pt ((g_S tp pt i).2.1 + 1)).2.1
          rw [List.length_append, List.length_cons]; omega
      · rw [if_neg e2] at h0; exact absurd h0 e2
  · rw [if_neg e] at h0; exact absurd h0 e
theorem GLn_E {tp : List Nat} {pt : Nat → GR} (hp : GLn pt) : GLn (g_E tp pt) := by
  intro i h0
  have hT := GLn_T (tp := tp) hp
  unfold g_E at h0 ⊢
  by_cases e : (g_T tp pt i).1 = 0
  · rw [if_pos e] at h0 ⊢; exact GLn_lp hT 1000 _ (hT i e) h0
  · rw [if_neg e] at h0; exact absurd h0 e
theorem GLn_part {tp : List Nat} : ∀ k, GLn (g_part tp k) := by
  intro k
  induction k with
  | zero =>
    intro i h0
    rw [g_part] at h0
    split at h0
    · exact absurd h0 (flt_ne (by omega))
    · exact absurd h0 (flt_ne (by omega))
  | succ k ih =>
    intro i h0
    rw [g_part] at h0 ⊢
    by_cases y : g_st tp i = true
    · rw [if_pos y] at h0 ⊢
      by_cases e1 : wdB tp i 19 = true
      · rw [if_pos e1] at h0 ⊢
        by_cases e : (g_part tp k (i + 1)).1 = 0
        · obtain ⟨a1, a2⟩ := ih _ e
          rw [if_pos e]
          refine ⟨?_, ?_⟩
          · show i < (g_part tp k (i + 1)).2.1; omega
          · show i + (30 :: (g_part tp k (i + 1)).2.2.2.1).length = (g_part tp k (i + 1)).2.1
            rw [List.length_cons]; omega
        · rw [if_neg e] at h0; exact absurd h0 e
      rw [if_neg e1] at h0 ⊢
      by_cases e2 : snB tp i 40 = true
      · rw [if_pos e2] at h0 ⊢
        by_cases e : (g_E tp (g_part tp k) (i + 1)).1 = 0
        · rw [if_pos e] at h0 ⊢
          by_cases e3 : snB tp (g_E tp (g_part tp k) (i + 1)).2.1 41 = true
          · obtain ⟨a1, a2⟩ := GLn_E (tp := tp) ih _ e
            rw [if_pos e3]
            refine ⟨?_, ?_⟩
            · show i < (g_E tp (g_part tp k) (i + 1)).2.1 + 1; omega
            · show i + (28 :: ((g_E tp (g_part tp k) (i + 1)).2.2.2.1 ++ [29])).length = (g_E tp (g_part tp k) (i + 1)).2.1 + 1
              rw [List.length_cons, List.length_append, List.length_singleton]; omega
          · rw [if_neg e3] at h0; exact absurd h0 (flt_ne (by omega))
        · rw [if_neg e] at h0; exact absurd h0 e
      rw [if_neg e2]
      by_cases e3 : g_fc tp i = 0
      · rw [if_pos e3]; exact ⟨Nat.lt_succ_self i, rfl⟩
      · rw [if_neg e3]; exact ⟨Nat.lt_succ_self i, rfl⟩
    · rw [if_neg y] at h0; exact absurd h0 (flt_ne (by omega))
theorem bsd_ext {op op' : Nat → Int32} : ∀ d, (∀ j, j ≤ d → op' j = op j) → bsd op' d = bsd op d := by
  intro d
  induction d with
  | zero => intro _; rfl
  | succ d ih =>
    intro h
    rw [bsd, bsd, h (d + 1) (Nat.le_refl _), ih (fun j hj => h j (by omega))]
def MP (fx : List Value → mm_H → Option (List Value × mm_H)) (z : Nat) (X Y : Nat → mm_C) (mE : pm_E) (mB : pm_B) (mS : pm_S) (mR : pm_R) (mW : pm_W) (mV0 : pm_V) (mQ0 : pm_Q) (tp : List Nat) (dep : Nat) (Q : Option Value → mm_H → Prop) (dp : Nat) (g : Nat → GR) (pre : (Nat → Int32) → Prop) (ag : Nat) (post : Nat → (Nat → Int32) → Prop) : Prop :=
  ∀ (i : Nat) (cs : List Nat) (op cm : Nat → Int32), bsd op dp = dp → pre cm → ((g i).1 = 0 → ∀ op' cm', (∀ j, j ≤ dp → op' j = op j) → (∀ j, j < ag → cm' j = cm j) → post (g i).2.1 cm' → WR fx z X Y mE mB mS mR mW mV0 mQ0 tp dep Q dp 0 (g i).2.1 (cs ++ (g i).2.2.2.1) op' cm') → (¬ (g i).1 = 0 → BR0 fx z X Y mE mB mS mR mW mV0 mQ0 tp dep Q (g i).1) → WR fx z X Y mE mB mS mR mW mV0 mQ0 tp dep Q dp 1 i cs op cm
section GG
variable {fx : List Value → mm_H → Option (List Value × mm_H)} {z : Nat} {X Y : Nat → mm_C} {mV : pm_V} {mT : pm_T} {mQ : pm_Q} {mO : pm_O} {mE : pm_E} {mB : pm_B} {mS : pm_S} {mR : pm_R} {mW : pm_W} {m_thrown : Int32} {m_given : Int32} {m_fresh : Int64} {m_code : Int32} {m_taped : Int32} {m_tape : List Int32} {m_size : Int32} {m_place : Int32} {m_begin : Int32} {m_token : Int32} {m_word : Int64} {m_told : Int32} {m_wrong : Int32} {m_square : List Int32} {m_sortName : List Int64} {m_colourName : List Int64} {m_walkerName : List Int64} {m_sortOf : List Int32} {m_rules : List Int32} {m_kind : List Int32} {m_colour : List Int32} {m_atTold : List Int32} {m_goesMany : List Int32} {m_goes : List Int32} {m_gusts : List Int32} {m_lineFrom : List Int32} {m_lineTo : List Int32} {m_codes : List Int32} {m_opened : List Int32} {m_compared : List Int32} {m_kept : List Int32} {m_keptBy : List Int32} {m_ahead : List Int32} {m_against : List Int32} {m_sum : List Int32} {m_sumBy : List Int32} {m_term : List Int32} {m_termBy : List Int32} {m_byNot : List Int32} {m_valueOf : List Int32} {m_lines : List Int32} {m_lineWhat : List Int32} {m_lineA : List Int32} {m_lineB : List Int32} {m_wishes : List Int32} {m_wishOf : List Int32} {m_seens : List Int32} {m_seenAt : List Int32} {m_seenIn : List Int32} {m_seenThere : List Int32} {m_s : List Int32} {m_aside : List Int32} {m_before : List Int32} {m_marked : List Int32} {m_undone : List Int32} {m_isLaid : List Int32} {m_done : Int32} {m_gustNow : Int32} {m_shown : List Int32} {m_shownMany : Int32} {m_from7 : List Int32} {m_long7 : List Int32} {m_sentences : Int32} {m_text7 : List Int32} {m_textMany : Int32} {m_waysOf : List Int32} {m_rowOf : List Int32} {m_row : List Int32} {m_bestRow : List Int32} {m_leastSteps : Int32} {m_steps10 : List Int32} {m_placeIn : List Int32} {m_g : Int64}
variable {Q : Option Value → mm_H → Prop} {tp : List Nat} {dp dep : Nat} {mV0 : pm_V} {mQ0 : pm_Q}
theorem MP_lp {sub : Nat → GR} {opf : Nat → Option (Int32 × Nat)} {pre : (Nat → Int32) → Prop} {ag : Nat} {post : Nat → (Nat → Int32) → Prop} (ht : tp_ok tp) (hs : GLn sub) (hsub : MP fx z X Y mE mB mS mR mW mV0 mQ0 tp dep Q dp sub pre ag post) (hop : ∀ j pc, opf j = some pc → ¬ TY tp j = 0) (step : ∀ (i : Nat) (p : Int32) (c : Nat) (cs : List Nat) (op cm : Nat → Int32), post i cm → opf i = some (p, c) → ∃ cm2, pre cm2 ∧ (∀ j, j < ag → cm2 j = cm j) ∧ (WR fx z X Y mE mB mS mR mW mV0 mQ0 tp dep Q dp 1 (i + 1) (cs ++ [c]) op cm2 → WR fx z X Y mE mB mS mR mW mV0 mQ0 tp dep Q dp 0 i cs op cm)) : MP fx z X Y mE mB mS mR mW mV0 mQ0 tp dep Q dp (fun i => if (sub i).1 = 0 then g_lp sub opf 1000 (sub i) else g_bad (sub i).1) pre ag (fun j cm => post j cm ∧ opf j = none) := by
  intro i cs op cm hb hpre hok hbad
  simp only [] at hok hbad
  apply hsub i cs op cm hb hpre
  · intro g0 op' cm' ho hc hpo
    rw [if_pos g0] at hok hbad
    have lp : ∀ (m t : Nat) (x : GR) (op' cm' : Nat → Int32), t + m = 1000 → x.1 = 0 → t ≤ x.2.1 → (∀ j, j ≤ dp → op' j = op j) → (∀ j, j < ag → cm' j = cm j) → post x.2.1 cm' → g_lp sub opf 1000 (sub i) = g_lp sub opf m x → WR fx z X Y mE mB mS mR mW mV0 mQ0 tp dep Q dp 0 x.2.1 (cs ++ x.2.2.2.1) op' cm' := by
      intro m
      induction m with
      | zero =>
        intro t x op' cm' htm hx htx ho hc hpo hlp
        rw [g_lp] at hlp
        rw [hlp] at hok
        refine hok hx op' cm' ho hc ⟨hpo, ?_⟩
        cases e : opf x.2.1 with
        | none => rfl
        | some pc =>
          have := TY_1000 ht (hop _ _ e)
          omega
      | succ m ih =>
        intro t x op' cm' htm hx htx ho hc hpo hlp
        rw [g_lp_s (m := m) (x := x)] at hlp
        cases e : opf x.2.1 with
        | none =>
          rw [e] at hlp
          simp only [] at hlp
          rw [hlp] at hok
          exact hok hx op' cm' ho hc ⟨hpo, e⟩
        | some pc =>
          rw [e] at hlp
          simp only [] at hlp
          obtain ⟨cm2, c1, c2, c3⟩ := step x.2.1 pc.1 pc.2 (cs ++ x.2.2.2.1) op' cm' hpo e
          apply c3
          apply hsub (x.2.1 + 1) (cs ++ x.2.2.2.1 ++ [pc.2]) op' cm2 ((bsd_ext dp ho).trans hb) c1
          · intro a0 op2 cm3 ho2 hc2 hpo2
            rw [if_pos a0] at hlp
            obtain ⟨n1, n2⟩ := hs _ a0
            have := ih (t + 1) (g_jn x pc.1 pc.2 (sub (x.2.1 + 1))) op2 cm3 (by omega) rfl (by show t + 1 ≤ (sub (x.2.1 + 1)).2.1; omega) (fun j hj => (ho2 j hj).trans (ho j hj)) (fun j hj => ((hc2 j hj).trans (c2 j hj)).trans (hc j hj)) hpo2 hlp
            have e3 : cs ++ (g_jn x pc.1 pc.2 (sub (x.2.1 + 1))).2.2.2.1 = cs ++ x.2.2.2.1 ++ [pc.2] ++ (sub (x.2.1 + 1)).2.2.2.1 := by
              show cs ++ (x.2.2.2.1 ++ pc.2 :: (sub (x.2.1 + 1)).2.2.2.1) = _
              rw [List.append_assoc, List.append_assoc]; rfl
            rw [e3] at this
            exact this
          · intro a0
            rw [if_neg a0] at hlp
            rw [hlp] at hbad
            exact hbad a0
    exact lp 1000 0 (sub i) op' cm' (by omega) g0 (Nat.zero_le _) ho hc hpo rfl
  · intro g0
    rw [if_neg g0] at hbad
    exact hbad g0
theorem MP_P {pt : Nat → GR} (ht : tp_ok tp) (hs : GLn pt) (h : MP fx z X Y mE mB mS mR mW mV0 mQ0 tp dep Q dp pt (fun _ => True) (dp + 1) (fun _ _ => True)) : MP fx z X Y mE mB mS mR mW mV0 mQ0 tp dep Q dp (g_P tp pt) (fun _ => True) (dp + 1) (fun j _ => True ∧ opM tp j = none) := by
  refine MP_lp (opf := opM tp) ht hs h (fun j pc e => ?_) (fun i p c cs op cm _ e => ⟨cm, trivial, fun _ _ => rfl, fun hw => w0_ar (Or.inr e) hw⟩)
  unfold opM at e
  split at e
  · rename_i y; rw [(snB_t.mp y).1]; decide
  · cases e
theorem MP_S {pt : Nat → GR} (ht : tp_ok tp) (hs : GLn pt) (h : MP fx z X Y mE mB mS mR mW mV0 mQ0 tp dep Q dp pt (fun _ => True) (dp + 1) (fun _ _ => True)) : MP fx z X Y mE mB mS mR mW mV0 mQ0 tp dep Q dp (g_S tp pt) (fun _ => True) (dp + 1) (fun j _ => (True ∧ opM tp j = none) ∧ opS tp j = none) := by
  refine MP_lp (opf := opS tp) ht (GLn_P hs) (MP_P ht hs h) (fun j pc e => ?_) (fun i p c cs op cm _ e => ⟨cm, trivial, fun _ _ => rfl, fun hw => w0_ar (Or.inl e) hw⟩)
  unfold opS at e
  split at e
  · rename_i y; rw [(snB_t.mp y).1]; decide
  · split at e
    · rename_i y; rw [(snB_t.mp y).1]; decide
    · cases e
theorem MP_T {pt : Nat → GR} (hdp : dp < 7) (ht : tp_ok tp) (hs : GLn pt) (h : MP fx z X Y mE mB mS mR mW mV0 mQ0 tp dep Q dp pt (fun _ => True) (dp + 1) (fun _ _ => True)) : MP fx z X Y mE mB mS mR mW mV0 mQ0 tp dep Q dp (g_T tp pt) (fun cm => cm dp = 0) dp (fun j cm => opM tp j = none ∧ opS tp j = none ∧ (opT tp j = none ∨ ¬ cm dp = 0)) := by
  have hS := MP_S ht hs h
  intro i cs op cm hb hpre hok hbad
  unfold g_T at hok hbad
  apply hS i cs op cm hb trivial
  · intro g0 op' cm' ho hc hpo
    rw [if_pos g0] at hok hbad
    cases e : opT tp (g_S tp pt i).2.1 with
    | none =>
      rw [e] at hok
      simp only [] at hok
      exact hok g0 op' cm' ho (fun j hj => hc j (by omega)) ⟨hpo.1.2, hpo.2, Or.inl e⟩
    | some pc =>
      rw [e] at hok hbad
      simp only [] at hok hbad
      refine w0_cmp hdp hpo.2 hpo.1.2 (p := pc.1) (c := pc.2) e ((hc dp (by omega)).trans hpre) ?_
      apply hS _ (cs ++ (g_S tp pt i).2.2.2.1 ++ [pc.2]) op' (uL cm' dp 1) ((bsd_ext dp ho).trans hb) trivial
      · intro a0 op2 cm3 ho2 hc2 hpo2
        rw [if_pos a0] at hok
        have := hok rfl op2 cm3 (fun j hj => (ho2 j hj).trans (ho j hj)) (fun j hj => by rw [hc2 j (by omega), uL_ne (by omega)]; exact hc j (by omega)) ⟨hpo2.1.2, hpo2.2, Or.inr (by rw [hc2 dp (by omega), uL_eq]; decide)⟩
        have e3 : cs ++ (g_jn (g_S tp pt i) pc.1 pc.2 (g_S tp pt ((g_S tp pt i).2.1 + 1))).2.2.2.1 = cs ++ (g_S tp pt i).2.2.2.1 ++ [pc.2] ++ (g_S tp pt ((g_S tp pt i).2.1 + 1)).2.2.2.1 := by
          show cs ++ ((g_S tp pt i).2.2.2.1 ++ pc.2 :: (g_S tp pt ((g_S tp pt i).2.1 + 1)).2.2.2.1) = _
          rw [List.append_assoc, List.append_assoc]; rfl
        rw [e3] at this
        exact this
      · intro a0
        rw [if_neg a0] at hbad
        exact hbad a0
  · intro g0
    rw [if_neg g0] at hbad
    exact hbad g0
theorem MP_E {pt : Nat → GR} (hdp : dp < 7) (ht : tp_ok tp) (hs : GLn pt) (h : MP fx z X Y mE mB mS mR mW mV0 mQ0 tp dep Q dp pt (fun _ => True) (dp + 1) (fun _ _ => True)) : MP fx z X Y mE mB mS mR mW mV0 mQ0 tp dep Q dp (g_E tp pt) (fun cm => cm dp = 0) dp (fun j cm => (opM tp j = none ∧ opS tp j = none ∧ (opT tp j = none ∨ ¬ cm dp = 0)) ∧ opE tp j = none) := by
  refine MP_lp (opf := opE tp) ht (GLn_T hs) (MP_T hdp ht hs h) (fun j pc e => ?_) (fun i p c cs op cm hpo e => ⟨uL cm dp 0, uL_eq, fun j hj => uL_ne (by omega), fun hw => w0_log hdp hpo.2.1 hpo.1 hpo.2.2 e hw⟩)
  unfold opE at e
  split at e
  · rename_i y; rw [(wdB_t.mp y).1]; decide
  · split at e
    · rename_i y; rw [(wdB_t.mp y).1]; decide
    · cases e
theorem MP_part (ht : tp_ok tp) : ∀ (k dp i : Nat) (cs : List Nat) (op cm : Nat → Int32), dp + k = 5 → ((g_part tp k i).1 = 0 → ∀ op' cm', (∀ j, j ≤ dp → op' j = op j) → (∀ j, j ≤ dp → cm' j = cm j) → WR fx z X Y mE mB mS mR mW mV0 mQ0 tp dep Q (bsd op dp) 0 (g_part tp k i).2.1 (cs ++ (g_part tp k i).2.2.2.1) op' cm') → (¬ (g_part tp k i).1 = 0 → BR0 fx z X Y mE mB mS mR mW mV0 mQ0 tp dep Q (g_part tp k i).1) → WR fx z X Y mE mB mS mR mW mV0 mQ0 tp dep Q dp 1 i cs op cm := by
  intro k
  induction k with
  | zero =>
    intro dp i cs op cm hdp hok hbad
    have hdp5 : dp = 5 := by omega
    subst hdp5
    rw [g_part] at hok hbad
    apply w1_deep
    · intro y
      rw [if_neg (by rw [y]; exact Bool.false_ne_true)] at hbad
      exact hbad (flt_ne (by omega))
    · intro y
      rw [if_pos y] at hbad
      exact hbad (flt_ne (by omega))
  | succ k ih =>
    intro dp i cs op cm hdp hok hbad
    rw [g_part] at hok hbad
    by_cases y : g_st tp i = true
    rotate_left
    · rw [if_neg y] at hbad
      exact w1_pre (fun _ => hbad (flt_ne (by omega))) (fun _ _ _ _ y2 => absurd y2 y)
    rw [if_pos y] at hok hbad
    by_cases e1 : wdB tp i 19 = true
    · rw [if_pos e1] at hok hbad
      apply w1_not (by omega) y e1
      apply ih (dp + 1) (i + 1) (cs ++ [30]) _ _ (by omega)
      · intro a0 op' cm' ho hc
        rw [if_pos a0] at hok
        have hb : bsd (uL op (dp + 1) 1) (dp + 1) = bsd op dp := by
          rw [bsd, uL_eq, if_pos rfl]
          exact bsd_ext dp (fun j hj => uL_ne (by omega))
        rw [hb, List.append_assoc]
        exact hok rfl op' cm' (fun j hj => (ho j (by omega)).trans (uL_ne (by omega))) (fun j hj => (hc j (by omega)).trans (uL_ne (by omega)))
      · intro a0
        rw [if_neg a0] at hbad
        exact hbad a0
    rw [if_neg e1] at hok hbad
    by_cases e2 : snB tp i 40 = true
    · rw [if_pos e2] at hok hbad
      apply w1_par (by omega) y e1 e2
      have hE := MP_E (dp := dp + 1) (by omega) ht (GLn_part k) (fun i cs op cm hb _ h1 h2 => ih (dp + 1) i cs op cm (by omega) (fun a0 op' cm' ho hc => by rw [hb]; exact h1 a0 op' cm' ho (fun j hj => hc j (by omega)) trivial) h2)
      apply hE (i + 1) (cs ++ [28]) (uL op (dp + 1) 2) (uL cm (dp + 1) 0) (by rw [bsd, uL_eq, if_neg (by decide)]) uL_eq
      · intro a0 op' cm' ho hc hpo
        rw [if_pos a0] at hok hbad
        apply w0_off (by omega) hpo.1.2.1 hpo.1.1 hpo.1.2.2 hpo.2
        · intro y41 _
          rw [if_pos y41] at hok
          have hb : bsd op' (dp + 1 - 1) = bsd op dp := bsd_ext dp (fun j hj => (ho j (by omega)).trans (uL_ne (by omega)))
          rw [hb]
          have := hok rfl op' cm' (fun j hj => (ho j (by omega)).trans (uL_ne (by omega))) (fun j hj => (hc j (by omega)).trans (uL_ne (by omega)))
          have e3 : cs ++ 28 :: ((g_E tp (g_part tp k) (i + 1)).2.2.2.1 ++ [29]) = cs ++ [28] ++ (g_E tp (g_part tp k) (i + 1)).2.2.2.1 ++ [29] := by
            rw [List.append_assoc, List.append_assoc]; rfl
          rw [show cs ++ (0, (g_E tp (g_part tp k) (i + 1)).2.1 + 1, (g_E tp (g_part tp k) (i + 1)).2.2.1, 28 :: ((g_E tp (g_part tp k) (i + 1)).2.2.2.1 ++ [29]), (g_E tp (g_part tp k) (i + 1)).2.2.2.2).2.2.2.1 = cs ++ [28] ++ (g_E tp (g_part tp k) (i + 1)).2.2.2.1 ++ [29] from e3] at this
          exact this
        · intro h0; omega
        · intro n1 _
          rw [if_neg (fun e => n1 ⟨e, by omega⟩)] at hbad
          exact hbad (flt_ne (by omega))
      · intro a0
        rw [if_neg a0] at hbad
        exact hbad a0
    rw [if_neg e2] at hok
    apply w1_leaf (by omega) y e1 e2
    by_cases e3 : g_fc tp i = 0
    · rw [if_pos e3] at hok ⊢
      exact hok rfl op cm (fun _ _ => rfl) (fun _ _ => rfl)
    · rw [if_neg e3] at hok ⊢
      exact hok rfl op cm (fun _ _ => rfl) (fun _ _ => rfl)
end GG
