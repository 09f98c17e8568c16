/-! depth and tree, of the model -/
def cq (dp y i k : Nat) : Nat := ((dp * 6 + y) * 7 + i) * 7 + k
theorem cq_inj {a y i k a' y' i' k' : Nat} (h1 : y < 6) (h2 : i < 7) (h3 : k < 7) (h4 : y' < 6) (h5 : i' < 7) (h6 : k' < 7) (h : cq a y i k = cq a' y' i' k') : a = a' ∧ y = y' ∧ i = i' ∧ k = k' := by
  unfold cq at h
  have e1 : (a * 6 + y) * 7 + i = (a' * 6 + y') * 7 + i' ∧ k = k' := by omega
  have e2 : a * 6 + y = a' * 6 + y' ∧ i = i' := by omega
  have e3 : a = a' ∧ y = y' := by omega
  exact ⟨e3.1, e3.2, e2.2, e1.2⟩
theorem cq_lt {a y i k : Nat} (h0 : a < 7) (h1 : y < 6) (h2 : i < 7) (h3 : k < 7) : cq a y i k < 2058 := by unfold cq; omega
def RTm (s : SQ) (t : Nat → Nat) (n D : Nat) (xs : List Int32) : Prop := xs.length = 2058 ∧ ∀ dp i k y, dp < D → i ≤ k → k < n → y < 6 → xs[cq dp y i k]? = some (io (rwf s t dp (k - i) i y))
theorem io_lt0 {o : Option Nat} (h : ∀ v, o = some v → v < 2 ^ 31) : io o < 0 ↔ o = none := by
  cases o with
  | none => exact ⟨fun _ => rfl, fun _ => by decide⟩
  | some v =>
    refine ⟨fun z => ?_, fun z => by cases z⟩
    have z2 : nI v < nI 0 := z
    rw [nI_ltI (h v rfl) (by omega)] at z2
    omega
section MP
variable {fx : List Value → mm_H → Option (List Value × mm_H)} {z : Nat} {X Y : Nat → mm_C} {mV : pm_V} {mT : pm_T} {mQ : pm_Q} {mO : pm_O} {mE : pm_E} {mB : pm_B} {mS : pm_S} {mR : pm_R} {mW : pm_W} {m_thrown : Int32} {m_given : Int32} {m_fresh : Int64} {m_code : Int32} {m_taped : Int32} {m_tape : List Int32} {m_size : Int32} {m_place : Int32} {m_begin : Int32} {m_token : Int32} {m_word : Int64} {m_told : Int32} {m_wrong : Int32} {m_square : List Int32} {m_sortName : List Int64} {m_colourName : List Int64} {m_walkerName : List Int64} {m_sortOf : List Int32} {m_rules : List Int32} {m_kind : List Int32} {m_colour : List Int32} {m_atTold : List Int32} {m_goesMany : List Int32} {m_goes : List Int32} {m_gusts : List Int32} {m_lineFrom : List Int32} {m_lineTo : List Int32} {m_codes : List Int32} {m_opened : List Int32} {m_compared : List Int32} {m_kept : List Int32} {m_keptBy : List Int32} {m_ahead : List Int32} {m_against : List Int32} {m_sum : List Int32} {m_sumBy : List Int32} {m_term : List Int32} {m_termBy : List Int32} {m_byNot : List Int32} {m_valueOf : List Int32} {m_lines : List Int32} {m_lineWhat : List Int32} {m_lineA : List Int32} {m_lineB : List Int32} {m_wishes : List Int32} {m_wishOf : List Int32} {m_seens : List Int32} {m_seenAt : List Int32} {m_seenIn : List Int32} {m_seenThere : List Int32} {m_s : List Int32} {m_aside : List Int32} {m_before : List Int32} {m_marked : List Int32} {m_undone : List Int32} {m_isLaid : List Int32} {m_done : Int32} {m_gustNow : Int32} {m_shown : List Int32} {m_shownMany : Int32} {m_from7 : List Int32} {m_long7 : List Int32} {m_sentences : Int32} {m_text7 : List Int32} {m_textMany : Int32} {m_waysOf : List Int32} {m_rowOf : List Int32} {m_row : List Int32} {m_bestRow : List Int32} {m_leastSteps : Int32} {m_steps10 : List Int32} {m_placeIn : List Int32} {m_g : Int64}
variable {d : Nat} {Q : Option Value → mm_H → Prop} {s : SQ} {c : SC} {t : Nat → Nat} {n : Nat} {nm : NMs}
theorem tm_cellOf {h : mm_H} {a y i k : Nat} (hq : Q (some (.int (nI (cq a y i k)))) h) : wm (mp_P fx) d 294 [.ref 149, .int (nI a), .int (nI y), .int (nI i), .int (nI k)] h Q := by
  simp only [e294, q294_0, q294_1, q294_3, q294_4, q294_5, q294_6, q294_8, q294_9, q294_10, q294_11, q294_13, q294_14, q294_16, q294_17, nl_6, nl_7, pk_mul, nI_add]
  exact hq
theorem tm_shiftsBy {h : mm_H} {a : Nat} (hq : Q (some (.int (nI (4 * a)))) h) : wm (mp_P fx) d 296 [.int (nI a)] h Q := by
  simp only [e296, q296_0, q296_1, q296_2, q296_3, nl_4, pk_mul]
  exact hq
theorem rl_1 {r : Nat} (ho : k_ok s) (hr : r < k_nR s) : nI (36 * k_rm s r + 6 * k_rf s r + k_rs s r) / 36 = nI (k_rm s r) := by
  have hS6 := ho.1.1
  obtain ⟨r1, r2, r3⟩ := ho.2.2.1 r hr
  rw [show (36 : Int32) = nI 36 from rfl, pk_div (by omega) (by omega) (by omega)]; congr 1; omega
theorem rl_2 {r : Nat} (ho : k_ok s) (hr : r < k_nR s) : nI (36 * k_rm s r + 6 * k_rf s r + k_rs s r) / 6 - nI (36 * k_rm s r + 6 * k_rf s r + k_rs s r) / 6 / 6 * 6 = nI (k_rf s r) := by
  have hS6 := ho.1.1
  obtain ⟨r1, r2, r3⟩ := ho.2.2.1 r hr
  rw [show (6 : Int32) = nI 6 from rfl, pk_div (by omega) (by omega) (by omega), nI_mod (by omega) (by omega) (by omega)]; congr 1; omega
theorem rl_3 {r : Nat} (ho : k_ok s) (hr : r < k_nR s) : nI (36 * k_rm s r + 6 * k_rf s r + k_rs s r) - nI (36 * k_rm s r + 6 * k_rf s r + k_rs s r) / 6 * 6 = nI (k_rs s r) := by
  have hS6 := ho.1.1
  obtain ⟨r1, r2, r3⟩ := ho.2.2.1 r hr
  rw [show (6 : Int32) = nI 6 from rfl, nI_mod (by omega) (by omega) (by omega)]; congr 1; omega
theorem tm_rowBy {dp y i k : Nat} {xs : List Int32} (hs : SQm mQ s) (ho : k_ok s) (hn7 : n ≤ 7) (hdp : dp < 7) (hik : i ≤ k) (hk : k < n) (hy : y < 6) (ht7 : (mR.2.2.2.2.2.1).length = 7) (ht : ∀ j, j < n → (mR.2.2.2.2.2.1)[j]? = some (nI (t j)) ∧ t j < k_nC s) (hT : RTm s t n dp xs) (hq : Q (some (.int (io (rwf s t dp (k - i) i y)))) (pm_h z X Y (pm_l mV mT mQ mO mE mB mS ((mR.1, mR.2.1, mR.2.2.1, mR.2.2.2.1, mR.2.2.2.2.1, mR.2.2.2.2.2.1, mR.2.2.2.2.2.2.1, mR.2.2.2.2.2.2.2.1, xs)) mW))) : wm (mp_P fx) (d + 1) 295 [.ref 149, .int (nI dp), .int (nI y), .int (nI i), .int (nI k)] (pm_h z X Y (pm_l mV mT mQ mO mE mB mS ((mR.1, mR.2.1, mR.2.2.1, mR.2.2.2.1, mR.2.2.2.2.1, mR.2.2.2.2.2.1, mR.2.2.2.2.2.2.1, mR.2.2.2.2.2.2.2.1, xs)) mW)) Q := by
  have hS6 := ho.1.1
  have hC6 := ho.1.2.1
  have hR12 := ho.1.2.2.1
  have hsl := hs.1.1
  have hnr := hs.2.1.2.2.1
  have hso := hs.2.2.2.1.1
  have hsol := hs.1.2.2.2.2.1
  have hru := hs.2.2.2.1.2.1
  have hrul := hs.1.2.2.2.2.2.1
  have hxl := hT.1
  obtain ⟨t1, t2⟩ := ht i (by omega)
  have hcs := ho.2.1 (t i) t2
  simp only [e295, q295_0, q295_1, q295_3, q295_6, q295_7, q295_10, q295_11, q295_14, q295_15, q295_16, q295_17, q295_18, q295_21, q295_22, q295_25, q295_26, q295_27, q295_28, q295_31, q295_32, q295_33, q295_34i, q295_36, q295_37i, mc_o, mg_sortOf, ma_sortOf, mb_sortOf, mn_sortOf, mg_text7, ma_text7, mb_text7, mn_text7, wx_some, wx_ref, isl_i, isl_r, isl_n, aG_n t1 (show (mR.2.2.2.2.2.1).length < 2 ^ 31 by omega), ag_G hso (show (mQ.2.2.2.2.1).length < 2 ^ 31 by omega) t2]
  by_cases eik : i = k
  · subst eik
    rw [Nat.sub_self, rwf_d] at hq
    rw [if_neg (fun z => z rfl)]
    by_cases ey : k_cs s (t i) = y
    · rw [if_pos ey] at hq
      rw [if_neg (by rw [ey]; exact fun z => z rfl)]
      exact hq
    · rw [if_neg ey] at hq
      rw [if_pos (by rw [nI_eq (by omega) (by omega)]; exact ey)]
      exact hq
  rw [if_pos (by rw [nI_eq (by omega) (by omega)]; exact eik)]
  cases dp with
  | zero =>
    rw [rwf, if_neg (by omega)] at hq
    rw [if_neg (fun z => z rfl)]
    exact hq
  | succ dp =>
  rw [if_pos (nI_ne0 (by omega) (by omega))]
  have bnd : ∀ {ok : Nat → Nat → Prop} {o : Option Nat}, mnp (CDb s (rwf s t dp) (k - i) i y ok) o → ∀ v, o = some v → v < 2 ^ 31 := fun h v hv => by have := CDb_lt ho (by omega) (h.1 v hv).1; omega
  have key2 : ∀ (r : Nat), r < k_nR s → k_rm s r = y → (∀ o l7 l8 l9 l10, mnp (CDb s (rwf s t dp) (k - i) i y (fun r' e' => r' < r + 1)) o → ww (mp_P fx) (d + 1) 295 203 [some (.ref 149), some (.int (nI (dp + 1))), some (.int (nI y)), some (.int (nI i)), some (.int (nI k)), some (.int (io o)), some (.int (nI r)), l7, l8, l9, l10] [] (pm_h z X Y (pm_l mV mT mQ mO mE mB mS ((mR.1, mR.2.1, mR.2.2.1, mR.2.2.2.1, mR.2.2.2.2.1, mR.2.2.2.2.2.1, mR.2.2.2.2.2.2.1, mR.2.2.2.2.2.2.2.1, xs)) mW)) Q) → ∀ (m e : Nat) (o : Option Nat) (l8 l9 l10 : Option Value), e + m = k - i → mnp (CDb s (rwf s t dp) (k - i) i y (fun r' e' => r' < r ∨ (r' = r ∧ e' < e))) o → ww (mp_P fx) (d + 1) 295 70 [some (.ref 149), some (.int (nI (dp + 1))), some (.int (nI y)), some (.int (nI i)), some (.int (nI k)), some (.int (io o)), some (.int (nI r)), some (.int (nI (i + e))), l8, l9, l10] [] (pm_h z X Y (pm_l mV mT mQ mO mE mB mS ((mR.1, mR.2.1, mR.2.2.1, mR.2.2.2.1, mR.2.2.2.2.1, mR.2.2.2.2.2.1, mR.2.2.2.2.2.2.1, mR.2.2.2.2.2.2.2.1, xs)) mW)) Q := by
    intro r hr hry hgo m
    obtain ⟨b1, b2, b3⟩ := ho.2.2.1 r hr
    induction m with
    | zero =>
      intro e o l8 l9 l10 he hM
      rw [q295_70]
      simp only [q295_72, q295_74]
      rw [if_pos (by rw [nI_leI (by omega) (by omega)]; omega)]
      exact hgo o _ l8 l9 l10 (mnp_iff hM (fun u => CDb_iff (fun r' e' h => by omega)))
    | succ m ih =>
      intro e o l8 l9 l10 he hM
      have v1 := hT.2 dp i (i + e) (k_rf s r) (by omega) (by omega) (by omega) (by omega)
      have v2 := hT.2 dp (i + e + 1) k (k_rs s r) (by omega) (by omega) (by omega) (by omega)
      rw [show i + e - i = e by omega] at v1
      rw [show k - (i + e + 1) = k - i - 1 - e by omega] at v2
      have bx : ∀ v, rwf s t dp e i (k_rf s r) = some v → v < 2 ^ 31 := fun v hv => Nat.lt_of_lt_of_le (rwf_lt ho _ _ _ _ _ hv) (Nat.pow_le_pow_right (by omega) (by omega))
      have bz : ∀ v, rwf s t dp (k - i - 1 - e) (i + e + 1) (k_rs s r) = some v → v < 2 ^ 31 := fun v hv => Nat.lt_of_lt_of_le (rwf_lt ho _ _ _ _ _ hv) (Nat.pow_le_pow_right (by omega) (by omega))
      have hstep : ∀ u, CDb s (rwf s t dp) (k - i) i y (fun r' e' => r' < r ∨ (r' = r ∧ e' < e + 1)) u ↔ CDb s (rwf s t dp) (k - i) i y (fun r' e' => r' < r ∨ (r' = r ∧ e' < e)) u ∨ CD1 s (rwf s t dp) (k - i) i y r e u := fun u => CDb_step hr (by omega) (fun r' e' => by omega)
      have hnext : ∀ (o' : Option Nat) (l8 l9 l10 : Option Value), mnp (CDb s (rwf s t dp) (k - i) i y (fun r' e' => r' < r ∨ (r' = r ∧ e' < e + 1))) o' → ww (mp_P fx) (d + 1) 295 197 [some (.ref 149), some (.int (nI (dp + 1))), some (.int (nI y)), some (.int (nI i)), some (.int (nI k)), some (.int (io o')), some (.int (nI r)), some (.int (nI (i + e))), l8, l9, l10] [] (pm_h z X Y (pm_l mV mT mQ mO mE mB mS ((mR.1, mR.2.1, mR.2.2.1, mR.2.2.2.1, mR.2.2.2.2.1, mR.2.2.2.2.2.1, mR.2.2.2.2.2.2.1, mR.2.2.2.2.2.2.2.1, xs)) mW)) Q := by
        intro o' l8 l9 l10 hM'
        simp only [q295_197i, q295_200, isl_i, isl_r, isl_n, nI_1]
        exact ih (e + 1) o' l8 l9 l10 (by omega) hM'
      have hskip : (∀ u, ¬ CD1 s (rwf s t dp) (k - i) i y r e u) → mnp (CDb s (rwf s t dp) (k - i) i y (fun r' e' => r' < r ∨ (r' = r ∧ e' < e + 1))) o := fun hno => mnp_iff hM (fun u => (hstep u).trans ⟨fun w => w.elim id (fun v => absurd v (hno u)), Or.inl⟩)
      rw [q295_70]
      simp only [q295_72, q295_74, q295_77, q295_78, q295_81, q295_82, q295_83, q295_84, q295_85, q295_86, q295_89, q295_91, q295_92, q295_94, q295_95, q295_97, q295_98, q295_99, mc_o, mg_rowOf, ma_rowOf, mb_rowOf, mn_rowOf, mg_rules, ma_rules, mb_rules, mn_rules, wx_some, wx_ref, ag_G hru (show (mQ.2.2.2.2.2.1).length < 2 ^ 31 by omega) hr, if_neg (show ¬ (6 : Int32) = 0 by decide), rl_2 ho hr, nl_1, nI_sub (show 1 ≤ dp + 1 by omega), Nat.add_sub_cancel]
      rw [if_neg (by rw [nI_leI (by omega) (by omega)]; omega)]
      simp only [q295_101, mc_o]
      apply tm_cellOf
      simp only [sl_i, q295_104, q295_105i, q295_107, q295_108, q295_111, q295_112, q295_113, q295_114, q295_115, q295_116, q295_119, q295_121, q295_122, q295_124, q295_125, q295_127, q295_128, q295_129, mc_o, mg_rowOf, ma_rowOf, mb_rowOf, mn_rowOf, mg_rules, ma_rules, mb_rules, mn_rules, wx_some, wx_ref, isl_i, isl_r, isl_n, aG_n v1 (show xs.length < 2 ^ 31 by omega), ag_G hru (show (mQ.2.2.2.2.2.1).length < 2 ^ 31 by omega) hr, if_neg (show ¬ (6 : Int32) = 0 by decide), rl_3 ho hr, nl_1, nI_add, nI_sub (show 1 ≤ dp + 1 by omega), Nat.add_sub_cancel]
      simp only [q295_131, mc_o]
      apply tm_cellOf
      simp only [sl_i, q295_134, q295_135i, q295_137, q295_139, q295_142, q295_144, q295_147, q295_150, q295_152, q295_154, q295_155, q295_156, q295_157, mc_o, mg_rowOf, ma_rowOf, mb_rowOf, mn_rowOf, wx_some, wx_ref, isl_i, isl_r, isl_n, aG_n v2 (show xs.length < 2 ^ 31 by omega), nl_1, nI_sub (show i ≤ k by omega), nI_sub (show 1 ≤ k - i by omega)]
      cases ex : rwf s t dp e i (k_rf s r) with
      | none =>
        rw [if_pos (by decide)]
        exact hnext o _ _ _ (hskip (fun u ⟨_, x, z, g1, _⟩ => by rw [ex] at g1; cases g1))
      | some x =>
        rw [if_neg (fun z => by have := (io_lt0 (fun v hv => by cases hv; exact bx x ex)).mp z; cases this)]
        cases ez : rwf s t dp (k - i - 1 - e) (i + e + 1) (k_rs s r) with
        | none =>
          rw [if_neg (by decide)]
          exact hnext o _ _ _ (hskip (fun u ⟨_, x', z, _, g2, _⟩ => by rw [ez] at g2; cases g2))
        | some z =>
          rw [if_pos (Int32.not_lt.mp (fun zz => by have := (io_lt0 (fun v hv => by cases hv; exact bz z ez)).mp zz; cases this))]
          have hCD1 : ∀ u, CD1 s (rwf s t dp) (k - i) i y r e u ↔ u = rowN r x z (k - i - 1) (k - i - 1 - e) := by
            intro u
            constructor
            · rintro ⟨g0, x', z', g1, g2, g3⟩
              rw [ex] at g1; cases g1
              rw [ez] at g2; cases g2
              exact g3
            · intro g3
              exact ⟨hry, x, z, ex, ez, g3⟩
          have hrow : rowN r x z (k - i - 1) (k - i - 1 - e) < 2 ^ 24 := Nat.lt_of_lt_of_le (rowN_lt (p := k - i) (by omega) (by omega) (rwf_lt ho _ _ _ _ _ ex) (rwf_lt ho _ _ _ _ _ ez)) (Nat.pow_le_pow_right (by omega) (by omega))
          have hadd := mnp_add hM (fun u => (hstep u).trans (or_congr Iff.rfl (hCD1 u)))
          have hob := bnd hM
          simp only [q295_158]
          apply tm_shiftsBy
          simp only [sl_i, q295_161, q295_162, q295_164, q295_166, q295_168, q295_169, q295_170, nl_1, nI_sub (show i + e ≤ k by omega), nI_sub (show 1 ≤ k - (i + e) by omega)]
          simp only [q295_171]
          apply tm_shiftsBy
          simp only [sl_i, q295_174, q295_175, q295_176, q295_178, q295_179i, q295_181, q295_183, q295_186, q295_188, q295_190, q295_193, q295_195i, isl_i, isl_r, isl_n, show ∀ v : Nat, io (some v) = nI v from fun _ => rfl]
          rw [show k - (i + e) - 1 = k - i - 1 - e by omega, rowI (by omega) (by omega)]
          cases o with
          | none =>
            rw [if_pos (by decide)]
            exact hnext _ _ _ _ hadd
          | some v =>
            have hv := hob v rfl
            rw [if_neg (fun zz => by have := (io_lt0 hob).mp zz; cases this)]
            by_cases ev : v ≤ rowN r x z (k - i - 1) (k - i - 1 - e)
            · rw [if_pos (show io (some v) ≤ nI _ from (nI_leI hv (by omega)).mpr ev)]
              rw [show mn (some v) (rowN r x z (k - i - 1) (k - i - 1 - e)) = some v from congrArg some (Nat.min_eq_left ev)] at hadd
              exact hnext _ _ _ _ hadd
            · rw [if_neg (show ¬ io (some v) ≤ nI _ from fun zz => ev ((nI_leI hv (by omega)).mp zz))]
              rw [show mn (some v) (rowN r x z (k - i - 1) (k - i - 1 - e)) = some (rowN r x z (k - i - 1) (k - i - 1 - e)) from congrArg some (Nat.min_eq_right (by omega))] at hadd
              exact hnext _ _ _ _ hadd
  have key1 : ∀ (m r : Nat) (o : Option Nat) (l7 l8 l9 l10 : Option Value), r + m = k_nR s → mnp (CDb s (rwf s t dp) (k - i) i y (fun r' e' => r' < r)) o → ww (mp_P fx) (d + 1) 295 39 [some (.ref 149), some (.int (nI (dp + 1))), some (.int (nI y)), some (.int (nI i)), some (.int (nI k)), some (.int (io o)), some (.int (nI r)), l7, l8, l9, l10] [] (pm_h z X Y (pm_l mV mT mQ mO mE mB mS ((mR.1, mR.2.1, mR.2.2.1, mR.2.2.2.1, mR.2.2.2.2.1, mR.2.2.2.2.2.1, mR.2.2.2.2.2.2.1, mR.2.2.2.2.2.2.2.1, xs)) mW)) Q := by
    intro m
    induction m with
    | zero =>
      intro r o l7 l8 l9 l10 hr hM
      have hr2 : r = k_nR s := by omega
      subst hr2
      rw [q295_39]
      simp only [q295_41, q295_42, q295_45, q295_46, q295_47, q295_209, q295_211, mc_o, mg_square, ma_square, mb_square, mn_square, wx_some, wx_ref, nl_2, aG_n hnr (show (mQ.1).length < 2 ^ 31 by omega)]
      rw [if_pos (by rw [nI_leI (by omega) (by omega)]; omega)]
      rw [rwf_m (by omega) (mnp_iff hM (fun u => ⟨fun ⟨r', e', g1, g2, _, g4⟩ => ⟨r', e', g1, g2, g1, g4⟩, fun ⟨r', e', g1, g2, _, g4⟩ => ⟨r', e', g1, g2, trivial, g4⟩⟩))] at hq
      exact hq
    | succ m ih =>
      intro r o l7 l8 l9 l10 hr hM
      have hr' : r < k_nR s := by omega
      obtain ⟨b1, b2, b3⟩ := ho.2.2.1 r hr'
      have hnext : ∀ (o : Option Nat) (l7 l8 l9 l10 : Option Value), mnp (CDb s (rwf s t dp) (k - i) i y (fun r' e' => r' < r + 1)) o → ww (mp_P fx) (d + 1) 295 203 [some (.ref 149), some (.int (nI (dp + 1))), some (.int (nI y)), some (.int (nI i)), some (.int (nI k)), some (.int (io o)), some (.int (nI r)), l7, l8, l9, l10] [] (pm_h z X Y (pm_l mV mT mQ mO mE mB mS ((mR.1, mR.2.1, mR.2.2.1, mR.2.2.2.1, mR.2.2.2.2.1, mR.2.2.2.2.2.1, mR.2.2.2.2.2.2.1, mR.2.2.2.2.2.2.2.1, xs)) mW)) Q := by
        intro o l7 l8 l9 l10 h
        simp only [q295_203i, q295_206, isl_i, isl_r, isl_n, nI_1]
        exact ih (r + 1) o l7 l8 l9 l10 (by omega) h
      rw [q295_39]
      simp only [q295_41, q295_42, q295_45, q295_46, q295_47, q295_50, q295_51, q295_54, q295_56, q295_57, q295_59, q295_60, q295_61, q295_64, q295_67, q295_68i, mc_o, mg_square, ma_square, mb_square, mn_square, mg_rules, ma_rules, mb_rules, mn_rules, wx_some, wx_ref, isl_i, isl_r, isl_n, nl_2, aG_n hnr (show (mQ.1).length < 2 ^ 31 by omega), ag_G hru (show (mQ.2.2.2.2.2.1).length < 2 ^ 31 by omega) hr', if_neg (show ¬ (36 : Int32) = 0 by decide), rl_1 ho hr']
      rw [if_neg (by rw [nI_leI (by omega) (by omega)]; omega)]
      by_cases ey : k_rm s r = y
      · rw [if_pos (by rw [ey])]
        exact key2 r hr' ey hnext (k - i) 0 o l8 l9 l10 (by omega) (mnp_iff hM (fun u => CDb_iff (fun r' e' h => by omega)))
      · rw [if_neg (by rw [nI_eq (by omega) (by omega)]; exact ey)]
        refine hnext o _ _ _ _ (mnp_iff hM (fun u => ⟨fun ⟨r', e', g1, g2, g3, g4⟩ => ⟨r', e', g1, g2, ?_, g4⟩, fun ⟨r', e', g1, g2, g3, g4⟩ => ⟨r', e', g1, g2, by omega, g4⟩⟩))
        by_cases er : r' = r
        · subst er; exact absurd g4.1 ey
        · omega
  exact key1 (k_nR s) 0 none none none none none (by omega) (mnp_nil (fun u ⟨r', e', _, _, h, _⟩ => by omega))
end MP
