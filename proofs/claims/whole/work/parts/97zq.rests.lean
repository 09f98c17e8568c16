/-! rests: what is asked; of the model -/
def gN (a b c : Int32) (x y : Nat) : Int32 := if x = 1 then (if y = 1 then -a else b) else (if y = 1 then c else 0)
def rsP (a b c : Int32) (p : Nat) : Bool := decide (gN a b c (1 - p / 2) (p % 2) ≤ gN a b c (p / 2) (p % 2)) && decide (gN a b c (1 - p % 2) (p / 2) ≤ gN a b c (p % 2) (p / 2))
def rsl (a b c v : Int32) : Nat → Nat → Nat → Option Int32
  | 0, _, f => if v = -1 then some (nI f) else none
  | m + 1, p, f => if rsP a b c p = true then (if nI f = v then some (nI p) else rsl a b c v m (p + 1) (f + 1)) else rsl a b c v m (p + 1) f
def sp_rests (a b c v : Int32) : Option Int32 := if (0 ≤ a ∧ a ≤ 9) ∧ (0 ≤ b ∧ b ≤ 9) ∧ (0 ≤ c ∧ c ≤ 9) ∧ -1 ≤ v then rsl a b c v 4 0 0 else none
theorem r4_div : ∀ p, p < 4 → nI p / 2 = nI (p / 2) ∧ nI p - nI (p / 2) * 2 = nI (p % 2) ∧ (1 : Int32) - nI (p / 2) = nI (1 - p / 2) ∧ (1 : Int32) - nI (p % 2) = nI (1 - p % 2) := by decide +kernel
section GZQ
variable {fx : List Value → mm_H → Option (List Value × mm_H)} {z : Nat} {X Y : Nat → mm_C} {mV : pm_V} {mT : pm_T} {mQ : pm_Q} {mO : pm_O} {mE : pm_E} {mB : pm_B} {mS : pm_S} {mR : pm_R} {mW : pm_W} {m_thrown : Int32} {m_given : Int32} {m_fresh : Int64} {m_code : Int32} {m_taped : Int32} {m_tape : List Int32} {m_size : Int32} {m_place : Int32} {m_begin : Int32} {m_token : Int32} {m_word : Int64} {m_told : Int32} {m_wrong : Int32} {m_square : List Int32} {m_sortName : List Int64} {m_colourName : List Int64} {m_walkerName : List Int64} {m_sortOf : List Int32} {m_rules : List Int32} {m_kind : List Int32} {m_colour : List Int32} {m_atTold : List Int32} {m_goesMany : List Int32} {m_goes : List Int32} {m_gusts : List Int32} {m_lineFrom : List Int32} {m_lineTo : List Int32} {m_codes : List Int32} {m_opened : List Int32} {m_compared : List Int32} {m_kept : List Int32} {m_keptBy : List Int32} {m_ahead : List Int32} {m_against : List Int32} {m_sum : List Int32} {m_sumBy : List Int32} {m_term : List Int32} {m_termBy : List Int32} {m_byNot : List Int32} {m_valueOf : List Int32} {m_lines : List Int32} {m_lineWhat : List Int32} {m_lineA : List Int32} {m_lineB : List Int32} {m_wishes : List Int32} {m_wishOf : List Int32} {m_seens : List Int32} {m_seenAt : List Int32} {m_seenIn : List Int32} {m_seenThere : List Int32} {m_s : List Int32} {m_aside : List Int32} {m_before : List Int32} {m_marked : List Int32} {m_undone : List Int32} {m_isLaid : List Int32} {m_done : Int32} {m_gustNow : Int32} {m_shown : List Int32} {m_shownMany : Int32} {m_from7 : List Int32} {m_long7 : List Int32} {m_sentences : Int32} {m_text7 : List Int32} {m_textMany : Int32} {m_waysOf : List Int32} {m_rowOf : List Int32} {m_row : List Int32} {m_bestRow : List Int32} {m_leastSteps : Int32} {m_steps10 : List Int32} {m_placeIn : List Int32} {m_g : Int64}
variable {d : Nat} {Q : Option Value → mm_H → Prop}
theorem tm_getsBy {h : mm_H} {a b c : Int32} {x y : Nat} (hx : x < 2) (hy : y < 2) (hq : Q (some (.int (gN a b c x y))) h) : wm (mp_P fx) d 323 [.int a, .int b, .int c, .int (nI x), .int (nI y)] h Q := by
  unfold gN at hq
  simp only [e323, q323_0, q323_1, q323_2, q323_5, q323_7, q323_8, q323_11, q323_12, q323_13, q323_16, q323_17, q323_20, q323_22, q323_23, q323_26, q323_27, q323_30, q323_31]
  have hx2 : x = 0 ∨ x = 1 := by omega
  have hy2 : y = 0 ∨ y = 1 := by omega
  rcases hx2 with rfl | rfl <;> rcases hy2 with rfl | rfl
  · rw [if_neg (by decide), if_neg (by decide)] at hq
    rw [if_pos (by decide), if_pos (by decide)]; exact hq
  · rw [if_neg (by decide), if_pos rfl] at hq
    rw [if_pos (by decide), if_neg (by decide)]; exact hq
  · rw [if_pos rfl, if_neg (by decide)] at hq
    rw [if_neg (by decide), if_pos (by decide)]; exact hq
  · rw [if_pos rfl, if_pos rfl] at hq
    rw [if_neg (by decide), if_neg (by decide)]; exact hq
theorem tm_rests {a b c v : Int32} (hq0 : sp_rests a b c v = none → Q (some (.int 0)) (pm_h z X Y (pm_l ((1, mV.2.1, mV.2.2.1, mV.2.2.2)) mT mQ mO mE mB mS mR mW))) (hq1 : ∀ r, sp_rests a b c v = some r → Q (some (.int r)) (pm_h z X Y (pm_l ((0, mV.2.1, mV.2.2.1, mV.2.2.2)) mT mQ mO mE mB mS mR mW))) : wm (mp_P fx) (d + 1) 322 [.ref 149, .int a, .int b, .int c, .int v] (pm_h z X Y (pm_l mV mT mQ mO mE mB mS mR mW)) Q := by
  have key : ∀ (m p f : Nat) (l7 l8 : Option Value), p + m = 4 → sp_rests a b c v = rsl a b c v m p f → ww (mp_P fx) (d + 1) 322 61 [some (.ref 149), some (.int a), some (.int b), some (.int c), some (.int v), some (.int (nI f)), some (.int (nI p)), l7, l8] [] (pm_h z X Y (pm_l ((0, mV.2.1, mV.2.2.1, mV.2.2.2)) mT mQ mO mE mB mS mR mW)) Q := by
    intro m
    induction m with
    | zero =>
      intro p f l7 l8 hp hsp
      rw [rsl] at hsp
      rw [q322_61]
      simp only [q322_63, q322_64]
      rw [if_pos (by rw [nl_4, nI_leI (by omega) (by omega)]; omega)]
      by_cases ev : v = -1
      · rw [if_pos ev] at hsp
        simp only [q322_151, q322_152, q322_154, q322_155, q322_158, q322_159]
        rw [if_neg (fun z => z ev)]
        simp only [q322_158, q322_159, q322_163, q322_166, q322_168, q322_169, mc_o, mg_thrown, mf_thrown, wx_some, wx_ref]
        rw [if_neg (fun z => z ev)]
        simp only [q322_172, q322_174, q322_178]
        exact hq1 _ hsp
      · rw [if_neg ev] at hsp
        simp only [q322_151, q322_152, q322_154, q322_155]
        rw [if_pos ev]
        simp only [q322_162, q322_163, q322_166, q322_168, q322_169, mc_o, mg_thrown, mf_thrown, wx_some, wx_ref]
        rw [if_pos ev]
        simp only [q322_177, q322_178]
        exact hq0 hsp
    | succ m ih =>
      intro p f l7 l8 hp hsp
      obtain ⟨d1, d2, d3, d4⟩ := r4_div p (by omega)
      have hx : p / 2 < 2 := by omega
      have hy : p % 2 < 2 := by omega
      rw [rsl] at hsp
      rw [q322_61]
      simp only [q322_63, q322_64]
      rw [if_neg (by rw [nl_4, nI_leI (by omega) (by omega)]; omega)]
      simp only [q322_67, q322_69, q322_70, q322_71i, q322_73, q322_75, q322_76, q322_77i, q322_79, q322_80, q322_81, q322_82, q322_83, q322_85, q322_86, isl_i, isl_r, isl_n, if_neg (show ¬ (2 : Int32) = 0 by decide), d1, d2, d3]
      simp only [q322_88]
      apply tm_getsBy (by omega) hy
      simp only [sl_i, q322_91, q322_92, q322_93, q322_94, q322_96]
      simp only [q322_98]
      apply tm_getsBy hx hy
      simp only [sl_i, q322_101]
      have h145 : ∀ f', sp_rests a b c v = rsl a b c v m (p + 1) f' → ww (mp_P fx) (d + 1) 322 145 [some (.ref 149), some (.int a), some (.int b), some (.int c), some (.int v), some (.int (nI f')), some (.int (nI p)), some (.int (nI (p / 2))), some (.int (nI (p % 2)))] [] (pm_h z X Y (pm_l ((0, mV.2.1, mV.2.2.1, mV.2.2.2)) mT mQ mO mE mB mS mR mW)) Q := by
        intro f' hf'
        simp only [q322_145i, q322_148, nI_1]
        exact ih (p + 1) f' _ _ (by omega) hf'
      by_cases e1 : gN a b c (1 - p / 2) (p % 2) ≤ gN a b c (p / 2) (p % 2)
      · rw [if_neg (Int32.not_lt.mpr e1)]
        simp only [q322_104, q322_105, q322_106, q322_107, q322_108, q322_110, q322_111, d4]
        simp only [q322_113]
        apply tm_getsBy (by omega) hx
        simp only [sl_i, q322_116, q322_117, q322_118, q322_119, q322_121]
        simp only [q322_123]
        apply tm_getsBy hy hx
        simp only [sl_i, q322_126]
        by_cases e2 : gN a b c (1 - p % 2) (p / 2) ≤ gN a b c (p % 2) (p / 2)
        · have hP : rsP a b c p = true := by unfold rsP; rw [decide_eq_true e1, decide_eq_true e2]; rfl
          rw [if_pos hP] at hsp
          rw [if_pos e2]
          simp only [q322_132, q322_134, q322_136]
          by_cases e3 : nI f = v
          · rw [if_pos e3] at hsp
            rw [if_neg (fun z => z e3)]
            simp only [q322_139, q322_141]
            exact hq1 _ hsp
          · rw [if_neg e3] at hsp
            rw [if_pos e3]
            simp only [q322_142i, nI_1]
            exact h145 (f + 1) hsp
        · have hP : ¬ rsP a b c p = true := by unfold rsP; rw [decide_eq_true e1, decide_eq_false e2]; decide
          rw [if_neg hP] at hsp
          rw [if_neg e2]
          simp only [q322_129]
          exact h145 f hsp
      · have hP : ¬ rsP a b c p = true := by unfold rsP; rw [decide_eq_false e1, Bool.false_and]; decide
        rw [if_neg hP] at hsp
        rw [if_pos (Int32.not_le.mp e1)]
        exact h145 f hsp
  have bad : ¬ ((0 ≤ a ∧ a ≤ 9) ∧ (0 ≤ b ∧ b ≤ 9) ∧ (0 ≤ c ∧ c ≤ 9) ∧ -1 ≤ v) → ww (mp_P fx) (d + 1) 322 41 [some (.ref 149), some (.int a), some (.int b), some (.int c), some (.int v), none, none, none, none] [.ref 149] (pm_h z X Y (pm_l mV mT mQ mO mE mB mS mR mW)) Q := by
    intro hb
    simp only [q322_41, q322_42, q322_45, q322_46, q322_49, q322_50, mc_o, mg_thrown, mf_thrown, wx_some, wx_ref]
    rw [if_neg (fun z => z trivial)]
    simp only [q322_53, q322_54]
    exact hq0 (if_neg hb)
  simp only [e322, q322_0, q322_1, q322_2, q322_3]
  simp only [q322_5]
  apply tm_in
  · intro y
    simp only [sl_i, q322_8]
    rw [if_pos (by decide)]
    exact bad (fun z => by
      rcases y with y | y
      · exact Int32.not_le.mpr y z.1.1
      · exact Int32.not_le.mpr y z.1.2)
  intro ya yb
  simp only [sl_i, q322_8, q322_11, q322_12, q322_13]
  rw [if_neg (by decide)]
  simp only [q322_15]
  apply tm_in
  · intro y
    simp only [sl_i, q322_18]
    rw [if_pos (by decide)]
    exact bad (fun z => by
      rcases y with y | y
      · exact Int32.not_le.mpr y z.2.1.1
      · exact Int32.not_le.mpr y z.2.1.2)
  intro yc yd
  simp only [sl_i, q322_18, q322_21, q322_22, q322_23]
  rw [if_neg (by decide)]
  simp only [q322_25]
  apply tm_in
  · intro y
    simp only [sl_i, q322_28]
    rw [if_pos (by decide)]
    exact bad (fun z => by
      rcases y with y | y
      · exact Int32.not_le.mpr y z.2.2.1.1
      · exact Int32.not_le.mpr y z.2.2.1.2)
  intro ye yf
  simp only [sl_i, q322_28, q322_31, q322_33, q322_34]
  rw [if_neg (by decide)]
  by_cases ev : v < -1
  · rw [if_pos ev]
    exact bad (fun z => Int32.not_le.mpr ev z.2.2.2)
  rw [if_neg ev]
  simp only [q322_37, q322_38, q322_42, q322_45, q322_46, q322_49, q322_50, mc_o, mg_thrown, mf_thrown, wx_some, wx_ref]
  rw [if_pos (by decide)]
  simp only [q322_55, q322_56i, q322_58, q322_59i, isl_i, isl_r, isl_n]
  exact key 4 0 0 none none rfl (if_pos ⟨⟨ya, yb⟩, ⟨yc, yd⟩, ⟨ye, yf⟩, Int32.not_lt.mp ev⟩)
end GZQ
