/-! the law's value, of the model: levels -/
abbrev LV : Type := Int32 × Int32 × Int32 × Int32 × Int32 × Int32 × Int32 × Int32
def lv_opens (l : LV) : LV := (l.1, 0, l.2.2.1, 0, 0, 20, l.2.2.2.2.2.2.1, 0)
def lv_s (l : LV) : Int32 := if l.2.2.2.2.2.1 = 21 then l.2.2.2.2.1 - l.2.2.2.2.2.2.1 else l.2.2.2.2.1 + l.2.2.2.2.2.2.1
def lv_sums (l : LV) : LV := (l.1, l.2.1, l.2.2.1, l.2.2.2.1, lv_s l, l.2.2.2.2.2.1, l.2.2.2.2.2.2.1, 0)
def lv_t1 (l : LV) : Int32 := if l.2.2.2.1 = 24 then (if l.2.2.1 < lv_s l then 1 else 0) else if l.2.2.2.1 = 25 then (if l.2.2.1 = lv_s l then 1 else 0) else lv_s l
def lv_t (l : LV) : Int32 := if l.2.1 = 26 then (if l.1 ≠ 0 ∧ lv_t1 l ≠ 0 then 1 else 0) else if l.2.1 = 27 then (if l.1 ≠ 0 ∨ lv_t1 l ≠ 0 then 1 else 0) else lv_t1 l
def lv_tests (l : LV) : LV := (lv_t l, l.2.1, l.2.2.1, 0, 0, 20, l.2.2.2.2.2.2.1, 0)
def lv_val (l : LV) (v : Int32) : LV := (l.1, l.2.1, l.2.2.1, l.2.2.2.1, l.2.2.2.2.1, l.2.2.2.2.2.1, (if l.2.2.2.2.2.2.2 = 0 then v else l.2.2.2.2.2.2.1 * v), l.2.2.2.2.2.2.2)
def uL {α : Type} (L : Nat → α) (d : Nat) (l : α) : Nat → α := fun i => if i = d then l else L i
theorem uL_eq {α : Type} {L : Nat → α} {d : Nat} {l : α} : uL L d l d = l := if_pos rfl
theorem uL_ne {α : Type} {L : Nat → α} {d i : Nat} {l : α} (h : i ≠ d) : uL L d l i = L i := if_neg h
/-- a value goes up through nots -/
def lv_dv (bn : Nat → Int32) : Nat → Int32 → Nat × Int32
  | 0, v => (0, v)
  | d + 1, v => if bn (d + 1) = 1 then lv_dv bn d (if v = 0 then 1 else 0) else (d + 1, v)
abbrev LSt : Type := Nat × (Nat → Int32) × (Nat → LV)
def lv_put (t : LSt) (v : Int32) : LSt := ((lv_dv t.2.1 t.1 v).1, t.2.1, uL t.2.2 (lv_dv t.2.1 t.1 v).1 (lv_val (t.2.2 (lv_dv t.2.1 t.1 v).1) (lv_dv t.2.1 t.1 v).2))
def lm_1 (vl : Nat → Int32) (c : Nat) (t : LSt) : Option LSt :=
  if c = 28 ∨ c = 30 then (if t.1 < 6 then some (t.1 + 1, uL t.2.1 (t.1 + 1) (if c = 30 then 1 else 0), uL t.2.2 (t.1 + 1) (lv_opens (t.2.2 (t.1 + 1)))) else none)
  else if c = 20 ∨ c = 21 then some (t.1, t.2.1, uL t.2.2 t.1 ((t.2.2 t.1).1, (t.2.2 t.1).2.1, (t.2.2 t.1).2.2.1, (t.2.2 t.1).2.2.2.1, lv_s (t.2.2 t.1), nI c, (t.2.2 t.1).2.2.2.2.2.2.1, 0))
  else if c = 22 then some (t.1, t.2.1, uL t.2.2 t.1 ((t.2.2 t.1).1, (t.2.2 t.1).2.1, (t.2.2 t.1).2.2.1, (t.2.2 t.1).2.2.2.1, (t.2.2 t.1).2.2.2.2.1, (t.2.2 t.1).2.2.2.2.2.1, (t.2.2 t.1).2.2.2.2.2.2.1, nI c))
  else if c = 24 ∨ c = 25 then some (t.1, t.2.1, uL t.2.2 t.1 ((t.2.2 t.1).1, (t.2.2 t.1).2.1, lv_s (t.2.2 t.1), nI c, 0, 20, (t.2.2 t.1).2.2.2.2.2.2.1, 0))
  else if c = 26 ∨ c = 27 then some (t.1, t.2.1, uL t.2.2 t.1 (lv_t (t.2.2 t.1), nI c, (t.2.2 t.1).2.2.1, 0, 0, 20, (t.2.2 t.1).2.2.2.2.2.2.1, 0))
  else if c = 29 then (if 0 < t.1 then some (lv_put (t.1 - 1, t.2.1, uL t.2.2 t.1 (lv_tests (t.2.2 t.1))) (lv_t (t.2.2 t.1))) else none)
  else if 100 ≤ c then some (lv_put t (nI (c - 100)))
  else if 1 ≤ c ∧ c ≤ 4 then some (lv_put t (vl c)) else none
def lm_run (vl : Nat → Int32) : List Nat → LSt → Option LSt
  | [], t => some t
  | c :: cs, t => match lm_1 vl c t with
    | none => none
    | some t' => lm_run vl cs t'
theorem lm_app {vl : Nat → Int32} {cs ds : List Nat} {t t' : LSt} (h : lm_run vl cs t = some t') : lm_run vl (cs ++ ds) t = lm_run vl ds t' := by
  induction cs generalizing t with
  | nil => cases h; rfl
  | cons c cs ih =>
    rw [lm_run] at h
    show lm_run vl (c :: (cs ++ ds)) t = _
    rw [lm_run]
    split at h
    · cases h
    · exact ih h
/-- a row agrees with a function of ints, at all its places -/
def af (xs : List Int32) (n : Nat) (f : Nat → Int32) : Prop := xs.length = n ∧ ∀ i, i < n → xs[i]? = some (f i)
theorem af_G {xs : List Int32} {n i : Nat} {f : Nat → Int32} (h : af xs n f) (hn : n < 2 ^ 31) (hi : i < n) : aG xs (nI i) = some (f i) := aG_n (h.2 i hi) (by rw [h.1]; exact hn)
theorem af_S {β : Type} {xs : List Int32} {n i : Nat} {f : Nat → Int32} {v : Int32} {g : List Int32 → β} (h : af xs n f) (hn : n < 2 ^ 31) (hi : i < n) : aS xs (nI i) v g = some (g (xs.set i v)) := aS_n (by rw [h.1]; exact hi) (by rw [h.1]; exact hn)
theorem af_set {xs : List Int32} {n d : Nat} {f g : Nat → Int32} {v : Int32} (h : af xs n f) (hd : d < n) (hg : ∀ i, g i = if i = d then v else f i) : af (xs.set d v) n g := by
  refine ⟨by rw [List.length_set]; exact h.1, fun i hi => ?_⟩
  rw [List.getElem?_set, hg i]
  by_cases e : d = i
  · subst e; rw [if_pos rfl, if_pos (by rw [h.1]; exact hd), if_pos rfl]
  · rw [if_neg e, if_neg (fun z => e z.symm), h.2 i hi]
theorem af_same {xs : List Int32} {n : Nat} {f g : Nat → Int32} (h : af xs n f) (hg : ∀ i, g i = f i) : af xs n g := ⟨h.1, fun i hi => by rw [hg i]; exact h.2 i hi⟩
/-- the model's rows hold the levels -/
def EL (mE : pm_E) (bn : Nat → Int32) (L : Nat → LV) : Prop := af mE.1 7 (fun i => (L i).1) ∧ af mE.2.1 7 (fun i => (L i).2.1) ∧ af mE.2.2.1 7 (fun i => (L i).2.2.1) ∧ af mE.2.2.2.1 7 (fun i => (L i).2.2.2.1) ∧ af mE.2.2.2.2.1 7 (fun i => (L i).2.2.2.2.1) ∧ af mE.2.2.2.2.2.1 7 (fun i => (L i).2.2.2.2.2.1) ∧ af mE.2.2.2.2.2.2.1 7 (fun i => (L i).2.2.2.2.2.2.1) ∧ af mE.2.2.2.2.2.2.2.1 7 (fun i => (L i).2.2.2.2.2.2.2) ∧ af mE.2.2.2.2.2.2.2.2.1 7 bn
/-- after writes at one level -/
theorem EL_up {mE mE' : pm_E} {bn : Nat → Int32} {L : Nat → LV} {d : Nat} {l : LV} (h : EL mE bn L) (hd : d < 7)
    (h1 : mE'.1 = (mE.1).set d l.1 ∨ (mE'.1 = mE.1 ∧ l.1 = (L d).1)) (h2 : mE'.2.1 = (mE.2.1).set d l.2.1 ∨ (mE'.2.1 = mE.2.1 ∧ l.2.1 = (L d).2.1)) (h3 : mE'.2.2.1 = (mE.2.2.1).set d l.2.2.1 ∨ (mE'.2.2.1 = mE.2.2.1 ∧ l.2.2.1 = (L d).2.2.1)) (h4 : mE'.2.2.2.1 = (mE.2.2.2.1).set d l.2.2.2.1 ∨ (mE'.2.2.2.1 = mE.2.2.2.1 ∧ l.2.2.2.1 = (L d).2.2.2.1)) (h5 : mE'.2.2.2.2.1 = (mE.2.2.2.2.1).set d l.2.2.2.2.1 ∨ (mE'.2.2.2.2.1 = mE.2.2.2.2.1 ∧ l.2.2.2.2.1 = (L d).2.2.2.2.1)) (h6 : mE'.2.2.2.2.2.1 = (mE.2.2.2.2.2.1).set d l.2.2.2.2.2.1 ∨ (mE'.2.2.2.2.2.1 = mE.2.2.2.2.2.1 ∧ l.2.2.2.2.2.1 = (L d).2.2.2.2.2.1)) (h7 : mE'.2.2.2.2.2.2.1 = (mE.2.2.2.2.2.2.1).set d l.2.2.2.2.2.2.1 ∨ (mE'.2.2.2.2.2.2.1 = mE.2.2.2.2.2.2.1 ∧ l.2.2.2.2.2.2.1 = (L d).2.2.2.2.2.2.1)) (h8 : mE'.2.2.2.2.2.2.2.1 = (mE.2.2.2.2.2.2.2.1).set d l.2.2.2.2.2.2.2 ∨ (mE'.2.2.2.2.2.2.2.1 = mE.2.2.2.2.2.2.2.1 ∧ l.2.2.2.2.2.2.2 = (L d).2.2.2.2.2.2.2)) (h9 : mE'.2.2.2.2.2.2.2.2.1 = mE.2.2.2.2.2.2.2.2.1) : EL mE' bn (uL L d l) := by
  have key : ∀ (xs ys : List Int32) (f : LV → Int32), af xs 7 (fun i => f (L i)) → (ys = xs.set d (f l) ∨ (ys = xs ∧ f l = f (L d))) → af ys 7 (fun i => f (uL L d l i)) := by
    intro xs ys f ha hy
    rcases hy with hy | ⟨hy, e⟩
    · rw [hy]
      apply af_set ha hd
      intro i
      unfold uL
      split <;> rfl
    · rw [hy]
      apply af_same ha
      intro i
      unfold uL
      split
      · rename_i z; rw [z]; exact e
      · rfl
  obtain ⟨a1, a2, a3, a4, a5, a6, a7, a8, a9⟩ := h
  exact ⟨key _ _ (fun l => l.1) a1 h1, key _ _ (fun l => l.2.1) a2 h2, key _ _ (fun l => l.2.2.1) a3 h3, key _ _ (fun l => l.2.2.2.1) a4 h4, key _ _ (fun l => l.2.2.2.2.1) a5 h5, key _ _ (fun l => l.2.2.2.2.2.1) a6 h6, key _ _ (fun l => l.2.2.2.2.2.2.1) a7 h7, key _ _ (fun l => l.2.2.2.2.2.2.2) a8 h8, by rw [h9]; exact a9⟩
section ML
variable {fx : List Value → mm_H → Option (List Value × mm_H)} {z : Nat} {X Y : Nat → mm_C} {mV : pm_V} {mT : pm_T} {mQ : pm_Q} {mO : pm_O} {mE : pm_E} {mB : pm_B} {mS : pm_S} {mR : pm_R} {mW : pm_W} {m_thrown : Int32} {m_given : Int32} {m_fresh : Int64} {m_code : Int32} {m_taped : Int32} {m_tape : List Int32} {m_size : Int32} {m_place : Int32} {m_begin : Int32} {m_token : Int32} {m_word : Int64} {m_told : Int32} {m_wrong : Int32} {m_square : List Int32} {m_sortName : List Int64} {m_colourName : List Int64} {m_walkerName : List Int64} {m_sortOf : List Int32} {m_rules : List Int32} {m_kind : List Int32} {m_colour : List Int32} {m_atTold : List Int32} {m_goesMany : List Int32} {m_goes : List Int32} {m_gusts : List Int32} {m_lineFrom : List Int32} {m_lineTo : List Int32} {m_codes : List Int32} {m_opened : List Int32} {m_compared : List Int32} {m_kept : List Int32} {m_keptBy : List Int32} {m_ahead : List Int32} {m_against : List Int32} {m_sum : List Int32} {m_sumBy : List Int32} {m_term : List Int32} {m_termBy : List Int32} {m_byNot : List Int32} {m_valueOf : List Int32} {m_lines : List Int32} {m_lineWhat : List Int32} {m_lineA : List Int32} {m_lineB : List Int32} {m_wishes : List Int32} {m_wishOf : List Int32} {m_seens : List Int32} {m_seenAt : List Int32} {m_seenIn : List Int32} {m_seenThere : List Int32} {m_s : List Int32} {m_aside : List Int32} {m_before : List Int32} {m_marked : List Int32} {m_undone : List Int32} {m_isLaid : List Int32} {m_done : Int32} {m_gustNow : Int32} {m_shown : List Int32} {m_shownMany : Int32} {m_from7 : List Int32} {m_long7 : List Int32} {m_sentences : Int32} {m_text7 : List Int32} {m_textMany : Int32} {m_waysOf : List Int32} {m_rowOf : List Int32} {m_row : List Int32} {m_bestRow : List Int32} {m_leastSteps : Int32} {m_steps10 : List Int32} {m_placeIn : List Int32} {m_g : Int64}
variable {d : Nat} {Q : Option Value → mm_H → Prop} {bn : Nat → Int32} {L : Nat → LV}
theorem tm_opens {k : Nat} (hE : EL mE bn L) (hk : k < 7) (hq : ∀ mE', EL mE' bn (uL L k (lv_opens (L k))) → mE'.2.2.2.2.2.2.2.2.2 = mE.2.2.2.2.2.2.2.2.2 → Q none (pm_h z X Y (pm_l mV mT mQ mO (mE') mB mS mR mW))) : wm (mp_P fx) d 265 [.ref 149, .int (nI k)] (pm_h z X Y (pm_l mV mT mQ mO mE mB mS mR mW)) Q := by
  obtain ⟨a1, a2, a3, a4, a5, a6, a7, a8, a9⟩ := id hE
  simp only [e265, q265_0, q265_1, q265_4, q265_5, q265_6, q265_7, q265_8, q265_11, q265_12, q265_13, q265_14, q265_15, q265_18, q265_19, q265_20, q265_21, q265_22, q265_25, q265_26, q265_28, q265_29, q265_30, q265_33, q265_34, q265_35, q265_36, mg_keptBy, ma_keptBy, mb_keptBy, mn_keptBy, mg_against, ma_against, mb_against, mn_against, mg_sum, ma_sum, mb_sum, mn_sum, mg_sumBy, ma_sumBy, mb_sumBy, mn_sumBy, mg_termBy, ma_termBy, mb_termBy, mn_termBy, wx_some, wx_ref, af_S a2 (show 7 < 2 ^ 31 by omega) hk, af_S a4 (show 7 < 2 ^ 31 by omega) hk, af_S a5 (show 7 < 2 ^ 31 by omega) hk, af_S a6 (show 7 < 2 ^ 31 by omega) hk, af_S a8 (show 7 < 2 ^ 31 by omega) hk]
  apply hq
  · exact EL_up hE hk (Or.inr ⟨rfl, rfl⟩) (Or.inl rfl) (Or.inr ⟨rfl, rfl⟩) (Or.inl rfl) (Or.inl rfl) (Or.inl rfl) (Or.inr ⟨rfl, rfl⟩) (Or.inl rfl) rfl
  · rfl
theorem tm_sums {k : Nat} (hE : EL mE bn L) (hk : k < 7) (hq : ∀ mE', EL mE' bn (uL L k (lv_sums (L k))) → mE'.2.2.2.2.2.2.2.2.2 = mE.2.2.2.2.2.2.2.2.2 → Q none (pm_h z X Y (pm_l mV mT mQ mO (mE') mB mS mR mW))) : wm (mp_P fx) d 266 [.ref 149, .int (nI k)] (pm_h z X Y (pm_l mV mT mQ mO mE mB mS mR mW)) Q := by
  obtain ⟨a1, a2, a3, a4, a5, a6, a7, a8, a9⟩ := id hE
  simp only [e266, q266_0, q266_1, q266_4, q266_5, q266_6, q266_9, q266_10, q266_11, q266_13, q266_16, q266_17, q266_20, q266_21, q266_22, q266_23, q266_26, q266_27, q266_28, q266_29, q266_32, q266_33, q266_36, q266_37, q266_38, q266_39, q266_42, q266_43, q266_44, q266_45, q266_46, q266_47, q266_50, q266_51, q266_52, q266_53, mg_sum, ma_sum, mb_sum, mn_sum, mg_sumBy, ma_sumBy, mb_sumBy, mn_sumBy, mg_term, ma_term, mb_term, mn_term, mg_termBy, ma_termBy, mb_termBy, mn_termBy, wx_some, wx_ref, af_G a6 (show 7 < 2 ^ 31 by omega) hk, af_G a5 (show 7 < 2 ^ 31 by omega) hk, af_G a7 (show 7 < 2 ^ 31 by omega) hk, af_S a5 (show 7 < 2 ^ 31 by omega) hk, af_S a8 (show 7 < 2 ^ 31 by omega) hk]
  by_cases e : (L k).2.2.2.2.2.1 = 21
  · have hs : lv_s (L k) = (L k).2.2.2.2.1 - (L k).2.2.2.2.2.2.1 := if_pos e
    rw [if_neg (fun z => z e)]
    apply hq
    · exact EL_up hE hk (Or.inr ⟨rfl, rfl⟩) (Or.inr ⟨rfl, rfl⟩) (Or.inr ⟨rfl, rfl⟩) (Or.inr ⟨rfl, rfl⟩) (Or.inl (by unfold lv_sums; rw [hs])) (Or.inr ⟨rfl, rfl⟩) (Or.inr ⟨rfl, rfl⟩) (Or.inl rfl) rfl
    · rfl
  · have hs : lv_s (L k) = (L k).2.2.2.2.1 + (L k).2.2.2.2.2.2.1 := if_neg e
    rw [if_pos e]
    apply hq
    · exact EL_up hE hk (Or.inr ⟨rfl, rfl⟩) (Or.inr ⟨rfl, rfl⟩) (Or.inr ⟨rfl, rfl⟩) (Or.inr ⟨rfl, rfl⟩) (Or.inl (by unfold lv_sums; rw [hs])) (Or.inr ⟨rfl, rfl⟩) (Or.inr ⟨rfl, rfl⟩) (Or.inl rfl) rfl
    · rfl
theorem uL_uL {α : Type} {L : Nat → α} {d : Nat} {l l' : α} : uL (uL L d l) d l' = uL L d l' := by
  funext i; unfold uL; split <;> rfl
theorem tm_tests {k : Nat} (hE : EL mE bn L) (hk : k < 7) (hq : ∀ mE', EL mE' bn (uL L k (lv_tests (L k))) → mE'.2.2.2.2.2.2.2.2.2 = mE.2.2.2.2.2.2.2.2.2 → Q none (pm_h z X Y (pm_l mV mT mQ mO (mE') mB mS mR mW))) : wm (mp_P fx) (d + 1) 267 [.ref 149, .int (nI k)] (pm_h z X Y (pm_l mV mT mQ mO mE mB mS mR mW)) Q := by
  simp only [e267, q267_0, q267_1, q267_2, q267_5, q267_6, q267_9, q267_10, q267_11i, q267_12, q267_13, q267_16, q267_17, q267_18, q267_20, q267_23, q267_24, q267_27, q267_28, q267_29, q267_30, q267_33, q267_34, q267_35, q267_38, q267_39, q267_42, q267_43i, q267_44, q267_45, q267_48, q267_49, q267_50, q267_52, q267_55, q267_56, q267_59, q267_60, q267_61, q267_62, q267_65, q267_66, q267_67, q267_70, q267_71, q267_74, q267_75i, q267_76, q267_77, q267_80, q267_81, q267_82, q267_84, q267_87, q267_88, q267_91, q267_92, q267_93, q267_96, q267_97, q267_100, q267_101, q267_104, q267_105i, q267_106, q267_107, q267_110, q267_111, q267_112, q267_114, q267_117, q267_118, q267_121, q267_122, q267_123, q267_126, q267_127, q267_130, q267_131, q267_134, q267_135i, q267_136, q267_137, q267_140, q267_141, q267_142, q267_143, q267_144, q267_147, q267_148, q267_149, q267_150, q267_151, q267_154, q267_155, q267_156, q267_157, q267_158, q267_161, q267_162, q267_164, q267_165, mc_o, isl_i, isl_r, isl_n]
  apply tm_sums hE hk
  intro mE1 hE1 hv1
  obtain ⟨a1, a2, a3, a4, a5, a6, a7, a8, a9⟩ := id hE1
  have h7 : 7 < 2 ^ 31 := by omega
  have b1 : (uL L k (lv_sums (L k)) k).1 = (L k).1 := by rw [uL_eq]; rfl
  have b2 : (uL L k (lv_sums (L k)) k).2.1 = (L k).2.1 := by rw [uL_eq]; rfl
  have b3 : (uL L k (lv_sums (L k)) k).2.2.1 = (L k).2.2.1 := by rw [uL_eq]; rfl
  have b4 : (uL L k (lv_sums (L k)) k).2.2.2.1 = (L k).2.2.2.1 := by rw [uL_eq]; rfl
  have b5 : (uL L k (lv_sums (L k)) k).2.2.2.2.1 = lv_s (L k) := by rw [uL_eq]; rfl
  have fin : ∀ v : Int32, v = lv_t (L k) → ww (mp_P fx) (d + 1) 267 136 [some (.ref 149), some (.int (nI k)), some (.int v)] [] (pm_h z X Y (pm_l mV mT mQ mO (mE1) mB mS mR mW)) Q := by
    intro v hv
    simp only [q267_136, q267_137, q267_140, q267_141, q267_142, q267_143, q267_144, q267_147, q267_148, q267_149, q267_150, q267_151, q267_154, q267_155, q267_156, q267_157, q267_158, q267_161, q267_162, q267_164, q267_165, mg_kept, ma_kept, mb_kept, mn_kept, mg_against, ma_against, mb_against, mn_against, mg_sum, ma_sum, mb_sum, mn_sum, mg_sumBy, ma_sumBy, mb_sumBy, mn_sumBy, wx_some, wx_ref, af_S a1 h7 hk, af_S a4 h7 hk, af_S a5 h7 hk, af_S a6 h7 hk]
    apply hq
    · have := EL_up (l := lv_tests (L k)) (mE' := ((mE1.1).set k v, mE1.2.1, mE1.2.2.1, (mE1.2.2.2.1).set k 0, (mE1.2.2.2.2.1).set k 0, (mE1.2.2.2.2.2.1).set k 20, mE1.2.2.2.2.2.2.1, mE1.2.2.2.2.2.2.2.1, mE1.2.2.2.2.2.2.2.2.1, mE1.2.2.2.2.2.2.2.2.2)) hE1 hk (Or.inl (by rw [hv]; rfl)) (Or.inr ⟨rfl, by rw [uL_eq]; rfl⟩) (Or.inr ⟨rfl, by rw [uL_eq]; rfl⟩) (Or.inl rfl) (Or.inl rfl) (Or.inl rfl) (Or.inr ⟨rfl, by rw [uL_eq]; rfl⟩) (Or.inr ⟨rfl, by rw [uL_eq]; rfl⟩) rfl
      rw [uL_uL] at this
      exact this
    · exact hv1
  have fD : ∀ v : Int32, (if (L k).2.1 = 27 then (if (L k).1 ≠ 0 ∨ v ≠ 0 then 1 else 0) else v) = lv_t (L k) → ww (mp_P fx) (d + 1) 267 106 [some (.ref 149), some (.int (nI k)), some (.int v)] [] (pm_h z X Y (pm_l mV mT mQ mO (mE1) mB mS mR mW)) Q := by
    intro v hv
    simp only [q267_106, q267_107, q267_110, q267_111, q267_112, q267_114, q267_117, q267_118, q267_121, q267_122, q267_123, q267_126, q267_127, q267_130, q267_131, q267_134, q267_135i, mg_kept, ma_kept, mb_kept, mn_kept, mg_keptBy, ma_keptBy, mb_keptBy, mn_keptBy, wx_some, wx_ref, isl_i, isl_r, isl_n, af_G a1 h7 hk, af_G a2 h7 hk, b1, b2]
    by_cases e : (L k).2.1 = 27
    · rw [if_pos e] at hv; rw [if_neg (fun z => z e)]
      by_cases e1 : (L k).1 = 0
      · rw [if_neg (fun z => z e1)]
        by_cases e2 : v = 0
        · rw [if_pos e2]; exact fin _ (by rw [← hv, if_neg (fun z => z.elim (fun y => y e1) (fun y => y e2))])
        · rw [if_neg e2]; exact fin _ (by rw [← hv, if_pos (Or.inr e2)])
      · rw [if_pos e1]; exact fin _ (by rw [← hv, if_pos (Or.inl e1)])
    · rw [if_neg e] at hv; rw [if_pos e]; exact fin _ hv
  have fC : ww (mp_P fx) (d + 1) 267 76 [some (.ref 149), some (.int (nI k)), some (.int (lv_t1 (L k)))] [] (pm_h z X Y (pm_l mV mT mQ mO (mE1) mB mS mR mW)) Q := by
    simp only [q267_76, q267_77, q267_80, q267_81, q267_82, q267_84, q267_87, q267_88, q267_91, q267_92, q267_93, q267_96, q267_97, q267_100, q267_101, q267_104, q267_105i, mg_kept, ma_kept, mb_kept, mn_kept, mg_keptBy, ma_keptBy, mb_keptBy, mn_keptBy, wx_some, wx_ref, isl_i, isl_r, isl_n, af_G a1 h7 hk, af_G a2 h7 hk, b1, b2]
    by_cases e : (L k).2.1 = 26
    · have e7 : ¬ (L k).2.1 = 27 := by rw [e]; decide
      have hv : lv_t (L k) = if (L k).1 ≠ 0 ∧ lv_t1 (L k) ≠ 0 then 1 else 0 := if_pos e
      rw [if_neg (fun z => z e)]
      by_cases e1 : (L k).1 = 0
      · rw [if_pos e1]; exact fD _ (by rw [if_neg e7, hv, if_neg (fun z => z.1 e1)])
      · rw [if_neg e1]
        by_cases e2 : lv_t1 (L k) = 0
        · rw [if_pos e2]; exact fD _ (by rw [if_neg e7, hv, if_neg (fun z => z.2 e2)])
        · rw [if_neg e2]; exact fD _ (by rw [if_neg e7, hv, if_pos ⟨e1, e2⟩])
    · rw [if_pos e]; exact fD _ (by unfold lv_t; rw [if_neg e])
  have fB : ∀ v : Int32, (if (L k).2.2.2.1 = 25 then (if (L k).2.2.1 = lv_s (L k) then 1 else 0) else v) = lv_t1 (L k) → ww (mp_P fx) (d + 1) 267 44 [some (.ref 149), some (.int (nI k)), some (.int v)] [] (pm_h z X Y (pm_l mV mT mQ mO (mE1) mB mS mR mW)) Q := by
    intro v hv
    simp only [q267_44, q267_45, q267_48, q267_49, q267_50, q267_52, q267_55, q267_56, q267_59, q267_60, q267_61, q267_62, q267_65, q267_66, q267_67, q267_70, q267_71, q267_74, q267_75i, mg_ahead, ma_ahead, mb_ahead, mn_ahead, mg_against, ma_against, mb_against, mn_against, mg_sum, ma_sum, mb_sum, mn_sum, wx_some, wx_ref, isl_i, isl_r, isl_n, af_G a3 h7 hk, af_G a4 h7 hk, af_G a5 h7 hk, b3, b4, b5]
    by_cases e : (L k).2.2.2.1 = 25
    · rw [if_pos e] at hv; rw [if_neg (fun z => z e)]
      by_cases e1 : (L k).2.2.1 = lv_s (L k)
      · rw [if_neg (fun z => z e1)]; rw [if_pos e1] at hv; rw [← hv] at fC; exact fC
      · rw [if_pos e1]; rw [if_neg e1] at hv; rw [← hv] at fC; exact fC
    · rw [if_neg e] at hv; rw [if_pos e, hv]; exact fC
  simp only [sl_n, q267_5, q267_6, q267_9, q267_10, q267_11i, q267_12, q267_13, q267_16, q267_17, q267_18, q267_20, q267_23, q267_24, q267_27, q267_28, q267_29, q267_30, q267_33, q267_34, q267_35, q267_38, q267_39, q267_42, q267_43i, mg_ahead, ma_ahead, mb_ahead, mn_ahead, mg_against, ma_against, mb_against, mn_against, mg_sum, ma_sum, mb_sum, mn_sum, wx_some, wx_ref, isl_i, isl_r, isl_n, af_G a3 h7 hk, af_G a4 h7 hk, af_G a5 h7 hk, b3, b4, b5]
  by_cases e : (L k).2.2.2.1 = 24
  · have e7 : ¬ (L k).2.2.2.1 = 25 := by rw [e]; decide
    have hv : lv_t1 (L k) = if (L k).2.2.1 < lv_s (L k) then 1 else 0 := if_pos e
    rw [if_neg (fun z => z e)]
    by_cases e1 : (L k).2.2.1 < lv_s (L k)
    · rw [if_neg (Int32.not_le.mpr e1)]; exact fB _ (by rw [if_neg e7, hv, if_pos e1])
    · rw [if_pos (Int32.not_lt.mp e1)]; exact fB _ (by rw [if_neg e7, hv, if_neg e1])
  · rw [if_pos e]; exact fB _ (by unfold lv_t1; rw [if_neg e])
end ML
