/-! depth and tree, of the class -/
def RTx (s : SQ) (t : Nat → Nat) (dp n : Nat) (xs : List Int32) : Prop := xs.length = 294 ∧ ∀ i k y, i ≤ k → k < n → y < 6 → xs[cl_ i k y]? = some (io (rwf s t dp (k - i) i y))
def DN (s : SQ) (t : Nat → Nat) (dp n : Nat) (OK : Nat → Nat → Nat → Nat → Prop) (xs : List Int32) : Prop := xs.length = 294 ∧ (∀ i y, i < n → y < 6 → xs[cl_ i i y]? = some (io (rwf s t 0 0 i y))) ∧ ∀ i k y, i < k → k < n → y < 6 → ∃ o, xs[cl_ i k y]? = some (io o) ∧ mnp (CDb s (rwf s t dp) (k - i) i y (OK i k)) o
theorem CDb_iff {s : SQ} {f : Nat → Nat → Nat → Option Nat} {p i y u : Nat} {ok ok' : Nat → Nat → Prop} (h : ∀ r e, e < p → (ok' r e ↔ ok r e)) : CDb s f p i y ok' u ↔ CDb s f p i y ok u := ⟨fun ⟨r, e, h1, h2, h3, h4⟩ => ⟨r, e, h1, h2, (h r e h2).mp h3, h4⟩, fun ⟨r, e, h1, h2, h3, h4⟩ => ⟨r, e, h1, h2, (h r e h2).mpr h3, h4⟩⟩
theorem DN_iff {s : SQ} {t : Nat → Nat} {dp n : Nat} {OK OK' : Nat → Nat → Nat → Nat → Prop} {xs : List Int32} (h : DN s t dp n OK xs) (hi : ∀ i k r e, i < k → k < n → e < k - i → (OK' i k r e ↔ OK i k r e)) : DN s t dp n OK' xs := by
  refine ⟨h.1, h.2.1, fun i k y h1 h2 h3 => ?_⟩
  obtain ⟨o, a, b⟩ := h.2.2 i k y h1 h2 h3
  exact ⟨o, a, mnp_iff b (fun u => CDb_iff (fun r e he => hi i k r e h1 h2 he))⟩
theorem io_m1 {o : Option Nat} (h : ∀ v, o = some v → v < 2 ^ 31) : io o = -1 ↔ o = none := by
  cases o with
  | none => exact ⟨fun _ => rfl, fun _ => rfl⟩
  | some v =>
    refine ⟨fun z => ?_, fun z => by cases z⟩
    have := congrArg Int32.toInt (show nI v = -1 from z)
    rw [nI_toInt (h v rfl)] at this
    have h9 : (-1 : Int32).toInt = -1 := by decide
    omega
theorem cl_inj {y i k y' i' k' : Nat} (h0 : y < 6) (h1 : k < 7) (h2 : y' < 6) (h4 : k' < 7) (h : cl_ i k y = cl_ i' k' y') : y = y' ∧ i = i' ∧ k = k' := by
  unfold cl_ at h
  have a : i * 7 + k = i' * 7 + k' ∧ y = y' := by omega
  have b : i = i' ∧ k = k' := by omega
  exact ⟨a.2, b.1, b.2⟩
theorem nI_min {a b : Nat} (ha : a < 2 ^ 31) (hb : b < 2 ^ 31) : (if nI b < nI a then nI b else nI a) = nI (min a b) := by
  by_cases e : b < a
  · rw [if_pos (by rw [nI_ltI hb ha]; exact e), Nat.min_eq_right (by omega)]
  · rw [if_neg (by rw [nI_ltI hb ha]; exact e), Nat.min_eq_left (by omega)]
theorem mn_io {o : Option Nat} {w : Nat} (h : ∀ v, o = some v → v < 2 ^ 31) (hw : w < 2 ^ 31) : (if ¬ io o = -1 then (if nI w < io o then nI w else io o) else nI w) = io (mn o w) := by
  cases o with
  | none => rw [if_neg (fun z => z rfl)]; rfl
  | some v =>
    rw [if_pos (fun z => by have := (io_m1 h).mp z; cases this)]
    exact nI_min (h v rfl) hw
theorem CDb_lt {s : SQ} {t : Nat → Nat} {dp p i y u : Nat} {ok : Nat → Nat → Prop} (ho : k_ok s) (hp : p ≤ 6) (h : CDb s (rwf s t dp) p i y ok u) : u < 2 ^ 24 := by
  obtain ⟨r, e, h1, h2, -, h4, x, z, h5, h6, h7⟩ := h
  have := ho.1.2.2.1
  rw [h7]
  exact Nat.lt_of_lt_of_le (rowN_lt (by omega) h2 (rwf_lt ho _ _ _ _ _ h5) (rwf_lt ho _ _ _ _ _ h6)) (Nat.pow_le_pow_right (by omega) (by omega))
def sp_dep (s : SQ) (t : Nat → Nat) (n : Nat) : Option Nat := ffl (fun dp => (rwf s t dp (n - 1) 0 (k_sy s)).isSome) 7
def sp_tree (s : SQ) (t : Nat → Nat) (n i : Nat) : Int32 := match sp_dep s t n with
  | none => -1
  | some dp => (io (rwf s t dp (n - 1) 0 (k_sy s)) >>> (nI (4 * (n - 2 - i)) &&& 31)) &&& 15
section TP
variable {fx : List Value → mm_H → Option (List Value × mm_H)} {z : Nat} {E M : Nat → mm_C} {sw c2 w2 : Bool} {T : px_T} {D : px_D} {S : px_S} {S1 : px_S} {K : px_K} {R : px_R} {C : px_C} {W : px_W} {U : px_U} {q : px_q} {q1 : px_q} {B0 : px_K} {B1 : px_K} {B2 : px_K} {B3 : px_K} {T_signs : List Int32} {T_length : Int32} {T_fault : Int32} {T_types : List Int32} {T_starts : List Int32} {T_values : List Int64} {T_tokens : Int32} {T_at : Int32} {T_behind : Int32} {S_hour : Int32} {S_open : Int32} {S_places : List Int32} {S1_hour : Int32} {S1_open : Int32} {S1_places : List Int32} {K_lines : List Int32} {K_lineCount : Int32} {K_wishes : List Int32} {K_wishCount : Int32} {K_sights : List Int32} {K_sightCount : Int32} {R_shown : List Int32} {R_length : Int32} {R_readers : Int32} {R_begins : List Int32} {R_lengths : List Int32} {R_sentences : Int32} {R_order : List Int32} {R_able : Int32} {R_standing : List Int32} {R_lovers : List Int32} {R_lowest : List Int32} {C_ways : List Int32} {C_rows : List Int32} {C_shallower : List Int32} {C_length : Int32} {C_goal : Int32} {W_row : List Int32} {W_walkers : Int32} {W_names : Int32} {W_wanted : List Int32} {W_shown : List Int32} {W_places : List Int32} {W_rest : List Int32} {W_spent : List Int32} {W_tried : List Int32} {U_undoRows : List Int64} {U_markScenes : List Int64} {U_marksLaid : List Int32} {U_undoCount : Int32} {U_undoEnd : Int32} {q_sortNames : List Int64} {q_sortCount : Int32} {q_colourNames : List Int64} {q_colourSorts : List Int32} {q_colourCount : Int32} {q_ruleMakes : List Int32} {q_ruleFirsts : List Int32} {q_ruleSeconds : List Int32} {q_ruleCount : Int32} {q_saysSort : Int32} {q_walkerNames : List Int64} {q_kinds : List Int32} {q_walkerColours : List Int32} {q_starts : List Int32} {q_stepRows : List Int32} {q_stepCounts : List Int32} {q_walkerCount : Int32} {q_gusts : List Int32} {q_gustCount : Int32} {q_parts : List Int32} {q_count : Int32} {q_stack : List Int32} {q_height : Int32} {q1_sortNames : List Int64} {q1_sortCount : Int32} {q1_colourNames : List Int64} {q1_colourSorts : List Int32} {q1_colourCount : Int32} {q1_ruleMakes : List Int32} {q1_ruleFirsts : List Int32} {q1_ruleSeconds : List Int32} {q1_ruleCount : Int32} {q1_saysSort : Int32} {q1_walkerNames : List Int64} {q1_kinds : List Int32} {q1_walkerColours : List Int32} {q1_starts : List Int32} {q1_stepRows : List Int32} {q1_stepCounts : List Int32} {q1_walkerCount : Int32} {q1_gusts : List Int32} {q1_gustCount : Int32} {q1_parts : List Int32} {q1_count : Int32} {q1_stack : List Int32} {q1_height : Int32} {B0_lines : List Int32} {B0_lineCount : Int32} {B0_wishes : List Int32} {B0_wishCount : Int32} {B0_sights : List Int32} {B0_sightCount : Int32} {B1_lines : List Int32} {B1_lineCount : Int32} {B1_wishes : List Int32} {B1_wishCount : Int32} {B1_sights : List Int32} {B1_sightCount : Int32} {B2_lines : List Int32} {B2_lineCount : Int32} {B2_wishes : List Int32} {B2_wishCount : Int32} {B2_sights : List Int32} {B2_sightCount : Int32} {B3_lines : List Int32} {B3_lineCount : Int32} {B3_wishes : List Int32} {B3_wishCount : Int32} {B3_sights : List Int32} {B3_sightCount : Int32}
variable {d : Nat} {Q : Option Value → mm_H → Prop} {s : SQ} {t : Nat → Nat} {n : Nat}
theorem t_startRows (ho : k_ok s) (hn7 : n ≤ 7) (hC : CHf s t n C) (hq : ∀ xs, (∀ dp, DN s t dp n (fun _ _ _ _ => False) xs) → RTx s t 0 n xs → Q none (px_h z E M (px_l sw c2 w2 T D S S1 K R ((C.1, xs, C.2.2.1, C.2.2.2.1, C.2.2.2.2)) W U q q1 B0 B1 B2 B3))) : wm (mp_P fx) (d + 1) 155 [.ref 83] (px_h z E M (px_l sw c2 w2 T D S S1 K R C W U q q1 B0 B1 B2 B3)) Q := by
  obtain ⟨⟨l1, l2, l3⟩, h2, h3, h4⟩ := hC
  simp only [e155, q155_0, q155_1, q155_4, q155_5, xc_C, xg_C_0, xg_C_1, xg_C_2, xg_C_3, xs_C_3, xg_C_4, xs_C_4, xa_C_ways, xb_C_ways, xn_C_ways, xa_C_rows, xb_C_rows, xn_C_rows, xa_C_shallower, xb_C_shallower, xn_C_shallower, wx_some, wx_ref, isl_i, isl_r, isl_n]
  apply t_fill (H := fun l => (px_h z E M (px_l sw c2 w2 T D S S1 K R ((C.1, l, C.2.2.1, C.2.2.2.1, C.2.2.2.2)) W U q q1 B0 B1 B2 B3))) (fun _ _ _ => xb_C_rows) (fun _ => xn_C_rows) (xs := C.2.1)
  · rw [l2]; omega
  rw [l2]
  simp only [sl_n, q155_8, q155_9r, isl_i, isl_r, isl_n]
  have fin : ∀ xs : List Int32, xs.length = 294 → (∀ i y, i < n → y < 6 → xs[cl_ i i y]? = some (io (rwf s t 0 0 i y))) → (∀ i k y, i < k → k < n → y < 6 → xs[cl_ i k y]? = some (-1)) → Q none (px_h z E M (px_l sw c2 w2 T D S S1 K R ((C.1, xs, C.2.2.1, C.2.2.2.1, C.2.2.2.2)) W U q q1 B0 B1 B2 B3)) := by
    intro xs hl hd hu
    refine hq xs (fun dp => ⟨hl, hd, fun i k y h1 h2 h3 => ⟨none, hu i k y h1 h2 h3, mnp_nil (fun u ⟨r, e, _, _, h, _⟩ => h)⟩⟩) ⟨hl, fun i k y h1 h2 h3 => ?_⟩
    by_cases e : i = k
    · subst e; rw [Nat.sub_self]; exact hd i y h2 h3
    · rw [hu i k y (by omega) h2 h3, rwf, if_neg (by omega)]; rfl
  have key2 : ∀ (i : Nat), i < n → (∀ xs l2 l3, xs.length = 294 → (∀ i' y, i' < i + 1 → y < 6 → xs[cl_ i' i' y]? = some (io (rwf s t 0 0 i' y))) → (∀ i' k y, i' < k → k < n → y < 6 → xs[cl_ i' k y]? = some (-1)) → ww (mp_P fx) (d + 1) 155 10 [some (.ref 83), some (.int (nI (i + 1))), l2, l3] [] (px_h z E M (px_l sw c2 w2 T D S S1 K R ((C.1, xs, C.2.2.1, C.2.2.2.1, C.2.2.2.2)) W U q q1 B0 B1 B2 B3)) Q) → ∀ (m y : Nat) (xs : List Int32), y + m = 6 → xs.length = 294 → (∀ i' y, i' < i → y < 6 → xs[cl_ i' i' y]? = some (io (rwf s t 0 0 i' y))) → (∀ y', y' < y → xs[cl_ i i y']? = some (io (rwf s t 0 0 i y'))) → (∀ i' k y, i' < k → k < n → y < 6 → xs[cl_ i' k y]? = some (-1)) → ww (mp_P fx) (d + 1) 155 26 [some (.ref 83), some (.int (nI i)), some (.int (nI (cl_ i i 0))), some (.int (nI y))] [] (px_h z E M (px_l sw c2 w2 T D S S1 K R ((C.1, xs, C.2.2.1, C.2.2.2.1, C.2.2.2.2)) W U q q1 B0 B1 B2 B3)) Q := by
    intro i hi hgo m
    induction m with
    | zero =>
      intro y xs hy hl h5 h6 h7
      have hy2 : y = 6 := by omega
      subst hy2
      rw [q155_26]
      simp only [q155_27, q155_29, q155_62r, q155_65, isl_i, isl_r, isl_n, nI_1]
      rw [if_pos (by decide)]
      refine hgo xs _ _ hl (fun i' y' h8 h9 => ?_) h7
      by_cases e : i' = i
      · subst e; exact h6 y' h9
      · exact h5 i' y' (by omega) h9
    | succ m ih =>
      intro y xs hy hl h5 h6 h7
      have hw := h4 i i (Nat.le_refl _) hi y (by omega)
      rw [Nat.sub_self, wy_0] at hw
      have hlt : cl_ i i 0 + y < 294 := by unfold cl_; omega
      have upd : ∀ v : Int32, v = io (rwf s t 0 0 i y) → ww (mp_P fx) (d + 1) 155 26 [some (.ref 83), some (.int (nI i)), some (.int (nI (cl_ i i 0))), some (.int (nI (y + 1)))] [] (px_h z E M (px_l sw c2 w2 T D S S1 K R ((C.1, xs.set (cl_ i i 0 + y) v, C.2.2.1, C.2.2.2.1, C.2.2.2.2)) W U q q1 B0 B1 B2 B3)) Q := by
        intro v hv
        refine ih (y + 1) _ (by omega) (by rw [List.length_set]; exact hl) (fun i' y' h8 h9 => ?_) (fun y' h8 => ?_) (fun i' k y' h8 h9 h10 => ?_)
        · rw [List.getElem?_set_ne (fun z => by have := cl_inj (y := y) (i := i) (k := i) (y' := y') (i' := i') (k' := i') (by omega) (by omega) h9 (by omega) z; omega)]; exact h5 i' y' h8 h9
        · rw [List.getElem?_set]
          by_cases e : y = y'
          · subst e; rw [if_pos (show cl_ i i 0 + y = cl_ i i y from rfl), if_pos (by omega), hv]
          · rw [if_neg (by unfold cl_; omega)]; exact h6 y' (by omega)
        · rw [List.getElem?_set_ne (fun z => by have := cl_inj (y := y) (i := i) (k := i) (y' := y') (i' := i') (k' := k) (by omega) (by omega) h10 (by omega) z; omega)]; exact h7 i' k y' h8 h9 h10
      rw [q155_26]
      simp only [q155_27, q155_29, q155_32, q155_33, q155_36, q155_37, q155_38, q155_39, q155_40, q155_43, q155_44, q155_45, q155_46, q155_47, q155_50, q155_51, q155_54, q155_55, q155_56i, q155_59, xc_C, xg_C_0, xg_C_1, xg_C_2, xg_C_3, xs_C_3, xg_C_4, xs_C_4, xa_C_ways, xb_C_ways, xn_C_ways, xa_C_rows, xb_C_rows, xn_C_rows, xa_C_shallower, xb_C_shallower, xn_C_shallower, wx_some, wx_ref, isl_i, isl_r, isl_n, nI_add, aG_n (show (C.1)[cl_ i i 0 + y]? = _ from hw) (show (C.1).length < 2 ^ 31 by omega), aS_n (show cl_ i i 0 + y < xs.length by omega) (show xs.length < 2 ^ 31 by omega), nI_1]
      rw [show (6 : Int32) = nI 6 from rfl, if_neg (by rw [nI_leI (by omega) (by omega)]; omega)]
      by_cases e : k_cs s (t i) = y
      · rw [if_pos e, if_neg (by decide)]
        exact upd 0 (by rw [rwf_d, if_pos e]; rfl)
      · rw [if_neg e, if_pos (by decide)]
        exact upd (-1) (by rw [rwf_d, if_neg e]; rfl)
  have key1 : ∀ (m i : Nat) (l2 l3 : Option Value) (xs : List Int32), i + m = n → xs.length = 294 → (∀ i' y, i' < i → y < 6 → xs[cl_ i' i' y]? = some (io (rwf s t 0 0 i' y))) → (∀ i' k y, i' < k → k < n → y < 6 → xs[cl_ i' k y]? = some (-1)) → ww (mp_P fx) (d + 1) 155 10 [some (.ref 83), some (.int (nI i)), l2, l3] [] (px_h z E M (px_l sw c2 w2 T D S S1 K R ((C.1, xs, C.2.2.1, C.2.2.2.1, C.2.2.2.2)) W U q q1 B0 B1 B2 B3)) Q := by
    intro m
    induction m with
    | zero =>
      intro i l2 l3 xs hi hl h5 h7
      have hi2 : i = n := by omega
      subst hi2
      rw [q155_10]
      simp only [q155_11, q155_12, q155_15, q155_68, xc_C, xg_C_0, xg_C_1, xg_C_2, xg_C_3, xs_C_3, xg_C_4, xs_C_4, xa_C_ways, xb_C_ways, xn_C_ways, xa_C_rows, xb_C_rows, xn_C_rows, xa_C_shallower, xb_C_shallower, xn_C_shallower, wx_some, wx_ref]
      rw [if_pos (by rw [h2, nI_leI (by omega) (by omega)]; omega)]
      exact fin xs hl h5 h7
    | succ m ih =>
      intro i l2 l3 xs hi hl h5 h7
      rw [q155_10]
      simp only [q155_11, q155_12, q155_15, q155_18, q155_19, xc_C, xg_C_0, xg_C_1, xg_C_2, xg_C_3, xs_C_3, xg_C_4, xs_C_4, xa_C_ways, xb_C_ways, xn_C_ways, xa_C_rows, xb_C_rows, xn_C_rows, xa_C_shallower, xb_C_shallower, xn_C_shallower, wx_some, wx_ref]
      rw [if_neg (by rw [h2, nI_leI (by omega) (by omega)]; omega)]
      simp only [q155_20]
      apply t_cell
      simp only [sl_i, q155_23i, q155_24, q155_25i, isl_i, isl_r, isl_n]
      exact key2 i (by omega) (fun xs l2 l3 a b c => ih (i + 1) l2 l3 xs (by omega) a b c) 6 0 xs (by omega) hl h5 (fun y' hy' => by omega) h7
  refine key1 n 0 none none _ (by omega) List.length_replicate (fun i' y h => by omega) (fun i' k y h1 h8 h9 => ?_)
  rw [List.getElem?_replicate, if_pos (by unfold cl_; omega)]
theorem t_joinRows {dp i e k : Nat} {OK : Nat → Nat → Nat → Nat → Prop} {xs : List Int32} (hs : SQx q s) (ho : k_ok s) (hn7 : n ≤ 7) (he : i + e < k) (hk : k < n) (hsh : RTx s t dp n C.2.2.1) (hD : DN s t dp n OK xs) (hOK : ∀ r e', OK i k r e' ↔ e' < e) (hq : ∀ ys, DN s t dp n (fun i' k' r e' => if i' = i ∧ k' = k then e' < e + 1 else OK i' k' r e') ys → Q none (px_h z E M (px_l sw c2 w2 T D S S1 K R ((C.1, ys, C.2.2.1, C.2.2.2.1, C.2.2.2.2)) W U q q1 B0 B1 B2 B3))) : wm (mp_P fx) (d + 1) 157 [.ref 83, .ref (px_ta sw), .int (nI i), .int (nI (i + e)), .int (nI k)] (px_h z E M (px_l sw c2 w2 T D S S1 K R ((C.1, xs, C.2.2.1, C.2.2.2.1, C.2.2.2.2)) W U q q1 B0 B1 B2 B3)) Q := by
  have hS6 := ho.1.1
  have hR12 := ho.1.2.2.1
  have hrl1 := hs.1.2.2.2.1
  have hrl2 := hs.1.2.2.2.2.1
  have hrl3 := hs.1.2.2.2.2.2.1
  obtain ⟨-, hrm, hrf, hrs⟩ := hs.2.2.1
  have hnR := hs.2.1.2.2.1
  have hsl := hsh.1
  simp only [e157, q157_0, q157_1, isl_i, isl_r, isl_n]
  simp only [q157_2]
  apply t_cell
  simp only [sl_i, q157_5i, q157_7, q157_8, q157_9, q157_10, isl_i, isl_r, isl_n, nI_1]
  simp only [q157_12]
  apply t_cell
  simp only [sl_i, q157_15i, q157_17, q157_18i, isl_i, isl_r, isl_n]
  have key : ∀ (m r : Nat) (l8 l9 l10 l11 : Option Value) (ys : List Int32), r + m = k_nR s → DN s t dp n (fun i' k' r' e' => if i' = i ∧ k' = k then (e' < e ∨ (e' = e ∧ r' < r)) else OK i' k' r' e') ys → ww (mp_P fx) (d + 1) 157 20 [some (.ref 83), some (.ref (px_ta sw)), some (.int (nI i)), some (.int (nI (i + e))), some (.int (nI k)), some (.int (nI (cl_ i (i + e) 0))), some (.int (nI (cl_ (i + e + 1) k 0))), some (.int (nI r)), l8, l9, l10, l11] [] (px_h z E M (px_l sw c2 w2 T D S S1 K R ((C.1, ys, C.2.2.1, C.2.2.2.1, C.2.2.2.2)) W U q q1 B0 B1 B2 B3)) Q := by
    intro m
    induction m with
    | zero =>
      intro r l8 l9 l10 l11 ys hr hY
      have hr2 : r = k_nR s := by omega
      subst hr2
      rw [q157_20]
      simp only [q157_22, q157_23, q157_26, q157_160, xc_q, xg_q_0, xg_q_1, xs_q_1, xg_q_2, xg_q_3, xg_q_4, xs_q_4, xg_q_5, xg_q_6, xg_q_7, xg_q_8, xs_q_8, xg_q_9, xs_q_9, xg_q_10, xg_q_11, xg_q_12, xg_q_13, xg_q_14, xg_q_15, xg_q_16, xs_q_16, xg_q_17, xg_q_18, xs_q_18, xg_q_19, xa_q_sortNames, xb_q_sortNames, xn_q_sortNames, xa_q_colourNames, xb_q_colourNames, xn_q_colourNames, xa_q_colourSorts, xb_q_colourSorts, xn_q_colourSorts, xa_q_ruleMakes, xb_q_ruleMakes, xn_q_ruleMakes, xa_q_ruleFirsts, xb_q_ruleFirsts, xn_q_ruleFirsts, xa_q_ruleSeconds, xb_q_ruleSeconds, xn_q_ruleSeconds, xa_q_walkerNames, xb_q_walkerNames, xn_q_walkerNames, xa_q_kinds, xb_q_kinds, xn_q_kinds, xa_q_walkerColours, xb_q_walkerColours, xn_q_walkerColours, xa_q_starts, xb_q_starts, xn_q_starts, xa_q_stepRows, xb_q_stepRows, xn_q_stepRows, xa_q_stepCounts, xb_q_stepCounts, xn_q_stepCounts, xa_q_gusts, xb_q_gusts, xn_q_gusts, xc_ql, xg_ql_0, xg_ql_1, xs_ql_1, xg_ql_2, xg_ql_3, xs_ql_3, xa_q_parts, xb_q_parts, xn_q_parts, xa_q_stack, xb_q_stack, xn_q_stack, wx_some, wx_ref, hnR]
      rw [if_pos (by rw [nI_leI (by omega) (by omega)]; omega)]
      refine hq ys ⟨hY.1, hY.2.1, fun i' k' y h1 h2 h3 => ?_⟩
      obtain ⟨o, a, b⟩ := hY.2.2 i' k' y h1 h2 h3
      refine ⟨o, a, mnp_iff b (fun u => ⟨fun ⟨r', e', g1, g2, g3, g4⟩ => ⟨r', e', g1, g2, ?_, g4⟩, fun ⟨r', e', g1, g2, g3, g4⟩ => ⟨r', e', g1, g2, ?_, g4⟩⟩)⟩
      · simp only [] at g3 ⊢
        split at g3
        · rename_i hh; rw [if_pos hh]; omega
        · rename_i hh; rw [if_neg hh]; exact g3
      · simp only [] at g3 ⊢
        split at g3
        · rename_i hh; rw [if_pos hh]; omega
        · rename_i hh; rw [if_neg hh]; exact g3
    | succ m ih =>
      intro r l8 l9 l10 l11 ys hr hY
      have hr' : r < k_nR s := by omega
      obtain ⟨b1, b2, b3⟩ := ho.2.2.1 r hr'
      have hyl := hY.1
      have v1 := hsh.2 i (i + e) (k_rf s r) (by omega) (by omega) (by omega)
      have v2 := hsh.2 (i + e + 1) k (k_rs s r) (by omega) (by omega) (by omega)
      rw [show i + e - i = e by omega] at v1
      rw [show k - (i + e + 1) = k - i - 1 - e by omega] at v2
      have bx : ∀ v, rwf s t dp e i (k_rf s r) = some v → v < 2 ^ 31 := fun v hv => Nat.lt_of_lt_of_le (rwf_lt ho _ _ _ _ _ hv) (Nat.pow_le_pow_right (by omega) (by omega))
      have bz : ∀ v, rwf s t dp (k - i - 1 - e) (i + e + 1) (k_rs s r) = some v → v < 2 ^ 31 := fun v hv => Nat.lt_of_lt_of_le (rwf_lt ho _ _ _ _ _ hv) (Nat.pow_le_pow_right (by omega) (by omega))
      have hokiff : ∀ i' k', ¬ (i' = i ∧ k' = k) → ∀ (r' e' : Nat), (if i' = i ∧ k' = k then (e' < e ∨ (e' = e ∧ r' < r + 1)) else OK i' k' r' e') ↔ (if i' = i ∧ k' = k then (e' < e ∨ (e' = e ∧ r' < r)) else OK i' k' r' e') := fun i' k' hh r' e' => by rw [if_neg hh, if_neg hh]
      have hstep : ∀ y u, CDb s (rwf s t dp) (k - i) i y (fun r' e' => if i = i ∧ k = k then (e' < e ∨ (e' = e ∧ r' < r + 1)) else OK i k r' e') u ↔ CDb s (rwf s t dp) (k - i) i y (fun r' e' => if i = i ∧ k = k then (e' < e ∨ (e' = e ∧ r' < r)) else OK i k r' e') u ∨ CD1 s (rwf s t dp) (k - i) i y r e u := fun y u => CDb_step hr' (by omega) (fun r' e' => by rw [if_pos ⟨rfl, rfl⟩, if_pos ⟨rfl, rfl⟩]; omega)
      have hskip : (∀ y u, ¬ CD1 s (rwf s t dp) (k - i) i y r e u) → DN s t dp n (fun i' k' r' e' => if i' = i ∧ k' = k then (e' < e ∨ (e' = e ∧ r' < r + 1)) else OK i' k' r' e') ys := by
        intro hno
        refine ⟨hyl, hY.2.1, fun i' k' y h1 h2 h3 => ?_⟩
        obtain ⟨o, a, b⟩ := hY.2.2 i' k' y h1 h2 h3
        refine ⟨o, a, ?_⟩
        by_cases hh : i' = i ∧ k' = k
        · obtain ⟨h5, h6⟩ := hh
          subst h5; subst h6
          exact mnp_iff b (fun u => (hstep y u).trans ⟨fun z => z.elim id (fun w => absurd w (hno y u)), Or.inl⟩)
        · exact mnp_iff b (fun u => CDb_iff (fun r' e' _ => hokiff i' k' hh r' e'))
      rw [q157_20]
      simp only [q157_22, q157_23, q157_26, q157_29, q157_30, q157_33, q157_35, q157_36, q157_39, q157_41, q157_42, q157_43, q157_44i, q157_46, q157_47, q157_50, q157_52, q157_53, q157_56, q157_58, q157_59, q157_60, q157_61i, q157_63, q157_65, q157_66, q157_69, q157_71, q157_72, xc_q, xg_q_0, xg_q_1, xs_q_1, xg_q_2, xg_q_3, xg_q_4, xs_q_4, xg_q_5, xg_q_6, xg_q_7, xg_q_8, xs_q_8, xg_q_9, xs_q_9, xg_q_10, xg_q_11, xg_q_12, xg_q_13, xg_q_14, xg_q_15, xg_q_16, xs_q_16, xg_q_17, xg_q_18, xs_q_18, xg_q_19, xa_q_sortNames, xb_q_sortNames, xn_q_sortNames, xa_q_colourNames, xb_q_colourNames, xn_q_colourNames, xa_q_colourSorts, xb_q_colourSorts, xn_q_colourSorts, xa_q_ruleMakes, xb_q_ruleMakes, xn_q_ruleMakes, xa_q_ruleFirsts, xb_q_ruleFirsts, xn_q_ruleFirsts, xa_q_ruleSeconds, xb_q_ruleSeconds, xn_q_ruleSeconds, xa_q_walkerNames, xb_q_walkerNames, xn_q_walkerNames, xa_q_kinds, xb_q_kinds, xn_q_kinds, xa_q_walkerColours, xb_q_walkerColours, xn_q_walkerColours, xa_q_starts, xb_q_starts, xn_q_starts, xa_q_stepRows, xb_q_stepRows, xn_q_stepRows, xa_q_stepCounts, xb_q_stepCounts, xn_q_stepCounts, xa_q_gusts, xb_q_gusts, xn_q_gusts, xc_ql, xg_ql_0, xg_ql_1, xs_ql_1, xg_ql_2, xg_ql_3, xs_ql_3, xa_q_parts, xb_q_parts, xn_q_parts, xa_q_stack, xb_q_stack, xn_q_stack, xc_C, xg_C_0, xg_C_1, xg_C_2, xg_C_3, xs_C_3, xg_C_4, xs_C_4, xa_C_ways, xb_C_ways, xn_C_ways, xa_C_rows, xb_C_rows, xn_C_rows, xa_C_shallower, xb_C_shallower, xn_C_shallower, wx_some, wx_ref, isl_i, isl_r, isl_n, hnR, ag_G hrf (show (q.2.2.2.2.2.2.1).length < 2 ^ 31 by omega) hr', ag_G hrs (show (q.2.2.2.2.2.2.2.1).length < 2 ^ 31 by omega) hr', nI_add, aG_n (show (C.2.2.1)[cl_ i (i + e) 0 + k_rf s r]? = _ from v1) (show (C.2.2.1).length < 2 ^ 31 by omega), aG_n (show (C.2.2.1)[cl_ (i + e + 1) k 0 + k_rs s r]? = _ from v2) (show (C.2.2.1).length < 2 ^ 31 by omega)]
      rw [if_neg (by rw [nI_leI (by omega) (by omega)]; omega)]
      have hnext : ∀ (l8 l9 l10 l11 : Option Value) (zs : List Int32), DN s t dp n (fun i' k' r' e' => if i' = i ∧ k' = k then (e' < e ∨ (e' = e ∧ r' < r + 1)) else OK i' k' r' e') zs → ww (mp_P fx) (d + 1) 157 154 [some (.ref 83), some (.ref (px_ta sw)), some (.int (nI i)), some (.int (nI (i + e))), some (.int (nI k)), some (.int (nI (cl_ i (i + e) 0))), some (.int (nI (cl_ (i + e + 1) k 0))), some (.int (nI r)), l8, l9, l10, l11] [] (px_h z E M (px_l sw c2 w2 T D S S1 K R ((C.1, zs, C.2.2.1, C.2.2.2.1, C.2.2.2.2)) W U q q1 B0 B1 B2 B3)) Q := by
        intro l8 l9 l10 l11 zs hZ
        simp only [q157_154i, q157_157, isl_i, isl_r, isl_n, nI_1]
        exact ih (r + 1) l8 l9 l10 l11 zs (by omega) hZ
      cases ex : rwf s t dp e i (k_rf s r) with
      | none =>
        rw [if_pos (by rfl)]
        exact hnext _ _ _ _ ys (hskip (fun y u ⟨_, x, z, g1, _⟩ => by rw [ex] at g1; cases g1))
      | some x =>
        rw [if_neg (fun z => by have := (io_m1 (fun v hv => by cases hv; exact bx x ex)).mp z; cases this)]
        cases ez : rwf s t dp (k - i - 1 - e) (i + e + 1) (k_rs s r) with
        | none =>
          rw [if_pos (by rfl)]
          exact hnext _ _ _ _ ys (hskip (fun y u ⟨_, x', z, _, g2, _⟩ => by rw [ez] at g2; cases g2))
        | some z =>
          rw [if_neg (fun zz => by have := (io_m1 (fun v hv => by cases hv; exact bz z ez)).mp zz; cases this)]
          have hCD1 : ∀ y u, CD1 s (rwf s t dp) (k - i) i y r e u ↔ (k_rm s r = y ∧ u = rowN r x z (k - i - 1) (k - i - 1 - e)) := by
            intro y u
            constructor
            · rintro ⟨g0, x', z', g1, g2, g3⟩
              rw [ex] at g1; cases g1
              rw [ez] at g2; cases g2
              exact ⟨g0, g3⟩
            · rintro ⟨g0, g3⟩
              exact ⟨g0, x, z, ex, ez, g3⟩
          have hrow : rowN r x z (k - i - 1) (k - i - 1 - e) < 2 ^ 24 := Nat.lt_of_lt_of_le (rowN_lt (p := k - i) (by omega) (by omega) (rwf_lt ho _ _ _ _ _ ex) (rwf_lt ho _ _ _ _ _ ez)) (Nat.pow_le_pow_right (by omega) (by omega))
          obtain ⟨o, oa, ob⟩ := hY.2.2 i k (k_rm s r) (by omega) hk (by omega)
          have hob : ∀ v, o = some v → v < 2 ^ 31 := fun v hv => by have := CDb_lt ho (by omega) (ob.1 v hv).1; omega
          have hcl : cl_ i k 0 + k_rm s r < 294 := by unfold cl_; omega
          have hset : DN s t dp n (fun i' k' r' e' => if i' = i ∧ k' = k then (e' < e ∨ (e' = e ∧ r' < r + 1)) else OK i' k' r' e') (ys.set (cl_ i k 0 + k_rm s r) (io (mn o (rowN r x z (k - i - 1) (k - i - 1 - e))))) := by
            refine ⟨by rw [List.length_set]; exact hyl, fun i' y h1 h2 => ?_, fun i' k' y h1 h2 h3 => ?_⟩
            · rw [List.getElem?_set_ne (fun zz => by have := cl_inj (y := k_rm s r) (i := i) (k := k) (y' := y) (i' := i') (k' := i') (by omega) (by omega) h2 (by omega) zz; omega)]
              exact hY.2.1 i' y h1 h2
            · by_cases hh : i' = i ∧ k' = k
              · obtain ⟨h5, h6⟩ := hh
                subst h5; subst h6
                by_cases ey : k_rm s r = y
                · subst ey
                  refine ⟨_, by rw [List.getElem?_set]; rw [if_pos (show cl_ i' k' 0 + k_rm s r = cl_ i' k' (k_rm s r) from rfl), if_pos (by omega)], mnp_add ob (fun u => (hstep _ u).trans (or_congr Iff.rfl ((hCD1 _ u).trans ⟨fun w => w.2, fun w => ⟨rfl, w⟩⟩)))⟩
                · obtain ⟨o', a', b'⟩ := hY.2.2 i' k' y h1 h2 h3
                  refine ⟨o', by rw [List.getElem?_set_ne (fun zz => by have := cl_inj (y := k_rm s r) (i := i') (k := k') (y' := y) (i' := i') (k' := k') (by omega) (by omega) h3 (by omega) zz; omega)]; exact a', mnp_iff b' (fun u => (hstep y u).trans ⟨fun w => w.elim id (fun v => absurd ((hCD1 y u).mp v).1 ey), Or.inl⟩)⟩
              · obtain ⟨o', a', b'⟩ := hY.2.2 i' k' y h1 h2 h3
                refine ⟨o', by rw [List.getElem?_set_ne (fun zz => by have := cl_inj (y := k_rm s r) (i := i) (k := k) (y' := y) (i' := i') (k' := k') (by omega) (by omega) h3 (by omega) zz; omega)]; exact a', mnp_iff b' (fun u => CDb_iff (fun r' e' _ => hokiff i' k' hh r' e'))⟩
          rw [← mn_io hob (by omega)] at hset
          simp only [q157_75, q157_76, q157_78]
          apply t_cell
          simp only [sl_i, q157_81, q157_82, q157_85, q157_87, q157_88, q157_89i, q157_91, q157_93, q157_94, q157_96, q157_97, q157_98, q157_99, q157_100, q157_101, q157_102, q157_104, q157_105, q157_107, q157_108, q157_109, q157_110, q157_111, q157_112, q157_113, q157_114, q157_116, q157_117i, q157_119, q157_120, q157_123, q157_125, q157_126, q157_129, q157_131, q157_132, q157_133, q157_136, q157_138, q157_141, q157_142, q157_145, q157_147, q157_148, q157_150, q157_153, xc_q, xg_q_0, xg_q_1, xs_q_1, xg_q_2, xg_q_3, xg_q_4, xs_q_4, xg_q_5, xg_q_6, xg_q_7, xg_q_8, xs_q_8, xg_q_9, xs_q_9, xg_q_10, xg_q_11, xg_q_12, xg_q_13, xg_q_14, xg_q_15, xg_q_16, xs_q_16, xg_q_17, xg_q_18, xs_q_18, xg_q_19, xa_q_sortNames, xb_q_sortNames, xn_q_sortNames, xa_q_colourNames, xb_q_colourNames, xn_q_colourNames, xa_q_colourSorts, xb_q_colourSorts, xn_q_colourSorts, xa_q_ruleMakes, xb_q_ruleMakes, xn_q_ruleMakes, xa_q_ruleFirsts, xb_q_ruleFirsts, xn_q_ruleFirsts, xa_q_ruleSeconds, xb_q_ruleSeconds, xn_q_ruleSeconds, xa_q_walkerNames, xb_q_walkerNames, xn_q_walkerNames, xa_q_kinds, xb_q_kinds, xn_q_kinds, xa_q_walkerColours, xb_q_walkerColours, xn_q_walkerColours, xa_q_starts, xb_q_starts, xn_q_starts, xa_q_stepRows, xb_q_stepRows, xn_q_stepRows, xa_q_stepCounts, xb_q_stepCounts, xn_q_stepCounts, xa_q_gusts, xb_q_gusts, xn_q_gusts, xc_ql, xg_ql_0, xg_ql_1, xs_ql_1, xg_ql_2, xg_ql_3, xs_ql_3, xa_q_parts, xb_q_parts, xn_q_parts, xa_q_stack, xb_q_stack, xn_q_stack, xc_C, xg_C_0, xg_C_1, xg_C_2, xg_C_3, xs_C_3, xg_C_4, xs_C_4, xa_C_ways, xb_C_ways, xn_C_ways, xa_C_rows, xb_C_rows, xn_C_rows, xa_C_shallower, xb_C_shallower, xn_C_shallower, wx_some, wx_ref, isl_i, isl_r, isl_n, ag_G hrm (show (q.2.2.2.2.2.1).length < 2 ^ 31 by omega) hr', nI_add, show ∀ v : Nat, io (some v) = nI v from fun _ => rfl, nI_sub (show i ≤ k by omega), nI_sub (show i + e ≤ k by omega), nl_1, nI_sub (show 1 ≤ k - i by omega), nI_sub (show 1 ≤ k - (i + e) by omega), nl_4, pk_mul]
          rw [show k - (i + e) - 1 = k - i - 1 - e by omega, rowI (by omega) (by omega), aG_n (show ys[cl_ i k 0 + k_rm s r]? = _ from oa) (by omega), wx_some]
          by_cases eo : io o = -1
          · rw [if_neg (fun z => z eo)] at hset
            rw [if_neg (show ¬ ¬ io o = -nI 1 from fun z => z eo), aS_n (by omega) (by omega), wx_some]
            exact hnext _ _ _ _ _ hset
          · rw [if_pos eo] at hset
            rw [if_pos (show ¬ io o = -nI 1 from eo), wx_some, aS_n (by omega) (by omega), wx_some]
            exact hnext _ _ _ _ _ hset
  refine key (k_nR s) 0 none none none none xs (by omega) (DN_iff hD (fun i' k' r' e' h1 h2 h3 => ?_))
  by_cases hh : i' = i ∧ k' = k
  · rw [if_pos hh, hh.1, hh.2, hOK]; omega
  · rw [if_neg hh]
end TP
