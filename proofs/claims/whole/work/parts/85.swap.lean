/-! two rows change places -/
section TSW
variable {fx : List Value → mm_H → Option (List Value × mm_H)} {z : Nat} {E M : Nat → mm_C} {sw c2 w2 : Bool} {T : px_T} {D : px_D} {S : px_S} {S1 : px_S} {K : px_K} {R : px_R} {C : px_C} {W : px_W} {U : px_U} {q : px_q} {q1 : px_q} {B0 : px_K} {B1 : px_K} {B2 : px_K} {B3 : px_K} {T_signs : List Int32} {T_length : Int32} {T_fault : Int32} {T_types : List Int32} {T_starts : List Int32} {T_values : List Int64} {T_tokens : Int32} {T_at : Int32} {T_behind : Int32} {S_hour : Int32} {S_open : Int32} {S_places : List Int32} {S1_hour : Int32} {S1_open : Int32} {S1_places : List Int32} {K_lines : List Int32} {K_lineCount : Int32} {K_wishes : List Int32} {K_wishCount : Int32} {K_sights : List Int32} {K_sightCount : Int32} {R_shown : List Int32} {R_length : Int32} {R_readers : Int32} {R_begins : List Int32} {R_lengths : List Int32} {R_sentences : Int32} {R_order : List Int32} {R_able : Int32} {R_standing : List Int32} {R_lovers : List Int32} {R_lowest : List Int32} {C_ways : List Int32} {C_rows : List Int32} {C_shallower : List Int32} {C_length : Int32} {C_goal : Int32} {W_row : List Int32} {W_walkers : Int32} {W_names : Int32} {W_wanted : List Int32} {W_shown : List Int32} {W_places : List Int32} {W_rest : List Int32} {W_spent : List Int32} {W_tried : List Int32} {U_undoRows : List Int64} {U_markScenes : List Int64} {U_marksLaid : List Int32} {U_undoCount : Int32} {U_undoEnd : Int32} {q_sortNames : List Int64} {q_sortCount : Int32} {q_colourNames : List Int64} {q_colourSorts : List Int32} {q_colourCount : Int32} {q_ruleMakes : List Int32} {q_ruleFirsts : List Int32} {q_ruleSeconds : List Int32} {q_ruleCount : Int32} {q_saysSort : Int32} {q_walkerNames : List Int64} {q_kinds : List Int32} {q_walkerColours : List Int32} {q_starts : List Int32} {q_stepRows : List Int32} {q_stepCounts : List Int32} {q_walkerCount : Int32} {q_gusts : List Int32} {q_gustCount : Int32} {q_parts : List Int32} {q_count : Int32} {q_stack : List Int32} {q_height : Int32} {q1_sortNames : List Int64} {q1_sortCount : Int32} {q1_colourNames : List Int64} {q1_colourSorts : List Int32} {q1_colourCount : Int32} {q1_ruleMakes : List Int32} {q1_ruleFirsts : List Int32} {q1_ruleSeconds : List Int32} {q1_ruleCount : Int32} {q1_saysSort : Int32} {q1_walkerNames : List Int64} {q1_kinds : List Int32} {q1_walkerColours : List Int32} {q1_starts : List Int32} {q1_stepRows : List Int32} {q1_stepCounts : List Int32} {q1_walkerCount : Int32} {q1_gusts : List Int32} {q1_gustCount : Int32} {q1_parts : List Int32} {q1_count : Int32} {q1_stack : List Int32} {q1_height : Int32} {B0_lines : List Int32} {B0_lineCount : Int32} {B0_wishes : List Int32} {B0_wishCount : Int32} {B0_sights : List Int32} {B0_sightCount : Int32} {B1_lines : List Int32} {B1_lineCount : Int32} {B1_wishes : List Int32} {B1_wishCount : Int32} {B1_sights : List Int32} {B1_sightCount : Int32} {B2_lines : List Int32} {B2_lineCount : Int32} {B2_wishes : List Int32} {B2_wishCount : Int32} {B2_sights : List Int32} {B2_sightCount : Int32} {B3_lines : List Int32} {B3_lineCount : Int32} {B3_wishes : List Int32} {B3_wishCount : Int32} {B3_sights : List Int32} {B3_sightCount : Int32}
theorem px_l24 {A : mm_C} : ((px_l sw c2 w2 T D S S1 K R C W U q q1 B0 B1 B2 B3).set 24 A)[24]? = some A := List.getElem?_set_self (by rw [px_ll]; omega)
theorem xw_C1 : mm_sF (mp_P fx) (px_h z E M (px_l sw c2 w2 T D S S1 K R C W U q q1 B0 B1 B2 B3)) 83 5 2 (.ref (px_ca c2)) = some (px_h z E M ((px_l sw c2 w2 T D S S1 K R C W U q q1 B0 B1 B2 B3).set 24 (mm_O 5 [.ref 84, .ref (px_ca c2), .ref (px_ca c2), .int C.2.2.2.1, .int C.2.2.2.2]))) := aF_s pk_C rfl (px_set (i := 24) (by decide) px_ll)
theorem xw_C2 : mm_sF (mp_P fx) (px_h z E M ((px_l sw c2 w2 T D S S1 K R C W U q q1 B0 B1 B2 B3).set 24 (mm_O 5 [.ref 84, .ref (px_ca c2), .ref (px_ca c2), .int C.2.2.2.1, .int C.2.2.2.2]))) 83 5 1 (.ref (px_ca (!c2))) = some (px_h z E M (px_l sw (!c2) w2 T D S S1 K R ((C.1, C.2.2.1, C.2.1, C.2.2.2.1, C.2.2.2.2)) W U q q1 B0 B1 B2 B3)) := by
  refine aF_s (px_at (i := 24) (by decide) px_l24) rfl ?_
  refine (px_set (i := 24) (by decide) (by rw [List.length_set]; exact px_ll)).trans ?_
  rw [List.set_set]
  cases c2 <;> rfl
theorem px_l28 {A : mm_C} : ((px_l sw c2 w2 T D S S1 K R C W U q q1 B0 B1 B2 B3).set 28 A)[28]? = some A := List.getElem?_set_self (by rw [px_ll]; omega)
theorem xw_W1 : mm_sF (mp_P fx) (px_h z E M (px_l sw c2 w2 T D S S1 K R C W U q q1 B0 B1 B2 B3)) 87 6 7 (.ref (px_wa (!w2))) = some (px_h z E M ((px_l sw c2 w2 T D S S1 K R C W U q q1 B0 B1 B2 B3).set 28 (mm_O 6 [.ref 88, .int W.2.1, .int W.2.2.1, .ref 89, .ref 90, .ref 91, .ref 92, .ref (px_wa (!w2)), .ref (px_wa (!w2))]))) := aF_s pk_W rfl (px_set (i := 28) (by decide) px_ll)
theorem xw_W2 : mm_sF (mp_P fx) (px_h z E M ((px_l sw c2 w2 T D S S1 K R C W U q q1 B0 B1 B2 B3).set 28 (mm_O 6 [.ref 88, .int W.2.1, .int W.2.2.1, .ref 89, .ref 90, .ref 91, .ref 92, .ref (px_wa (!w2)), .ref (px_wa (!w2))]))) 87 6 8 (.ref (px_wa w2)) = some (px_h z E M (px_l sw c2 (!w2) T D S S1 K R C ((W.1, W.2.1, W.2.2.1, W.2.2.2.1, W.2.2.2.2.1, W.2.2.2.2.2.1, W.2.2.2.2.2.2.1, W.2.2.2.2.2.2.2.2, W.2.2.2.2.2.2.2.1)) U q q1 B0 B1 B2 B3)) := by
  refine aF_s (px_at (i := 28) (by decide) px_l28) rfl ?_
  refine (px_set (i := 28) (by decide) (by rw [List.length_set]; exact px_ll)).trans ?_
  rw [List.set_set]
  cases w2 <;> rfl
end TSW
/-! least of numbers -/
def mn (o : Option Nat) (w : Nat) : Option Nat := match o with
  | none => some w
  | some v => some (min v w)
def mnp (P : Nat → Prop) (o : Option Nat) : Prop := (∀ v, o = some v → P v ∧ ∀ u, P u → v ≤ u) ∧ (o = none → ∀ u, ¬ P u)
theorem mnp_nil {P : Nat → Prop} (h : ∀ u, ¬ P u) : mnp P none := ⟨fun v hv => (by cases hv), fun _ => h⟩
theorem mnp_add {P P' : Nat → Prop} {o : Option Nat} {w : Nat} (h : mnp P o) (hP : ∀ u, P' u ↔ P u ∨ u = w) : mnp P' (mn o w) := by
  cases o with
  | none =>
    refine ⟨fun v hv => ?_, fun z => by cases z⟩
    cases hv
    refine ⟨(hP _).mpr (Or.inr rfl), fun u hu => ?_⟩
    rcases (hP u).mp hu with h1 | h1
    · exact absurd h1 (h.2 rfl u)
    · omega
  | some x =>
    obtain ⟨h1, h2⟩ := h.1 x rfl
    refine ⟨fun v hv => ?_, fun z => by cases z⟩
    cases hv
    refine ⟨(hP _).mpr ?_, fun u hu => ?_⟩
    · rcases Nat.le_total x w with e | e
      · rw [Nat.min_eq_left e]; exact Or.inl h1
      · rw [Nat.min_eq_right e]; exact Or.inr rfl
    · rcases (hP u).mp hu with h3 | h3
      · exact Nat.le_trans (Nat.min_le_left _ _) (h2 u h3)
      · rw [h3]; exact Nat.min_le_right _ _
theorem mnp_iff {P P' : Nat → Prop} {o : Option Nat} (h : mnp P o) (hP : ∀ u, P' u ↔ P u) : mnp P' o := ⟨fun v hv => ⟨(hP v).mpr (h.1 v hv).1, fun u hu => (h.1 v hv).2 u ((hP u).mp hu)⟩, fun e u hu => h.2 e u ((hP u).mp hu)⟩
theorem mnp_uni {P : Nat → Prop} {o o' : Option Nat} (h : mnp P o) (h' : mnp P o') : o = o' := by
  cases o with
  | none =>
    cases o' with
    | none => rfl
    | some x => exact absurd (h'.1 x rfl).1 (h.2 rfl x)
  | some y =>
    cases o' with
    | none => exact absurd (h.1 y rfl).1 (h'.2 rfl y)
    | some x =>
      have a := (h.1 y rfl).2 x (h'.1 x rfl).1
      have b := (h'.1 x rfl).2 y (h.1 y rfl).1
      congr 1; omega
def lmin (l : List Nat) : Option Nat := l.foldl mn none
theorem lmin_mnp (l : List Nat) : mnp (· ∈ l) (lmin l) := by
  have key : ∀ (l : List Nat) (P : Nat → Prop) (o : Option Nat), mnp P o → mnp (fun u => P u ∨ u ∈ l) (l.foldl mn o) := by
    intro l
    induction l with
    | nil => intro P o h; exact mnp_iff h (fun u => ⟨fun z => z.elim id (fun y => by cases y), Or.inl⟩)
    | cons w l ih =>
      intro P o h
      have h1 := ih (fun u => P u ∨ u = w) (mn o w) (mnp_add h (fun u => Iff.rfl))
      refine mnp_iff h1 (fun u => ?_)
      rw [List.mem_cons]
      exact ⟨fun z => z.elim (fun y => Or.inl (Or.inl y)) (fun y => y.elim (fun x => Or.inl (Or.inr x)) Or.inr), fun z => z.elim (fun y => y.elim Or.inl (fun x => Or.inr (Or.inl x))) (fun y => Or.inr (Or.inr y))⟩
  have h := key l (fun _ => False) none (mnp_nil (fun _ z => z))
  exact mnp_iff h (fun u => ⟨Or.inr, fun z => z.elim (fun y => absurd y id) id⟩)
/-- a tree's row of rules: the rule above, those of the first part, those of the second -/
def rowN (r x z a b : Nat) : Nat := (r * 2 ^ (4 * a) ||| x * 2 ^ (4 * b)) ||| z
def cdl (s : SQ) (f : Nat → Nat → Nat → Option Nat) (p i y : Nat) : List Nat := (List.range (k_nR s)).flatMap fun r => (List.range p).filterMap fun e => if k_rm s r = y then (f e i (k_rf s r)).bind (fun x => (f (p - 1 - e) (i + e + 1) (k_rs s r)).map (fun z => rowN r x z (p - 1) (p - 1 - e))) else none
/-- what one rule at one place gives -/
def CD1 (s : SQ) (f : Nat → Nat → Nat → Option Nat) (p i y r e u : Nat) : Prop := k_rm s r = y ∧ ∃ x z, f e i (k_rf s r) = some x ∧ f (p - 1 - e) (i + e + 1) (k_rs s r) = some z ∧ u = rowN r x z (p - 1) (p - 1 - e)
def CDb (s : SQ) (f : Nat → Nat → Nat → Option Nat) (p i y : Nat) (ok : Nat → Nat → Prop) (u : Nat) : Prop := ∃ r e, r < k_nR s ∧ e < p ∧ ok r e ∧ CD1 s f p i y r e u
theorem mem_cdl {s : SQ} {f : Nat → Nat → Nat → Option Nat} {p i y u : Nat} : u ∈ cdl s f p i y ↔ CDb s f p i y (fun _ _ => True) u := by
  unfold cdl CDb CD1
  constructor
  · intro h
    obtain ⟨r, h1, h2⟩ := List.mem_flatMap.mp h
    obtain ⟨e, h3, h4⟩ := List.mem_filterMap.mp h2
    refine ⟨r, e, List.mem_range.mp h1, List.mem_range.mp h3, trivial, ?_⟩
    split at h4
    · rename_i hy
      refine ⟨hy, ?_⟩
      obtain ⟨x, h5, h6⟩ := Option.bind_eq_some_iff.mp h4
      obtain ⟨z, h7, h8⟩ := Option.map_eq_some_iff.mp h6
      exact ⟨x, z, h5, h7, h8.symm⟩
    · cases h4
  · rintro ⟨r, e, h1, h3, -, hy, x, z, h5, h7, h8⟩
    refine List.mem_flatMap.mpr ⟨r, List.mem_range.mpr h1, List.mem_filterMap.mpr ⟨e, List.mem_range.mpr h3, ?_⟩⟩
    rw [if_pos hy, h5]
    show (f (p - 1 - e) (i + e + 1) (k_rs s r)).map _ = _
    rw [h7, h8]; rfl
/-- one more place looked at -/
theorem CDb_step {s : SQ} {f : Nat → Nat → Nat → Option Nat} {p i y r0 e0 u : Nat} {ok ok' : Nat → Nat → Prop} (hr : r0 < k_nR s) (he : e0 < p) (h : ∀ r e, ok' r e ↔ ok r e ∨ (r = r0 ∧ e = e0)) : CDb s f p i y ok' u ↔ CDb s f p i y ok u ∨ CD1 s f p i y r0 e0 u := by
  constructor
  · rintro ⟨r, e, h1, h2, h3, h4⟩
    rcases (h r e).mp h3 with h5 | ⟨h5, h6⟩
    · exact Or.inl ⟨r, e, h1, h2, h5, h4⟩
    · subst h5; subst h6; exact Or.inr h4
  · rintro (⟨r, e, h1, h2, h3, h4⟩ | h4)
    · exact ⟨r, e, h1, h2, (h r e).mpr (Or.inl h3), h4⟩
    · exact ⟨r0, e0, hr, he, (h r0 e0).mpr (Or.inr ⟨rfl, rfl⟩), h4⟩
def rwf (s : SQ) (t : Nat → Nat) : Nat → Nat → Nat → Nat → Option Nat
  | 0, p, i, y => if p = 0 then (if k_cs s (t i) = y then some 0 else none) else none
  | n + 1, p, i, y => if p = 0 then (if k_cs s (t i) = y then some 0 else none) else lmin (cdl s (rwf s t n) p i y)
theorem rwf_d {s : SQ} {t : Nat → Nat} {n i y : Nat} : rwf s t n 0 i y = if k_cs s (t i) = y then some 0 else none := by
  cases n <;> (rw [rwf, if_pos rfl])
theorem rwf_m {s : SQ} {t : Nat → Nat} {n p i y : Nat} {o : Option Nat} (hp : 0 < p) (h : mnp (CDb s (rwf s t n) p i y (fun _ _ => True)) o) : rwf s t (n + 1) p i y = o := by
  rw [rwf, if_neg (by omega)]
  exact mnp_uni (mnp_iff (lmin_mnp _) (fun u => mem_cdl.symm)) h
theorem rwf_p {s : SQ} {t : Nat → Nat} {n p i y : Nat} (hp : 0 < p) : mnp (CDb s (rwf s t n) p i y (fun _ _ => True)) (rwf s t (n + 1) p i y) := by
  rw [rwf, if_neg (by omega)]
  exact mnp_iff (lmin_mnp _) (fun u => mem_cdl.symm)
theorem rowN_lt {r x z p e : Nat} (hr : r < 16) (he : e < p) (hx : x < 2 ^ (4 * e)) (hz : z < 2 ^ (4 * (p - 1 - e))) : rowN r x z (p - 1) (p - 1 - e) < 2 ^ (4 * p) := by
  unfold rowN
  have h1 : r * 2 ^ (4 * (p - 1)) < 2 ^ (4 * p) := by
    have h : (2 : Nat) ^ (4 * p) = 2 ^ 4 * 2 ^ (4 * (p - 1)) := by rw [← Nat.pow_add]; congr 1; omega
    rw [h]
    exact Nat.mul_lt_mul_of_pos_right (show r < 2 ^ 4 by omega) (Nat.two_pow_pos _)
  have h2 : x * 2 ^ (4 * (p - 1 - e)) < 2 ^ (4 * p) := by
    have h : (2 : Nat) ^ (4 * e) * 2 ^ (4 * (p - 1 - e)) ≤ 2 ^ (4 * p) := by rw [← Nat.pow_add]; exact Nat.pow_le_pow_right (by omega) (by omega)
    exact Nat.lt_of_lt_of_le (Nat.mul_lt_mul_of_pos_right hx (Nat.two_pow_pos _)) h
  have h3 : z < 2 ^ (4 * p) := Nat.lt_of_lt_of_le hz (Nat.pow_le_pow_right (by omega) (by omega))
  exact Nat.or_lt_two_pow (Nat.or_lt_two_pow h1 h2) h3
theorem rwf_lt {s : SQ} {t : Nat → Nat} (ho : k_ok s) : ∀ n p i y v, rwf s t n p i y = some v → v < 2 ^ (4 * p) := by
  intro n
  induction n with
  | zero =>
    intro p i y v h
    rw [rwf] at h
    split at h
    · split at h
      · cases h; exact Nat.two_pow_pos _
      · cases h
    · cases h
  | succ n ih =>
    intro p i y v h
    by_cases hp : p = 0
    · subst hp
      rw [rwf_d] at h
      split at h
      · cases h; exact Nat.two_pow_pos _
      · cases h
    · obtain ⟨r, e, h1, h2, -, h4, x, z, h5, h6, h7⟩ := ((rwf_p (s := s) (t := t) (n := n) (i := i) (y := y) (show 0 < p by omega)).1 v h).1
      rw [h7]
      have := ho.1.2.2.1
      exact rowN_lt (by omega) h2 (ih _ _ _ _ h5) (ih _ _ _ _ h6)
/-- there is a tree just if there is a way -/
theorem rwf_some {s : SQ} {t : Nat → Nat} : ∀ n p, p ≤ n → ∀ i y, 0 < wy s t p i y → ∃ v, rwf s t n p i y = some v := by
  intro n
  induction n with
  | zero =>
    intro p hp i y h
    have hp0 : p = 0 := by omega
    subst hp0
    rw [wy_0] at h
    rw [rwf_d]
    split at h
    · rename_i e; exact ⟨0, by rw [if_pos e]⟩
    · omega
  | succ n ih =>
    intro p hp i y h
    cases p with
    | zero =>
      rw [wy_0] at h
      rw [rwf_d]
      split at h
      · rename_i e; exact ⟨0, by rw [if_pos e]⟩
      · omega
    | succ p =>
      have hsm : ∀ (f : Nat → Nat) (m : Nat), 0 < sm f m → ∃ j, j < m ∧ 0 < f j := by
        intro f m
        induction m with
        | zero => intro h; exact absurd h (Nat.lt_irrefl _)
        | succ m ihm =>
          intro h
          rw [sm] at h
          by_cases e : 0 < f m
          · exact ⟨m, by omega, e⟩
          · obtain ⟨j, a, b⟩ := ihm (by omega)
            exact ⟨j, by omega, b⟩
      rw [wy_s] at h
      obtain ⟨e, he, h⟩ := hsm _ _ h
      obtain ⟨r, hr, h⟩ := hsm _ _ h
      split at h
      · rename_i hy
        have h1 : 0 < wy s t e i (k_rf s r) := Nat.pos_of_ne_zero (fun z => by rw [z, Nat.zero_mul] at h; omega)
        have h2 : 0 < wy s t (p - e) (i + e + 1) (k_rs s r) := Nat.pos_of_ne_zero (fun z => by rw [z, Nat.mul_zero] at h; omega)
        obtain ⟨x, hx⟩ := ih e (by omega) i _ h1
        obtain ⟨z, hz⟩ := ih (p - e) (by omega) (i + e + 1) _ h2
        cases e5 : rwf s t (n + 1) (p + 1) i y with
        | some v => exact ⟨v, rfl⟩
        | none =>
          exact absurd ⟨r, e, hr, he, trivial, hy, x, z, hx, by rw [show p + 1 - 1 - e = p - e by omega]; exact hz, rfl⟩ ((rwf_p (s := s) (t := t) (n := n) (p := p + 1) (i := i) (y := y) (by omega)).2 e5 (rowN r x z (p + 1 - 1) (p + 1 - 1 - e)))
      · omega
theorem rwf_way {s : SQ} {t : Nat → Nat} : ∀ n p i y v, rwf s t n p i y = some v → 0 < wy s t p i y := by
  intro n
  induction n with
  | zero =>
    intro p i y v h
    rw [rwf] at h
    split at h
    · rename_i hp
      subst hp
      rw [wy_0]
      split at h
      · rename_i e; rw [if_pos e]; omega
      · cases h
    · cases h
  | succ n ih =>
    intro p i y v h
    cases p with
    | zero =>
      rw [rwf_d] at h
      rw [wy_0]
      split at h
      · rename_i e; rw [if_pos e]; omega
      · cases h
    | succ p =>
      obtain ⟨r, e, h1, h2, -, h4, x, z, h5, h6, -⟩ := ((rwf_p (s := s) (t := t) (n := n) (p := p + 1) (i := i) (y := y) (by omega)).1 v h).1
      have w1 := ih _ _ _ _ h5
      have w2 := ih _ _ _ _ h6
      rw [show p + 1 - 1 - e = p - e by omega] at w2
      have hsm : ∀ (f : Nat → Nat) (m j : Nat), j < m → f j ≤ sm f m := by
        intro f m
        induction m with
        | zero => intro j hj; omega
        | succ m ihm =>
          intro j hj
          rw [sm]
          by_cases ej : j = m
          · subst ej; omega
          · have := ihm j (by omega); omega
      rw [wy_s]
      refine Nat.lt_of_lt_of_le ?_ (hsm _ _ e h2)
      refine Nat.lt_of_lt_of_le ?_ (hsm _ _ r h1)
      rw [if_pos h4]
      exact Nat.mul_pos w1 w2
/-- on ints -/
theorem sh4 {x j : Nat} (hj : j ≤ 6) : nI x <<< (nI (4 * j) &&& 31) = nI (x * 2 ^ (4 * j)) := by
  have e : ∀ j, j ≤ 6 → ((nI (4 * j) &&& 31).toBitVec.smod 32).toNat = 4 * j := by decide
  apply Int32.toBitVec_inj.mp
  show BitVec.ofNat 32 x <<< ((nI (4 * j) &&& 31).toBitVec.smod 32) = BitVec.ofNat 32 (x * 2 ^ (4 * j))
  apply BitVec.eq_of_toNat_eq
  rw [BitVec.shiftLeft_eq', BitVec.toNat_shiftLeft, e j hj, BitVec.toNat_ofNat, BitVec.toNat_ofNat, Nat.shiftLeft_eq, Nat.mod_mul_mod]
theorem nI_or (a b : Nat) : nI a ||| nI b = nI (a ||| b) := by
  apply Int32.toBitVec_inj.mp
  show BitVec.ofNat 32 a ||| BitVec.ofNat 32 b = BitVec.ofNat 32 (a ||| b)
  exact BitVec.ofNat_or.symm
theorem rowI {r x z a b : Nat} (ha : a ≤ 6) (hb : b ≤ 6) : ((nI r <<< (nI (4 * a) &&& 31)) ||| (nI x <<< (nI (4 * b) &&& 31))) ||| nI z = nI (rowN r x z a b) := by
  rw [sh4 ha, sh4 hb, nI_or, nI_or]; rfl
