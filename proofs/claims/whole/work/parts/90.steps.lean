/-! the fewest steps: rows of walkers, places, sums; no program -/
def dst (p a : Nat) : Nat := if p ≤ a then a - p else p - a
def mc (P : Nat → Prop) (x : Nat) : Prop := (∀ u, P u → x ≤ u) ∧ (x < 1000 → P x)
theorem mc_uni {P : Nat → Prop} {x y : Nat} (hx : mc P x) (hy : mc P y) (h1 : x ≤ 1000) (h2 : y ≤ 1000) : x = y := by
  rcases Nat.lt_trichotomy x y with h | h | h
  · have := hy.1 x (hx.2 (by omega)); omega
  · exact h
  · have := hx.1 y (hy.2 (by omega)); omega
theorem mc_iff {P P' : Nat → Prop} {x : Nat} (h : mc P x) (hP : ∀ u, P' u ↔ P u) : mc P' x := ⟨fun u hu => h.1 u ((hP u).mp hu), fun hx => (hP x).mpr (h.2 hx)⟩
theorem mc_or {P P' P2 : Nat → Prop} {x y : Nat} (h : mc P x) (h' : mc P' y) (hP : ∀ u, P2 u ↔ P u ∨ P' u) : mc P2 (min x y) := by
  refine ⟨fun u hu => ?_, fun hx => ?_⟩
  · rcases (hP u).mp hu with h1 | h1
    · exact Nat.le_trans (Nat.min_le_left _ _) (h.1 u h1)
    · exact Nat.le_trans (Nat.min_le_right _ _) (h'.1 u h1)
  · rcases Nat.le_total x y with e | e
    · rw [Nat.min_eq_left e] at hx ⊢; exact (hP x).mpr (Or.inl (h.2 hx))
    · rw [Nat.min_eq_right e] at hx ⊢; exact (hP y).mpr (Or.inr (h'.2 hx))
theorem mc_no {P : Nat → Prop} (h : ∀ u, ¬ P u) {x : Nat} (hx : 1000 ≤ x) : mc P x := ⟨fun u hu => absurd hu (h u), fun z => by omega⟩
theorem mc_add {P P2 : Nat → Prop} {x k : Nat} (h : mc P x) (hP : ∀ u, P2 u ↔ ∃ w, P w ∧ u = k + w) : mc P2 (k + x) := by
  refine ⟨fun u hu => ?_, fun hx => ?_⟩
  · obtain ⟨w, h1, h2⟩ := (hP u).mp hu
    have := h.1 w h1
    omega
  · exact (hP _).mpr ⟨x, h.2 (by omega), rfl⟩
theorem mc_sum {P P' P2 : Nat → Prop} {x y : Nat} (h : mc P x) (h' : mc P' y) (hP : ∀ u, P2 u ↔ ∃ v w, P v ∧ P' w ∧ u = v + w) : mc P2 (x + y) := by
  refine ⟨fun u hu => ?_, fun hx => ?_⟩
  · obtain ⟨v, w, h1, h2, h3⟩ := (hP u).mp hu
    have := h.1 v h1
    have := h'.1 w h2
    omega
  · exact (hP _).mpr ⟨x, y, h.2 (by omega), h'.2 (by omega), rfl⟩
theorem mc_cap {P : Nat → Prop} {x : Nat} (h : mc P x) : mc P (min x 1000) := by
  refine ⟨fun u hu => Nat.le_trans (Nat.min_le_left _ _) (h.1 u hu), fun hx => ?_⟩
  have : x < 1000 := by omega
  rw [Nat.min_eq_left (by omega)]; exact h.2 this
/-- places for a row, one behind another, from a place on; the first place left at last; the steps -/
def PE : List Nat → Nat → Nat → Nat → Prop
  | [], a, e, v => e = a ∧ v = 0
  | p :: ps, a, e, v => ∃ k u, a ≤ k ∧ k < 10 ∧ PE ps (k + 1) e u ∧ v = dst p k + u
def PL (ps : List Nat) (a v : Nat) : Prop := ∃ e, PE ps a e v
theorem PE_app : ∀ (xs ys : List Nat) (a e v : Nat), PE (xs ++ ys) a e v ↔ ∃ m u w, PE xs a m u ∧ PE ys m e w ∧ v = u + w := by
  intro xs
  induction xs with
  | nil =>
    intro ys a e v
    constructor
    · intro h; exact ⟨a, 0, v, ⟨rfl, rfl⟩, h, by omega⟩
    · rintro ⟨m, u, w, ⟨h1, h2⟩, h3, h4⟩
      subst h1; subst h2
      rw [show v = w by omega]; exact h3
  | cons p ps ih =>
    intro ys a e v
    constructor
    · rintro ⟨k, u, h1, h2, h3, h4⟩
      obtain ⟨m, u1, w1, g1, g2, g3⟩ := (ih ys (k + 1) e u).mp h3
      exact ⟨m, dst p k + u1, w1, ⟨k, u1, h1, h2, g1, rfl⟩, g2, by omega⟩
    · rintro ⟨m, u, w, ⟨k, u1, h1, h2, g1, g4⟩, g2, g3⟩
      exact ⟨k, u1 + w, h1, h2, (ih ys (k + 1) e (u1 + w)).mpr ⟨m, u1, w, g1, g2, rfl⟩, by omega⟩
theorem PE_lt : ∀ (xs : List Nat) (a e v : Nat), PE xs a e v → a ≤ 10 → a ≤ e ∧ e ≤ 10 := by
  intro xs
  induction xs with
  | nil => intro a e v h ha; rw [h.1]; omega
  | cons p ps ih =>
    rintro a e v ⟨k, u, h1, h2, h3, h4⟩ ha
    have := ih (k + 1) e u h3 (by omega)
    omega
theorem PE_one {p a e v : Nat} : PE [p] a e v ↔ ∃ k, a ≤ k ∧ k < 10 ∧ e = k + 1 ∧ v = dst p k := by
  constructor
  · rintro ⟨k, u, h1, h2, ⟨h3, h4⟩, h5⟩; exact ⟨k, h1, h2, h3, by omega⟩
  · rintro ⟨k, h1, h2, h3, h4⟩; exact ⟨k, 0, h1, h2, ⟨h3, rfl⟩, by omega⟩
/-- the last one stands at a place -/
theorem PE_snoc {xs : List Nat} {p a k v : Nat} (hk : k < 10) : PE (xs ++ [p]) a (k + 1) v ↔ ∃ w, (∃ m, m ≤ k ∧ PE xs a m w) ∧ v = dst p k + w := by
  rw [PE_app]
  constructor
  · rintro ⟨m, u, w, h1, h2, h3⟩
    obtain ⟨k', g1, g2, g3, g4⟩ := PE_one.mp h2
    have : k' = k := by omega
    subst this
    exact ⟨u, ⟨m, g1, h1⟩, by omega⟩
  · rintro ⟨w, ⟨m, h1, h2⟩, h3⟩
    exact ⟨m, w, dst p k, h2, PE_one.mpr ⟨k, h1, hk, rfl, rfl⟩, by omega⟩
theorem PE_snoc0 {xs : List Nat} {p a v : Nat} : ¬ PE (xs ++ [p]) a 0 v := by
  rw [PE_app]
  rintro ⟨m, u, w, h1, h2, h3⟩
  obtain ⟨k', g1, g2, g3, g4⟩ := PE_one.mp h2
  omega
/-- which walker may be the k-th one -/
def Fit (s : SQ) (b : BK) (k pc w : Nat) : Prop := w < k_nW s ∧ pc.testBit w = false ∧ sp_show s w = b.2.1.2 k
def VR (s : SQ) (b : BK) : Nat → Nat → List Nat → Prop
  | k, _, [] => k = b.2.1.1
  | k, pc, w :: r => k < b.2.1.1 ∧ Fit s b k pc w ∧ VR s b (k + 1) (pc ||| 2 ^ w) r
def CM (s : SQ) (c : SC) (b : BK) (k pc : Nat) (pre : List Nat) (v : Nat) : Prop := ∃ row, VR s b k pc row ∧ PL ((pre ++ row).map c.2.2) 0 v
def BR (s : SQ) (c : SC) (b : BK) (best : Nat) : Nat → Nat → List Nat → List Nat → Prop
  | k, _, pre, [] => k = b.2.1.1 ∧ PL (pre.map c.2.2) 0 best
  | k, pc, pre, w :: r => k < b.2.1.1 ∧ Fit s b k pc w ∧ (∀ w', w' < w → Fit s b k pc w' → ¬ CM s c b (k + 1) (pc ||| 2 ^ w') (pre ++ [w']) best) ∧ BR s c b best (k + 1) (pc ||| 2 ^ w) (pre ++ [w]) r
theorem BR_CM {s : SQ} {c : SC} {b : BK} {best : Nat} : ∀ (row : List Nat) (k pc : Nat) (pre : List Nat), BR s c b best k pc pre row → CM s c b k pc pre best := by
  intro row
  induction row with
  | nil => rintro k pc pre ⟨h1, h2⟩; exact ⟨[], h1, by rw [List.append_nil]; exact h2⟩
  | cons w r ih =>
    rintro k pc pre ⟨h1, h2, -, h4⟩
    obtain ⟨row, g1, g2⟩ := ih _ _ _ h4
    refine ⟨w :: row, ⟨h1, h2, g1⟩, ?_⟩
    rw [List.append_assoc] at g2; exact g2
theorem BR_uni {s : SQ} {c : SC} {b : BK} {best : Nat} : ∀ (row row' : List Nat) (k pc : Nat) (pre : List Nat), BR s c b best k pc pre row → BR s c b best k pc pre row' → row = row' := by
  intro row
  induction row with
  | nil =>
    intro row' k pc pre h h'
    cases row' with
    | nil => rfl
    | cons w r => have := h.1; have := h'.1; omega
  | cons w r ih =>
    intro row' k pc pre h h'
    cases row' with
    | nil => have := h.1; have := h'.1; omega
    | cons w' r' =>
      obtain ⟨h1, h2, h3, h4⟩ := h
      obtain ⟨g1, g2, g3, g4⟩ := h'
      rcases Nat.lt_trichotomy w w' with e | e | e
      · exact absurd (BR_CM _ _ _ _ h4) (g3 w e h2)
      · subst e; rw [ih r' _ _ _ h4 g4]
      · exact absurd (BR_CM _ _ _ _ g4) (h3 w' e g2)
theorem BR_len {s : SQ} {c : SC} {b : BK} {best : Nat} : ∀ (row : List Nat) (k pc : Nat) (pre : List Nat), BR s c b best k pc pre row → k + row.length = b.2.1.1 ∧ ∀ w ∈ row, w < k_nW s := by
  intro row
  induction row with
  | nil => rintro k pc pre ⟨h1, h2⟩; exact ⟨h1, fun w hw => by cases hw⟩
  | cons w r ih =>
    rintro k pc pre ⟨h1, h2, -, h4⟩
    obtain ⟨g1, g2⟩ := ih _ _ _ h4
    refine ⟨by rw [List.length_cons]; omega, fun x hx => ?_⟩
    rcases List.mem_cons.mp hx with e | e
    · rw [e]; exact h2.1
    · exact g2 x e
/-- a row by its first walker -/
theorem CM_s {s : SQ} {c : SC} {b : BK} {k pc v : Nat} {pre : List Nat} (hk : k < b.2.1.1) : CM s c b k pc pre v ↔ ∃ w, Fit s b k pc w ∧ CM s c b (k + 1) (pc ||| 2 ^ w) (pre ++ [w]) v := by
  constructor
  · rintro ⟨row, h1, h2⟩
    cases row with
    | nil => have : k = b.2.1.1 := h1; omega
    | cons w r => exact ⟨w, h1.2.1, r, h1.2.2, by rw [List.append_assoc]; exact h2⟩
  · rintro ⟨w, h1, r, h2, h3⟩
    exact ⟨w :: r, ⟨hk, h1, h2⟩, by rw [List.append_assoc] at h3; exact h3⟩
theorem CM_e {s : SQ} {c : SC} {b : BK} {k pc v : Nat} {pre : List Nat} (hk : k = b.2.1.1) : CM s c b k pc pre v ↔ PL (pre.map c.2.2) 0 v := by
  constructor
  · rintro ⟨row, h1, h2⟩
    cases row with
    | nil => rw [List.append_nil] at h2; exact h2
    | cons w r => have := h1.1; omega
  · intro h; exact ⟨[], hk, by rw [List.append_nil]; exact h⟩
def SPbad (b : BK) (u : Int32) : Prop := b.2.1.1 = 0 ∨ u < -1 ∨ nI b.2.1.1 ≤ u
def SPst (s : SQ) (c : SC) (b : BK) (u v : Int32) : Prop := (SPbad b u ∧ v = -2) ∨ (¬ SPbad b u ∧ (((∀ x, ¬ CM s c b 0 0 [] x) ∧ v = -2) ∨ ∃ best row, CM s c b 0 0 [] best ∧ (∀ x, CM s c b 0 0 [] x → best ≤ x) ∧ BR s c b best 0 0 [] row ∧ ((u = -1 ∧ v = nI best) ∨ ∃ i w, i < b.2.1.1 ∧ u = nI i ∧ row[i]? = some w ∧ v = nI w)))
theorem SPst_uni {s : SQ} {c : SC} {b : BK} {u v v' : Int32} (hb : b.2.1.1 ≤ 7) (h : SPst s c b u v) (h' : SPst s c b u v') : v = v' := by
  have hm : ∀ i, i < b.2.1.1 → ¬ nI i = -1 := fun i hi z => by
    have := congrArg Int32.toInt z
    rw [nI_toInt (by omega)] at this
    have h9 : (-1 : Int32).toInt = -1 := by decide
    omega
  rcases h with ⟨h1, h2⟩ | ⟨h1, h2⟩
  · rcases h' with ⟨g1, g2⟩ | ⟨g1, g2⟩
    · rw [h2, g2]
    · exact absurd h1 g1
  · rcases h' with ⟨g1, g2⟩ | ⟨g1, g2⟩
    · exact absurd g1 h1
    · rcases h2 with ⟨a1, a2⟩ | ⟨x, r, a1, a2, a3, a4⟩
      · rcases g2 with ⟨b1, b2⟩ | ⟨x', r', b1, b2, b3, b4⟩
        · rw [a2, b2]
        · exact absurd b1 (a1 _)
      · rcases g2 with ⟨b1, b2⟩ | ⟨x', r', b1, b2, b3, b4⟩
        · exact absurd a1 (b1 _)
        · have e : x = x' := Nat.le_antisymm (a2 _ b1) (b2 _ a1)
          subst e
          have e2 := BR_uni _ _ _ _ _ a3 b3
          subst e2
          rcases a4 with ⟨c1, c2⟩ | ⟨i, w, c1, c2, c3, c4⟩
          · rcases b4 with ⟨d1, d2⟩ | ⟨j, w', d1, d2, d3, d4⟩
            · rw [c2, d2]
            · exact absurd (d2.symm.trans c1) (hm j d1)
          · rcases b4 with ⟨d1, d2⟩ | ⟨j, w', d1, d2, d3, d4⟩
            · exact absurd (c2.symm.trans d1) (hm i c1)
            · have : i = j := by
                have := congrArg Int32.toInt (c2.symm.trans d2)
                rw [nI_toInt (by omega), nI_toInt (by omega)] at this
                omega
              subst this
              rw [c3] at d3
              cases d3
              rw [c4, d4]
theorem dst_le {p k : Nat} (hp : p < 10) (hk : k < 10) : dst p k ≤ 9 := by unfold dst; split <;> omega
theorem absI {p k : Nat} (hp : p < 10) (hk : k < 10) : (if 0 ≤ nI p - nI k then nI p - nI k else 0 - (nI p - nI k)) = nI (dst p k) := by
  have key : ∀ p, p < 10 → ∀ k, k < 10 → (if 0 ≤ nI p - nI k then nI p - nI k else 0 - (nI p - nI k)) = nI (dst p k) := by decide +kernel
  exact key p hp k hk
theorem bc_or : ∀ a, a < 128 → ∀ w, w < 7 → a.testBit w = false → bc (a ||| 2 ^ w) = bc a + 1 ∧ a < a ||| 2 ^ w ∧ a ||| 2 ^ w < 128 := by decide +kernel
theorem bc_ln : ∀ n, n < 8 → ∀ a, a < 2 ^ n → bc a ≤ n := by decide +kernel
theorem or_lt {a w n : Nat} (ha : a < 2 ^ n) (hw : w < n) : a ||| 2 ^ w < 2 ^ n := Nat.or_lt_two_pow ha (Nat.pow_lt_pow_right (by omega) hw)
/-- as many walkers as names, at least -/
theorem VR_le {s : SQ} {b : BK} (h7 : k_nW s ≤ 7) : ∀ (row : List Nat) (k pc : Nat), pc < 2 ^ k_nW s → bc pc = k → VR s b k pc row → b.2.1.1 ≤ k_nW s := by
  intro row
  induction row with
  | nil =>
    intro k pc h1 h2 h3
    have : k = b.2.1.1 := h3
    have := bc_ln (k_nW s) (by omega) pc h1
    omega
  | cons w r ih =>
    rintro k pc h1 h2 ⟨h3, h4, h5⟩
    have hp := p27 h7
    exact ih (k + 1) (pc ||| 2 ^ w) (or_lt h1 h4.1) (by rw [(bc_or pc (by omega) w (by have := h4.1; omega) h4.2.1).1, h2]) h5
theorem PE_le : ∀ (ps : List Nat) (a e v : Nat), (∀ p ∈ ps, p < 10) → PE ps a e v → v ≤ 9 * ps.length := by
  intro ps
  induction ps with
  | nil => intro a e v _ h; rw [h.2]; exact Nat.zero_le _
  | cons p ps ih =>
    rintro a e v hp ⟨k, u, g1, g2, g3, g4⟩
    have := ih _ _ _ (fun x hx => hp x (List.mem_cons_of_mem _ hx)) g3
    have := dst_le (hp p (List.mem_cons_self)) g2
    rw [List.length_cons]; omega
theorem VR_len {s : SQ} {b : BK} : ∀ (row : List Nat) (k pc : Nat), VR s b k pc row → k + row.length = b.2.1.1 ∧ ∀ w ∈ row, w < k_nW s := by
  intro row
  induction row with
  | nil => intro k pc h; exact ⟨h, fun w hw => by cases hw⟩
  | cons w r ih =>
    rintro k pc ⟨h1, h2, h3⟩
    obtain ⟨g1, g2⟩ := ih _ _ h3
    refine ⟨by rw [List.length_cons]; omega, fun x hx => ?_⟩
    rcases List.mem_cons.mp hx with e | e
    · rw [e]; exact h2.1
    · exact g2 x e
theorem CM_lt {s : SQ} {c : SC} {b : BK} {v : Nat} (hc : c_ok s c) (hb : b_ok s b) (h : CM s c b 0 0 [] v) : v < 1000 := by
  obtain ⟨row, v1, e, v2⟩ := h
  obtain ⟨g1, g2⟩ := VR_len _ _ _ v1
  have := PE_le _ _ _ _ (fun p hp => by
    obtain ⟨w, h1, h2⟩ := List.mem_map.mp hp
    rw [← h2]; exact hc.2.2 w (g2 w h1)) v2
  rw [List.length_map, List.nil_append] at this
  have := hb.2.1.1
  omega
