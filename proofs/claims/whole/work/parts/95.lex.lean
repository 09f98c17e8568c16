/-! tokens: no program -/
def run_ (P : Nat → Bool) : Nat → Nat → Nat
  | 0, p => p
  | n + 1, p => if P p = true then run_ P n (p + 1) else p
theorem run_c {P : Nat → Bool} : ∀ (n p r : Nat), p ≤ r → r ≤ p + n → (∀ j, p ≤ j → j < r → P j = true) → P r = false → run_ P n p = r := by
  intro n
  induction n with
  | zero => intro p r h1 h2 _ _; rw [run_]; omega
  | succ n ih =>
    intro p r h1 h2 h3 h4
    rw [run_]
    by_cases e : p = r
    · subst e; rw [h4, if_neg Bool.false_ne_true]
    · rw [if_pos (h3 p (Nat.le_refl _) (by omega))]
      exact ih (p + 1) r (by omega) (by omega) (fun j a b => h3 j (by omega) b) h4
theorem run_p {P : Nat → Bool} : ∀ (n p : Nat), p ≤ run_ P n p ∧ ∀ j, p ≤ j → j < run_ P n p → P j = true := by
  intro n
  induction n with
  | zero => intro p; rw [run_]; exact ⟨Nat.le_refl _, fun j a b => by omega⟩
  | succ n ih =>
    intro p
    rw [run_]
    split
    · rename_i e
      obtain ⟨h1, h2⟩ := ih (p + 1)
      refine ⟨by omega, fun j a b => ?_⟩
      by_cases ej : j = p
      · subst ej; exact e
      · exact h2 j (by omega) b
    · exact ⟨Nat.le_refl _, fun j a b => by omega⟩
theorem run_f {P : Nat → Bool} {m : Nat} (hm : ∀ j, m ≤ j → P j = false) : ∀ (n p : Nat), m ≤ p + n → P (run_ P n p) = false := by
  intro n
  induction n with
  | zero => intro p h; rw [run_]; exact hm p (by omega)
  | succ n ih =>
    intro p h
    rw [run_]
    split
    · exact ih (p + 1) (by omega)
    · rename_i e; exact Bool.eq_false_iff.mpr e
def lx_bl (tp : List Nat) (j : Nat) : Bool := decide (tp.getD j 0 = 10) || decide (tp.getD j 0 = 32)
def lx_lt (tp : List Nat) (j : Nat) : Bool := decide (97 ≤ tp.getD j 0) && decide (tp.getD j 0 ≤ 122)
def lx_dg (tp : List Nat) (j : Nat) : Bool := decide (48 ≤ tp.getD j 0) && decide (tp.getD j 0 ≤ 57)
theorem getD_ge {tp : List Nat} {j : Nat} (h : tp.length ≤ j) : tp.getD j 0 = 0 := by rw [List.getD, List.getElem?_eq_none h]; rfl
theorem getD_get {tp : List Nat} {j : Nat} (h : j < tp.length) : tp[j]? = some (tp.getD j 0) := by rw [List.getD, List.getElem?_eq_getElem h]; rfl
theorem lx_bl_ge {tp : List Nat} (j : Nat) (h : tp.length ≤ j) : lx_bl tp j = false := by unfold lx_bl; rw [getD_ge h]; rfl
theorem lx_lt_ge {tp : List Nat} (j : Nat) (h : tp.length ≤ j) : lx_lt tp j = false := by unfold lx_lt; rw [getD_ge h]; rfl
theorem lx_dg_ge {tp : List Nat} (j : Nat) (h : tp.length ≤ j) : lx_dg tp j = false := by unfold lx_dg; rw [getD_ge h]; rfl
def lx_b (tp : List Nat) (p : Nat) : Nat := run_ (lx_bl tp) 1001 p
def lx_e (tp : List Nat) (b : Nat) : Nat := if tp.length ≤ b then b else if lx_lt tp b = true then run_ (lx_lt tp) 1001 b else if lx_dg tp b = true then run_ (lx_dg tp) 1001 b else b + 1
def lx_sg (x : Nat) : Bool := decide (x = 40) || decide (x = 41) || decide (x = 42) || decide (x = 43) || decide (x = 45) || decide (x = 59) || decide (x = 60) || decide (x = 61)
def lx_t (tp : List Nat) (b : Nat) : Nat := if tp.length ≤ b then 0 else if lx_lt tp b = true then (if lx_e tp b - b ≤ 8 then 1 else 4) else if lx_dg tp b = true then (if lx_e tp b - b ≤ 4 then 2 else 4) else if lx_sg (tp.getD b 0) = true then 3 else 4
def lx_w (tp : List Nat) (b n : Nat) : List Nat := (List.range n).map (fun j => tp.getD (b + j) 0 - 96)
def lx_v (tp : List Nat) (b : Nat) : Nat → Nat
  | 0 => 0
  | n + 1 => lx_v tp b n * 10 + (tp.getD (b + n) 0 - 48)
/-- where the tokens begin -/
def tk (tp : List Nat) : Nat → Nat
  | 0 => lx_b tp 0
  | i + 1 => lx_b tp (lx_e tp (tk tp i))
def TY (tp : List Nat) (i : Nat) : Nat := lx_t tp (tk tp i)
def LT (tp : List Nat) (i : Nat) : List Nat := lx_w tp (tk tp i) (lx_e tp (tk tp i) - tk tp i)
def VL (tp : List Nat) (i : Nat) : Nat := lx_v tp (tk tp i) (lx_e tp (tk tp i) - tk tp i)
def SG (tp : List Nat) (i : Nat) : Nat := tp.getD (tk tp i) 0
theorem lx_b_le {tp : List Nat} {p : Nat} (hp : p ≤ tp.length) (hl : tp.length ≤ 1000) : p ≤ lx_b tp p ∧ lx_b tp p ≤ tp.length := by
  obtain ⟨h1, h2⟩ := run_p (P := lx_bl tp) 1001 p
  refine ⟨h1, ?_⟩
  rcases Nat.lt_or_ge tp.length (lx_b tp p) with h | h
  · have := h2 tp.length hp h
    rw [lx_bl_ge _ (Nat.le_refl _)] at this; cases this
  · exact h
theorem lx_e_gt {tp : List Nat} {b : Nat} (hb : b < tp.length) (hl : tp.length ≤ 1000) : b < lx_e tp b ∧ lx_e tp b ≤ tp.length := by
  unfold lx_e
  rw [if_neg (by omega)]
  have key : ∀ P : Nat → Bool, (∀ j, tp.length ≤ j → P j = false) → P b = true → b < run_ P 1001 b ∧ run_ P 1001 b ≤ tp.length := by
    intro P hP hb1
    obtain ⟨h1, h2⟩ := run_p (P := P) 1001 b
    have h3 := run_f hP 1001 b (by omega)
    constructor
    · rcases Nat.lt_or_ge b (run_ P 1001 b) with h | h
      · exact h
      · rw [show run_ P 1001 b = b by omega, hb1] at h3; cases h3
    · rcases Nat.lt_or_ge tp.length (run_ P 1001 b) with h | h
      · have := h2 tp.length (by omega) h
        rw [hP _ (Nat.le_refl _)] at this; cases this
      · exact h
  split
  · rename_i e; exact key _ lx_lt_ge e
  · split
    · rename_i e; exact key _ lx_dg_ge e
    · omega
theorem tk_le {tp : List Nat} (hl : tp.length ≤ 1000) : ∀ i, tk tp i ≤ tp.length := by
  intro i
  induction i with
  | zero => exact (lx_b_le (Nat.zero_le _) hl).2
  | succ i ih =>
    rw [tk]
    rcases Nat.lt_or_ge (tk tp i) tp.length with h | h
    · exact (lx_b_le (lx_e_gt h hl).2 hl).2
    · have : lx_e tp (tk tp i) = tk tp i := if_pos h
      rw [this]; exact (lx_b_le ih hl).2
/-- how many there are -/
def NT (tp : List Nat) (n : Nat) : Prop := (∀ i, i < n → tk tp i < tp.length) ∧ tp.length ≤ tk tp n
theorem tk_ge {tp : List Nat} (hl : tp.length ≤ 1000) : ∀ i, (∀ j, j < i → tk tp j < tp.length) → i ≤ tk tp i := by
  intro i
  induction i with
  | zero => intro _; exact Nat.zero_le _
  | succ i ih =>
    intro h
    have h1 := ih (fun j hj => h j (by omega))
    have h2 := lx_e_gt (h i (by omega)) hl
    have h3 := lx_b_le h2.2 hl
    rw [tk]; omega
theorem NT_ex {tp : List Nat} (hl : tp.length ≤ 1000) : ∃ n, n ≤ 1000 ∧ NT tp n := by
  have key : ∀ m i, i + m = 1000 → (∀ j, j < i → tk tp j < tp.length) → ∃ n, n ≤ 1000 ∧ NT tp n := by
    intro m
    induction m with
    | zero =>
      intro i hi h
      have := tk_ge hl i h
      exact ⟨i, by omega, h, by omega⟩
    | succ m ih =>
      intro i hi h
      rcases Nat.lt_or_ge (tk tp i) tp.length with e | e
      · refine ih (i + 1) (by omega) (fun j hj => ?_)
        by_cases ej : j = i
        · subst ej; exact e
        · exact h j (by omega)
      · exact ⟨i, by omega, h, e⟩
  exact key 1000 0 (by omega) (fun j hj => by omega)
theorem TY_0 {tp : List Nat} {n i : Nat} (hn : NT tp n) (hi : i ≤ n) : TY tp i = 0 ↔ i = n := by
  unfold TY lx_t
  constructor
  · intro h
    by_cases e : i = n
    · exact e
    · have := hn.1 i (by omega)
      rw [if_neg (by omega)] at h
      repeat' split at h
      all_goals omega
  · rintro rfl; rw [if_pos hn.2]
theorem TY_lt {tp : List Nat} {n i : Nat} (hn : NT tp n) (hi : i ≤ n) (h : ¬ TY tp i = 0) : i < n := by
  have : ¬ i = n := fun e => h ((TY_0 hn hi).mpr e)
  omega
/-- letters and figures of a token -/
theorem TY_1 {tp : List Nat} {i : Nat} (h : TY tp i = 1) : tk tp i < tp.length ∧ lx_lt tp (tk tp i) = true ∧ lx_e tp (tk tp i) = run_ (lx_lt tp) 1001 (tk tp i) ∧ lx_e tp (tk tp i) - tk tp i ≤ 8 := by
  unfold TY lx_t at h
  split at h
  · omega
  · rename_i e0
    split at h
    · rename_i e1
      split at h
      · rename_i e2
        exact ⟨by omega, e1, by unfold lx_e; rw [if_neg e0, if_pos e1], e2⟩
      · omega
    · split at h
      · split at h <;> omega
      · split at h <;> omega
theorem LT_ok {tp : List Nat} {i : Nat} (h : TY tp i = 1) : (LT tp i).length ≤ 8 ∧ ∀ x ∈ LT tp i, 1 ≤ x ∧ x ≤ 26 := by
  obtain ⟨h1, h2, h3, h4⟩ := TY_1 h
  refine ⟨by unfold LT lx_w; rw [List.length_map, List.length_range]; exact h4, fun x hx => ?_⟩
  unfold LT lx_w at hx
  obtain ⟨j, hj, rfl⟩ := List.mem_map.mp hx
  rw [List.mem_range, h3] at hj
  have := (run_p (P := lx_lt tp) 1001 (tk tp i)).2 (tk tp i + j) (by omega) (by omega)
  unfold lx_lt at this
  rw [Bool.and_eq_true, decide_eq_true_eq, decide_eq_true_eq] at this
  omega
/-- the words that are kept; the facts -/
def kws : List (List Nat) := [[19, 15, 18, 20], [3, 15, 12, 15, 21, 18], [1, 19], [18, 21, 12, 5], [9, 19], [19, 1, 25, 19], [23, 1, 12, 11, 5, 18], [1, 20], [7, 15, 5, 19], [7, 21, 19, 20, 19], [18, 5, 1, 4, 19], [20, 9, 3, 11], [13, 15, 22, 5], [19, 8, 21, 20], [15, 16, 5, 14], [16, 12, 1, 9, 14], [2, 1, 18, 5], [12, 15, 22, 5, 18], [2, 5, 14, 20], [14, 15, 20], [1, 14, 4], [15, 18], [], [19, 16, 15, 20], [3, 18, 15, 23, 4], [8, 15, 21, 18], [6, 9, 18, 19, 20]]
def kw (n : Nat) : List Nat := kws.getD n []
def kept (l : List Nat) : Bool := (kws.take 22).any (fun x => decide (l = x))
/-- numbers of words tell them apart -/
theorem w_27_inj : ∀ (l l' : List Nat), (∀ x ∈ l, 1 ≤ x ∧ x ≤ 26) → (∀ x ∈ l', 1 ≤ x ∧ x ≤ 26) → w_27 l = w_27 l' → l = l' := by
  have snoc : ∀ (l : List Nat) (x : Nat), w_27 (l ++ [x]) = w_27 l * 27 + x := fun l x => by unfold w_27; rw [List.foldl_append]; rfl
  have key : ∀ (n : Nat) (l l' : List Nat), l.length ≤ n → (∀ x ∈ l, 1 ≤ x ∧ x ≤ 26) → (∀ x ∈ l', 1 ≤ x ∧ x ≤ 26) → w_27 l = w_27 l' → l = l' := by
    intro n
    induction n with
    | zero =>
      intro l l' hn h h' e
      have : l = [] := List.eq_nil_of_length_eq_zero (by omega)
      subst this
      rcases List.eq_nil_or_concat l' with r | ⟨m, y, r⟩
      · exact r.symm
      · rw [List.concat_eq_append] at r
        subst r
        rw [snoc] at e
        have := h' y (List.mem_append_right _ (List.mem_singleton.mpr rfl))
        have e0 : w_27 [] = 0 := rfl
        omega
    | succ n ih =>
      intro l l' hn h h' e
      rcases List.eq_nil_or_concat l with r | ⟨m, y, r⟩
      · subst r
        rcases List.eq_nil_or_concat l' with r | ⟨m, y, r⟩
        · exact r.symm
        · rw [List.concat_eq_append] at r
          subst r
          rw [snoc] at e
          have := h' y (List.mem_append_right _ (List.mem_singleton.mpr rfl))
          have e0 : w_27 [] = 0 := rfl
          omega
      · rw [List.concat_eq_append] at r
        subst r
        have hy := h y (List.mem_append_right _ (List.mem_singleton.mpr rfl))
        rcases List.eq_nil_or_concat l' with r | ⟨m', y', r⟩
        · subst r
          rw [snoc] at e
          have e0 : w_27 [] = 0 := rfl
          omega
        · rw [List.concat_eq_append] at r
          subst r
          have hy' := h' y' (List.mem_append_right _ (List.mem_singleton.mpr rfl))
          rw [snoc, snoc] at e
          have e1 : y = y' ∧ w_27 m = w_27 m' := by omega
          rw [List.length_append, List.length_singleton] at hn
          rw [ih m m' (by omega) (fun x hx => h x (List.mem_append_left _ hx)) (fun x hx => h' x (List.mem_append_left _ hx)) e1.2, e1.1]
  intro l l' h h' e
  exact key l.length l l' (Nat.le_refl _) h h' e
theorem w_27_lt : ∀ (l : List Nat), (∀ x ∈ l, x ≤ 26) → w_27 l < 27 ^ l.length := by
  have key : ∀ (l : List Nat) (a k : Nat), (∀ x ∈ l, x ≤ 26) → a < 27 ^ k → l.foldl (fun a x => a * 27 + x) a < 27 ^ (k + l.length) := by
    intro l
    induction l with
    | nil => intro a k _ h; exact h
    | cons x l ih =>
      intro a k h ha
      have hx := h x List.mem_cons_self
      have := ih (a * 27 + x) (k + 1) (fun y hy => h y (List.mem_cons_of_mem _ hy)) (by rw [Nat.pow_succ]; omega)
      rw [List.length_cons, show k + (l.length + 1) = k + 1 + l.length by omega]; exact this
  intro l h
  have := key l 0 0 h (by decide)
  rw [Nat.zero_add] at this; exact this
theorem w_m_inj {l l' : List Nat} (h : ∀ x ∈ l, 1 ≤ x ∧ x ≤ 26) (h' : ∀ x ∈ l', 1 ≤ x ∧ x ≤ 26) (hl : l.length ≤ 8) (hl' : l'.length ≤ 8) : w_m l = w_m l' ↔ l = l' := by
  refine ⟨fun e => ?_, fun e => by rw [e]⟩
  have b1 := w_27_lt l (fun x hx => (h x hx).2)
  have b2 := w_27_lt l' (fun x hx => (h' x hx).2)
  have c1 : 27 ^ l.length ≤ 27 ^ 8 := Nat.pow_le_pow_right (by omega) hl
  have c2 : 27 ^ l'.length ≤ 27 ^ 8 := Nat.pow_le_pow_right (by omega) hl'
  have c3 : (27 : Nat) ^ 8 < 2 ^ 63 := by decide
  have := congrArg Int64.toInt e
  unfold w_m at this
  rw [Int64.toInt_ofNat_of_lt (by omega), Int64.toInt_ofNat_of_lt (by omega)] at this
  exact w_27_inj l l' h h' (by omega)
theorem w_32_lt : ∀ (l : List Nat), (∀ x ∈ l, x ≤ 26) → w_32 l < 32 ^ l.length := by
  have key : ∀ (l : List Nat) (a k : Nat), (∀ x ∈ l, x ≤ 26) → a < 32 ^ k → l.foldl (fun a x => a * 32 + x) a < 32 ^ (k + l.length) := by
    intro l
    induction l with
    | nil => intro a k _ h; exact h
    | cons x l ih =>
      intro a k h ha
      have hx := h x List.mem_cons_self
      have := ih (a * 32 + x) (k + 1) (fun y hy => h y (List.mem_cons_of_mem _ hy)) (by rw [Nat.pow_succ]; omega)
      rw [List.length_cons, show k + (l.length + 1) = k + 1 + l.length by omega]; exact this
  intro l h
  have := key l 0 0 h (by decide)
  rw [Nat.zero_add] at this; exact this
theorem w_32_inj : ∀ (l l' : List Nat), l.length = l'.length → (∀ x ∈ l, x ≤ 26) → (∀ x ∈ l', x ≤ 26) → w_32 l = w_32 l' → l = l' := by
  have snoc : ∀ (l : List Nat) (x : Nat), w_32 (l ++ [x]) = w_32 l * 32 + x := fun l x => by unfold w_32; rw [List.foldl_append]; rfl
  have key : ∀ (n : Nat) (l l' : List Nat), l.length = n → l'.length = n → (∀ x ∈ l, x ≤ 26) → (∀ x ∈ l', x ≤ 26) → w_32 l = w_32 l' → l = l' := by
    intro n
    induction n with
    | zero => intro l l' h1 h2 _ _ _; rw [List.eq_nil_of_length_eq_zero h1, List.eq_nil_of_length_eq_zero h2]
    | succ n ih =>
      intro l l' h1 h2 h h' e
      rcases List.eq_nil_or_concat l with r | ⟨m, y, r⟩
      · subst r; cases h1
      · rcases List.eq_nil_or_concat l' with r' | ⟨m', y', r'⟩
        · subst r'; cases h2
        · rw [List.concat_eq_append] at r r'
          subst r; subst r'
          have hy := h y (List.mem_append_right _ (List.mem_singleton.mpr rfl))
          have hy' := h' y' (List.mem_append_right _ (List.mem_singleton.mpr rfl))
          rw [snoc, snoc] at e
          rw [List.length_append, List.length_singleton] at h1 h2
          have e1 : y = y' ∧ w_32 m = w_32 m' := by omega
          rw [ih m m' (by omega) (by omega) (fun x hx => h x (List.mem_append_left _ hx)) (fun x hx => h' x (List.mem_append_left _ hx)) e1.2, e1.1]
  intro l l' hl h h' e
  exact key l.length l l' rfl hl.symm h h' e
theorem w_x_inj {l l' : List Nat} (h : ∀ x ∈ l, 1 ≤ x ∧ x ≤ 26) (h' : ∀ x ∈ l', 1 ≤ x ∧ x ≤ 26) (hl : l.length ≤ 8) (hl' : l'.length ≤ 8) : w_x l = w_x l' ↔ l = l' := by
  refine ⟨fun e => ?_, fun e => by rw [e]⟩
  have b1 := w_32_lt l (fun x hx => (h x hx).2)
  have b2 := w_32_lt l' (fun x hx => (h' x hx).2)
  have c1 : 32 ^ l.length ≤ 32 ^ 8 := Nat.pow_le_pow_right (by omega) hl
  have c2 : 32 ^ l'.length ≤ 32 ^ 8 := Nat.pow_le_pow_right (by omega) hl'
  have c3 : (32 : Nat) ^ 8 = 2 ^ 40 := by decide
  have := congrArg Int64.toInt e
  unfold w_x at this
  rw [Int64.toInt_ofNat_of_lt (by omega), Int64.toInt_ofNat_of_lt (by omega)] at this
  have e2 : l.length = l'.length ∧ w_32 l = w_32 l' := by omega
  exact w_32_inj l l' e2.1 (fun x hx => (h x hx).2) (fun x hx => (h' x hx).2) e2.2
