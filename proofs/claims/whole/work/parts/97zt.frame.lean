/-! runs of constructors don't see what was there before -/
abbrev cs_X : mm_C := .inl (77, [])
def cs_O (f : Nat → mm_C) (h : mm_H) : mm_H := (h.1, h.2.1, fun j => if j < 59 then f j else h.2.2 j)
def cs_p (h : mm_H) : Prop := 59 ≤ h.1 ∧ ∀ j, j < 59 → h.2.2 j = cs_X
def cs_P (P : mm_P) (g : List Value → mm_H → Option (List Value × mm_H)) : mm_P := (P.1, P.2.1, P.2.2.1, P.2.2.2.1, P.2.2.2.2.1, g)
def cs_R (f : Nat → mm_C) : mm_R → mm_R
  | .inl (a, b, c, h) => .inl (a, b, c, cs_O f h)
  | .inr x => .inr x
section CS
variable {P : mm_P} {g : List Value → mm_H → Option (List Value × mm_H)} {f : Nat → mm_C} {h h' : mm_H} {a b c k : Nat}
theorem cs_at (ha : ¬ a < 59) : (cs_O f h).2.2 a = h.2.2 a := if_neg ha
theorem cs_hs {x : mm_C} (ha : ¬ a < 59) : mm_hs (cs_O f h) a x = cs_O f (mm_hs h a x) := by
  unfold mm_hs cs_O
  congr 2
  funext j
  by_cases e : j = a
  · subst e; simp only [if_neg ha, if_true]
  · simp only [if_neg e]
theorem cs_ps {x : mm_C} (hp : cs_p h) (ha : ¬ a < 59) : cs_p (mm_hs h a x) := by
  refine ⟨hp.1, fun j hj => ?_⟩
  show (if j = a then x else h.2.2 j) = cs_X
  rw [if_neg (by omega)]; exact hp.2 j hj
theorem cs_hn {x : mm_C} {z : Nat} (hp : cs_p h) : mm_hn (cs_O f h) x z = cs_O f (mm_hn h x z) := by
  have h1 := hp.1
  unfold mm_hn cs_O
  congr 2
  funext j
  by_cases e : j = h.1
  · subst e; simp only [if_true]; rw [if_neg (by omega)]
  · simp only [if_neg e]
theorem cs_pn {x : mm_C} {z : Nat} (hp : cs_p h) : cs_p (mm_hn h x z) := by
  have h1 := hp.1
  refine ⟨by show 59 ≤ h.1 + 1; omega, fun j hj => ?_⟩
  show (if j = h.1 then x else h.2.2 j) = cs_X
  rw [if_neg (by omega)]; exact hp.2 j hj
theorem cs_gI {i x : Int32} (hp : cs_p h) (e : mm_gI h a 0 9 i = some x) : mm_gI (cs_O f h) a 0 9 i = some x := by
  by_cases ha : a < 59
  · unfold mm_gI at e; rw [hp.2 a ha] at e; cases e
  · unfold mm_gI at e ⊢; rw [cs_at ha]; exact e
theorem cs_gF {x : Value} (hp : cs_p h) (e : mm_gF h a c k = some x) : mm_gF (cs_O f h) a c k = some x := by
  by_cases ha : a < 59
  · unfold mm_gF at e; rw [hp.2 a ha] at e; cases e
  · unfold mm_gF at e ⊢; rw [cs_at ha]; exact e
theorem cs_sI {i x : Int32} (hp : cs_p h) (e : mm_sI h a 0 i x = some h') : mm_sI (cs_O f h) a 0 i x = some (cs_O f h') ∧ cs_p h' := by
  by_cases ha : a < 59
  · unfold mm_sI at e; rw [hp.2 a ha] at e; cases e
  · unfold mm_sI at e ⊢
    rw [cs_at ha]
    cases hc : h.2.2 a with
    | inl u =>
      obtain ⟨u, xs⟩ := u
      rw [hc] at e
      simp only [] at e ⊢
      split at e
      · split at e
        · cases e
        · rename_i h1 h2
          cases e
          rw [if_pos h1, if_neg h2, cs_hs ha]
          exact ⟨rfl, cs_ps hp ha⟩
      · cases e
    | inr u => rw [hc] at e; cases e
theorem cs_sF {v : Value} (hp : cs_p h) (e : mm_sF P h a c k v = some h') : mm_sF (cs_P P g) (cs_O f h) a c k v = some (cs_O f h') ∧ cs_p h' := by
  by_cases ha : a < 59
  · unfold mm_sF at e; rw [hp.2 a ha] at e; cases e
  · unfold mm_sF at e ⊢
    rw [cs_at ha]
    cases hc : h.2.2 a with
    | inl u => rw [hc] at e; cases e
    | inr u =>
      cases u with
      | inl u => rw [hc] at e; cases e
      | inr u =>
        obtain ⟨u, xs⟩ := u
        rw [hc] at e
        simp only [] at e ⊢
        split at e
        · rename_i h1
          cases e
          rw [cs_hs ha]
          exact ⟨if_pos h1, cs_ps hp ha⟩
        · cases e
theorem cs_sA {ra x : Nat} {i : Int32} (hp : cs_p h) (e : mm_sA ra h a i x = some h') : mm_sA ra (cs_O f h) a i x = some (cs_O f h') ∧ cs_p h' := by
  by_cases ha : a < 59
  · unfold mm_sA at e; rw [hp.2 a ha] at e; cases e
  by_cases hx : x < 59
  · unfold mm_sA at e
    rw [hp.2 x hx] at e
    split at e
    · rename_i q; cases q
    · cases e
  unfold mm_sA at e ⊢
  rw [cs_at ha, cs_at hx]
  split at e
  · rename_i u us w ws q1 q2
    split at e
    · split at e
      · cases e
      · rename_i h1 h2
        cases e
        rw [if_pos h1, if_neg h2, cs_hs ha]
        exact ⟨rfl, cs_ps hp ha⟩
    · cases e
  · cases e
theorem cs_rc {st : List Value} (hp : cs_p h) (e : mm_recv P h k st = true) : mm_recv (cs_P P g) (cs_O f h) k st = true := by
  unfold mm_recv at e ⊢
  show (match st[(P.2.1 k).1 - 1]? with
    | some (.ref b) => (match (cs_O f h).2.2 b with
      | .inr (.inr (c, _)) => decide (c = (P.2.1 k).2.2.1)
      | _ => false)
    | _ => false) = true
  split at e
  · rename_i b q
    rw [q]
    simp only []
    by_cases hb : b < 59
    · rw [hp.2 b hb] at e; cases e
    · rw [cs_at hb]; exact e
  · cases e
end CS
def cs_ok : Instr → Bool
  | .aload_n _ => true
  | .fadd => true
  | .new _ => true
  | .dup => true
  | .invokespecial _ => true
  | .invokevirtual _ => true
  | .sipush _ => true
  | .bipush _ => true
  | .iconst _ => true
  | .newarray _ => true
  | .anewarray _ => true
  | .putfield _ => true
  | .getfield _ => true
  | .return_ => true
  | .istore_n _ => true
  | .iload_n _ => true
  | .if_icmp _ _ => true
  | .aastore => true
  | .iastore => true
  | .iaload => true
  | .iinc _ _ => true
  | .goto _ => true
  | .imul => true
  | .iadd => true
  | .isub => true
  | .ishl => true
  | _ => false
section CS2
variable {P : mm_P} {g : List Value → mm_H → Option (List Value × mm_H)} {f : Nat → mm_C}
theorem cs_call {k : Nat} {st : List Value} {r : mm_R} (e : mm_call P k st = some r) : mm_call (cs_P P g) k st = some (cs_R f r) ∧ ∀ a b c h', r = .inl (a, b, c, h') → False := by
  unfold mm_call at e ⊢
  split at e
  · rename_i h1
    cases e
    exact ⟨if_pos h1, fun _ _ _ _ e => (by cases e)⟩
  · cases e
theorem cs_step {mt pc : Nat} {i : Instr} {ls : mm_V} {st : List Value} {h : mm_H} {r : mm_R} (hok : cs_ok i = true) (hp : cs_p h) (hs : mm_step P mt i pc ls st h = some r) : mm_step (cs_P P g) mt i pc ls st (cs_O f h) = some (cs_R f r) ∧ ∀ a b c h', r = .inl (a, b, c, h') → cs_p h' := by
  have same : ∀ {a1 : Nat} {b1 : mm_V} {c1 : List Value}, ∀ a b c h', (.inl (a1, b1, c1, h) : mm_R) = .inl (a, b, c, h') → cs_p h' := fun _ _ _ _ e => by cases e; exact hp
  cases i <;> first | (cases hok; done) | skip
  case iconst => cases hs; exact ⟨rfl, same⟩
  case bipush => cases hs; exact ⟨rfl, same⟩
  case sipush => cases hs; exact ⟨rfl, same⟩
  case goto => cases hs; exact ⟨rfl, same⟩
  case new =>
    cases hs
    refine ⟨?_, fun _ _ _ _ e => by cases e; exact cs_pn hp⟩
    show some (Sum.inl (_, _, _, mm_hn (cs_O f h) _ _) : mm_R) = _
    rw [cs_hn hp]; rfl
  case iload_n =>
    obtain ⟨v, hv, hk⟩ := mm_k3_inv hs
    cases v <;> first | (cases hk; done) | (cases hk; exact ⟨by show mm_k3 (mm_lk ls _) _ = _; rw [hv]; rfl, same⟩)
  case aload_n =>
    obtain ⟨v, hv, hk⟩ := mm_k3_inv hs
    cases v <;> first | (cases hk; done) | (cases hk; exact ⟨by show mm_k3 (mm_lk ls _) _ = _; rw [hv]; rfl, same⟩)
  case istore_n =>
    obtain ⟨x, r, rfl, hk⟩ := mm_i_inv hs
    obtain ⟨l1, hl, hk⟩ := mm_k0_inv hk
    cases hk
    exact ⟨by show mm_k0 (mm_s1 ls _ _) _ = _; rw [hl]; rfl, same⟩
  case iinc =>
    obtain ⟨v, hv, hk⟩ := mm_k3_inv hs
    cases v <;> first | (cases hk; done) | skip
    obtain ⟨l1, hl, hk⟩ := mm_k0_inv hk
    cases hk
    exact ⟨by show mm_k3 (mm_lk ls _) _ = _; rw [hv]; show mm_k0 (mm_s1 ls _ _) _ = _; rw [hl]; rfl, same⟩
  case iadd => obtain ⟨x, y, r, rfl, hk⟩ := mm_ii_inv hs; cases hk; exact ⟨rfl, same⟩
  case isub => obtain ⟨x, y, r, rfl, hk⟩ := mm_ii_inv hs; cases hk; exact ⟨rfl, same⟩
  case imul => obtain ⟨x, y, r, rfl, hk⟩ := mm_ii_inv hs; cases hk; exact ⟨rfl, same⟩
  case ishl => obtain ⟨x, y, r, rfl, hk⟩ := mm_ii_inv hs; cases hk; exact ⟨rfl, same⟩
  case dup =>
    obtain ⟨x, r, rfl, hx, hk⟩ := mm_v_inv hs
    cases hk
    exact ⟨by show (if x.category = 1 then _ else _) = _; rw [if_pos hx]; rfl, same⟩
  case if_icmp =>
    obtain ⟨x, y, r, rfl, hk⟩ := mm_ii_inv hs
    split at hk
    · rename_i ht
      cases hk
      exact ⟨by show (if _ then _ else _) = _; rw [if_pos ht]; rfl, same⟩
    · rename_i ht
      cases hk
      exact ⟨by show (if _ then _ else _) = _; rw [if_neg ht]; rfl, same⟩
  case iaload =>
    obtain ⟨a, j, r, rfl, hk⟩ := mm_ri_inv hs
    obtain ⟨x, hx, hk⟩ := mm_k1_inv hk
    cases hk
    exact ⟨by show mm_k1 (mm_gI (cs_O f h) _ _ _ _) _ = _; rw [cs_gI hp hx]; rfl, same⟩
  case getfield =>
    obtain ⟨a, r, rfl, hk⟩ := mm_r_inv hs
    obtain ⟨x, hx, hk⟩ := mm_k3_inv hk
    cases hk
    exact ⟨by show mm_k3 (mm_gF (cs_O f h) _ _ _) _ = _; rw [cs_gF hp hx]; rfl, same⟩
  case iastore =>
    obtain ⟨a, j, x, r, rfl, hk⟩ := mm_rii_inv hs
    obtain ⟨h1, hx, hk⟩ := mm_k4_inv hk
    obtain ⟨e1, e2⟩ := cs_sI (f := f) hp hx
    cases hk
    exact ⟨by show mm_k4 (mm_sI (cs_O f h) _ _ _ _) _ = _; rw [e1]; rfl, fun _ _ _ _ e => by cases e; exact e2⟩
  case aastore =>
    obtain ⟨a, j, x, r, rfl, hk⟩ := mm_rir_inv hs
    obtain ⟨h1, hx, hk⟩ := mm_k4_inv hk
    obtain ⟨e1, e2⟩ := cs_sA (f := f) hp hx
    cases hk
    exact ⟨by show mm_k4 (mm_sA P.2.2.2.2.1 (cs_O f h) _ _ _) _ = _; rw [e1]; rfl, fun _ _ _ _ e => by cases e; exact e2⟩
  case putfield =>
    obtain ⟨a, x, r, rfl, hk⟩ := mm_rv_inv hs
    obtain ⟨h1, hx, hk⟩ := mm_k4_inv hk
    obtain ⟨e1, e2⟩ := cs_sF (f := f) (g := g) hp hx
    cases hk
    exact ⟨by show mm_k4 (mm_sF (cs_P P g) (cs_O f h) _ _ _ _) _ = _; rw [e1]; rfl, fun _ _ _ _ e => by cases e; exact e2⟩
  case fadd =>
    obtain ⟨a, r, rfl, hk⟩ := mm_r_inv hs
    split at hk
    · rename_i ht
      cases hk
      exact ⟨by show (if _ then _ else _) = _; rw [if_pos ht]; rfl, same⟩
    · cases hk
  case newarray =>
    rename_i t
    obtain ⟨n, r, rfl, hk⟩ := mm_i_inv hs
    split at hk
    · cases hk
    · rename_i ht
      cases t <;> first | (cases hk; done) | (cases hk; exact ⟨by show (if _ then _ else _) = _; rw [if_neg ht]; show some (Sum.inl (_, _, _, mm_hn (cs_O f h) _ _) : mm_R) = _; rw [cs_hn hp]; rfl, fun _ _ _ _ e => by cases e; exact cs_pn hp⟩)
  case anewarray =>
    obtain ⟨n, r, rfl, hk⟩ := mm_i_inv hs
    split at hk
    · cases hk
    · rename_i ht
      cases hk
      refine ⟨?_, fun _ _ _ _ e => by cases e; exact cs_pn hp⟩
      refine (if_neg ht).trans ?_
      show some (Sum.inl (_, _, _, mm_hn (cs_O f h) _ _) : mm_R) = _
      rw [cs_hn hp]; rfl
  case invokespecial =>
    rename_i k
    have hs2 : (if mm_recv P h k st = true then mm_call P k st else none) = some r := hs
    split at hs2
    · rename_i ht
      obtain ⟨e1, e2⟩ := cs_call (f := f) (g := g) hs2
      refine ⟨?_, fun a b c h' e => (e2 a b c h' e).elim⟩
      show (if mm_recv (cs_P P g) (cs_O f h) k st = true then mm_call (cs_P P g) k st else none) = _
      rw [if_pos (cs_rc hp ht)]; exact e1
    · cases hs2
  case invokevirtual =>
    rename_i k
    have hs2 : (if mm_recv P h k st = true then mm_call P k st else none) = some r := hs
    split at hs2
    · rename_i ht
      obtain ⟨e1, e2⟩ := cs_call (f := f) (g := g) hs2
      refine ⟨?_, fun a b c h' e => (e2 a b c h' e).elim⟩
      show (if mm_recv (cs_P P g) (cs_O f h) k st = true then mm_call (cs_P P g) k st else none) = _
      rw [if_pos (cs_rc hp ht)]; exact e1
    · cases hs2
  case return_ =>
    cases hr : (P.2.1 mt).2.2.2 with
    | some t =>
      unfold mm_step at hs
      simp only [hr] at hs
      cases st <;> cases hs
    | none =>
      unfold mm_step at hs
      simp only [hr] at hs
      cases st with
      | nil =>
        cases hs
        refine ⟨?_, fun _ _ _ _ e => (by cases e)⟩
        unfold mm_step
        simp only [show ((cs_P P g).2.1 mt).2.2.2 = none from hr]
        rfl
      | cons x xs => cases hs
def cs_ex (P : mm_P) : Nat → Nat → Nat → Nat → mm_V → List Value → mm_H → Option (Option Value × mm_H)
  | 0, _, _, _, _, _, _ => none
  | n + 1, d, mt, pc, ls, st, h =>
    if cs_ok (P.1 mt pc) = true then
    match mm_step P mt (P.1 mt pc) pc ls st h with
    | none => none
    | some (.inl (pc', ls', st', h')) => cs_ex P n d mt pc' ls' st' h'
    | some (.inr (.inl (k, args, rest))) =>
      match d with
      | 0 => none
      | d' + 1 =>
        match cs_ex P n d' k 0 (mm_ent args (P.2.1 k).2.1) [] h with
        | none => none
        | some (r, h') => cs_ex P n (d' + 1) mt (pc + 3) ls (r.toList ++ rest) h'
    | some (.inr (.inr r)) => some (r, h)
    else none
theorem cs_all : ∀ (n d mt pc : Nat) (L : mm_V) (st : List Value) (h : mm_H) (r : Option Value) (h' : mm_H), cs_p h → cs_ex P n d mt pc L st h = some (r, h') → mm_ex (cs_P P g) n d mt pc L st (cs_O f h) = some (r, cs_O f h') ∧ cs_p h' := by
  intro n
  induction n with
  | zero => intro d mt pc L st h r h' hp hs; cases hs
  | succ n ih =>
    intro d mt pc L st h r h' hp hs
    rw [cs_ex] at hs
    split at hs
    · rename_i hok
      rw [mm_ex, show (cs_P P g).1 = P.1 from rfl]
      split at hs
      · cases hs
      · rename_i pc' L' st' h1 e
        obtain ⟨e1, e2⟩ := cs_step (f := f) (g := g) hok hp e
        rw [e1]
        exact ih _ _ _ _ _ _ _ _ (e2 _ _ _ _ rfl) hs
      · rename_i k as rest e
        obtain ⟨e1, e2⟩ := cs_step (f := f) (g := g) hok hp e
        rw [e1]
        split at hs
        · cases hs
        · rename_i d'
          split at hs
          · cases hs
          · rename_i r1 h1 e3
            obtain ⟨e4, e5⟩ := ih _ _ _ _ _ _ _ _ hp e3
            show (match mm_ex (cs_P P g) n d' k 0 (mm_ent as (P.2.1 k).2.1) [] (cs_O f h) with
              | none => none
              | some (r, h') => mm_ex (cs_P P g) n (d' + 1) mt (pc + 3) L (r.toList ++ rest) h') = _ ∧ _
            rw [e4]
            exact ih _ _ _ _ _ _ _ _ e5 hs
      · rename_i r1 e
        obtain ⟨e1, e2⟩ := cs_step (f := f) (g := g) hok hp e
        rw [e1]
        cases hs
        exact ⟨rfl, hp⟩
    · cases hs
end CS2
