/-! MINI 3: states that belong together -/
def mm_x0 (xs : List Int32) (byt : List (List Int32)) : Nat → mm_C := fun i => if i = 0 then .inl (9, xs) else if i % 2 = 1 then .inr (.inr (900, [.ref (i + 1), .int 0])) else .inl (8, byt.getD (i / 2 - 1) [])
def mm_kc (ra : Nat) : mm_C → Prop
  | .inl (t, _) => t ≤ 2
  | .inr (.inl _) => True
  | .inr (.inr (c, _)) => c < 900 ∨ c = 1000 + ra
/-- what is there from outside: the script (ints xs), the literals (bytes byt; which class's entry is which: sr), a static -/
def mm_EX (xs : List Int32) (byt : List (List Int32)) (sr : mm_N) (ρ : Nat → Nat) (A : Nat → Prop) (U : State) : Prop :=
  (va_X (ρ 0) xs.length (fun j => xs.getD j 0) U U.heap ∧ ρ 0 < U.heap.size ∧ ¬ A (ρ 0)) ∧
  vk_S byt.length (byt.map List.length) byt (fun j => ρ (1 + 2 * j)) (fun j => ρ (2 + 2 * j)) A U U.heap ∧
  (∀ q ∈ sr.1, q.2.2.2 < byt.length ∧ vk_R q.1 q.2.1 q.2.2.1 (ρ (1 + 2 * q.2.2.2)) U) ∧
  va_Z "java/lang/String" "COMPACT_STRINGS" "Z" (.int 1) A U U.heap ∧ (∀ q ∈ sr.2.1, va_Nw (.methodLinkNest q.1 q.2.1 q.2.2.1 q.2.2.2) U) ∧ va_AO sr.2.2 U ∧ va_Zq "jdk/internal/util/Preconditions" "SIOOBE_FORMATTER" "Ljava/util/function/BiFunction;" A U U.heap
section MM3
variable {p : Program} {l : Launch} {e : Env} {R : Room} {s : State} {m : MethodId} {args : Array Value} {below : List Frame} {meth : Method} {c : Code} {Q : State → Prop}
variable {cc : ByteArray} {own : String} {nL : Nat} {D : va_G} {cl : List vw_C} {tys : List (ClassId × FieldType)} {dA : Nat → ClassId} {TB : List Cond} {A : Nat → Prop} {P : mm_P} {mt : Nat}
variable {xs : List Int32} {byt : List (List Int32)} {sr : mm_N} {ρ0 : Nat → Nat} {n0 z0 : Nat}
/-- what holds throughout a method -/
def mm_X (p : Program) (R : Room) (s : State) (m : MethodId) (args : Array Value) (c : Code) (cc : ByteArray) (own : String) (nL : Nat) (D : va_G) (cl : List vw_C) (tys : List (ClassId × FieldType)) (dA : Nat → ClassId) (TB : List Cond) (A : Nat → Prop) (P : mm_P) : Prop :=
  p.tables.exec = Jvm.exec ∧ c.code = cc ∧ c.maxLocals = nL ∧ s.vm.findClass own = some m.cls ∧ (∀ w ∈ TB, w.before args s = true) ∧ va_K D cl tys s ∧ (∀ q, s.heap.size ≤ q → A q) ∧ (3 ≤ R.frames ∧ 80 ≤ R.locals) ∧
  ((∃ k : Nat, tys[k]? = some (dA 0, FieldType.int)) ∧ (∃ k : Nat, tys[k]? = some (dA 1, FieldType.char)) ∧ (∃ k : Nat, tys[k]? = some (dA 2, FieldType.boolean)) ∧ (∃ k : Nat, tys[k]? = some (dA 4, FieldType.long)) ∧ (∃ (k : Nat) (q : vw_C), cl[P.2.2.2.2.1]? = some q ∧ tys[k]? = some (dA (1000 + P.2.2.2.2.1), FieldType.object q.1))) ∧
  (∀ (ci : Nat) (q : vw_C), cl[ci]? = some q → ci < 900 ∧ (∀ w ∈ u_ws q.1 q.2.1 q.2.2, w ∈ TB) ∧ (P.2.2.1 ci).length = q.2.2 ∧ (∀ k, k < q.2.2 → parseFieldDescriptor (q.2.1 k).2.2.1 = some ((P.2.2.1 ci).getD k .byte)) ∧ (∀ a, a < q.2.2 → ∀ b, b < q.2.2 → a ≠ b → (q.2.1 a).2.1 ≠ (q.2.1 b).2.1))
/-- a state of the small machine and one of the machine -/
def mm_S (s : State) (nL : Nat) (D : va_G) (cl : List vw_C) (dA : Nat → ClassId) (A : Nat → Prop) (P : mm_P) (xs : List Int32) (byt : List (List Int32)) (sr : mm_N) (ρ0 : Nat → Nat) (n0 z0 : Nat) (L : mm_V) (st : List Value) (h : mm_H) (ρ : Nat → Nat) (ls : Array Slot) (H : Heap) (locs : List Loc) : Prop :=
  mm_LR ρ L ls nL ∧ (∀ i v, mm_lk L i = some v → mm_bv h.1 v) ∧ (∀ v ∈ st, mm_bv h.1 v) ∧ mm_bh P.2.2.2.1 h ∧ (∀ i, i < P.2.2.2.1 → h.2.2 i = mm_x0 xs byt i) ∧ (∀ i, P.2.2.2.1 ≤ i → i < h.1 → mm_kc P.2.2.2.2.1 (h.2.2 i)) ∧ va_P D cl (mm_ws dA P.2.2.2.1 ρ h) H ∧ va_D A (mm_ws dA P.2.2.2.1 ρ h) ∧ va_S A s.heap H locs ∧ mm_EX xs byt sr ρ A s ∧ (n0 ≤ h.1 ∧ z0 ≤ h.2.1 ∧ P.2.2.2.1 ≤ n0 ∧ P.2.2.2.1 = 1 + 2 * byt.length ∧ ∀ i, i < n0 → ρ i = ρ0 i)
/-- the machine goes on from whatever belongs to this state of the small one -/
def mm_W (p : Program) (l : Launch) (e : Env) (R : Room) (s : State) (m : MethodId) (args : Array Value) (below : List Frame) (meth : Method) (c : Code) (Q : State → Prop) (nL : Nat) (D : va_G) (cl : List vw_C) (dA : Nat → ClassId) (A : Nat → Prop) (P : mm_P) (xs : List Int32) (byt : List (List Int32)) (sr : mm_N) (ρ0 : Nat → Nat) (n0 z0 : Nat) (pc : Nat) (L : mm_V) (st : List Value) (h : mm_H) : Prop :=
  ∀ (ρ : Nat → Nat) (ls : Array Slot) (H : Heap) (locs : List Loc), mm_S s nL D cl dA A P xs byt sr ρ0 n0 z0 L st h ρ ls H locs → W p l e R s m args below meth c H locs ((h.1 - n0) + (h.2.1 - z0)) (h.2.1 - z0) Q (F0 m pc ls (st.map (mm_tv ρ)))
/-- another stack -/
theorem mm_S.st {L : mm_V} {st st' : List Value} {h : mm_H} {ρ : Nat → Nat} {ls : Array Slot} {H : Heap} {locs : List Loc} (S : mm_S s nL D cl dA A P xs byt sr ρ0 n0 z0 L st h ρ ls H locs) (hb : ∀ v ∈ st', mm_bv h.1 v) : mm_S s nL D cl dA A P xs byt sr ρ0 n0 z0 L st' h ρ ls H locs := ⟨S.1, S.2.1, hb, S.2.2.2⟩
/-- other locals -/
theorem mm_S.lo {L L' : mm_V} {st : List Value} {h : mm_H} {ρ : Nat → Nat} {ls ls' : Array Slot} {H : Heap} {locs : List Loc} (S : mm_S s nL D cl dA A P xs byt sr ρ0 n0 z0 L st h ρ ls H locs) (h1 : mm_LR ρ L' ls' nL) (hb : ∀ i v, mm_lk L' i = some v → mm_bv h.1 v) : mm_S s nL D cl dA A P xs byt sr ρ0 n0 z0 L' st h ρ ls' H locs := ⟨h1, hb, S.2.2⟩
theorem mm_bs1 {L L' : mm_V} {i n : Nat} {v : Value} (h : ∀ j w, mm_lk L j = some w → mm_bv n w) (hv : mm_bv n v) (hs : mm_s1 L i v = some L') : ∀ j w, mm_lk L' j = some w → mm_bv n w := by
  unfold mm_s1 at hs
  split at hs
  · cases hs
    intro j w hw
    rw [mm_lk_set] at hw
    split at hw
    · cases hw; exact hv
    · exact h j w hw
  · cases hs
theorem mm_bs2 {L L' : mm_V} {i n : Nat} {v : Value} (h : ∀ j w, mm_lk L j = some w → mm_bv n w) (hv : mm_bv n v) (hs : mm_s2 L i v = some L') : ∀ j w, mm_lk L' j = some w → mm_bv n w := by
  unfold mm_s2 at hs
  split at hs
  · cases hs
    intro j w hw
    rw [mm_lk_set, mm_lk_set] at hw
    split at hw
    · cases hw
    · split at hw
      · cases hw; exact hv
      · exact h j w hw
  · cases hs
end MM3
section MMinv
variable {α : Type} {st : List Value} {y : α}
theorem mm_k0_inv {o : Option mm_V} {k : mm_V → Option α} (h : mm_k0 o k = some y) : ∃ x, o = some x ∧ k x = some y := by
  cases o with
  | none => cases h
  | some x => exact ⟨x, rfl, h⟩
theorem mm_k1_inv {o : Option Int32} {k : Int32 → Option α} (h : mm_k1 o k = some y) : ∃ x, o = some x ∧ k x = some y := by
  cases o with
  | none => cases h
  | some x => exact ⟨x, rfl, h⟩
theorem mm_k2_inv {o : Option Int64} {k : Int64 → Option α} (h : mm_k2 o k = some y) : ∃ x, o = some x ∧ k x = some y := by
  cases o with
  | none => cases h
  | some x => exact ⟨x, rfl, h⟩
theorem mm_k3_inv {o : Option Value} {k : Value → Option α} (h : mm_k3 o k = some y) : ∃ x, o = some x ∧ k x = some y := by
  cases o with
  | none => cases h
  | some x => exact ⟨x, rfl, h⟩
theorem mm_k4_inv {o : Option mm_H} {k : mm_H → Option α} (h : mm_k4 o k = some y) : ∃ x, o = some x ∧ k x = some y := by
  cases o with
  | none => cases h
  | some x => exact ⟨x, rfl, h⟩
theorem mm_i_inv {k : Int32 → List Value → Option α} (h : mm_i st k = some y) : ∃ x r, st = .int x :: r ∧ k x r = some y := by
  unfold mm_i at h
  split at h
  · exact ⟨_, _, rfl, h⟩
  · cases h
theorem mm_ii_inv {k : Int32 → Int32 → List Value → Option α} (h : mm_ii st k = some y) : ∃ a b r, st = .int b :: .int a :: r ∧ k a b r = some y := by
  unfold mm_ii at h
  split at h
  · exact ⟨_, _, _, rfl, h⟩
  · cases h
theorem mm_l_inv {k : Int64 → List Value → Option α} (h : mm_l st k = some y) : ∃ x r, st = .long x :: r ∧ k x r = some y := by
  unfold mm_l at h
  split at h
  · exact ⟨_, _, rfl, h⟩
  · cases h
theorem mm_ll_inv {k : Int64 → Int64 → List Value → Option α} (h : mm_ll st k = some y) : ∃ a b r, st = .long b :: .long a :: r ∧ k a b r = some y := by
  unfold mm_ll at h
  split at h
  · exact ⟨_, _, _, rfl, h⟩
  · cases h
theorem mm_li_inv {k : Int64 → Int32 → List Value → Option α} (h : mm_li st k = some y) : ∃ a b r, st = .int b :: .long a :: r ∧ k a b r = some y := by
  unfold mm_li at h
  split at h
  · exact ⟨_, _, _, rfl, h⟩
  · cases h
theorem mm_r_inv {k : Nat → List Value → Option α} (h : mm_r st k = some y) : ∃ a r, st = .ref a :: r ∧ k a r = some y := by
  unfold mm_r at h
  split at h
  · exact ⟨_, _, rfl, h⟩
  · cases h
theorem mm_ri_inv {k : Nat → Int32 → List Value → Option α} (h : mm_ri st k = some y) : ∃ a i r, st = .int i :: .ref a :: r ∧ k a i r = some y := by
  unfold mm_ri at h
  split at h
  · exact ⟨_, _, _, rfl, h⟩
  · cases h
theorem mm_rii_inv {k : Nat → Int32 → Int32 → List Value → Option α} (h : mm_rii st k = some y) : ∃ a i x r, st = .int x :: .int i :: .ref a :: r ∧ k a i x r = some y := by
  unfold mm_rii at h
  split at h
  · exact ⟨_, _, _, _, rfl, h⟩
  · cases h
theorem mm_ril_inv {k : Nat → Int32 → Int64 → List Value → Option α} (h : mm_ril st k = some y) : ∃ a i x r, st = .long x :: .int i :: .ref a :: r ∧ k a i x r = some y := by
  unfold mm_ril at h
  split at h
  · exact ⟨_, _, _, _, rfl, h⟩
  · cases h
theorem mm_rir_inv {k : Nat → Int32 → Nat → List Value → Option α} (h : mm_rir st k = some y) : ∃ a i x r, st = .ref x :: .int i :: .ref a :: r ∧ k a i x r = some y := by
  unfold mm_rir at h
  split at h
  · exact ⟨_, _, _, _, rfl, h⟩
  · cases h
theorem mm_rv_inv {k : Nat → Value → List Value → Option α} (h : mm_rv st k = some y) : ∃ a x r, st = x :: .ref a :: r ∧ k a x r = some y := by
  unfold mm_rv at h
  split at h
  · exact ⟨_, _, _, rfl, h⟩
  · cases h
theorem mm_v_inv {k : Value → List Value → Option α} (h : mm_v st k = some y) : ∃ x r, st = x :: r ∧ x.category = 1 ∧ k x r = some y := by
  unfold mm_v at h
  split at h
  · split at h
    · rename_i hc
      exact ⟨_, _, rfl, hc, h⟩
    · cases h
  · cases h
theorem mm_vv_inv {k : Value → Value → List Value → Option α} (h : mm_vv st k = some y) : ∃ a b r, st = b :: a :: r ∧ a.category = 1 ∧ b.category = 1 ∧ k a b r = some y := by
  unfold mm_vv at h
  split at h
  · split at h
    · rename_i hc
      exact ⟨_, _, _, rfl, hc.1, hc.2, h⟩
    · cases h
  · cases h
theorem mm_cp_inv {k : Nat → Int32 → Nat → Int32 → Int32 → List Value → Option α} (h : mm_cp st k = some y) : ∃ b sp a dp n r, st = .int n :: .int dp :: .ref a :: .int sp :: .ref b :: r ∧ k b sp a dp n r = some y := by
  unfold mm_cp at h
  split at h
  · exact ⟨_, _, _, _, _, _, rfl, h⟩
  · cases h
theorem mm_tv_cat {ρ : Nat → Nat} (v : Value) : (mm_tv ρ v).category = v.category := by cases v <;> rfl
end MMinv
