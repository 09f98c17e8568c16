/-! MINI 8: a run of the small machine is a run of the machine -/
def mm_rm (d mc ms : Nat) : Room := { frames := d + 3, cells := mc, slots := ms, locals := 80 * (d + 1) }
def mm_wk (TB : List Cond) (P : mm_P) (yy : Nat → MethodName) (bb : Nat → ByteArray) (k : Nat) : List Cond := Cond.code (yy k) (bb k) (P.2.1 k).2.1 (P.2.1 k).2.2.2 :: TB
def mm_I0 (P : mm_P) (xs : List Int32) (byt : List (List Int32)) (h : mm_H) : Prop := mm_bh P.2.2.2.1 h ∧ (∀ i, i < P.2.2.2.1 → h.2.2 i = mm_x0 xs byt i) ∧ (∀ i, P.2.2.2.1 ≤ i → i < h.1 → mm_kc P.2.2.2.2.1 (h.2.2 i)) ∧ P.2.2.2.1 = 1 + 2 * byt.length
def mm_Pre (D : va_G) (cl : List vw_C) (tys : List (ClassId × FieldType)) (dA : Nat → ClassId) (P : mm_P) (xs : List Int32) (byt : List (List Int32)) (sr : mm_N) (ρ : Nat → Nat) (h : mm_H) (sz : Nat) : State → Prop := fun U =>
  U.heap.size = sz ∧ va_P D cl (mm_ws dA P.2.2.2.1 ρ h) U.heap ∧ va_K D cl tys U ∧ va_D (fun _ => True) (mm_ws dA P.2.2.2.1 ρ h) ∧ mm_EX xs byt sr ρ (va_A (mm_ws dA P.2.2.2.1 ρ h) sz) U
def mm_Qc (D : va_G) (cl : List vw_C) (dA : Nat → ClassId) (A : Nat → Prop) (P : mm_P) (xs : List Int32) (byt : List (List Int32)) (ρ0 : Nat → Nat) (n0 z0 : Nat) (r : Option Value) (hf : mm_H) : Array Value → State → Outcome → State → Prop := fun _ st oc t =>
  (∃ ρ : Nat → Nat, (∀ i, i < n0 → ρ i = ρ0 i) ∧ oc = .returned (r.map (mm_tv ρ)) ∧ (∀ v, r = some v → mm_bv hf.1 v) ∧ mm_I0 P xs byt hf ∧ (n0 ≤ hf.1 ∧ z0 ≤ hf.2.1) ∧ va_P D cl (mm_ws dA P.2.2.2.1 ρ hf) t.heap ∧ va_D A (mm_ws dA P.2.2.2.1 ρ hf)) ∧ va_F A st t
/-- a method of the program is the machine's -/
def mm_GM (cl : List vw_C) (TB : List Cond) (sr : mm_N) (P : mm_P) (yy : Nat → MethodName) (bb : Nat → ByteArray) (k : Nat) : Prop :=
  Cond.code (yy k) (bb k) (P.2.1 k).2.1 (P.2.1 k).2.2.2 ∈ TB ∧ plainName (yy k).cls = true ∧ ((yy k).cls ≠ "java/lang/invoke/MethodHandle" ∧ (yy k).cls ≠ "java/lang/invoke/VarHandle") ∧ (P.2.1 k).2.1 ≤ 61 ∧ ∀ pc, mm_G (bb k) (yy k).cls (yy k).name cl TB sr P yy pc (P.1 k pc)
def mm_GG (cl : List vw_C) (TB : List Cond) (sr : mm_N) (P : mm_P) (yy : Nat → MethodName) (bb : Nat → ByteArray) : Prop :=
  TB.all goodWord = true ∧ ∀ k, k < 5000 → P.1 k 0 ≠ .nop → mm_GM cl TB sr P yy bb k
def mm_XT (cl : List vw_C) (tys : List (ClassId × FieldType)) (dA : Nat → ClassId) (TB : List Cond) (P : mm_P) : Prop :=
  ((∃ k : Nat, tys[k]? = some (dA 0, FieldType.int)) ∧ (∃ k : Nat, tys[k]? = some (dA 1, FieldType.char)) ∧ (∃ k : Nat, tys[k]? = some (dA 2, FieldType.boolean)) ∧ (∃ k : Nat, tys[k]? = some (dA 4, FieldType.long)) ∧ (∃ (k : Nat) (q : vw_C), cl[P.2.2.2.2.1]? = some q ∧ tys[k]? = some (dA (1000 + P.2.2.2.2.1), FieldType.object q.1))) ∧
  (∀ (ci : Nat) (q : vw_C), cl[ci]? = some q → ci < 900 ∧ (∀ w ∈ u_ws q.1 q.2.1 q.2.2, w ∈ TB) ∧ (P.2.2.1 ci).length = q.2.2 ∧ (∀ k, k < q.2.2 → parseFieldDescriptor (q.2.1 k).2.2.1 = some ((P.2.2.1 ci).getD k .byte)) ∧ (∀ a, a < q.2.2 → ∀ b, b < q.2.2 → a ≠ b → (q.2.1 a).2.1 ≠ (q.2.1 b).2.1))
section MM8a
variable {xs : List Int32} {byt : List (List Int32)} {sr : mm_N} {ρ : Nat → Nat} {A A1 : Nat → Prop} {u U : State} {H : Heap}
theorem mm_EX.same (hv : U.vm = u.vm) (hh : U.heap = u.heap) (h : mm_EX xs byt sr ρ A u) : mm_EX xs byt sr ρ A U := by
  have ha : u.vm.Alike U.vm := by rw [hv]; exact Vm.Alike.refl _
  obtain ⟨h1, h2, h3, h4⟩ := h
  unfold mm_EX
  rw [hh]
  exact ⟨⟨va_X.moved ha h1.1, h1.2⟩, vk_S.moved ha h2, fun q hq => ⟨(h3 q hq).1, vk_R.same hv (h3 q hq).2⟩, va_Z.moved ha h4.1, fun q hq => va_Nw.same rfl hv.symm (h4.2.1 q hq), va_AO.moved ha h4.2.2.1, va_Zq.moved ha h4.2.2.2⟩
/-- what is outside stays there, for a callee -/
theorem mm_EX.call {locs : List Loc} (hW : u.WarmedH U.vm) (hS : va_S A u.heap H locs) (hU : U.heap = H) (hA : ∀ q, A1 q → A q) (h : mm_EX xs byt sr ρ A u) : mm_EX xs byt sr ρ A1 U := by
  obtain ⟨h1, h2, h3, h4⟩ := h
  unfold mm_EX
  rw [hU]
  refine ⟨⟨(va_X.moved hW.alike h1.1).kept (hS.2.1 _ h1.2.1 h1.2.2), Nat.lt_of_lt_of_le h1.2.1 hS.1, fun q => h1.2.2 (hA _ q)⟩, ((vk_S.moved hW.alike h2).kept hS.2.1).narrow hA, fun q hq => ⟨(h3 q hq).1, vk_R.warm hW (h3 q hq).2⟩, ((va_Z.moved hW.alike h4.1).kept hS.2.1).narrow hA, fun q hq => va_Nw.warmM hW (h4.2.1 q hq), va_AO.moved hW.alike h4.2.2.1, ((va_Zq.moved hW.alike h4.2.2.2).kept hS.2.1).narrow hA⟩
theorem mm_flat (as : List Value) : ∀ (off i : Nat) (v : Value), (as.flatMap fun v => if v.category = 2 then [some v, none] else [some v])[i]? = some (some v) → (off + i, mm_tv ρ v) ∈ lv_args off (as.map (mm_tv ρ)) := by
  induction as with
  | nil => intro off i v h; cases h
  | cons w ws ih =>
    intro off i v h
    rw [List.flatMap_cons] at h
    show (off + i, mm_tv ρ v) ∈ (off, mm_tv ρ w) :: lv_args (if (mm_tv ρ w).category = 2 then off + 2 else off + 1) (ws.map (mm_tv ρ))
    rw [mm_tv_cat]
    by_cases hc : w.category = 2
    · rw [if_pos hc] at h ⊢
      match i, h with
      | 0, h => cases h; exact List.mem_cons_self
      | 1, h => cases h
      | i + 2, h =>
        have := ih (off + 2) i v h
        rw [show off + 2 + i = off + (i + 2) by omega] at this
        exact List.mem_cons_of_mem _ this
    · rw [if_neg hc] at h ⊢
      match i, h with
      | 0, h => cases h; exact List.mem_cons_self
      | i + 1, h =>
        have := ih (off + 1) i v h
        rw [show off + 1 + i = off + (i + 1) by omega] at this
        exact List.mem_cons_of_mem _ this
theorem mm_cat12 (v : Value) : v.category = 1 ∨ v.category = 2 := by cases v <;> first | exact Or.inl rfl | exact Or.inr rfl
theorem mm_flat_len (as : List Value) : (as.flatMap fun v => if v.category = 2 then [some v, none] else [some v]).length = mm_words as := by
  induction as with
  | nil => rfl
  | cons w ws ih =>
    rw [List.flatMap_cons, List.length_append, ih]
    unfold mm_words
    rw [List.map_cons, List.sum_cons]
    rcases mm_cat12 w with h | h
    · rw [if_neg (by rw [h]; decide), h]; rfl
    · rw [if_pos h, h]; rfl
theorem mm_sl_len (as : List Value) : (lg_sl (as.map (mm_tv ρ))).length = mm_words as := by
  unfold lg_sl
  induction as with
  | nil => rfl
  | cons w ws ih =>
    rw [List.map_cons, List.flatMap_cons, List.length_append, ih, mm_tv_cat]
    unfold mm_words
    rw [List.map_cons, List.sum_cons]
    rcases mm_cat12 w with h | h
    · rw [if_neg (by rw [h]; decide), h]; rfl
    · rw [if_pos h, h]; rfl
theorem mm_ent_lk {as : List Value} {n i : Nat} {v : Value} (h : mm_lk (mm_ent as n) i = some v) : (as.flatMap fun v => if v.category = 2 then [some v, none] else [some v])[i]? = some (some v) := by
  unfold mm_lk mm_ent at h
  rw [List.getD_eq_getElem?_getD] at h
  by_cases hi : i < (as.flatMap fun v => if v.category = 2 then [some v, none] else [some v]).length
  · rw [List.getElem?_append_left hi] at h
    cases hq : (as.flatMap fun v => if v.category = 2 then [some v, none] else [some v])[i]? with
    | none => rw [hq] at h; cases h
    | some x => rw [hq] at h; rw [show x = some v from h]
  · rw [List.getElem?_append_right (by omega), List.getElem?_replicate] at h
    split at h <;> cases h
theorem mm_ent_len {as : List Value} {n : Nat} (h : mm_words as ≤ n) : (mm_ent as n).length = n := by
  unfold mm_ent
  rw [List.length_append, mm_flat_len, List.length_replicate]
  omega
theorem mm_ent_LR {as : List Value} {n : Nat} {ls : Array Slot} (hw : mm_words as ≤ n) (hl : lv_has ls n (lv_args 0 (as.map (mm_tv ρ)))) : mm_LR ρ (mm_ent as n) ls n := by
  refine ⟨mm_ent_len hw, hl.1, hl.2.1, fun i v hv => ?_⟩
  have h1 := mm_flat (ρ := ρ) as 0 i v (mm_ent_lk hv)
  rw [Nat.zero_add] at h1
  exact hl.2.2 _ h1
theorem mm_ent_bv {as : List Value} {n N : Nat} (hb : ∀ v ∈ as, mm_bv N v) : ∀ i v, mm_lk (mm_ent as n) i = some v → mm_bv N v := by
  intro i v hv
  have h1 := List.mem_of_getElem? (mm_ent_lk hv)
  obtain ⟨w, hw, hq⟩ := List.mem_flatMap.mp h1
  split at hq
  · rcases List.mem_cons.mp hq with h | h
    · cases h; exact hb _ hw
    · rcases List.mem_cons.mp h with h | h <;> cases h
  · rcases List.mem_cons.mp hq with h | h
    · cases h; exact hb _ hw
    · cases h
end MM8a
section MM8b
variable {p : Program} {l : Launch} {e : Env} {R : Room} {s : State} {m : MethodId} {args : Array Value} {below : List Frame} {meth : Method} {c : Code} {Q : State → Prop}
variable {D : va_G} {cl : List vw_C} {tys : List (ClassId × FieldType)} {dA : Nat → ClassId} {TB : List Cond} {A0 A1 : Nat → Prop} {P : mm_P}
variable {xs : List Int32} {byt : List (List Int32)} {sr : mm_N} {ρ : Nat → Nat} {yy : Nat → MethodName} {bb : Nat → ByteArray}
variable {pc : Nat} {ls : Array Slot} {rest st0 : List Value} {aa : Array Value} {H : Heap} {locs : List Loc} {cells slots mc ms n1 z1 : Nat} {free : Addr → Prop}
theorem mm_callQ {r1 : Option Value} {h1 : mm_H} (hr : va_Run p l e R s m args below meth c H locs cells slots mc ms (F0 m pc ls st0) rest (mm_Qc D cl dA A1 P xs byt ρ n1 z1 r1 h1 aa) free) (hS : va_S A0 s.heap H locs) (hA : ∀ q, q < H.size → A1 q → A0 q) (hf : ∀ q, free q → A0 q)
    (kk : ∀ (ρ1 : Nat → Nat) (H1 : Heap) (locs1 : List Loc), (∀ i, i < n1 → ρ1 i = ρ i) → (∀ v, r1 = some v → mm_bv h1.1 v) → mm_I0 P xs byt h1 → (n1 ≤ h1.1 ∧ z1 ≤ h1.2.1) → va_P D cl (mm_ws dA P.2.2.2.1 ρ1 h1) H1 → va_D A1 (mm_ws dA P.2.2.2.1 ρ1 h1) → va_S A0 s.heap H1 locs1 → W p l e R s m args below meth c H1 locs1 (cells + mc) (slots + ms) Q (F0 m (pc + 3) ls ((r1.map (mm_tv ρ1)).toList ++ rest))) : W p l e R s m args below meth c H locs cells slots Q (F0 m pc ls st0) := by
  intro T hT X
  obtain ⟨v, st₀, t, T', L, h0, X', hL, e1, e2, ⟨⟨ρ1, q1, hv, q2, q3, q4, q5, q6⟩, hz, hk⟩, st⟩ := hr T hT X
  cases hv
  rw [h0] at hz hk
  obtain ⟨t2, a1, b1⟩ := kk ρ1 T'.heap (locs ++ L) q1 q2 q3 q4 (by rw [e1]; exact q5) q6
    ⟨Nat.le_trans hS.1 (by rw [e1]; exact hz), fun q h1 h2 => by rw [e1, hk q (Nat.lt_of_lt_of_le h1 hS.1) (fun z => h2 (hA q (Nat.lt_of_lt_of_le h1 hS.1) z))]; exact hS.2.1 q h1 h2, fun q hq => by
      rcases List.mem_append.mp hq with h | h
      · exact hS.2.2 q h
      · exact hf _ (hL q h)⟩ T' rfl X'
  exact ⟨t2, st t2 a1, b1⟩
/-- what is to be shown for a number of steps -/
def mm_CW (l : Launch) (D : va_G) (cl : List vw_C) (tys : List (ClassId × FieldType)) (dA : Nat → ClassId) (TB : List Cond) (P : mm_P) (xs : List Int32) (byt : List (List Int32)) (sr : mm_N) (yy : Nat → MethodName) (bb : Nat → ByteArray) (n : Nat) : Prop :=
  ∀ (p : Program) (e : Env) (s : State) (m : MethodId) (args : Array Value) (below : List Frame) (meth : Method) (c : Code) (d mt : Nat) (A : Nat → Prop) (ρ0 : Nat → Nat) (n0 z0 pc : Nat) (L : mm_V) (st : List Value) (h : mm_H) (r : Option Value) (hf : mm_H),
    mm_X p (mm_rm d ((hf.1 - n0) + (hf.2.1 - z0)) (hf.2.1 - z0)) s m args c (bb mt) (yy mt).cls (P.2.1 mt).2.1 D cl tys dA TB A P → meth.sig.returnType = (P.2.1 mt).2.2.2 → meth.locks = false → meth.name = (yy mt).name → mm_GM cl TB sr P yy bb mt → mt < 5000 → mm_ex P n d mt pc L st h = some (r, hf) →
    mm_W p l e (mm_rm d ((hf.1 - n0) + (hf.2.1 - z0)) (hf.2.1 - z0)) s m args below meth c (MQ below (mm_Qc D cl dA A P xs byt ρ0 n0 z0 r hf) args s ((hf.1 - n0) + (hf.2.1 - z0)) (hf.2.1 - z0) A) (P.2.1 mt).2.1 D cl dA A P xs byt sr ρ0 n0 z0 pc L st h
/-- the contract of a method, by that many steps -/
theorem mm_met {n : Nat} (C : mm_CW l D cl tys dA TB P xs byt sr yy bb n) (G : mm_GG cl TB sr P yy bb) (T : mm_XT cl tys dA TB P) {d k : Nat} {as : List Value} {h hf : mm_H} {r : Option Value} (hs : mm_ex P n d k 0 (mm_ent as (P.2.1 k).2.1) [] h = some (r, hf)) (hk5 : k < 5000) (hw : mm_words as ≤ (P.2.1 k).2.1) (hb : ∀ v ∈ as, mm_bv h.1 v) (hI : mm_I0 P xs byt h) (ρ : Nat → Nat) (sz : Nat) :
    Met l (yy k) (mm_wk TB P yy bb k) (mm_rm d ((hf.1 - h.1) + (hf.2.1 - h.2.1)) (hf.2.1 - h.2.1)) (va_Pc (as.map (mm_tv ρ)) (mm_Pre D cl tys dA P xs byt sr ρ h sz)) (mm_Qc D cl dA (va_A (mm_ws dA P.2.2.2.1 ρ h) sz) P xs byt ρ h.1 h.2.1 r hf) ((hf.1 - h.1) + (hf.2.1 - h.2.1)) (hf.2.1 - h.2.1) (va_A (mm_ws dA P.2.2.2.1 ρ h) sz) := by
  have hk0 : P.1 k 0 ≠ .nop := by
    intro q
    cases n with
    | zero => cases hs
    | succ n =>
      rw [mm_ex, q] at hs
      cases hs
  have GM := G.2 k hk5 hk0
  refine Met.ofW (cc := bb k) (maxL := (P.2.1 k).2.1) (ret := (P.2.1 k).2.2.2) GM.2.1 rfl ?_
  intro p e s m args below meth c s₁ B hml hv
  obtain ⟨rfl, hsz, hP, hK, hD0, hE⟩ := hv
  have hts := atoms_spec (ws := mm_wk TB P yy bb k) B.pre
  have hl := lv_entry (as.map (mm_tv ρ)) (n := (P.2.1 k).2.1) (by rw [mm_sl_len]; exact hw)
  rw [lg_entry_eq]
  generalize (lg_sl (as.map (mm_tv ρ)) ++ List.replicate ((P.2.1 k).2.1 - (lg_sl (as.map (mm_tv ρ))).length) Slot.unset).toArray = ls at hl ⊢
  subst hsz
  have X : mm_X p (mm_rm d ((hf.1 - h.1) + (hf.2.1 - h.2.1)) (hf.2.1 - h.2.1)) s m (as.map (mm_tv ρ)).toArray c (bb k) (yy k).cls (P.2.1 k).2.1 D cl tys dA TB (va_A (mm_ws dA P.2.2.2.1 ρ h) s.heap.size) P :=
    ⟨B.exec, B.bytes, hml, findClass_of_methodNamed B.named, fun w hw => hts w (List.mem_cons_of_mem _ hw), hK, fun q hq => Or.inr hq, ⟨by show 3 ≤ d + 3; omega, by show 80 ≤ 80 * (d + 1); omega⟩, T.1, T.2⟩
  have hm := mm_ex_m _ _ _ _ _ _ _ _ _ hs
  have h2 := C p e s m _ below meth c d k _ ρ h.1 h.2.1 0 _ _ h r hf X B.returns B.notSynchronized (name_of_methodNamed B.named B.method).1 GM hk5 hs ρ ls s.heap [] ⟨mm_ent_LR hw hl, mm_ent_bv hb, (fun v hv => by cases hv), hI.1, hI.2.1, hI.2.2.1, hP, hD0.self, va_S.rf, hE, Nat.le_refl _, Nat.le_refl _, hI.1.1, hI.2.2.2, fun i _ => rfl⟩
  rw [Nat.sub_self, Nat.sub_self, Nat.add_zero] at h2
  exact h2
end MM8b
