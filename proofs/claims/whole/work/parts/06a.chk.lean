/-! MINI 6a: String.checkIndex, where the place is within -/
def mk_y28 : MethodName := ⟨"java/lang/String", "checkIndex", "(II)V"⟩
def mk_y29 : MethodName := ⟨"jdk/internal/util/Preconditions", "checkIndex", "(IILjava/util/function/BiFunction;)I"⟩
def mk_CK (TB : List Cond) (b28 b29 : ByteArray) (i29 ifs : Nat) : Prop :=
  (Cond.static mk_y28 ∈ TB ∧ Cond.initialized "java/lang/String" ∈ TB ∧ Cond.code mk_y28 b28 2 none ∈ TB ∧ Cond.methodLink "java/lang/String" i29 mk_y29 ∈ TB ∧ Cond.static mk_y29 ∈ TB ∧ Cond.initialized "jdk/internal/util/Preconditions" ∈ TB ∧ Cond.code mk_y29 b29 3 (some .int) ∈ TB ∧ Cond.fieldLink "java/lang/String" ifs "jdk/internal/util/Preconditions" "SIOOBE_FORMATTER" "Ljava/util/function/BiFunction;" ∈ TB) ∧ TB.all goodWord = true ∧
  decode b28 0 = .ok (.iload_n 0, 1) ∧ decode b28 1 = .ok (.iload_n 1, 1) ∧ decode b28 2 = .ok (.getstatic ifs, 3) ∧ decode b28 5 = .ok (.invokestatic i29, 3) ∧ decode b28 8 = .ok (.pop, 1) ∧ decode b28 9 = .ok (.return_, 1) ∧
  decode b29 0 = .ok (.iload_n 0, 1) ∧ decode b29 1 = .ok (.ifCond .lt 8, 3) ∧ decode b29 4 = .ok (.iload_n 0, 1) ∧ decode b29 5 = .ok (.iload_n 1, 1) ∧ decode b29 6 = .ok (.if_icmp .lt 10, 3) ∧ decode b29 16 = .ok (.iload_n 0, 1) ∧ decode b29 17 = .ok (.ireturn, 1)
section MM6a
variable {p : Program} {l : Launch} {e : Env} {R : Room} {s : State} {m : MethodId} {args : Array Value} {below : List Frame} {meth : Method} {c : Code} {Q : State → Prop}
theorem mm_callH {H : Heap} {locs : List Loc} {cells slots pc : Nat} {ls : Array Slot} {st0 rest : List Value} {r : Option Value} (hr : va_Run p l e R s m args below meth c H locs cells slots 0 0 (F0 m pc ls st0) rest (fun st o t => o = .returned r ∧ t.heap = st.heap) (fun _ => False))
    (kk : W p l e R s m args below meth c H locs cells slots Q (F0 m (pc + 3) ls (r.toList ++ rest))) : W p l e R s m args below meth c H locs cells slots Q (F0 m pc ls st0) := by
  intro T hT X
  obtain ⟨v, st₀, t, T', L, h0, X', hL, e1, e2, ⟨hv, hh⟩, st⟩ := hr T hT X
  cases hv
  have hL0 : L = [] := by
    cases L with
    | nil => rfl
    | cons q L => exact (hL q List.mem_cons_self).elim
  subst hL0
  rw [List.append_nil] at X'
  obtain ⟨t2, a1, b1⟩ := kk T' (by rw [e1, hh, h0]) X'
  exact ⟨t2, st t2 a1, b1⟩
theorem mk_good {TB : List Cond} (hg : TB.all goodWord = true) {w : Cond} (hw : w ∈ TB) : GoodIn TB (w :: TB) := by
  intro v hv
  rcases List.mem_cons.mp hv with h | h
  · rw [h]; exact ⟨hw, good_of_word (List.all_eq_true.mp hg _ hw)⟩
  · exact ⟨h, good_of_word (List.all_eq_true.mp hg _ h)⟩
theorem mk_met29 {TB : List Cond} {b28 b29 : ByteArray} {i29 ifs : Nat} (K : mk_CK TB b28 b29 i29 ifs) {i n : Int32} {v : Value} (hv : v.category = 1) (hi : ¬ i < 0) (hn : i < n) :
    Met l mk_y29 (Cond.code mk_y29 b29 3 (some .int) :: TB) { frames := 0, cells := 0, slots := 0, locals := 0 } (fun a _ => a = ([.int i, .int n, v] : List Value).toArray) (fun _ st o t => o = .returned (some (.int i)) ∧ t.heap = st.heap) 0 0 (fun _ => False) := by
  obtain ⟨-, -, -, -, -, -, -, -, d0, d1, d4, d5, d6, d16, d17⟩ := K
  refine Met.ofW (cc := b29) (maxL := 3) (ret := some .int) (by decide) rfl ?_
  intro p e s m args below meth c s₁ B hml hv0
  subst hv0
  have hl := lv_entry [.int i, .int n, v] (n := 3) (by show (lg_sl ([.int i, .int n] ++ [v])).length ≤ 3; unfold lg_sl; rw [List.flatMap_append]; simp only [List.flatMap_cons, List.flatMap_nil, List.append_nil, List.length_append]; rw [if_neg (show ¬ v.category = 2 by rw [hv]; decide)]; exact Nat.le_of_ble_eq_true rfl)
  rw [lg_entry_eq]
  generalize (lg_sl [.int i, .int n, v] ++ List.replicate (3 - (lg_sl [.int i, .int n, v]).length) Slot.unset).toArray = ls at hl ⊢
  have h0 : ls[0]? = some (.val (.int i)) := hl.2.2 (0, .int i) List.mem_cons_self
  have h1 : ls[1]? = some (.val (.int n)) := hl.2.2 (1, .int n) (List.mem_cons_of_mem _ List.mem_cons_self)
  refine lv_iload_n B.exec B.bytes d0 rfl h0 ?_
  refine lv_if_lt (tgt := 9) B.exec B.bytes d1 rfl (fun h => absurd h hi) (fun _ => ?_)
  refine lv_iload_n B.exec B.bytes d4 rfl h0 ?_
  refine lv_iload_n B.exec B.bytes d5 rfl h1 ?_
  refine lv_icmp_lt (tgt := 16) B.exec B.bytes d6 rfl (fun _ => ?_) (fun h => absurd hn h)
  refine lv_iload_n B.exec B.bytes d16 rfl h0 ?_
  exact W.iret (v := i) B.exec B.bytes B.returns (fun t ht hW => ⟨rfl, ht⟩) (fun q hq => by cases hq) d17 B.notSynchronized
theorem mk_met28 {TB : List Cond} {b28 b29 : ByteArray} {i29 ifs : Nat} (K : mk_CK TB b28 b29 i29 ifs) {i n : Int32} {A : Nat → Prop} (hi : ¬ i < 0) (hn : i < n) :
    Met l mk_y28 (Cond.code mk_y28 b28 2 none :: TB) { frames := 1, cells := 0, slots := 0, locals := 22 } (fun a U => a = ([.int i, .int n] : List Value).toArray ∧ va_Zq "jdk/internal/util/Preconditions" "SIOOBE_FORMATTER" "Ljava/util/function/BiFunction;" A U U.heap) (fun _ st o t => o = .returned none ∧ t.heap = st.heap) 0 0 (fun _ => False) := by
  have K0 := K
  obtain ⟨⟨w1, w2, w3, w4, w5, w6, w7, w8⟩, hg, d0, d1, d2, d5, d8, d9, -⟩ := K
  refine Met.ofW (cc := b28) (maxL := 2) (ret := none) (by decide) rfl ?_
  intro p e s m args below meth c s₁ B hml hv0
  obtain ⟨rfl, hZ⟩ := hv0
  have hts := atoms_spec (ws := Cond.code mk_y28 b28 2 none :: TB) B.pre
  have htb : ∀ w ∈ TB, w.before ([.int i, .int n] : List Value).toArray s = true := fun w hw => hts w (List.mem_cons_of_mem _ hw)
  have hown : s.vm.findClass "java/lang/String" = some m.cls := findClass_of_methodNamed B.named
  have hl := lv_entry [.int i, .int n] (n := 2) (Nat.le_of_ble_eq_true rfl)
  rw [lg_entry_eq]
  generalize (lg_sl [.int i, .int n] ++ List.replicate (2 - (lg_sl [.int i, .int n]).length) Slot.unset).toArray = ls at hl ⊢
  have hl : lv_has ls 2 [(0, .int i), (1, .int n)] := hl
  refine lv_iload_n B.exec B.bytes d0 rfl (lv_at hl 0 rfl) ?_
  refine lv_iload_n B.exec B.bytes d1 rfl (lv_at hl 1 rfl) ?_
  have key : ∀ v : Value, v.category = 1 → W p l e (headSpec (Cond.code mk_y28 b28 2 none :: TB) { frames := 1, cells := 0, slots := 0, locals := 22 }).room s m ([.int i, .int n] : List Value).toArray below meth c s.heap [] 0 0 (MQ below (fun _ st o t => o = .returned none ∧ t.heap = st.heap) ([.int i, .int n] : List Value).toArray s 0 0 (fun _ => False)) (F0 m 5 ls [v, .int n, .int i]) := by
    intro v hv
    refine mm_callH (r := some (.int i)) (va_runS (As := [.int i, .int n, v]) (rest := []) (n := 3) ⟨B.exec, B.bytes, hml, hown, htb⟩ (mk_met29 K0 hv hi hn) ⟨callB_of 3 htb (mk_good hg w7) rfl rfl rfl (htb _ w6) (htb _ w4) ⟨by decide, by decide, by decide +kernel⟩ ⟨Nat.le_refl _, Nat.le_of_ble_eq_true rfl⟩, htb _ w5⟩ ⟨fun _ _ _ _ q => q, fun _ _ _ => rfl⟩ rfl rfl hl.1 rfl (room0 rfl) d5 ⟨Nat.le_refl _, Nat.le_refl _⟩) ?_
    refine lv_pop B.exec B.bytes d8 rfl ?_
    exact W.vret B.exec B.bytes B.returns (fun t ht hW => ⟨rfl, ht⟩) (fun q hq => by cases hq) d9 B.notSynchronized
  rcases hZ with hZ | ⟨t, hZ⟩
  · exact va_gets B.exec B.bytes hZ va_S.rf hown (htb _ w8) (fun _ h9 => h9) d2 (key .null rfl)
  · exact va_gets B.exec B.bytes hZ va_S.rf hown (htb _ w8) (fun _ h9 => h9) d2 (key (.ref t) rfl)
variable {cc : ByteArray} {own : String} {nL : Nat} {D : va_G} {cl : List vw_C} {tys : List (ClassId × FieldType)} {dA : Nat → ClassId} {TB : List Cond} {A : Nat → Prop} {P : mm_P} {mt : Nat}
variable {xs : List Int32} {byt : List (List Int32)} {sr : mm_N} {ρ0 : Nat → Nat} {n0 z0 : Nat}
variable {pc pc' : Nat} {L L' : mm_V} {st st' : List Value} {h h' : mm_H}
theorem mg_chk (X : mm_X p R s m args c cc own nL D cl tys dA TB A P) {b28 b29 : ByteArray} {i29 ifs ix : Nat} (K0 : mk_CK TB b28 b29 i29 ifs) (hg : decode cc pc = .ok (.invokestatic ix, 3)) (hw : Cond.methodLink own ix mk_y28 ∈ TB) (hc1 : (h'.1 - n0) + (h'.2.1 - z0) ≤ R.cells) (hz1 : h'.2.1 - z0 ≤ R.slots) (hs : mm_step P mt .d2f pc L st h = some (.inl (pc', L', st', h'))) (K : mm_W p l e R s m args below meth c Q nL D cl dA A P xs byt sr ρ0 n0 z0 pc' L' st' h') : mm_W p l e R s m args below meth c Q nL D cl dA A P xs byt sr ρ0 n0 z0 pc L st h := by
  obtain ⟨x, y, r, rfl, hk0⟩ := mm_ii_inv hs
  split at hk0
  · rename_i hc
    obtain ⟨hi, hn, hwd⟩ := hc
    cases hk0
    intro ρ ls H locs S
    have hR := X.2.2.2.2.2.2.2.1
    have K1 := K0
    obtain ⟨⟨w1, w2, w3, w4, w5, w6, w7, w8⟩, hgd, -⟩ := K1
    refine mm_callH (r := none) (va_runS (As := [.int x, .int y]) (rest := st'.map (mm_tv ρ)) (n := 2) ⟨X.1, X.2.1, X.2.2.1, X.2.2.2.1, X.2.2.2.2.1⟩ (mk_met28 (A := A) K0 hi hn) ⟨callB_of 2 X.2.2.2.2.1 (mk_good hgd w3) rfl rfl rfl (X.2.2.2.2.1 _ w2) (X.2.2.2.2.1 _ hw) ⟨by decide, by decide, by decide +kernel⟩ ⟨by show 1 + 1 ≤ R.frames; omega, by show 8 + (2 + 11) + 22 ≤ R.locals; omega⟩, X.2.2.2.2.1 _ w1⟩ ⟨fun a U g mk q => ⟨q.1, va_Zq.moved (u := U) (U := U.calling g mk a) (Vm.Alike.refl U.vm) q.2⟩, fun U hU hW => ⟨rfl, ?_⟩⟩ rfl rfl S.1.2.1 rfl (by show 2 * 0 + _ ≤ 8; rw [mm_words_tv]; omega) hg ⟨hc1, hz1⟩) ?_
    · rw [hU]
      exact (va_Zq.moved hW.alike S.2.2.2.2.2.2.2.2.2.1.2.2.2.2.2.2).kept S.2.2.2.2.2.2.2.2.1.2.1
    · exact K ρ ls H locs (S.st (mm_bt (mm_bt S.2.2.1)))
  · cases hk0
end MM6a
