/-! MINI 5: instructions over cells -/
section MM5
variable {p : Program} {l : Launch} {e : Env} {R : Room} {s : State} {m : MethodId} {args : Array Value} {below : List Frame} {meth : Method} {c : Code} {Q : State → Prop}
variable {cc : ByteArray} {own : String} {nL : Nat} {D : va_G} {cl : List vw_C} {tys : List (ClassId × FieldType)} {dA : Nat → ClassId} {TB : List Cond} {A : Nat → Prop} {P : mm_P} {mt : Nat}
variable {xs : List Int32} {byt : List (List Int32)} {sr : mm_N} {ρ0 : Nat → Nat} {n0 z0 : Nat}
variable {pc pc' : Nat} {L L' : mm_V} {st st' : List Value} {h h' : mm_H} {ρ : Nat → Nat} {ls : Array Slot} {H H1 : Heap} {locs locs1 : List Loc}
theorem mm_x0_c (xs : List Int32) (byt : List (List Int32)) (i : Nat) : (i = 0 ∧ mm_x0 xs byt i = .inl (9, xs)) ∨ (∃ j, i = 1 + 2 * j ∧ mm_x0 xs byt i = .inr (.inr (900, [.ref (2 + 2 * j), .int 0]))) ∨ ∃ j, i = 2 + 2 * j ∧ mm_x0 xs byt i = .inl (8, byt.getD j []) := by
  unfold mm_x0
  by_cases h0 : i = 0
  · exact Or.inl ⟨h0, if_pos h0⟩
  · rw [if_neg h0]
    by_cases h1 : i % 2 = 1
    · rw [if_pos h1]
      exact Or.inr (Or.inl ⟨i / 2, by omega, by rw [show i + 1 = 2 + 2 * (i / 2) by omega]⟩)
    · rw [if_neg h1]
      exact Or.inr (Or.inr ⟨i / 2 - 1, by omega, rfl⟩)
def mm_oc : mm_C → Prop
  | .inl (t, _) => t ≠ 8 ∧ t ≠ 9
  | .inr (.inl _) => True
  | .inr (.inr (c, _)) => c ≠ 900
theorem mm_own {L : mm_V} (S : mm_S s nL D cl dA A P xs byt sr ρ0 n0 z0 L st h ρ ls H locs) {a : Nat} {cell : mm_C} (hc : h.2.2 a = cell) (ho : mm_oc cell) : P.2.2.2.1 ≤ a := by
  apply Nat.le_of_not_lt
  intro hlt
  have e := S.2.2.2.2.1 a hlt
  rw [hc] at e
  subst e
  rcases mm_x0_c xs byt a with ⟨-, q⟩ | ⟨j, -, q⟩ | ⟨j, -, q⟩ <;> rw [q] at ho
  · exact ho.2 rfl
  · exact ho rfl
  · exact ho.1 rfl
theorem mm_at (S : mm_S s nL D cl dA A P xs byt sr ρ0 n0 z0 L st h ρ ls H locs) {a : Nat} {cell : mm_C} (hc : h.2.2 a = cell) (h1 : P.2.2.2.1 ≤ a) (h2 : a < h.1) : (mm_ws dA P.2.2.2.1 ρ h)[a - P.2.2.2.1]? = some (ρ a, mm_te dA ρ cell) := by
  rw [← hc]
  exact mm_ws_get h1 h2
theorem mm_S.put (S : mm_S s nL D cl dA A P xs byt sr ρ0 n0 z0 L st h ρ ls H locs) {a : Nat} {cell : mm_C} (h1 : P.2.2.2.1 ≤ a) (h2 : a < h.1) (hb : mm_bc h.1 cell) (hk : mm_kc P.2.2.2.2.1 cell) (hst : ∀ v ∈ st', mm_bv h.1 v)
    (hP : va_P D cl ((mm_ws dA P.2.2.2.1 ρ h).set (a - P.2.2.2.1) (ρ a, mm_te dA ρ cell)) H1) (hD : va_D A ((mm_ws dA P.2.2.2.1 ρ h).set (a - P.2.2.2.1) (ρ a, mm_te dA ρ cell))) (hS : va_S A s.heap H1 locs1) : mm_S s nL D cl dA A P xs byt sr ρ0 n0 z0 L st' (mm_hs h a cell) ρ ls H1 locs1 := by
  obtain ⟨s1, s2, s3, s4, s5, s6, s7, s8, s9, s10, s11⟩ := S
  rw [← mm_ws_set h1 h2] at hP hD
  refine ⟨s1, s2, hst, mm_bh_set s4 hb, fun i hi => ?_, fun i hi hj => ?_, hP, hD, hS, s10, s11⟩
  · show (if i = a then cell else h.2.2 i) = _
    rw [if_neg (by omega)]
    exact s5 i hi
  · show mm_kc _ (if i = a then cell else h.2.2 i)
    split
    · exact hk
    · exact s6 i hi hj
theorem mm_EX.eq {ρ' : Nat → Nat} {U : State} (h : mm_EX xs byt sr ρ A U) (hr : ∀ i, i < 1 + 2 * byt.length → ρ' i = ρ i) : mm_EX xs byt sr ρ' A U := by
  obtain ⟨h1, h2, h3, h4⟩ := h
  refine ⟨?_, ⟨fun i hi => ?_, fun i j hi hj hij => ?_⟩, fun q hq => ⟨(h3 q hq).1, ?_⟩, h4⟩
  · rw [hr 0 (by omega)]; exact h1
  · have e1 : ρ' (1 + 2 * i) = ρ (1 + 2 * i) := hr _ (by omega)
    have e2 : ρ' (2 + 2 * i) = ρ (2 + 2 * i) := hr _ (by omega)
    simp only [e1, e2]
    exact h2.1 i hi
  · have e1 : ρ' (1 + 2 * i) = ρ (1 + 2 * i) := hr _ (by omega)
    have e2 : ρ' (1 + 2 * j) = ρ (1 + 2 * j) := hr _ (by omega)
    simp only [e1, e2] at hij
    exact h2.2 i j hi hj hij
  · have hl := (h3 q hq).1
    rw [hr _ (by omega)]
    exact (h3 q hq).2
theorem mm_S.new (S : mm_S s nL D cl dA A P xs byt sr ρ0 n0 z0 L st h ρ ls H locs) {cell : mm_C} {z q : Nat} (hb : mm_bc (h.1 + 1) cell) (hk : mm_kc P.2.2.2.2.1 cell) (hst : ∀ v ∈ st', mm_bv (h.1 + 1) v)
    (hP : va_P D cl (mm_ws dA P.2.2.2.1 ρ h ++ [(q, mm_te dA (fun i => if i = h.1 then q else ρ i) cell)]) H1) (hD : va_D A (mm_ws dA P.2.2.2.1 ρ h ++ [(q, mm_te dA (fun i => if i = h.1 then q else ρ i) cell)])) (hS : va_S A s.heap H1 locs1) : mm_S s nL D cl dA A P xs byt sr ρ0 n0 z0 L st' (mm_hn h cell z) (fun i => if i = h.1 then q else ρ i) ls H1 locs1 := by
  obtain ⟨s1, s2, s3, s4, s5, s6, s7, s8, s9, s10, s11⟩ := S
  have hr : ∀ i, i < h.1 → (fun i => if i = h.1 then q else ρ i) i = ρ i := fun i hi => if_neg (by omega)
  have hne : P.2.2.2.1 ≤ h.1 := s4.1
  rw [← mm_ws_new (z := z) s4] at hP hD
  refine ⟨mm_LR_mono s1 hr s2, fun i v hv => mm_bv_le (Nat.le_succ _) (s2 i v hv), hst, mm_bh_new s4 hb, fun i hi => ?_, fun i hi hj => ?_, hP, hD, hS, s10.eq (fun i hi => hr i (by omega)), Nat.le_succ_of_le s11.1, Nat.le_trans s11.2.1 (Nat.le_add_right _ _), s11.2.2.1, s11.2.2.2.1, fun i hi => (hr i (by omega)).trans (s11.2.2.2.2 i hi)⟩
  · show (if i = h.1 then cell else h.2.2 i) = _
    rw [if_neg (by omega)]
    exact s5 i hi
  · show mm_kc _ (if i = h.1 then cell else h.2.2 i)
    split
    · exact hk
    · exact s6 i hi (by have hj' : i < h.1 + 1 := hj; omega)
theorem mm_getD_set {β : Type} (l : List β) (k : Nat) (x d : β) (hk : k < l.length) (j : Nat) : (l.set k x).getD j d = if j = k then x else l.getD j d := by
  rw [List.getD_eq_getElem?_getD, List.getD_eq_getElem?_getD, List.getElem?_set]
  by_cases hj : k = j
  · subst hj; simp [hk]
  · rw [if_neg hj, if_neg (fun q => hj q.symm)]
theorem mm_getD_some {β : Type} {l : List β} {k : Nat} {x d : β} (h : l[k]? = some x) : l.getD k d = x := by
  rw [List.getD_eq_getElem?_getD, h]; rfl
theorem mm_bcF {n c : Nat} {fs : List Value} {k : Nat} {v : Value} (h : mm_bc n (.inr (.inr (c, fs)))) (hv : mm_bv n v) : mm_bc n (.inr (.inr (c, fs.set k v))) := by
  intro w hw
  rcases List.mem_or_eq_of_mem_set hw with h1 | h1
  · exact h w h1
  · rw [h1]; exact hv
theorem mm_ok_tv {ty : FieldType} {v : Value} (h : mm_ok ty v = true) : narrow ty (mm_tv ρ v) = mm_tv ρ v ∧ fits ty (mm_tv ρ v) = true := by
  unfold mm_ok at h
  split at h <;> first | exact ⟨rfl, rfl⟩ | (cases h)
theorem mg_getfield (X : mm_X p R s m args c cc own nL D cl tys dA TB A P) {n ix : Nat} {q : vw_C} (hg : decode cc pc = .ok (.getfield ix, 3)) (hq : cl[n / 100]? = some q) (hk : n % 100 < q.2.2) (hw : Cond.fieldLink own ix (q.2.1 (n % 100)).1 (q.2.1 (n % 100)).2.1 (q.2.1 (n % 100)).2.2.1 ∈ TB) (hs : mm_step P mt (.getfield n) pc L st h = some (.inl (pc', L', st', h'))) (K : mm_W p l e R s m args below meth c Q nL D cl dA A P xs byt sr ρ0 n0 z0 pc' L' st' h') : mm_W p l e R s m args below meth c Q nL D cl dA A P xs byt sr ρ0 n0 z0 pc L st h := by
  obtain ⟨a, r, rfl, hk0⟩ := mm_r_inv hs
  obtain ⟨x, hx, hk0⟩ := mm_k3_inv hk0
  cases hk0
  intro ρ ls H locs S
  obtain ⟨hci, hin, -, -, -⟩ := X.2.2.2.2.2.2.2.2.2 _ _ hq
  unfold mm_gF at hx
  split at hx
  · rename_i c1 fs hcell
    split at hx
    · rename_i hc
      obtain ⟨rfl, -⟩ := hc
      have ha : a < h.1 := mm_bh1 S.2.2.1
      have ho : P.2.2.2.1 ≤ a := mm_own S hcell (show n / 100 ≠ 900 by omega)
      have he := mm_at S hcell ho ha
      have hbx : mm_bv h.1 x := by
        have hb := S.2.2.2.1.2 a ha
        rw [hcell] at hb
        exact hb x (List.mem_of_getElem? hx)
      rw [show mm_te dA ρ (.inr (.inr (n / 100, fs))) = .inr (n / 100, fs.map (mm_tv ρ)) from if_neg (by omega)] at he
      exact va_get X.1 X.2.1 X.2.2.2.2.1 hin X.2.2.2.1 X.2.2.2.2.2.1 S.2.2.2.2.2.2.1 (a - P.2.2.2.1) he hq (n % 100) hk (X.2.2.2.2.1 _ hw) (fun _ h9 => h9) (by rw [List.getElem?_map, hx]; rfl) hg (K ρ ls H locs (S.st (mm_b1 hbx (mm_bt S.2.2.1))))
    · cases hx
  · cases hx
theorem mg_putfield (X : mm_X p R s m args c cc own nL D cl tys dA TB A P) {n ix : Nat} {q : vw_C} (hg : decode cc pc = .ok (.putfield ix, 3)) (hq : cl[n / 100]? = some q) (hk : n % 100 < q.2.2) (hw : Cond.fieldLink own ix (q.2.1 (n % 100)).1 (q.2.1 (n % 100)).2.1 (q.2.1 (n % 100)).2.2.1 ∈ TB) (hfin : (q.2.1 (n % 100)).2.2.2 = false) (hs : mm_step P mt (.putfield n) pc L st h = some (.inl (pc', L', st', h'))) (K : mm_W p l e R s m args below meth c Q nL D cl dA A P xs byt sr ρ0 n0 z0 pc' L' st' h') : mm_W p l e R s m args below meth c Q nL D cl dA A P xs byt sr ρ0 n0 z0 pc L st h := by
  obtain ⟨a, x, r, rfl, hk0⟩ := mm_rv_inv hs
  obtain ⟨h1, hx, hk0⟩ := mm_k4_inv hk0
  cases hk0
  intro ρ ls H locs S
  obtain ⟨hci, hin, hlen, hty, hnm⟩ := X.2.2.2.2.2.2.2.2.2 _ _ hq
  unfold mm_sF at hx
  split at hx
  · rename_i c1 fs hcell
    split at hx
    · rename_i hc
      simp only [Bool.and_eq_true, decide_eq_true_eq] at hc
      obtain ⟨rfl, hc9, hkl, hok⟩ := hc
      cases hx
      have ha : a < h.1 := mm_bh1 (mm_bt S.2.2.1)
      have ho : P.2.2.2.1 ≤ a := mm_own S hcell (show n / 100 ≠ 900 by omega)
      have he := mm_at S hcell ho ha
      rw [show mm_te dA ρ (.inr (.inr (n / 100, fs))) = .inr (n / 100, fs.map (mm_tv ρ)) from if_neg (by omega)] at he
      have hb := S.2.2.2.1.2 a ha
      rw [hcell] at hb
      have et : mm_te dA ρ (.inr (.inr (n / 100, fs.set (n % 100) x))) = .inr (n / 100, (fs.map (mm_tv ρ)).set (n % 100) (mm_tv ρ x)) := by
        rw [← List.map_set]
        exact if_neg (by omega)
      refine va_put X.1 X.2.1 X.2.2.2.2.1 hin (fun k => (P.2.2.1 (n / 100)).getD k .byte) hty hnm X.2.2.2.1 X.2.2.2.2.2.1 S.2.2.2.2.2.2.1 S.2.2.2.2.2.2.2.1 S.2.2.2.2.2.2.2.2.1 (a - P.2.2.2.1) he hq (n % 100) hk (X.2.2.2.2.1 _ hw) (fun _ h9 => h9) hfin (hty _ hk) (mm_ok_tv hok).1 (mm_ok_tv hok).2 (by rw [List.length_map]; exact hkl) hg (fun H1 locs1 hP hD hS => ?_)
      rw [← et] at hP hD
      exact K ρ ls H1 locs1 (S.put ho ha (mm_bcF hb (mm_bh1 S.2.2.1)) (Or.inl hc9) (mm_bt (mm_bt S.2.2.1)) hP hD hS)
    · cases hx
  · cases hx
theorem mg_putfieldF (X : mm_X p R s m args c cc own nL D cl tys dA TB A P) {n ix : Nat} {q : vw_C} (hg : decode cc pc = .ok (.putfield ix, 3)) (hq : cl[n / 100]? = some q) (hk : n % 100 < q.2.2) (hw : Cond.fieldLink own ix (q.2.1 (n % 100)).1 (q.2.1 (n % 100)).2.1 (q.2.1 (n % 100)).2.2.1 ∈ TB) (hfin : (q.2.1 (n % 100)).2.2.2 = true) (hin2 : meth.name = "<init>") (hdecl : (q.2.1 (n % 100)).1 = own) (hs : mm_step P mt (.putfield n) pc L st h = some (.inl (pc', L', st', h'))) (K : mm_W p l e R s m args below meth c Q nL D cl dA A P xs byt sr ρ0 n0 z0 pc' L' st' h') : mm_W p l e R s m args below meth c Q nL D cl dA A P xs byt sr ρ0 n0 z0 pc L st h := by
  obtain ⟨a, x, r, rfl, hk0⟩ := mm_rv_inv hs
  obtain ⟨h1, hx, hk0⟩ := mm_k4_inv hk0
  cases hk0
  intro ρ ls H locs S
  obtain ⟨hci, hin, hlen, hty, hnm⟩ := X.2.2.2.2.2.2.2.2.2 _ _ hq
  unfold mm_sF at hx
  split at hx
  · rename_i c1 fs hcell
    split at hx
    · rename_i hc
      simp only [Bool.and_eq_true, decide_eq_true_eq] at hc
      obtain ⟨rfl, hc9, hkl, hok⟩ := hc
      cases hx
      have ha : a < h.1 := mm_bh1 (mm_bt S.2.2.1)
      have ho : P.2.2.2.1 ≤ a := mm_own S hcell (show n / 100 ≠ 900 by omega)
      have he := mm_at S hcell ho ha
      rw [show mm_te dA ρ (.inr (.inr (n / 100, fs))) = .inr (n / 100, fs.map (mm_tv ρ)) from if_neg (by omega)] at he
      have hb := S.2.2.2.1.2 a ha
      rw [hcell] at hb
      have et : mm_te dA ρ (.inr (.inr (n / 100, fs.set (n % 100) x))) = .inr (n / 100, (fs.map (mm_tv ρ)).set (n % 100) (mm_tv ρ x)) := by
        rw [← List.map_set]
        exact if_neg (by omega)
      refine va_putF X.1 X.2.1 X.2.2.2.2.1 hin (fun k => (P.2.2.1 (n / 100)).getD k .byte) hty hnm X.2.2.2.1 X.2.2.2.2.2.1 S.2.2.2.2.2.2.1 S.2.2.2.2.2.2.2.1 S.2.2.2.2.2.2.2.2.1 (a - P.2.2.2.1) he hq (n % 100) hk (X.2.2.2.2.1 _ hw) (fun _ h9 => h9) hfin hin2 hdecl (hty _ hk) (mm_ok_tv hok).1 (mm_ok_tv hok).2 (by rw [List.length_map]; exact hkl) hg (fun H1 locs1 hP hD hS => ?_)
      rw [← et] at hP hD
      exact K ρ ls H1 locs1 (S.put ho ha (mm_bcF hb (mm_bh1 S.2.2.1)) (Or.inl hc9) (mm_bt (mm_bt S.2.2.1)) hP hD hS)
    · cases hx
  · cases hx
theorem mg_iaload (X : mm_X p R s m args c cc own nL D cl tys dA TB A P) (hg : decode cc pc = .ok (.iaload, 1)) (hs : mm_step P mt (.iaload) pc L st h = some (.inl (pc', L', st', h'))) (K : mm_W p l e R s m args below meth c Q nL D cl dA A P xs byt sr ρ0 n0 z0 pc' L' st' h') : mm_W p l e R s m args below meth c Q nL D cl dA A P xs byt sr ρ0 n0 z0 pc L st h := by
  obtain ⟨a, i, r, rfl, hk0⟩ := mm_ri_inv hs
  obtain ⟨x, hx, hk0⟩ := mm_k1_inv hk0
  cases hk0
  intro ρ ls H locs S
  have ha : a < h.1 := mm_bh1 (mm_bt S.2.2.1)
  unfold mm_gI at hx
  split at hx
  · rename_i u ys hcell
    split at hx
    · rename_i hu
      split at hx
      · cases hx
      · rename_i hin
        have kk := K ρ ls H locs (S.st (mm_b1 trivial (mm_bt (mm_bt S.2.2.1))))
        by_cases ho : P.2.2.2.1 ≤ a
        · have hkc := S.2.2.2.2.2.1 a ho ha
          rw [hcell] at hkc
          have hu0 : u = 0 := by
            have h2 : u ≤ 2 := hkc
            omega
          subst hu0
          have he := mm_at S hcell ho ha
          obtain ⟨t0, ht0⟩ := X.2.2.2.2.2.2.2.2.1.1
          refine va_iald X.1 X.2.1 X.2.2.2.2.2.1 S.2.2.2.2.2.2.1 (a - P.2.2.2.1) t0 he ht0 hin hg ?_
          rw [mm_getD_some hx]
          exact kk
        · have hlt : a < P.2.2.2.1 := Nat.lt_of_not_le ho
          have e9 := S.2.2.2.2.1 a hlt
          rw [hcell] at e9
          rcases mm_x0_c xs byt a with ⟨rfl, q⟩ | ⟨j, -, q⟩ | ⟨j, -, q⟩ <;> rw [q] at e9
          · cases e9
            refine va_sld X.1 X.2.1 S.2.2.2.2.2.2.2.2.2.1.1.1 S.2.2.2.2.2.2.2.2.2.1.1.2.1 S.2.2.2.2.2.2.2.2.2.1.1.2.2 S.2.2.2.2.2.2.2.2.1 hin hg ?_
            rw [mm_getD_some hx]
            exact kk
          · cases e9
          · cases e9
            exact absurd hu (by decide)
    · cases hx
  · cases hx
theorem mg_caload (X : mm_X p R s m args c cc own nL D cl tys dA TB A P) (hg : decode cc pc = .ok (.caload, 1)) (hs : mm_step P mt (.caload) pc L st h = some (.inl (pc', L', st', h'))) (K : mm_W p l e R s m args below meth c Q nL D cl dA A P xs byt sr ρ0 n0 z0 pc' L' st' h') : mm_W p l e R s m args below meth c Q nL D cl dA A P xs byt sr ρ0 n0 z0 pc L st h := by
  obtain ⟨a, i, r, rfl, hk0⟩ := mm_ri_inv hs
  obtain ⟨x, hx, hk0⟩ := mm_k1_inv hk0
  cases hk0
  intro ρ ls H locs S
  have ha : a < h.1 := mm_bh1 (mm_bt S.2.2.1)
  unfold mm_gI at hx
  split at hx
  · rename_i u ys hcell
    split at hx
    · rename_i hu
      split at hx
      · cases hx
      · rename_i hin
        have kk := K ρ ls H locs (S.st (mm_b1 trivial (mm_bt (mm_bt S.2.2.1))))
        by_cases ho : P.2.2.2.1 ≤ a
        · have hkc := S.2.2.2.2.2.1 a ho ha
          rw [hcell] at hkc
          have hu0 : u = 1 := by
            have h2 : u ≤ 2 := hkc
            omega
          subst hu0
          have he := mm_at S hcell ho ha
          obtain ⟨t0, ht0⟩ := X.2.2.2.2.2.2.2.2.1.2.1
          refine va_cald X.1 X.2.1 X.2.2.2.2.2.1 S.2.2.2.2.2.2.1 (a - P.2.2.2.1) t0 he ht0 hin hg ?_
          rw [mm_getD_some hx]
          exact kk
        · have hlt : a < P.2.2.2.1 := Nat.lt_of_not_le ho
          have e9 := S.2.2.2.2.1 a hlt
          rw [hcell] at e9
          rcases mm_x0_c xs byt a with ⟨rfl, q⟩ | ⟨j, -, q⟩ | ⟨j, -, q⟩ <;> rw [q] at e9 <;> cases e9 <;> exact absurd hu (by decide)
    · cases hx
  · cases hx
theorem mg_baload (X : mm_X p R s m args c cc own nL D cl tys dA TB A P) (hg : decode cc pc = .ok (.baload, 1)) (hs : mm_step P mt (.baload) pc L st h = some (.inl (pc', L', st', h'))) (K : mm_W p l e R s m args below meth c Q nL D cl dA A P xs byt sr ρ0 n0 z0 pc' L' st' h') : mm_W p l e R s m args below meth c Q nL D cl dA A P xs byt sr ρ0 n0 z0 pc L st h := by
  obtain ⟨a, i, r, rfl, hk0⟩ := mm_ri_inv hs
  obtain ⟨x, hx, hk0⟩ := mm_k1_inv hk0
  cases hk0
  intro ρ ls H locs S
  have ha : a < h.1 := mm_bh1 (mm_bt S.2.2.1)
  unfold mm_gI at hx
  split at hx
  · rename_i u ys hcell
    split at hx
    · rename_i hu
      split at hx
      · cases hx
      · rename_i hin
        have kk := K ρ ls H locs (S.st (mm_b1 trivial (mm_bt (mm_bt S.2.2.1))))
        by_cases ho : P.2.2.2.1 ≤ a
        · have hkc := S.2.2.2.2.2.1 a ho ha
          rw [hcell] at hkc
          have hu0 : u = 2 := by
            have h2 : u ≤ 2 := hkc
            omega
          subst hu0
          have he := mm_at S hcell ho ha
          obtain ⟨t0, ht0⟩ := X.2.2.2.2.2.2.2.2.1.2.2.1
          refine va_zald X.1 X.2.1 X.2.2.2.2.2.1 S.2.2.2.2.2.2.1 (a - P.2.2.2.1) t0 he ht0 hin hg ?_
          rw [mm_getD_some hx]
          exact kk
        · have hlt : a < P.2.2.2.1 := Nat.lt_of_not_le ho
          have e9 := S.2.2.2.2.1 a hlt
          rw [hcell] at e9
          rcases mm_x0_c xs byt a with ⟨rfl, q⟩ | ⟨j, -, q⟩ | ⟨j, hj, q⟩ <;> rw [q] at e9
          · cases e9
            exact absurd hu (by decide)
          · cases e9
          · cases e9
            have hjN : j < byt.length := by
              have := S.2.2.2.2.2.2.2.2.2.2.2.2.2.1
              omega
            have hT := (S.2.2.2.2.2.2.2.2.2.1.2.1.1 j hjN).2.2.2
            have hlen : (byt.map List.length).getD j 0 = (byt.getD j []).length := by
              rw [List.getD_eq_getElem?_getD, List.getD_eq_getElem?_getD, List.getElem?_map]
              cases byt[j]? <;> rfl
            rw [hlen] at hT
            subst hj
            refine va_tb X.1 X.2.1 hT S.2.2.2.2.2.2.2.2.1 hin (v := .int x) (by rw [mm_getD_some hx]) hg ?_
            exact kk
    · cases hx
  · cases hx
theorem mg_laload (X : mm_X p R s m args c cc own nL D cl tys dA TB A P) (hg : decode cc pc = .ok (.laload, 1)) (hs : mm_step P mt (.laload) pc L st h = some (.inl (pc', L', st', h'))) (K : mm_W p l e R s m args below meth c Q nL D cl dA A P xs byt sr ρ0 n0 z0 pc' L' st' h') : mm_W p l e R s m args below meth c Q nL D cl dA A P xs byt sr ρ0 n0 z0 pc L st h := by
  obtain ⟨a, i, r, rfl, hk0⟩ := mm_ri_inv hs
  obtain ⟨x, hx, hk0⟩ := mm_k2_inv hk0
  cases hk0
  intro ρ ls H locs S
  have ha : a < h.1 := mm_bh1 (mm_bt S.2.2.1)
  unfold mm_gL at hx
  split at hx
  · rename_i ys hcell
    split at hx
    · cases hx
    · rename_i hin
      have ho : P.2.2.2.1 ≤ a := mm_own S hcell trivial
      have he := mm_at S hcell ho ha
      obtain ⟨t0, ht0⟩ := X.2.2.2.2.2.2.2.2.1.2.2.2.1
      refine va_lald X.1 X.2.1 X.2.2.2.2.2.1 S.2.2.2.2.2.2.1 (a - P.2.2.2.1) t0 he ht0 hin hg ?_
      rw [mm_getD_some hx]
      exact K ρ ls H locs (S.st (mm_b1 trivial (mm_bt (mm_bt S.2.2.1))))
  · cases hx
theorem mg_aaload (X : mm_X p R s m args c cc own nL D cl tys dA TB A P) (hg : decode cc pc = .ok (.aaload, 1)) (hs : mm_step P mt (.aaload) pc L st h = some (.inl (pc', L', st', h'))) (K : mm_W p l e R s m args below meth c Q nL D cl dA A P xs byt sr ρ0 n0 z0 pc' L' st' h') : mm_W p l e R s m args below meth c Q nL D cl dA A P xs byt sr ρ0 n0 z0 pc L st h := by
  obtain ⟨a, i, r, rfl, hk0⟩ := mm_ri_inv hs
  obtain ⟨x, hx, hk0⟩ := mm_k3_inv hk0
  cases x <;> first | (cases hk0; done) | skip
  cases hk0
  rename_i x
  intro ρ ls H locs S
  have ha : a < h.1 := mm_bh1 (mm_bt S.2.2.1)
  unfold mm_gA at hx
  split at hx
  · rename_i c1 fs hcell
    split at hx
    · rename_i hc
      subst hc
      split at hx
      · cases hx
      · rename_i hin
        have ho : P.2.2.2.1 ≤ a := mm_own S hcell (show 1000 + P.2.2.2.2.1 ≠ 900 by omega)
        have he := mm_at S hcell ho ha
        rw [show mm_te dA ρ (.inr (.inr (1000 + P.2.2.2.2.1, fs))) = .inl (dA (1000 + P.2.2.2.2.1), fs.length, .inr (.inr (.inr (.inr (fun k => mm_rf ρ (fs.getD k .null)))))) from if_pos (by omega)] at he
        obtain ⟨t0, q, hq, ht0⟩ := X.2.2.2.2.2.2.2.2.1.2.2.2.2
        have hb := S.2.2.2.1.2 a ha
        rw [hcell] at hb
        have hbx : mm_bv h.1 (.ref x) := hb _ (List.mem_of_getElem? hx)
        refine va_aldq X.1 X.2.1 X.2.2.2.2.2.1 S.2.2.2.2.2.2.1 (a - P.2.2.2.1) t0 he ht0 hin hg ?_
        rw [mm_getD_some hx]
        exact K ρ ls H locs (S.st (mm_b1 hbx (mm_bt (mm_bt S.2.2.1))))
    · cases hx
  · cases hx
theorem mg_arraylength (X : mm_X p R s m args c cc own nL D cl tys dA TB A P) (hg : decode cc pc = .ok (.arraylength, 1)) (hs : mm_step P mt (.arraylength) pc L st h = some (.inl (pc', L', st', h'))) (K : mm_W p l e R s m args below meth c Q nL D cl dA A P xs byt sr ρ0 n0 z0 pc' L' st' h') : mm_W p l e R s m args below meth c Q nL D cl dA A P xs byt sr ρ0 n0 z0 pc L st h := by
  obtain ⟨a, r, rfl, hk0⟩ := mm_r_inv hs
  obtain ⟨x, hx, hk0⟩ := mm_k1_inv hk0
  cases hk0
  intro ρ ls H locs S
  have ha : a < h.1 := mm_bh1 S.2.2.1
  have kk := K ρ ls H locs (S.st (mm_b1 trivial (mm_bt S.2.2.1)))
  unfold mm_gN at hx
  split at hx
  · rename_i u ys hcell
    by_cases ho : P.2.2.2.1 ≤ a
    · have hkc := S.2.2.2.2.2.1 a ho ha
      rw [hcell] at hkc
      have he := mm_at S hcell ho ha
      have h2 : u ≤ 2 := hkc
      have h3 : u = 0 ∨ u = 1 ∨ u = 2 := by omega
      rcases h3 with rfl | rfl | rfl
      · obtain ⟨t0, ht0⟩ := X.2.2.2.2.2.2.2.2.1.1
        exact va_alen X.1 X.2.1 X.2.2.2.2.2.1 S.2.2.2.2.2.2.1 (a - P.2.2.2.1) t0 he ht0 (Option.some.inj hx) hg kk
      · obtain ⟨t0, ht0⟩ := X.2.2.2.2.2.2.2.2.1.2.1
        exact va_alen X.1 X.2.1 X.2.2.2.2.2.1 S.2.2.2.2.2.2.1 (a - P.2.2.2.1) t0 he ht0 (Option.some.inj hx) hg kk
      · obtain ⟨t0, ht0⟩ := X.2.2.2.2.2.2.2.2.1.2.2.1
        exact va_alen X.1 X.2.1 X.2.2.2.2.2.1 S.2.2.2.2.2.2.1 (a - P.2.2.2.1) t0 he ht0 (Option.some.inj hx) hg kk
    · have hlt : a < P.2.2.2.1 := Nat.lt_of_not_le ho
      have e9 := S.2.2.2.2.1 a hlt
      rw [hcell] at e9
      rcases mm_x0_c xs byt a with ⟨rfl, q⟩ | ⟨j, -, q⟩ | ⟨j, hj, q⟩ <;> rw [q] at e9
      · cases e9
        refine va_slen X.1 X.2.1 S.2.2.2.2.2.2.2.2.2.1.1.1 S.2.2.2.2.2.2.2.2.2.1.1.2.1 S.2.2.2.2.2.2.2.2.2.1.1.2.2 S.2.2.2.2.2.2.2.2.1 hg ?_
        rw [Option.some.inj hx]
        exact kk
      · cases e9
      · cases e9
        have hjN : j < byt.length := by
          have := S.2.2.2.2.2.2.2.2.2.2.2.2.2.1
          omega
        have hT := (S.2.2.2.2.2.2.2.2.2.1.2.1.1 j hjN).2.2.2
        have hlen : (byt.map List.length).getD j 0 = (byt.getD j []).length := by
          rw [List.getD_eq_getElem?_getD, List.getD_eq_getElem?_getD, List.getElem?_map]
          cases byt[j]? <;> rfl
        rw [hlen] at hT
        subst hj
        exact va_tlen X.1 X.2.1 hT S.2.2.2.2.2.2.2.2.1 (Option.some.inj hx) hg kk
  · rename_i ys hcell
    have ho : P.2.2.2.1 ≤ a := mm_own S hcell trivial
    have he := mm_at S hcell ho ha
    obtain ⟨t0, ht0⟩ := X.2.2.2.2.2.2.2.2.1.2.2.2.1
    exact va_alen X.1 X.2.1 X.2.2.2.2.2.1 S.2.2.2.2.2.2.1 (a - P.2.2.2.1) t0 he ht0 (Option.some.inj hx) hg kk
  · cases hx
theorem mg_iastore (X : mm_X p R s m args c cc own nL D cl tys dA TB A P) (hg : decode cc pc = .ok (.iastore, 1)) (hs : mm_step P mt (.iastore) pc L st h = some (.inl (pc', L', st', h'))) (K : mm_W p l e R s m args below meth c Q nL D cl dA A P xs byt sr ρ0 n0 z0 pc' L' st' h') : mm_W p l e R s m args below meth c Q nL D cl dA A P xs byt sr ρ0 n0 z0 pc L st h := by
  obtain ⟨a, i, x, r, rfl, hk0⟩ := mm_rii_inv hs
  obtain ⟨h1, hx, hk0⟩ := mm_k4_inv hk0
  cases hk0
  intro ρ ls H locs S
  have ha : a < h.1 := mm_bh1 (mm_bt (mm_bt S.2.2.1))
  unfold mm_sI at hx
  split at hx
  · rename_i u ys hcell
    split at hx
    · rename_i hu
      subst hu
      split at hx
      · cases hx
      · rename_i hin
        cases hx
        have ho : P.2.2.2.1 ≤ a := mm_own S hcell ⟨by decide, by decide⟩
        have he := mm_at S hcell ho ha
        obtain ⟨t0, ht0⟩ := X.2.2.2.2.2.2.2.2.1.1
        have hlt : i.toNatClampNeg < ys.length := Nat.not_le.mp fun q => hin (Or.inr q)
        refine va_iast X.1 X.2.1 X.2.2.2.2.2.1 S.2.2.2.2.2.2.1 S.2.2.2.2.2.2.2.1 S.2.2.2.2.2.2.2.2.1 (a - P.2.2.2.1) t0 he ht0 hin hg (fun H1 locs1 hP hD hS => ?_)
        have et : mm_te dA ρ (.inl (0, ys.set i.toNatClampNeg (x))) = .inl (dA 0, ys.length, .inl (upd (fun k => ys.getD k 0) i.toNatClampNeg (x))) := by
          show Sum.inl (dA 0, (ys.set _ _).length, Sum.inl _) = _
          rw [List.length_set]
          congr 4
          funext k
          exact mm_getD_set ys _ _ _ hlt k
        rw [← et] at hP hD
        exact K ρ ls H1 locs1 (S.put ho ha trivial (show 0 ≤ 2 by decide) (mm_bt (mm_bt (mm_bt S.2.2.1))) hP hD hS)
    · cases hx
  · cases hx
theorem mg_castore (X : mm_X p R s m args c cc own nL D cl tys dA TB A P) (hg : decode cc pc = .ok (.castore, 1)) (hs : mm_step P mt (.castore) pc L st h = some (.inl (pc', L', st', h'))) (K : mm_W p l e R s m args below meth c Q nL D cl dA A P xs byt sr ρ0 n0 z0 pc' L' st' h') : mm_W p l e R s m args below meth c Q nL D cl dA A P xs byt sr ρ0 n0 z0 pc L st h := by
  obtain ⟨a, i, x, r, rfl, hk0⟩ := mm_rii_inv hs
  obtain ⟨h1, hx, hk0⟩ := mm_k4_inv hk0
  cases hk0
  intro ρ ls H locs S
  have ha : a < h.1 := mm_bh1 (mm_bt (mm_bt S.2.2.1))
  unfold mm_sI at hx
  split at hx
  · rename_i u ys hcell
    split at hx
    · rename_i hu
      subst hu
      split at hx
      · cases hx
      · rename_i hin
        cases hx
        have ho : P.2.2.2.1 ≤ a := mm_own S hcell ⟨by decide, by decide⟩
        have he := mm_at S hcell ho ha
        obtain ⟨t0, ht0⟩ := X.2.2.2.2.2.2.2.2.1.2.1
        have hlt : i.toNatClampNeg < ys.length := Nat.not_le.mp fun q => hin (Or.inr q)
        refine va_cast X.1 X.2.1 X.2.2.2.2.2.1 S.2.2.2.2.2.2.1 S.2.2.2.2.2.2.2.1 S.2.2.2.2.2.2.2.2.1 (a - P.2.2.2.1) t0 he ht0 hin hg (fun H1 locs1 hP hD hS => ?_)
        have et : mm_te dA ρ (.inl (1, ys.set i.toNatClampNeg (vp_nar .char x))) = .inl (dA 1, ys.length, .inl (upd (fun k => ys.getD k 0) i.toNatClampNeg (vp_nar .char x))) := by
          show Sum.inl (dA 1, (ys.set _ _).length, Sum.inl _) = _
          rw [List.length_set]
          congr 4
          funext k
          exact mm_getD_set ys _ _ _ hlt k
        rw [← et] at hP hD
        exact K ρ ls H1 locs1 (S.put ho ha trivial (show 1 ≤ 2 by decide) (mm_bt (mm_bt (mm_bt S.2.2.1))) hP hD hS)
    · cases hx
  · cases hx
theorem mg_bastore (X : mm_X p R s m args c cc own nL D cl tys dA TB A P) (hg : decode cc pc = .ok (.bastore, 1)) (hs : mm_step P mt (.bastore) pc L st h = some (.inl (pc', L', st', h'))) (K : mm_W p l e R s m args below meth c Q nL D cl dA A P xs byt sr ρ0 n0 z0 pc' L' st' h') : mm_W p l e R s m args below meth c Q nL D cl dA A P xs byt sr ρ0 n0 z0 pc L st h := by
  obtain ⟨a, i, x, r, rfl, hk0⟩ := mm_rii_inv hs
  obtain ⟨h1, hx, hk0⟩ := mm_k4_inv hk0
  cases hk0
  intro ρ ls H locs S
  have ha : a < h.1 := mm_bh1 (mm_bt (mm_bt S.2.2.1))
  unfold mm_sI at hx
  split at hx
  · rename_i u ys hcell
    split at hx
    · rename_i hu
      subst hu
      split at hx
      · cases hx
      · rename_i hin
        cases hx
        have ho : P.2.2.2.1 ≤ a := mm_own S hcell ⟨by decide, by decide⟩
        have he := mm_at S hcell ho ha
        obtain ⟨t0, ht0⟩ := X.2.2.2.2.2.2.2.2.1.2.2.1
        have hlt : i.toNatClampNeg < ys.length := Nat.not_le.mp fun q => hin (Or.inr q)
        refine va_zast X.1 X.2.1 X.2.2.2.2.2.1 S.2.2.2.2.2.2.1 S.2.2.2.2.2.2.2.1 S.2.2.2.2.2.2.2.2.1 (a - P.2.2.2.1) t0 he ht0 hin hg (fun H1 locs1 hP hD hS => ?_)
        have et : mm_te dA ρ (.inl (2, ys.set i.toNatClampNeg (vp_nar .boolean x))) = .inl (dA 2, ys.length, .inl (upd (fun k => ys.getD k 0) i.toNatClampNeg (vp_nar .boolean x))) := by
          show Sum.inl (dA 2, (ys.set _ _).length, Sum.inl _) = _
          rw [List.length_set]
          congr 4
          funext k
          exact mm_getD_set ys _ _ _ hlt k
        rw [← et] at hP hD
        exact K ρ ls H1 locs1 (S.put ho ha trivial (show 2 ≤ 2 by decide) (mm_bt (mm_bt (mm_bt S.2.2.1))) hP hD hS)
    · cases hx
  · cases hx
theorem mg_lastore (X : mm_X p R s m args c cc own nL D cl tys dA TB A P) (hg : decode cc pc = .ok (.lastore, 1)) (hs : mm_step P mt (.lastore) pc L st h = some (.inl (pc', L', st', h'))) (K : mm_W p l e R s m args below meth c Q nL D cl dA A P xs byt sr ρ0 n0 z0 pc' L' st' h') : mm_W p l e R s m args below meth c Q nL D cl dA A P xs byt sr ρ0 n0 z0 pc L st h := by
  obtain ⟨a, i, x, r, rfl, hk0⟩ := mm_ril_inv hs
  obtain ⟨h1, hx, hk0⟩ := mm_k4_inv hk0
  cases hk0
  intro ρ ls H locs S
  have ha : a < h.1 := mm_bh1 (mm_bt (mm_bt S.2.2.1))
  unfold mm_sL at hx
  split at hx
  · rename_i ys hcell
    split at hx
    · cases hx
    · rename_i hin
      cases hx
      have ho : P.2.2.2.1 ≤ a := mm_own S hcell trivial
      have he := mm_at S hcell ho ha
      obtain ⟨t0, ht0⟩ := X.2.2.2.2.2.2.2.2.1.2.2.2.1
      have hlt : i.toNatClampNeg < ys.length := Nat.not_le.mp fun q => hin (Or.inr q)
      refine va_last X.1 X.2.1 X.2.2.2.2.2.1 S.2.2.2.2.2.2.1 S.2.2.2.2.2.2.2.1 S.2.2.2.2.2.2.2.2.1 (a - P.2.2.2.1) t0 he ht0 hin hg (fun H1 locs1 hP hD hS => ?_)
      have et : mm_te dA ρ (.inr (.inl (ys.set i.toNatClampNeg x))) = .inl (dA 4, ys.length, .inr (.inl (vp_updL (fun k => ys.getD k 0) i.toNatClampNeg x))) := by
        show Sum.inl (dA 4, (ys.set _ _).length, Sum.inr (Sum.inl _)) = _
        rw [List.length_set]
        congr 5
        funext k
        exact mm_getD_set ys _ _ _ hlt k
      rw [← et] at hP hD
      exact K ρ ls H1 locs1 (S.put ho ha trivial trivial (mm_bt (mm_bt (mm_bt S.2.2.1))) hP hD hS)
  · cases hx
end MM5
