/-! MINI 6: new cells, copies, literals -/
section MM6
variable {p : Program} {l : Launch} {e : Env} {R : Room} {s : State} {m : MethodId} {args : Array Value} {below : List Frame} {meth : Method} {c : Code} {Q : State → Prop}
variable {cc : ByteArray} {own : String} {nL : Nat} {D : va_G} {cl : List vw_C} {tys : List (ClassId × FieldType)} {dA : Nat → ClassId} {TB : List Cond} {A : Nat → Prop} {P : mm_P} {mt : Nat}
variable {xs : List Int32} {byt : List (List Int32)} {sr : mm_N} {ρ0 : Nat → Nat} {n0 z0 : Nat}
variable {pc pc' : Nat} {L L' : mm_V} {st st' : List Value} {h h' : mm_H} {ρ : Nat → Nat} {ls : Array Slot} {H H1 : Heap} {locs locs1 : List Loc}
theorem mm_words_tv (ρ : Nat → Nat) (r : List Value) : ((r.map (mm_tv ρ)).map fun v => v.category).sum = mm_words r := by
  unfold mm_words
  rw [List.map_map]
  congr 1
  exact List.map_congr_left (fun v _ => mm_tv_cat v)
theorem mm_clamp {n : Int32} (h : ¬ (100000 : Int32) < n) : n.toNatClampNeg ≤ 100000 := by
  have h1 : n ≤ 100000 := Int32.not_lt.mp h
  have h2 : n.toInt ≤ (100000 : Int32).toInt := Int32.le_iff_toInt_le.mp h1
  have h3 : (100000 : Int32).toInt = 100000 := by decide
  have h4 : n.toNatClampNeg = n.toInt.toNat := rfl
  omega
theorem mm_rep0 {β : Type} (n j : Nat) (d : β) : (List.replicate n d).getD j d = d := by
  rw [List.getD_eq_getElem?_getD, List.getElem?_replicate]
  split <;> rfl
theorem mm_dv_tv (t : FieldType) : mm_tv ρ (defaultValue t) = defaultValue t := by cases t <;> rfl
theorem mm_dv_bv (n : Nat) (t : FieldType) : mm_bv n (defaultValue t) := by cases t <;> trivial
theorem mg_aastore (X : mm_X p R s m args c cc own nL D cl tys dA TB A P) (hg : decode cc pc = .ok (.aastore, 1)) (hs : mm_step P mt (.aastore) pc L st h = some (.inl (pc', L', st', h'))) (K : mm_W p l e R s m args below meth c Q nL D cl dA A P xs byt sr ρ0 n0 z0 pc' L' st' h') : mm_W p l e R s m args below meth c Q nL D cl dA A P xs byt sr ρ0 n0 z0 pc L st h := by
  obtain ⟨a, i, x, r, rfl, hk0⟩ := mm_rir_inv hs
  obtain ⟨h1, hx, hk0⟩ := mm_k4_inv hk0
  cases hk0
  intro ρ ls H locs S
  have ha : a < h.1 := mm_bh1 (mm_bt (mm_bt S.2.2.1))
  have hxb : x < h.1 := mm_bh1 S.2.2.1
  unfold mm_sA at hx
  split at hx
  · rename_i c1 fs c2 fs2 hcell hcell2
    split at hx
    · rename_i hc
      obtain ⟨rfl, rfl⟩ := hc
      split at hx
      · cases hx
      · rename_i hin
        cases hx
        obtain ⟨t0, q, hq, ht0⟩ := X.2.2.2.2.2.2.2.2.1.2.2.2.2
        have hci := (X.2.2.2.2.2.2.2.2.2 _ _ hq).1
        have ho : P.2.2.2.1 ≤ a := mm_own S hcell (show 1000 + P.2.2.2.2.1 ≠ 900 by omega)
        have ho2 : P.2.2.2.1 ≤ x := mm_own S hcell2 (show P.2.2.2.2.1 ≠ 900 by omega)
        have he := mm_at S hcell ho ha
        have he2 := mm_at S hcell2 ho2 hxb
        rw [show mm_te dA ρ (.inr (.inr (1000 + P.2.2.2.2.1, fs))) = .inl (dA (1000 + P.2.2.2.2.1), fs.length, .inr (.inr (.inr (.inr (fun k => mm_rf ρ (fs.getD k .null)))))) from if_pos (by omega)] at he
        rw [show mm_te dA ρ (.inr (.inr (P.2.2.2.2.1, fs2))) = .inr (P.2.2.2.2.1, fs2.map (mm_tv ρ)) from if_neg (by omega)] at he2
        have hlt : i.toNatClampNeg < fs.length := Nat.not_le.mp fun q => hin (Or.inr q)
        have hb := S.2.2.2.1.2 a ha
        rw [hcell] at hb
        refine va_astq X.1 X.2.1 X.2.2.2.2.2.1 S.2.2.2.2.2.2.1 S.2.2.2.2.2.2.2.1 S.2.2.2.2.2.2.2.2.1 (a - P.2.2.2.1) t0 (x - P.2.2.2.1) P.2.2.2.2.1 he ht0 he2 hq hin hg (fun H1 locs1 hP hD hS => ?_)
        have et : mm_te dA ρ (.inr (.inr (1000 + P.2.2.2.2.1, fs.set i.toNatClampNeg (.ref x)))) = .inl (dA (1000 + P.2.2.2.2.1), fs.length, .inr (.inr (.inr (.inr (va_up (fun k => mm_rf ρ (fs.getD k .null)) i.toNatClampNeg (some (ρ x))))))) := by
          rw [show mm_te dA ρ (.inr (.inr (1000 + P.2.2.2.2.1, fs.set i.toNatClampNeg (.ref x)))) = .inl (dA (1000 + P.2.2.2.2.1), (fs.set i.toNatClampNeg (.ref x)).length, .inr (.inr (.inr (.inr (fun k => mm_rf ρ ((fs.set i.toNatClampNeg (.ref x)).getD k .null)))))) from if_pos (by omega)]
          rw [List.length_set]
          have ef : (fun k => mm_rf ρ ((fs.set i.toNatClampNeg (.ref x)).getD k .null)) = va_up (fun k => mm_rf ρ (fs.getD k .null)) i.toNatClampNeg (some (ρ x)) := by
            funext k
            rw [mm_getD_set fs _ _ _ hlt k]
            unfold va_up
            split <;> rfl
          rw [ef]
        rw [← et] at hP hD
        exact K ρ ls H1 locs1 (S.put ho ha (mm_bcF hb hxb) (Or.inr rfl) (mm_bt (mm_bt (mm_bt S.2.2.1))) hP hD hS)
    · cases hx
  · cases hx
theorem mg_newarray_int (X : mm_X p R s m args c cc own nL D cl tys dA TB A P) (hg : decode cc pc = .ok (.newarray .int, 2)) (hw : Cond.arrayClass (.int) ∈ TB) (hc1 : (h'.1 - n0) + (h'.2.1 - z0) ≤ R.cells) (hz1 : h'.2.1 - z0 ≤ R.slots) (hs : mm_step P mt (.newarray .int) pc L st h = some (.inl (pc', L', st', h'))) (K : mm_W p l e R s m args below meth c Q nL D cl dA A P xs byt sr ρ0 n0 z0 pc' L' st' h') : mm_W p l e R s m args below meth c Q nL D cl dA A P xs byt sr ρ0 n0 z0 pc L st h := by
  obtain ⟨n, r, rfl, hk0⟩ := mm_i_inv hs
  split at hk0
  · cases hk0
  · rename_i hn
    have hn1 : ¬ n < 0 := fun q => hn (Or.inl q)
    have hn2 := mm_clamp (fun q => hn (Or.inr q))
    cases hk0
    intro ρ ls H locs S
    obtain ⟨t0, ht0⟩ := X.2.2.2.2.2.2.2.2.1.1
    have hRA := (X.2.2.2.2.2.1.2 t0 _ ht0).2
    have hn0 := S.2.2.2.2.2.2.2.2.2.2.1
    have hz0 := S.2.2.2.2.2.2.2.2.2.2.2.1
    have hc2 : (h.1 + 1 - n0) + (h.2.1 + n.toNatClampNeg - z0) ≤ R.cells := hc1
    have hz2 : h.2.1 + n.toNatClampNeg - z0 ≤ R.slots := hz1
    refine va_newa (atype := .int) (ty := .int) (a0 := (n.toNatClampNeg, .inl (fun k => (List.replicate n.toNatClampNeg (0 : Int32)).getD k 0))) X.1 X.2.1 (X.2.2.2.2.1 _ hw) rfl X.2.2.2.2.2.1 S.2.2.2.2.2.2.1 S.2.2.2.2.2.2.2.1 S.2.2.2.2.2.2.2.2.1 X.2.2.2.2.2.2.1 (fun cA => by rw [vp_cell_i]; congr 1; funext j; rw [mm_rep0]; rfl) hn1 rfl (Nat.le_trans (Nat.mul_le_mul_right _ hn2) (by decide)) (by omega) (by omega) hg (fun q cA H1 hK hP hD hS => ?_)
    have hRA2 := (hK.2 tys.length (cA, .int) (by rw [List.getElem?_append_right (Nat.le_refl _), Nat.sub_self]; rfl)).2
    have hcA : cA = dA 0 := Option.some.inj (hRA2.symm.trans hRA)
    subst hcA
    have et : ∀ ρ1 : Nat → Nat, mm_te dA ρ1 (.inl (0, List.replicate n.toNatClampNeg 0)) = .inl (dA 0, n.toNatClampNeg, .inl (fun k => (List.replicate n.toNatClampNeg (0 : Int32)).getD k 0)) := by
      intro ρ1
      show Sum.inl (dA 0, (List.replicate _ _).length, _) = _
      rw [List.length_replicate]
    rw [← et (fun i => if i = h.1 then q else ρ i)] at hP hD
    have kk := K (fun i => if i = h.1 then q else ρ i) ls H1 locs (S.new (z := n.toNatClampNeg) trivial (show 0 ≤ 2 by decide) (mm_b1 (show h.1 < h.1 + 1 by omega) (fun v hv => mm_bv_le (Nat.le_succ _) (mm_bt S.2.2.1 v hv))) hP hD hS)
    refine W.widen (show (h.1 - n0) + (h.2.1 - z0) + 1 ≤ (h.1 + 1 - n0) + (h.2.1 + n.toNatClampNeg - z0) by omega) (show h.2.1 - z0 + n.toNatClampNeg ≤ h.2.1 + n.toNatClampNeg - z0 by omega) ?_
    have em : ((Value.ref h.1 :: r).map (mm_tv (fun i => if i = h.1 then q else ρ i))) = Value.ref q :: r.map (mm_tv ρ) := by
      show Value.ref (if h.1 = h.1 then q else ρ h.1) :: _ = _
      rw [if_pos rfl]
      congr 1
      exact List.map_congr_left (fun v hv => mm_tv_eq (n := h.1) (fun i hi => if_neg (by omega)) (mm_bt S.2.2.1 v hv))
    rw [em] at kk
    exact kk
theorem mg_newarray_char (X : mm_X p R s m args c cc own nL D cl tys dA TB A P) (hg : decode cc pc = .ok (.newarray .char, 2)) (hw : Cond.arrayClass (.char) ∈ TB) (hc1 : (h'.1 - n0) + (h'.2.1 - z0) ≤ R.cells) (hz1 : h'.2.1 - z0 ≤ R.slots) (hs : mm_step P mt (.newarray .char) pc L st h = some (.inl (pc', L', st', h'))) (K : mm_W p l e R s m args below meth c Q nL D cl dA A P xs byt sr ρ0 n0 z0 pc' L' st' h') : mm_W p l e R s m args below meth c Q nL D cl dA A P xs byt sr ρ0 n0 z0 pc L st h := by
  obtain ⟨n, r, rfl, hk0⟩ := mm_i_inv hs
  split at hk0
  · cases hk0
  · rename_i hn
    have hn1 : ¬ n < 0 := fun q => hn (Or.inl q)
    have hn2 := mm_clamp (fun q => hn (Or.inr q))
    cases hk0
    intro ρ ls H locs S
    obtain ⟨t0, ht0⟩ := X.2.2.2.2.2.2.2.2.1.2.1
    have hRA := (X.2.2.2.2.2.1.2 t0 _ ht0).2
    have hn0 := S.2.2.2.2.2.2.2.2.2.2.1
    have hz0 := S.2.2.2.2.2.2.2.2.2.2.2.1
    have hc2 : (h.1 + 1 - n0) + (h.2.1 + n.toNatClampNeg - z0) ≤ R.cells := hc1
    have hz2 : h.2.1 + n.toNatClampNeg - z0 ≤ R.slots := hz1
    refine va_newa (atype := .char) (ty := .char) (a0 := (n.toNatClampNeg, .inl (fun k => (List.replicate n.toNatClampNeg (0 : Int32)).getD k 0))) X.1 X.2.1 (X.2.2.2.2.1 _ hw) rfl X.2.2.2.2.2.1 S.2.2.2.2.2.2.1 S.2.2.2.2.2.2.2.1 S.2.2.2.2.2.2.2.2.1 X.2.2.2.2.2.2.1 (fun cA => by rw [vp_cell_i]; congr 1; funext j; rw [mm_rep0]; rfl) hn1 rfl (Nat.le_trans (Nat.mul_le_mul_right _ hn2) (by decide)) (by omega) (by omega) hg (fun q cA H1 hK hP hD hS => ?_)
    have hRA2 := (hK.2 tys.length (cA, .char) (by rw [List.getElem?_append_right (Nat.le_refl _), Nat.sub_self]; rfl)).2
    have hcA : cA = dA 1 := Option.some.inj (hRA2.symm.trans hRA)
    subst hcA
    have et : ∀ ρ1 : Nat → Nat, mm_te dA ρ1 (.inl (1, List.replicate n.toNatClampNeg 0)) = .inl (dA 1, n.toNatClampNeg, .inl (fun k => (List.replicate n.toNatClampNeg (0 : Int32)).getD k 0)) := by
      intro ρ1
      show Sum.inl (dA 1, (List.replicate _ _).length, _) = _
      rw [List.length_replicate]
    rw [← et (fun i => if i = h.1 then q else ρ i)] at hP hD
    have kk := K (fun i => if i = h.1 then q else ρ i) ls H1 locs (S.new (z := n.toNatClampNeg) trivial (show 1 ≤ 2 by decide) (mm_b1 (show h.1 < h.1 + 1 by omega) (fun v hv => mm_bv_le (Nat.le_succ _) (mm_bt S.2.2.1 v hv))) hP hD hS)
    refine W.widen (show (h.1 - n0) + (h.2.1 - z0) + 1 ≤ (h.1 + 1 - n0) + (h.2.1 + n.toNatClampNeg - z0) by omega) (show h.2.1 - z0 + n.toNatClampNeg ≤ h.2.1 + n.toNatClampNeg - z0 by omega) ?_
    have em : ((Value.ref h.1 :: r).map (mm_tv (fun i => if i = h.1 then q else ρ i))) = Value.ref q :: r.map (mm_tv ρ) := by
      show Value.ref (if h.1 = h.1 then q else ρ h.1) :: _ = _
      rw [if_pos rfl]
      congr 1
      exact List.map_congr_left (fun v hv => mm_tv_eq (n := h.1) (fun i hi => if_neg (by omega)) (mm_bt S.2.2.1 v hv))
    rw [em] at kk
    exact kk
theorem mg_newarray_boolean (X : mm_X p R s m args c cc own nL D cl tys dA TB A P) (hg : decode cc pc = .ok (.newarray .boolean, 2)) (hw : Cond.arrayClass (.boolean) ∈ TB) (hc1 : (h'.1 - n0) + (h'.2.1 - z0) ≤ R.cells) (hz1 : h'.2.1 - z0 ≤ R.slots) (hs : mm_step P mt (.newarray .boolean) pc L st h = some (.inl (pc', L', st', h'))) (K : mm_W p l e R s m args below meth c Q nL D cl dA A P xs byt sr ρ0 n0 z0 pc' L' st' h') : mm_W p l e R s m args below meth c Q nL D cl dA A P xs byt sr ρ0 n0 z0 pc L st h := by
  obtain ⟨n, r, rfl, hk0⟩ := mm_i_inv hs
  split at hk0
  · cases hk0
  · rename_i hn
    have hn1 : ¬ n < 0 := fun q => hn (Or.inl q)
    have hn2 := mm_clamp (fun q => hn (Or.inr q))
    cases hk0
    intro ρ ls H locs S
    obtain ⟨t0, ht0⟩ := X.2.2.2.2.2.2.2.2.1.2.2.1
    have hRA := (X.2.2.2.2.2.1.2 t0 _ ht0).2
    have hn0 := S.2.2.2.2.2.2.2.2.2.2.1
    have hz0 := S.2.2.2.2.2.2.2.2.2.2.2.1
    have hc2 : (h.1 + 1 - n0) + (h.2.1 + n.toNatClampNeg - z0) ≤ R.cells := hc1
    have hz2 : h.2.1 + n.toNatClampNeg - z0 ≤ R.slots := hz1
    refine va_newa (atype := .boolean) (ty := .boolean) (a0 := (n.toNatClampNeg, .inl (fun k => (List.replicate n.toNatClampNeg (0 : Int32)).getD k 0))) X.1 X.2.1 (X.2.2.2.2.1 _ hw) rfl X.2.2.2.2.2.1 S.2.2.2.2.2.2.1 S.2.2.2.2.2.2.2.1 S.2.2.2.2.2.2.2.2.1 X.2.2.2.2.2.2.1 (fun cA => by rw [vp_cell_i]; congr 1; funext j; rw [mm_rep0]; rfl) hn1 rfl (Nat.le_trans (Nat.mul_le_mul_right _ hn2) (by decide)) (by omega) (by omega) hg (fun q cA H1 hK hP hD hS => ?_)
    have hRA2 := (hK.2 tys.length (cA, .boolean) (by rw [List.getElem?_append_right (Nat.le_refl _), Nat.sub_self]; rfl)).2
    have hcA : cA = dA 2 := Option.some.inj (hRA2.symm.trans hRA)
    subst hcA
    have et : ∀ ρ1 : Nat → Nat, mm_te dA ρ1 (.inl (2, List.replicate n.toNatClampNeg 0)) = .inl (dA 2, n.toNatClampNeg, .inl (fun k => (List.replicate n.toNatClampNeg (0 : Int32)).getD k 0)) := by
      intro ρ1
      show Sum.inl (dA 2, (List.replicate _ _).length, _) = _
      rw [List.length_replicate]
    rw [← et (fun i => if i = h.1 then q else ρ i)] at hP hD
    have kk := K (fun i => if i = h.1 then q else ρ i) ls H1 locs (S.new (z := n.toNatClampNeg) trivial (show 2 ≤ 2 by decide) (mm_b1 (show h.1 < h.1 + 1 by omega) (fun v hv => mm_bv_le (Nat.le_succ _) (mm_bt S.2.2.1 v hv))) hP hD hS)
    refine W.widen (show (h.1 - n0) + (h.2.1 - z0) + 1 ≤ (h.1 + 1 - n0) + (h.2.1 + n.toNatClampNeg - z0) by omega) (show h.2.1 - z0 + n.toNatClampNeg ≤ h.2.1 + n.toNatClampNeg - z0 by omega) ?_
    have em : ((Value.ref h.1 :: r).map (mm_tv (fun i => if i = h.1 then q else ρ i))) = Value.ref q :: r.map (mm_tv ρ) := by
      show Value.ref (if h.1 = h.1 then q else ρ h.1) :: _ = _
      rw [if_pos rfl]
      congr 1
      exact List.map_congr_left (fun v hv => mm_tv_eq (n := h.1) (fun i hi => if_neg (by omega)) (mm_bt S.2.2.1 v hv))
    rw [em] at kk
    exact kk
theorem mg_newarray_long (X : mm_X p R s m args c cc own nL D cl tys dA TB A P) (hg : decode cc pc = .ok (.newarray .long, 2)) (hw : Cond.arrayClass (.long) ∈ TB) (hc1 : (h'.1 - n0) + (h'.2.1 - z0) ≤ R.cells) (hz1 : h'.2.1 - z0 ≤ R.slots) (hs : mm_step P mt (.newarray .long) pc L st h = some (.inl (pc', L', st', h'))) (K : mm_W p l e R s m args below meth c Q nL D cl dA A P xs byt sr ρ0 n0 z0 pc' L' st' h') : mm_W p l e R s m args below meth c Q nL D cl dA A P xs byt sr ρ0 n0 z0 pc L st h := by
  obtain ⟨n, r, rfl, hk0⟩ := mm_i_inv hs
  split at hk0
  · cases hk0
  · rename_i hn
    have hn1 : ¬ n < 0 := fun q => hn (Or.inl q)
    have hn2 := mm_clamp (fun q => hn (Or.inr q))
    cases hk0
    intro ρ ls H locs S
    obtain ⟨t0, ht0⟩ := X.2.2.2.2.2.2.2.2.1.2.2.2.1
    have hRA := (X.2.2.2.2.2.1.2 t0 _ ht0).2
    have hn0 := S.2.2.2.2.2.2.2.2.2.2.1
    have hz0 := S.2.2.2.2.2.2.2.2.2.2.2.1
    have hc2 : (h.1 + 1 - n0) + (h.2.1 + n.toNatClampNeg - z0) ≤ R.cells := hc1
    have hz2 : h.2.1 + n.toNatClampNeg - z0 ≤ R.slots := hz1
    refine va_newa (atype := .long) (ty := .long) (a0 := (n.toNatClampNeg, .inr (.inl (fun k => (List.replicate n.toNatClampNeg (0 : Int64)).getD k 0)))) X.1 X.2.1 (X.2.2.2.2.1 _ hw) rfl X.2.2.2.2.2.1 S.2.2.2.2.2.2.1 S.2.2.2.2.2.2.2.1 S.2.2.2.2.2.2.2.2.1 X.2.2.2.2.2.2.1 (fun cA => by rw [vp_cell_l]; congr 1; funext j; rw [mm_rep0]; rfl) hn1 rfl (Nat.le_trans (Nat.mul_le_mul_right _ hn2) (by decide)) (by omega) (by omega) hg (fun q cA H1 hK hP hD hS => ?_)
    have hRA2 := (hK.2 tys.length (cA, .long) (by rw [List.getElem?_append_right (Nat.le_refl _), Nat.sub_self]; rfl)).2
    have hcA : cA = dA 4 := Option.some.inj (hRA2.symm.trans hRA)
    subst hcA
    have et : ∀ ρ1 : Nat → Nat, mm_te dA ρ1 (.inr (.inl (List.replicate n.toNatClampNeg 0))) = .inl (dA 4, n.toNatClampNeg, .inr (.inl (fun k => (List.replicate n.toNatClampNeg (0 : Int64)).getD k 0))) := by
      intro ρ1
      show Sum.inl (dA 4, (List.replicate _ _).length, _) = _
      rw [List.length_replicate]
    rw [← et (fun i => if i = h.1 then q else ρ i)] at hP hD
    have kk := K (fun i => if i = h.1 then q else ρ i) ls H1 locs (S.new (z := n.toNatClampNeg) trivial trivial (mm_b1 (show h.1 < h.1 + 1 by omega) (fun v hv => mm_bv_le (Nat.le_succ _) (mm_bt S.2.2.1 v hv))) hP hD hS)
    refine W.widen (show (h.1 - n0) + (h.2.1 - z0) + 1 ≤ (h.1 + 1 - n0) + (h.2.1 + n.toNatClampNeg - z0) by omega) (show h.2.1 - z0 + n.toNatClampNeg ≤ h.2.1 + n.toNatClampNeg - z0 by omega) ?_
    have em : ((Value.ref h.1 :: r).map (mm_tv (fun i => if i = h.1 then q else ρ i))) = Value.ref q :: r.map (mm_tv ρ) := by
      show Value.ref (if h.1 = h.1 then q else ρ h.1) :: _ = _
      rw [if_pos rfl]
      congr 1
      exact List.map_congr_left (fun v hv => mm_tv_eq (n := h.1) (fun i hi => if_neg (by omega)) (mm_bt S.2.2.1 v hv))
    rw [em] at kk
    exact kk
theorem mg_anewarray (X : mm_X p R s m args c cc own nL D cl tys dA TB A P) {ix : Nat} {q : vw_C} (hg : decode cc pc = .ok (.anewarray ix, 3)) (hq : cl[P.2.2.2.2.1]? = some q) (hw : Cond.classLink own ix q.1 ∈ TB) (hw2 : q.1 = sr.2.2) (hc1 : (h'.1 - n0) + (h'.2.1 - z0) ≤ R.cells) (hz1 : h'.2.1 - z0 ≤ R.slots) (hs : mm_step P mt (.anewarray P.2.2.2.2.1) pc L st h = some (.inl (pc', L', st', h'))) (K : mm_W p l e R s m args below meth c Q nL D cl dA A P xs byt sr ρ0 n0 z0 pc' L' st' h') : mm_W p l e R s m args below meth c Q nL D cl dA A P xs byt sr ρ0 n0 z0 pc L st h := by
  obtain ⟨n, r, rfl, hk0⟩ := mm_i_inv hs
  split at hk0
  · cases hk0
  · rename_i hn
    have hn1 : ¬ n < 0 := fun q => hn (Or.inl q)
    have hn2 := mm_clamp (fun q => hn (Or.inr (Or.inl q)))
    cases hk0
    intro ρ ls H locs S
    obtain ⟨t0, q2, hq2, ht0⟩ := X.2.2.2.2.2.2.2.2.1.2.2.2.2
    have hqe : q2 = q := Option.some.inj (hq2.symm.trans hq)
    subst hqe
    obtain ⟨-, -, -, -, -, hRA⟩ := (X.2.2.2.2.2.1.2 t0 _ ht0).2
    have hn0 := S.2.2.2.2.2.2.2.2.2.2.1
    have hz0 := S.2.2.2.2.2.2.2.2.2.2.2.1
    have hc2 : (h.1 + 1 - n0) + (h.2.1 + n.toNatClampNeg - z0) ≤ R.cells := hc1
    have hz2 : h.2.1 + n.toNatClampNeg - z0 ≤ R.slots := hz1
    refine va_newq X.1 X.2.1 X.2.2.2.1 (X.2.2.2.2.1 _ hw) (by rw [hw2]; exact S.2.2.2.2.2.2.2.2.2.1.2.2.2.2.2.1) X.2.2.2.2.2.1 S.2.2.2.2.2.2.1 S.2.2.2.2.2.2.2.1 S.2.2.2.2.2.2.2.2.1 X.2.2.2.2.2.2.1 hn1 rfl (by omega) (by omega) (by omega) hg (fun q cA H1 hK hP hD hS => ?_)
    obtain ⟨-, -, -, -, -, hRA2⟩ := (hK.2 tys.length (cA, .object q2.1) (by rw [List.getElem?_append_right (Nat.le_refl _), Nat.sub_self]; rfl)).2
    have hcA : cA = dA (1000 + P.2.2.2.2.1) := Option.some.inj (hRA2.symm.trans hRA)
    subst hcA
    have et : ∀ ρ1 : Nat → Nat, mm_te dA ρ1 (.inr (.inr (1000 + P.2.2.2.2.1, List.replicate n.toNatClampNeg .null))) = .inl (dA (1000 + P.2.2.2.2.1), n.toNatClampNeg, .inr (.inr (.inr (.inr (fun _ => none))))) := by
      intro ρ1
      rw [show mm_te dA ρ1 (.inr (.inr (1000 + P.2.2.2.2.1, List.replicate n.toNatClampNeg .null))) = .inl (dA (1000 + P.2.2.2.2.1), (List.replicate n.toNatClampNeg Value.null).length, .inr (.inr (.inr (.inr (fun k => mm_rf ρ1 ((List.replicate n.toNatClampNeg Value.null).getD k .null)))))) from if_pos (by omega)]
      rw [List.length_replicate]
      have ef : (fun k => mm_rf ρ1 ((List.replicate n.toNatClampNeg Value.null).getD k .null)) = fun _ => none := by
        funext k
        rw [mm_rep0]
        rfl
      rw [ef]
    rw [← et (fun i => if i = h.1 then q else ρ i)] at hP hD
    have kk := K (fun i => if i = h.1 then q else ρ i) ls H1 locs (S.new (z := n.toNatClampNeg) (fun v hv => by rw [List.eq_of_mem_replicate hv]; trivial) (Or.inr rfl) (mm_b1 (show h.1 < h.1 + 1 by omega) (fun v hv => mm_bv_le (Nat.le_succ _) (mm_bt S.2.2.1 v hv))) hP hD hS)
    refine W.widen (show (h.1 - n0) + (h.2.1 - z0) + 1 ≤ (h.1 + 1 - n0) + (h.2.1 + n.toNatClampNeg - z0) by omega) (show h.2.1 - z0 + n.toNatClampNeg ≤ h.2.1 + n.toNatClampNeg - z0 by omega) ?_
    have em : ((Value.ref h.1 :: r).map (mm_tv (fun i => if i = h.1 then q else ρ i))) = Value.ref q :: r.map (mm_tv ρ) := by
      show Value.ref (if h.1 = h.1 then q else ρ h.1) :: _ = _
      rw [if_pos rfl]
      congr 1
      exact List.map_congr_left (fun v hv => mm_tv_eq (n := h.1) (fun i hi => if_neg (by omega)) (mm_bt S.2.2.1 v hv))
    rw [em] at kk
    exact kk
theorem mg_new (X : mm_X p R s m args c cc own nL D cl tys dA TB A P) {n ix : Nat} {q : vw_C} (hg : decode cc pc = .ok (.new ix, 3)) (hq : cl[n]? = some q) (hw : Cond.classLink own ix q.1 ∈ TB) (hw2 : Cond.instantiable q.1 q.2.2 ∈ TB) (hw3 : Cond.initialized q.1 ∈ TB) (hc1 : (h'.1 - n0) + (h'.2.1 - z0) ≤ R.cells) (hz1 : h'.2.1 - z0 ≤ R.slots) (hs : mm_step P mt (.new n) pc L st h = some (.inl (pc', L', st', h'))) (K : mm_W p l e R s m args below meth c Q nL D cl dA A P xs byt sr ρ0 n0 z0 pc' L' st' h') : mm_W p l e R s m args below meth c Q nL D cl dA A P xs byt sr ρ0 n0 z0 pc L st h := by
  cases hs
  intro ρ ls H locs S
  obtain ⟨hci, hin, hlen, hty, hnm⟩ := X.2.2.2.2.2.2.2.2.2 _ _ hq
  have hn0 := S.2.2.2.2.2.2.2.2.2.2.1
  have hz0 := S.2.2.2.2.2.2.2.2.2.2.2.1
  have hc2 : (h.1 + 1 - n0) + (h.2.1 + (P.2.2.1 n).length - z0) ≤ R.cells := hc1
  have hz2 : h.2.1 + (P.2.2.1 n).length - z0 ≤ R.slots := hz1
  rw [hlen] at hz2 hc2
  have eid : ∀ ρ1 : Nat → Nat, (((P.2.2.1 n).map defaultValue).map (mm_tv ρ1)) = (P.2.2.1 n).map defaultValue := by
    intro ρ1
    rw [List.map_map]
    exact List.map_congr_left (fun t _ => mm_dv_tv t)
  refine va_new X.1 X.2.1 X.2.2.2.2.1 hin (fun k => (P.2.2.1 n).getD k .byte) hty X.2.2.2.1 (X.2.2.2.2.1 _ hw) (X.2.2.2.2.1 _ hw2) (X.2.2.2.2.1 _ hw3) X.2.2.2.2.2.1 S.2.2.2.2.2.2.1 S.2.2.2.2.2.2.2.1 S.2.2.2.2.2.2.2.2.1 X.2.2.2.2.2.2.1 hq (fs := (P.2.2.1 n).map defaultValue) (fun j hj => ?_) (by omega) (by omega) hg (fun q1 H1 hP hD hS => ?_)
  · unfold vp_V
    rw [List.getD_eq_getElem?_getD, List.getD_eq_getElem?_getD, List.getElem?_map]
    rw [List.getElem?_eq_getElem (by omega)]
    rfl
  · have et : ∀ ρ1 : Nat → Nat, mm_te dA ρ1 (.inr (.inr (n, (P.2.2.1 n).map defaultValue))) = .inr (n, (P.2.2.1 n).map defaultValue) := by
      intro ρ1
      rw [show mm_te dA ρ1 (.inr (.inr (n, (P.2.2.1 n).map defaultValue))) = .inr (n, ((P.2.2.1 n).map defaultValue).map (mm_tv ρ1)) from if_neg (by omega), eid]
    rw [← et (fun i => if i = h.1 then q1 else ρ i)] at hP hD
    have kk := K (fun i => if i = h.1 then q1 else ρ i) ls H1 locs (S.new (z := (P.2.2.1 n).length) (fun v hv => by obtain ⟨t, -, rfl⟩ := List.mem_map.mp hv; exact mm_dv_bv _ t) (Or.inl hci) (mm_b1 (show h.1 < h.1 + 1 by omega) (fun v hv => mm_bv_le (Nat.le_succ _) (S.2.2.1 v hv))) hP hD hS)
    refine W.widen (show (h.1 - n0) + (h.2.1 - z0) + 1 ≤ (h.1 + 1 - n0) + (h.2.1 + (P.2.2.1 n).length - z0) by omega) (show h.2.1 - z0 + q.2.2 ≤ h.2.1 + (P.2.2.1 n).length - z0 by omega) ?_
    have em : ((Value.ref h.1 :: st).map (mm_tv (fun i => if i = h.1 then q1 else ρ i))) = Value.ref q1 :: st.map (mm_tv ρ) := by
      show Value.ref (if h.1 = h.1 then q1 else ρ h.1) :: _ = _
      rw [if_pos rfl]
      congr 1
      exact List.map_congr_left (fun v hv => mm_tv_eq (n := h.1) (fun i hi => if_neg (by omega)) (S.2.2.1 v hv))
    rw [em] at kk
    exact kk
theorem mg_objInit (X : mm_X p R s m args c cc own nL D cl tys dA TB A P) {ix : Nat} (hg : decode cc pc = .ok (.invokespecial ix, 3)) (hw : Cond.methodLink own ix Lib.objectInit ∈ TB) (hw2 : Cond.instanceMethod Lib.objectInit ∈ TB) (hw3 : Cond.code Lib.objectInit ⟨#[0xb1]⟩ 1 none ∈ TB) (hs : mm_step P mt (.fadd) pc L st h = some (.inl (pc', L', st', h'))) (K : mm_W p l e R s m args below meth c Q nL D cl dA A P xs byt sr ρ0 n0 z0 pc' L' st' h') : mm_W p l e R s m args below meth c Q nL D cl dA A P xs byt sr ρ0 n0 z0 pc L st h := by
  obtain ⟨a, r, rfl, hk0⟩ := mm_r_inv hs
  split at hk0
  · rename_i hwd
    cases hk0
    intro ρ ls H locs S
    have hR := X.2.2.2.2.2.2.2.1
    exact W.objInit X.1 X.2.1 X.2.2.2.1 (X.2.2.2.2.1 _ hw) (X.2.2.2.2.1 _ hw2) (X.2.2.2.2.1 _ hw3) rfl (S.1.2.1.trans X.2.2.1.symm) rfl hg (by omega) (by show 2 * 0 + ((st'.map (mm_tv ρ)).map fun v => v.category).sum + 12 ≤ _; rw [mm_words_tv]; omega) (K ρ ls H locs (S.st (mm_bt S.2.2.1)))
  · cases hk0
theorem mg_copy (X : mm_X p R s m args c cc own nL D cl tys dA TB A P) {ix : Nat} (hg : decode cc pc = .ok (.invokestatic ix, 3)) (hw : Cond.methodLink own ix arraycopyName ∈ TB) (hw2 : Cond.native arraycopyName ∈ TB) (hw3 : Cond.static arraycopyName ∈ TB) (hw4 : Cond.initialized "java/lang/System" ∈ TB) (hs : mm_step P mt (.fsub) pc L st h = some (.inl (pc', L', st', h'))) (K : mm_W p l e R s m args below meth c Q nL D cl dA A P xs byt sr ρ0 n0 z0 pc' L' st' h') : mm_W p l e R s m args below meth c Q nL D cl dA A P xs byt sr ρ0 n0 z0 pc L st h := by
  obtain ⟨b, sp, a, dp, n, r, rfl, hk0⟩ := mm_cp_inv hs
  split at hk0
  · rename_i hwd
    obtain ⟨h1, hx, hk0⟩ := mm_k4_inv hk0
    cases hk0
    intro ρ ls H locs S
    have ha : a < h.1 := mm_bh1 (mm_bt (mm_bt S.2.2.1))
    have hbb : b < h.1 := mm_bh1 (mm_bt (mm_bt (mm_bt (mm_bt S.2.2.1))))
    have hR := X.2.2.2.2.2.2.2.1
    unfold mm_cpy at hx
    split at hx
    · rename_i u ys w zs hcell hcell2
      split at hx
      · rename_i hc
        obtain ⟨rfl, rfl, g1, g2, g3, g4, g5⟩ := hc
        cases hx
        have ho : P.2.2.2.1 ≤ a := mm_own S hcell2 ⟨by decide, by decide⟩
        have ho2 : P.2.2.2.1 ≤ b := mm_own S hcell ⟨by decide, by decide⟩
        have he := mm_at S hcell2 ho ha
        have he2 := mm_at S hcell ho2 hbb
        obtain ⟨t0, ht0⟩ := X.2.2.2.2.2.2.2.2.1.1
        refine va_copyi X.1 X.2.1 (X.2.2.1.trans S.1.2.1.symm) X.2.2.2.1 (X.2.2.2.2.1 _ hw) (X.2.2.2.2.1 _ hw2) (X.2.2.2.2.1 _ hw3) (X.2.2.2.2.1 _ hw4) X.2.2.2.2.2.1 S.2.2.2.2.2.2.1 S.2.2.2.2.2.2.2.1 S.2.2.2.2.2.2.2.2.1 (b - P.2.2.2.1) (a - P.2.2.2.1) t0 t0 he2 he ht0 ht0 rfl g1 g2 g3 g4 g5 (fun _ _ => rfl) (by omega) (by rw [mm_words_tv, show nativeFrameWords "java/lang/System" "arraycopy" 5 = 7 by decide]; omega) hg (fun H1 locs1 hP hD hS => ?_)
        have et : mm_te dA ρ (.inl (0, mm_cpl ys zs sp.toNatClampNeg dp.toNatClampNeg n.toNatClampNeg)) = .inl (dA 0, zs.length, .inl (va_cpy (fun k => ys.getD k 0) (fun k => zs.getD k 0) sp.toNatClampNeg dp.toNatClampNeg n.toNatClampNeg)) := by
          show Sum.inl (dA 0, (mm_cpl _ _ _ _ _).length, Sum.inl _) = _
          have el : (mm_cpl ys zs sp.toNatClampNeg dp.toNatClampNeg n.toNatClampNeg).length = zs.length := by unfold mm_cpl; rw [List.length_map, List.length_range]
          rw [el]
          congr 4
          funext k
          unfold mm_cpl va_cpy
          rw [List.getD_eq_getElem?_getD, List.getElem?_map]
          by_cases hk : k < zs.length
          · rw [List.getElem?_range hk]
            rfl
          · rw [List.getElem?_eq_none (by rw [List.length_range]; omega)]
            rw [if_neg (by omega)]
            show (0 : Int32) = zs.getD k 0
            rw [List.getD_eq_getElem?_getD, List.getElem?_eq_none (by omega)]
            rfl
        rw [← et] at hP hD
        exact K ρ ls H1 locs1 (S.put ho ha trivial (show 0 ≤ 2 by decide) (mm_bt (mm_bt (mm_bt (mm_bt (mm_bt S.2.2.1))))) hP hD hS)
      · cases hx
    · cases hx
  · cases hk0
theorem mg_ldcS (X : mm_X p R s m args c cc own nL D cl tys dA TB A P) {ix j : Nat} {tx : String} (hg : decode cc pc = .ok (.ldc ix, 2)) (hw : (own, ix, tx, j) ∈ sr.1) (hs : mm_step P mt (.fload (1 + 2 * j)) pc L st h = some (.inl (pc', L', st', h'))) (K : mm_W p l e R s m args below meth c Q nL D cl dA A P xs byt sr ρ0 n0 z0 pc' L' st' h') : mm_W p l e R s m args below meth c Q nL D cl dA A P xs byt sr ρ0 n0 z0 pc L st h := by
  cases hs
  intro ρ ls H locs S
  have h1 := S.2.2.2.2.2.2.2.2.2.1.2.2.1 _ hw
  have hl : j < byt.length := h1.1
  have hne := S.2.2.2.2.2.2.2.2.2.2.2.2.2.1
  have hne2 := S.2.2.2.1.1
  exact va_ldcS X.1 X.2.1 X.2.2.2.1 h1.2 hg (K ρ ls H locs (S.st (mm_b1 (show 1 + 2 * j < h.1 by omega) S.2.2.1)))
theorem mg_getstatic (X : mm_X p R s m args c cc own nL D cl tys dA TB A P) {ix : Nat} (hg : decode cc pc = .ok (.getstatic ix, 3)) (hw : Cond.fieldLink own ix "java/lang/String" "COMPACT_STRINGS" "Z" ∈ TB) (hs : mm_step P mt (.getstatic 1) pc L st h = some (.inl (pc', L', st', h'))) (K : mm_W p l e R s m args below meth c Q nL D cl dA A P xs byt sr ρ0 n0 z0 pc' L' st' h') : mm_W p l e R s m args below meth c Q nL D cl dA A P xs byt sr ρ0 n0 z0 pc L st h := by
  cases hs
  intro ρ ls H locs S
  exact va_gets X.1 X.2.1 S.2.2.2.2.2.2.2.2.2.1.2.2.2.1 S.2.2.2.2.2.2.2.2.1 X.2.2.2.1 (X.2.2.2.2.1 _ hw) (fun _ h9 => h9) hg (K ρ ls H locs (S.st (mm_b1 trivial S.2.2.1)))
theorem mg_getS0 (X : mm_X p R s m args c cc own nL D cl tys dA TB A P) {ix : Nat} (hg : decode cc pc = .ok (.getfield ix, 3)) (hw : Cond.fieldLink own ix "java/lang/String" "value" "[B" ∈ TB) (hs : mm_step P mt (.getfield 90000) pc L st h = some (.inl (pc', L', st', h'))) (K : mm_W p l e R s m args below meth c Q nL D cl dA A P xs byt sr ρ0 n0 z0 pc' L' st' h') : mm_W p l e R s m args below meth c Q nL D cl dA A P xs byt sr ρ0 n0 z0 pc L st h := by
  obtain ⟨a, r, rfl, hk0⟩ := mm_r_inv hs
  obtain ⟨x, hx, hk0⟩ := mm_k3_inv hk0
  cases hk0
  intro ρ ls H locs S
  have ha : a < h.1 := mm_bh1 S.2.2.1
  rw [show 90000 / 100 = 900 by decide, show 90000 % 100 = 0 by decide] at hx
  unfold mm_gF at hx
  split at hx
  · rename_i c1 fs hcell
    split at hx
    · rename_i hc
      obtain ⟨rfl, -⟩ := hc
      have hlt : a < P.2.2.2.1 := by
        apply Nat.lt_of_not_le
        intro ho
        have hkc := S.2.2.2.2.2.1 a ho ha
        rw [hcell] at hkc
        have h9 : 900 < 900 ∨ 900 = 1000 + P.2.2.2.2.1 := hkc
        omega
      have e9 := S.2.2.2.2.1 a hlt
      rw [hcell] at e9
      rcases mm_x0_c xs byt a with ⟨rfl, q⟩ | ⟨j, hj, q⟩ | ⟨j, hj, q⟩ <;> rw [q] at e9
      · cases e9
      · cases e9
        have hjN : j < byt.length := by
          have h5 : P.2.2.2.1 = 1 + 2 * byt.length := S.2.2.2.2.2.2.2.2.2.2.2.2.2.1
          rw [h5, hj] at hlt
          exact Nat.lt_of_mul_lt_mul_left (Nat.lt_of_add_lt_add_left hlt)
        have hE := (S.2.2.2.2.2.2.2.2.2.1.2.1.1 j hjN)
        subst hj
        cases hx
        have hne := S.2.2.2.2.2.2.2.2.2.2.2.2.2.1
        have hne2 := S.2.2.2.1.1
        exact vk_getf X.1 X.2.1 hE.2.2.1 S.2.2.2.2.2.2.2.2.1 X.2.2.2.1 (X.2.2.2.2.1 _ hw) (fun _ h9 => h9) hg (K ρ ls H locs (S.st (mm_b1 (show 2 + 2 * j < h.1 by omega) (mm_bt S.2.2.1))))
      · cases e9
    · cases hx
  · cases hx
theorem mg_getS1 (X : mm_X p R s m args c cc own nL D cl tys dA TB A P) {ix : Nat} (hg : decode cc pc = .ok (.getfield ix, 3)) (hw : Cond.fieldLink own ix "java/lang/String" "coder" "B" ∈ TB) (hs : mm_step P mt (.getfield 90001) pc L st h = some (.inl (pc', L', st', h'))) (K : mm_W p l e R s m args below meth c Q nL D cl dA A P xs byt sr ρ0 n0 z0 pc' L' st' h') : mm_W p l e R s m args below meth c Q nL D cl dA A P xs byt sr ρ0 n0 z0 pc L st h := by
  obtain ⟨a, r, rfl, hk0⟩ := mm_r_inv hs
  obtain ⟨x, hx, hk0⟩ := mm_k3_inv hk0
  cases hk0
  intro ρ ls H locs S
  have ha : a < h.1 := mm_bh1 S.2.2.1
  rw [show 90001 / 100 = 900 by decide, show 90001 % 100 = 1 by decide] at hx
  unfold mm_gF at hx
  split at hx
  · rename_i c1 fs hcell
    split at hx
    · rename_i hc
      obtain ⟨rfl, -⟩ := hc
      have hlt : a < P.2.2.2.1 := by
        apply Nat.lt_of_not_le
        intro ho
        have hkc := S.2.2.2.2.2.1 a ho ha
        rw [hcell] at hkc
        have h9 : 900 < 900 ∨ 900 = 1000 + P.2.2.2.2.1 := hkc
        omega
      have e9 := S.2.2.2.2.1 a hlt
      rw [hcell] at e9
      rcases mm_x0_c xs byt a with ⟨rfl, q⟩ | ⟨j, hj, q⟩ | ⟨j, hj, q⟩ <;> rw [q] at e9
      · cases e9
      · cases e9
        have hjN : j < byt.length := by
          have h5 : P.2.2.2.1 = 1 + 2 * byt.length := S.2.2.2.2.2.2.2.2.2.2.2.2.2.1
          rw [h5, hj] at hlt
          exact Nat.lt_of_mul_lt_mul_left (Nat.lt_of_add_lt_add_left hlt)
        have hE := (S.2.2.2.2.2.2.2.2.2.1.2.1.1 j hjN)
        subst hj
        cases hx
        have hne := S.2.2.2.2.2.2.2.2.2.2.2.2.2.1
        have hne2 := S.2.2.2.1.1
        exact vk_getf X.1 X.2.1 hE.2.1 S.2.2.2.2.2.2.2.2.1 X.2.2.2.1 (X.2.2.2.2.1 _ hw) (fun _ h9 => h9) hg (K ρ ls H locs (S.st (mm_b1 trivial (mm_bt S.2.2.1))))
      · cases e9
    · cases hx
  · cases hx
theorem mg_mmax (X : mm_X p R s m args c cc own nL D cl tys dA TB A P) {ix : Nat} (hg : decode cc pc = .ok (.invokestatic ix, 3)) (hw : Cond.methodLink own ix Lib.Math.max.name ∈ TB) (hw2 : Cond.static Lib.Math.max.name ∈ TB) (hw3 : Cond.initialized "java/lang/Math" ∈ TB) (hw4 : Cond.code Lib.Math.max.name Lib.Math.max.code 2 (some .int) ∈ TB) (hc1 : (h'.1 - n0) + (h'.2.1 - z0) ≤ R.cells) (hz1 : h'.2.1 - z0 ≤ R.slots) (hs : mm_step P mt (.f2i) pc L st h = some (.inl (pc', L', st', h'))) (K : mm_W p l e R s m args below meth c Q nL D cl dA A P xs byt sr ρ0 n0 z0 pc' L' st' h') : mm_W p l e R s m args below meth c Q nL D cl dA A P xs byt sr ρ0 n0 z0 pc L st h := by
  obtain ⟨x, y, r, rfl, hk0⟩ := mm_ii_inv hs
  split at hk0
  · rename_i hwd
    cases hk0
    intro ρ ls H locs S
    have hR := X.2.2.2.2.2.2.2.1
    exact va_mmax X.1 X.2.1 (X.2.2.1.trans S.1.2.1.symm) X.2.2.2.1 (X.2.2.2.2.1 _ hw) (X.2.2.2.2.1 _ hw2) (X.2.2.2.2.1 _ hw3) (X.2.2.2.2.1 _ hw4) (by omega) (by rw [mm_words_tv]; omega) hc1 hz1 hg (K ρ ls H locs (S.st (mm_b1 trivial (mm_bt (mm_bt S.2.2.1)))))
  · cases hk0
theorem mg_mmin (X : mm_X p R s m args c cc own nL D cl tys dA TB A P) {ix : Nat} (hg : decode cc pc = .ok (.invokestatic ix, 3)) (hw : Cond.methodLink own ix Lib.Math.min.name ∈ TB) (hw2 : Cond.static Lib.Math.min.name ∈ TB) (hw3 : Cond.initialized "java/lang/Math" ∈ TB) (hw4 : Cond.code Lib.Math.min.name Lib.Math.min.code 2 (some .int) ∈ TB) (hc1 : (h'.1 - n0) + (h'.2.1 - z0) ≤ R.cells) (hz1 : h'.2.1 - z0 ≤ R.slots) (hs : mm_step P mt (.f2l) pc L st h = some (.inl (pc', L', st', h'))) (K : mm_W p l e R s m args below meth c Q nL D cl dA A P xs byt sr ρ0 n0 z0 pc' L' st' h') : mm_W p l e R s m args below meth c Q nL D cl dA A P xs byt sr ρ0 n0 z0 pc L st h := by
  obtain ⟨x, y, r, rfl, hk0⟩ := mm_ii_inv hs
  split at hk0
  · rename_i hwd
    cases hk0
    intro ρ ls H locs S
    have hR := X.2.2.2.2.2.2.2.1
    exact va_mmin X.1 X.2.1 (X.2.2.1.trans S.1.2.1.symm) X.2.2.2.1 (X.2.2.2.2.1 _ hw) (X.2.2.2.2.1 _ hw2) (X.2.2.2.2.1 _ hw3) (X.2.2.2.2.1 _ hw4) (by omega) (by rw [mm_words_tv]; omega) hc1 hz1 hg (K ρ ls H locs (S.st (mm_b1 trivial (mm_bt (mm_bt S.2.2.1)))))
  · cases hk0
theorem mg_mabs (X : mm_X p R s m args c cc own nL D cl tys dA TB A P) {ix : Nat} (hg : decode cc pc = .ok (.invokestatic ix, 3)) (hw : Cond.methodLink own ix Lib.Math.abs.name ∈ TB) (hw2 : Cond.static Lib.Math.abs.name ∈ TB) (hw3 : Cond.initialized "java/lang/Math" ∈ TB) (hw4 : Cond.code Lib.Math.abs.name Lib.Math.abs.code 1 (some .int) ∈ TB) (hc1 : (h'.1 - n0) + (h'.2.1 - z0) ≤ R.cells) (hz1 : h'.2.1 - z0 ≤ R.slots) (hs : mm_step P mt (.f2d) pc L st h = some (.inl (pc', L', st', h'))) (K : mm_W p l e R s m args below meth c Q nL D cl dA A P xs byt sr ρ0 n0 z0 pc' L' st' h') : mm_W p l e R s m args below meth c Q nL D cl dA A P xs byt sr ρ0 n0 z0 pc L st h := by
  obtain ⟨x, r, rfl, hk0⟩ := mm_i_inv hs
  split at hk0
  · rename_i hwd
    cases hk0
    intro ρ ls H locs S
    have hR := X.2.2.2.2.2.2.2.1
    exact va_mabs X.1 X.2.1 (X.2.2.1.trans S.1.2.1.symm) X.2.2.2.1 (X.2.2.2.2.1 _ hw) (X.2.2.2.2.1 _ hw2) (X.2.2.2.2.1 _ hw3) (X.2.2.2.2.1 _ hw4) (by omega) (by rw [mm_words_tv]; omega) hc1 hz1 hg (K ρ ls H locs (S.st (mm_b1 trivial (mm_bt S.2.2.1))))
  · cases hk0
end MM6
