/-! MINI 4: instructions that leave the cells alone -/
section MM4
variable {p : Program} {l : Launch} {e : Env} {R : Room} {s : State} {m : MethodId} {args : Array Value} {below : List Frame} {meth : Method} {c : Code} {Q : State → Prop}
variable {cc : ByteArray} {own : String} {nL : Nat} {D : va_G} {cl : List vw_C} {tys : List (ClassId × FieldType)} {dA : Nat → ClassId} {TB : List Cond} {A : Nat → Prop} {P : mm_P} {mt : Nat}
variable {xs : List Int32} {byt : List (List Int32)} {sr : mm_N} {ρ0 : Nat → Nat} {n0 z0 : Nat}
variable {pc pc' : Nat} {L L' : mm_V} {st st' : List Value} {h h' : mm_H}
theorem mm_b1 {n : Nat} {v : Value} {r : List Value} (hv : mm_bv n v) (h : ∀ w ∈ r, mm_bv n w) : ∀ w ∈ v :: r, mm_bv n w := fun w hw => (List.mem_cons.mp hw).elim (fun q => q ▸ hv) (h w)
theorem mm_bt {n : Nat} {v : Value} {r : List Value} (h : ∀ w ∈ v :: r, mm_bv n w) : ∀ w ∈ r, mm_bv n w := fun w hw => h w (List.mem_cons_of_mem _ hw)
theorem mm_bh1 {n : Nat} {v : Value} {r : List Value} (h : ∀ w ∈ v :: r, mm_bv n w) : mm_bv n v := h v List.mem_cons_self
theorem mg_iconst (X : mm_X p R s m args c cc own nL D cl tys dA TB A P) {k : Int} (hg : decode cc pc = .ok (.iconst k, 1)) (hs : mm_step P mt (.iconst k) pc L st h = some (.inl (pc', L', st', h'))) (K : mm_W p l e R s m args below meth c Q nL D cl dA A P xs byt sr ρ0 n0 z0 pc' L' st' h') : mm_W p l e R s m args below meth c Q nL D cl dA A P xs byt sr ρ0 n0 z0 pc L st h := by
  cases hs
  intro ρ ls H locs S
  exact lv_iconst X.1 X.2.1 hg rfl (K ρ ls H locs (S.st (mm_b1 trivial S.2.2.1)))
theorem mg_bipush (X : mm_X p R s m args c cc own nL D cl tys dA TB A P) {k : Int} (hg : decode cc pc = .ok (.bipush k, 2)) (hs : mm_step P mt (.bipush k) pc L st h = some (.inl (pc', L', st', h'))) (K : mm_W p l e R s m args below meth c Q nL D cl dA A P xs byt sr ρ0 n0 z0 pc' L' st' h') : mm_W p l e R s m args below meth c Q nL D cl dA A P xs byt sr ρ0 n0 z0 pc L st h := by
  cases hs
  intro ρ ls H locs S
  exact lv_bipush X.1 X.2.1 hg rfl (K ρ ls H locs (S.st (mm_b1 trivial S.2.2.1)))
theorem mg_sipush (X : mm_X p R s m args c cc own nL D cl tys dA TB A P) {k : Int} (hg : decode cc pc = .ok (.sipush k, 3)) (hs : mm_step P mt (.sipush k) pc L st h = some (.inl (pc', L', st', h'))) (K : mm_W p l e R s m args below meth c Q nL D cl dA A P xs byt sr ρ0 n0 z0 pc' L' st' h') : mm_W p l e R s m args below meth c Q nL D cl dA A P xs byt sr ρ0 n0 z0 pc L st h := by
  cases hs
  intro ρ ls H locs S
  exact lv_sipush X.1 X.2.1 hg rfl (K ρ ls H locs (S.st (mm_b1 trivial S.2.2.1)))
theorem mg_lconst (X : mm_X p R s m args c cc own nL D cl tys dA TB A P) {k : Fin 2} (hg : decode cc pc = .ok (.lconst k, 1)) (hs : mm_step P mt (.lconst k) pc L st h = some (.inl (pc', L', st', h'))) (K : mm_W p l e R s m args below meth c Q nL D cl dA A P xs byt sr ρ0 n0 z0 pc' L' st' h') : mm_W p l e R s m args below meth c Q nL D cl dA A P xs byt sr ρ0 n0 z0 pc L st h := by
  cases hs
  intro ρ ls H locs S
  exact lv_lconst X.1 X.2.1 hg rfl (K ρ ls H locs (S.st (mm_b1 trivial S.2.2.1)))
theorem mg_ldc (X : mm_X p R s m args c cc own nL D cl tys dA TB A P) {k ix : Nat} (hg : decode cc pc = .ok (.ldc ix, 2)) (hw : Cond.constant own ix (Int32.ofNat k) ∈ TB) (hs : mm_step P mt (.ldc k) pc L st h = some (.inl (pc', L', st', h'))) (K : mm_W p l e R s m args below meth c Q nL D cl dA A P xs byt sr ρ0 n0 z0 pc' L' st' h') : mm_W p l e R s m args below meth c Q nL D cl dA A P xs byt sr ρ0 n0 z0 pc L st h := by
  cases hs
  intro ρ ls H locs S
  exact lv_ldc X.1 X.2.1 X.2.2.2.1 (X.2.2.2.2.1 _ hw) hg (K ρ ls H locs (S.st (mm_b1 trivial S.2.2.1)))
theorem mg_ldcw (X : mm_X p R s m args c cc own nL D cl tys dA TB A P) {k ix : Nat} (hg : decode cc pc = .ok (.ldc_w ix, 3)) (hw : Cond.constant own ix (Int32.ofNat k) ∈ TB) (hs : mm_step P mt (.ldc_w k) pc L st h = some (.inl (pc', L', st', h'))) (K : mm_W p l e R s m args below meth c Q nL D cl dA A P xs byt sr ρ0 n0 z0 pc' L' st' h') : mm_W p l e R s m args below meth c Q nL D cl dA A P xs byt sr ρ0 n0 z0 pc L st h := by
  cases hs
  intro ρ ls H locs S
  exact lv_ldcw X.1 X.2.1 X.2.2.2.1 (X.2.2.2.2.1 _ hw) hg (K ρ ls H locs (S.st (mm_b1 trivial S.2.2.1)))
theorem mg_ldc2 (X : mm_X p R s m args c cc own nL D cl tys dA TB A P) {k ix : Nat} (hg : decode cc pc = .ok (.ldc2_w ix, 3)) (hw : Cond.constantLong own ix (Int64.ofNat k) ∈ TB) (hs : mm_step P mt (.ldc2_w k) pc L st h = some (.inl (pc', L', st', h'))) (K : mm_W p l e R s m args below meth c Q nL D cl dA A P xs byt sr ρ0 n0 z0 pc' L' st' h') : mm_W p l e R s m args below meth c Q nL D cl dA A P xs byt sr ρ0 n0 z0 pc L st h := by
  cases hs
  intro ρ ls H locs S
  exact lv_ldc2 X.1 X.2.1 X.2.2.2.1 (X.2.2.2.2.1 _ hw) hg (K ρ ls H locs (S.st (mm_b1 trivial S.2.2.1)))
theorem mg_iload_n (X : mm_X p R s m args c cc own nL D cl tys dA TB A P) {k : Fin 4} (hg : decode cc pc = .ok (.iload_n k, 1)) (hs : mm_step P mt (.iload_n k) pc L st h = some (.inl (pc', L', st', h'))) (K : mm_W p l e R s m args below meth c Q nL D cl dA A P xs byt sr ρ0 n0 z0 pc' L' st' h') : mm_W p l e R s m args below meth c Q nL D cl dA A P xs byt sr ρ0 n0 z0 pc L st h := by
  obtain ⟨v, hv, hk⟩ := mm_k3_inv hs
  cases v <;> first | (cases hk; done) | skip
  cases hk
  intro ρ ls H locs S
  exact lv_iload_n X.1 X.2.1 hg rfl (S.1.2.2.2 _ _ hv) (K ρ ls H locs (S.st (mm_b1 (trivial) S.2.2.1)))
theorem mg_iload (X : mm_X p R s m args c cc own nL D cl tys dA TB A P) {k : Nat} (hg : decode cc pc = .ok (.iload k, 2)) (hs : mm_step P mt (.iload k) pc L st h = some (.inl (pc', L', st', h'))) (K : mm_W p l e R s m args below meth c Q nL D cl dA A P xs byt sr ρ0 n0 z0 pc' L' st' h') : mm_W p l e R s m args below meth c Q nL D cl dA A P xs byt sr ρ0 n0 z0 pc L st h := by
  obtain ⟨v, hv, hk⟩ := mm_k3_inv hs
  cases v <;> first | (cases hk; done) | skip
  cases hk
  intro ρ ls H locs S
  exact lv_iload X.1 X.2.1 hg (S.1.2.2.2 _ _ hv) (K ρ ls H locs (S.st (mm_b1 (trivial) S.2.2.1)))
theorem mg_lload_n (X : mm_X p R s m args c cc own nL D cl tys dA TB A P) {k : Fin 4} (hg : decode cc pc = .ok (.lload_n k, 1)) (hs : mm_step P mt (.lload_n k) pc L st h = some (.inl (pc', L', st', h'))) (K : mm_W p l e R s m args below meth c Q nL D cl dA A P xs byt sr ρ0 n0 z0 pc' L' st' h') : mm_W p l e R s m args below meth c Q nL D cl dA A P xs byt sr ρ0 n0 z0 pc L st h := by
  obtain ⟨v, hv, hk⟩ := mm_k3_inv hs
  cases v <;> first | (cases hk; done) | skip
  cases hk
  intro ρ ls H locs S
  exact lv_lload_n X.1 X.2.1 hg rfl (S.1.2.2.2 _ _ hv) (K ρ ls H locs (S.st (mm_b1 (trivial) S.2.2.1)))
theorem mg_lload (X : mm_X p R s m args c cc own nL D cl tys dA TB A P) {k : Nat} (hg : decode cc pc = .ok (.lload k, 2)) (hs : mm_step P mt (.lload k) pc L st h = some (.inl (pc', L', st', h'))) (K : mm_W p l e R s m args below meth c Q nL D cl dA A P xs byt sr ρ0 n0 z0 pc' L' st' h') : mm_W p l e R s m args below meth c Q nL D cl dA A P xs byt sr ρ0 n0 z0 pc L st h := by
  obtain ⟨v, hv, hk⟩ := mm_k3_inv hs
  cases v <;> first | (cases hk; done) | skip
  cases hk
  intro ρ ls H locs S
  exact lv_lload X.1 X.2.1 hg (S.1.2.2.2 _ _ hv) (K ρ ls H locs (S.st (mm_b1 (trivial) S.2.2.1)))
theorem mg_aload_n (X : mm_X p R s m args c cc own nL D cl tys dA TB A P) {k : Fin 4} (hg : decode cc pc = .ok (.aload_n k, 1)) (hs : mm_step P mt (.aload_n k) pc L st h = some (.inl (pc', L', st', h'))) (K : mm_W p l e R s m args below meth c Q nL D cl dA A P xs byt sr ρ0 n0 z0 pc' L' st' h') : mm_W p l e R s m args below meth c Q nL D cl dA A P xs byt sr ρ0 n0 z0 pc L st h := by
  obtain ⟨v, hv, hk⟩ := mm_k3_inv hs
  cases v <;> first | (cases hk; done) | skip
  cases hk
  intro ρ ls H locs S
  exact lv_aload_n X.1 X.2.1 hg rfl (S.1.2.2.2 _ _ hv) (K ρ ls H locs (S.st (mm_b1 (S.2.1 _ _ hv) S.2.2.1)))
theorem mg_aload (X : mm_X p R s m args c cc own nL D cl tys dA TB A P) {k : Nat} (hg : decode cc pc = .ok (.aload k, 2)) (hs : mm_step P mt (.aload k) pc L st h = some (.inl (pc', L', st', h'))) (K : mm_W p l e R s m args below meth c Q nL D cl dA A P xs byt sr ρ0 n0 z0 pc' L' st' h') : mm_W p l e R s m args below meth c Q nL D cl dA A P xs byt sr ρ0 n0 z0 pc L st h := by
  obtain ⟨v, hv, hk⟩ := mm_k3_inv hs
  cases v <;> first | (cases hk; done) | skip
  cases hk
  intro ρ ls H locs S
  exact lv_aload X.1 X.2.1 hg (S.1.2.2.2 _ _ hv) (K ρ ls H locs (S.st (mm_b1 (S.2.1 _ _ hv) S.2.2.1)))
theorem mg_istore_n (X : mm_X p R s m args c cc own nL D cl tys dA TB A P) {k : Fin 4} (hg : decode cc pc = .ok (.istore_n k, 1)) (hs : mm_step P mt (.istore_n k) pc L st h = some (.inl (pc', L', st', h'))) (K : mm_W p l e R s m args below meth c Q nL D cl dA A P xs byt sr ρ0 n0 z0 pc' L' st' h') : mm_W p l e R s m args below meth c Q nL D cl dA A P xs byt sr ρ0 n0 z0 pc L st h := by
  obtain ⟨x, r, rfl, hk⟩ := mm_i_inv hs
  obtain ⟨l1, hl, hk⟩ := mm_k0_inv hk
  cases hk
  intro ρ ls H locs S
  obtain ⟨hi, hn⟩ := mm_LR_s1 S.1 hl
  exact lv_istore_n X.1 X.2.1 hg rfl (mm_LR_has S.1) hi rfl (fun ls' h9 => K ρ ls' H locs ((S.st (mm_bt S.2.2.1)).lo (hn ls' h9) (mm_bs1 (v := .int _) S.2.1 (trivial) hl)))
theorem mg_istore (X : mm_X p R s m args c cc own nL D cl tys dA TB A P) {k : Nat} (hg : decode cc pc = .ok (.istore k, 2)) (hs : mm_step P mt (.istore k) pc L st h = some (.inl (pc', L', st', h'))) (K : mm_W p l e R s m args below meth c Q nL D cl dA A P xs byt sr ρ0 n0 z0 pc' L' st' h') : mm_W p l e R s m args below meth c Q nL D cl dA A P xs byt sr ρ0 n0 z0 pc L st h := by
  obtain ⟨x, r, rfl, hk⟩ := mm_i_inv hs
  obtain ⟨l1, hl, hk⟩ := mm_k0_inv hk
  cases hk
  intro ρ ls H locs S
  obtain ⟨hi, hn⟩ := mm_LR_s1 S.1 hl
  exact lv_istore X.1 X.2.1 hg (mm_LR_has S.1) hi rfl (fun ls' h9 => K ρ ls' H locs ((S.st (mm_bt S.2.2.1)).lo (hn ls' h9) (mm_bs1 (v := .int _) S.2.1 (trivial) hl)))
theorem mg_lstore_n (X : mm_X p R s m args c cc own nL D cl tys dA TB A P) {k : Fin 4} (hg : decode cc pc = .ok (.lstore_n k, 1)) (hs : mm_step P mt (.lstore_n k) pc L st h = some (.inl (pc', L', st', h'))) (K : mm_W p l e R s m args below meth c Q nL D cl dA A P xs byt sr ρ0 n0 z0 pc' L' st' h') : mm_W p l e R s m args below meth c Q nL D cl dA A P xs byt sr ρ0 n0 z0 pc L st h := by
  obtain ⟨x, r, rfl, hk⟩ := mm_l_inv hs
  obtain ⟨l1, hl, hk⟩ := mm_k0_inv hk
  cases hk
  intro ρ ls H locs S
  obtain ⟨hi, hn⟩ := mm_LR_s2 S.1 hl
  exact lv_lstore_n X.1 X.2.1 hg rfl (mm_LR_has S.1) hi rfl (fun ls' h9 => K ρ ls' H locs ((S.st (mm_bt S.2.2.1)).lo (hn ls' h9) (mm_bs2 (v := .long _) S.2.1 (trivial) hl)))
theorem mg_lstore (X : mm_X p R s m args c cc own nL D cl tys dA TB A P) {k : Nat} (hg : decode cc pc = .ok (.lstore k, 2)) (hs : mm_step P mt (.lstore k) pc L st h = some (.inl (pc', L', st', h'))) (K : mm_W p l e R s m args below meth c Q nL D cl dA A P xs byt sr ρ0 n0 z0 pc' L' st' h') : mm_W p l e R s m args below meth c Q nL D cl dA A P xs byt sr ρ0 n0 z0 pc L st h := by
  obtain ⟨x, r, rfl, hk⟩ := mm_l_inv hs
  obtain ⟨l1, hl, hk⟩ := mm_k0_inv hk
  cases hk
  intro ρ ls H locs S
  obtain ⟨hi, hn⟩ := mm_LR_s2 S.1 hl
  exact lv_lstore X.1 X.2.1 hg (mm_LR_has S.1) hi rfl (fun ls' h9 => K ρ ls' H locs ((S.st (mm_bt S.2.2.1)).lo (hn ls' h9) (mm_bs2 (v := .long _) S.2.1 (trivial) hl)))
theorem mg_astore_n (X : mm_X p R s m args c cc own nL D cl tys dA TB A P) {k : Fin 4} (hg : decode cc pc = .ok (.astore_n k, 1)) (hs : mm_step P mt (.astore_n k) pc L st h = some (.inl (pc', L', st', h'))) (K : mm_W p l e R s m args below meth c Q nL D cl dA A P xs byt sr ρ0 n0 z0 pc' L' st' h') : mm_W p l e R s m args below meth c Q nL D cl dA A P xs byt sr ρ0 n0 z0 pc L st h := by
  obtain ⟨x, r, rfl, hk⟩ := mm_r_inv hs
  obtain ⟨l1, hl, hk⟩ := mm_k0_inv hk
  cases hk
  intro ρ ls H locs S
  obtain ⟨hi, hn⟩ := mm_LR_s1 S.1 hl
  exact lv_astore_n X.1 X.2.1 hg rfl (mm_LR_has S.1) hi rfl (fun ls' h9 => K ρ ls' H locs ((S.st (mm_bt S.2.2.1)).lo (hn ls' h9) (mm_bs1 (v := .ref _) S.2.1 (mm_bh1 S.2.2.1) hl)))
theorem mg_astore (X : mm_X p R s m args c cc own nL D cl tys dA TB A P) {k : Nat} (hg : decode cc pc = .ok (.astore k, 2)) (hs : mm_step P mt (.astore k) pc L st h = some (.inl (pc', L', st', h'))) (K : mm_W p l e R s m args below meth c Q nL D cl dA A P xs byt sr ρ0 n0 z0 pc' L' st' h') : mm_W p l e R s m args below meth c Q nL D cl dA A P xs byt sr ρ0 n0 z0 pc L st h := by
  obtain ⟨x, r, rfl, hk⟩ := mm_r_inv hs
  obtain ⟨l1, hl, hk⟩ := mm_k0_inv hk
  cases hk
  intro ρ ls H locs S
  obtain ⟨hi, hn⟩ := mm_LR_s1 S.1 hl
  exact lv_astore X.1 X.2.1 hg (mm_LR_has S.1) hi rfl (fun ls' h9 => K ρ ls' H locs ((S.st (mm_bt S.2.2.1)).lo (hn ls' h9) (mm_bs1 (v := .ref _) S.2.1 (mm_bh1 S.2.2.1) hl)))
theorem mg_iinc (X : mm_X p R s m args c cc own nL D cl tys dA TB A P) {k : Nat} {n : Int} (hg : decode cc pc = .ok (.iinc k n, 3)) (hs : mm_step P mt (.iinc k n) pc L st h = some (.inl (pc', L', st', h'))) (K : mm_W p l e R s m args below meth c Q nL D cl dA A P xs byt sr ρ0 n0 z0 pc' L' st' h') : mm_W p l e R s m args below meth c Q nL D cl dA A P xs byt sr ρ0 n0 z0 pc L st h := by
  obtain ⟨v, hv, hk⟩ := mm_k3_inv hs
  cases v <;> first | (cases hk; done) | skip
  obtain ⟨l1, hl, hk⟩ := mm_k0_inv hk
  cases hk
  intro ρ ls H locs S
  obtain ⟨hi, hn⟩ := mm_LR_s1 S.1 hl
  obtain ⟨j, hj⟩ := List.getElem?_of_mem (mm_lv_mem (ρ := ρ).mpr ⟨_, hv, rfl⟩)
  exact lv_iinc X.1 X.2.1 hg (mm_LR_has S.1) hj rfl hi rfl (fun ls' h9 => K ρ ls' H locs (S.lo (hn ls' h9) (mm_bs1 (v := .int _) S.2.1 trivial hl)))
theorem mg_iadd (X : mm_X p R s m args c cc own nL D cl tys dA TB A P) (hg : decode cc pc = .ok (.iadd, 1)) (hs : mm_step P mt (.iadd) pc L st h = some (.inl (pc', L', st', h'))) (K : mm_W p l e R s m args below meth c Q nL D cl dA A P xs byt sr ρ0 n0 z0 pc' L' st' h') : mm_W p l e R s m args below meth c Q nL D cl dA A P xs byt sr ρ0 n0 z0 pc L st h := by
  obtain ⟨x, y, r, rfl, hk⟩ := mm_ii_inv hs
  cases hk
  intro ρ ls H locs S
  exact lv_iadd X.1 X.2.1 hg (K ρ ls H locs (S.st (mm_b1 trivial (mm_bt (mm_bt S.2.2.1)))))
theorem mg_isub (X : mm_X p R s m args c cc own nL D cl tys dA TB A P) (hg : decode cc pc = .ok (.isub, 1)) (hs : mm_step P mt (.isub) pc L st h = some (.inl (pc', L', st', h'))) (K : mm_W p l e R s m args below meth c Q nL D cl dA A P xs byt sr ρ0 n0 z0 pc' L' st' h') : mm_W p l e R s m args below meth c Q nL D cl dA A P xs byt sr ρ0 n0 z0 pc L st h := by
  obtain ⟨x, y, r, rfl, hk⟩ := mm_ii_inv hs
  cases hk
  intro ρ ls H locs S
  exact lv_isub X.1 X.2.1 hg (K ρ ls H locs (S.st (mm_b1 trivial (mm_bt (mm_bt S.2.2.1)))))
theorem mg_imul (X : mm_X p R s m args c cc own nL D cl tys dA TB A P) (hg : decode cc pc = .ok (.imul, 1)) (hs : mm_step P mt (.imul) pc L st h = some (.inl (pc', L', st', h'))) (K : mm_W p l e R s m args below meth c Q nL D cl dA A P xs byt sr ρ0 n0 z0 pc' L' st' h') : mm_W p l e R s m args below meth c Q nL D cl dA A P xs byt sr ρ0 n0 z0 pc L st h := by
  obtain ⟨x, y, r, rfl, hk⟩ := mm_ii_inv hs
  cases hk
  intro ρ ls H locs S
  exact lv_imul X.1 X.2.1 hg (K ρ ls H locs (S.st (mm_b1 trivial (mm_bt (mm_bt S.2.2.1)))))
theorem mg_iand (X : mm_X p R s m args c cc own nL D cl tys dA TB A P) (hg : decode cc pc = .ok (.iand, 1)) (hs : mm_step P mt (.iand) pc L st h = some (.inl (pc', L', st', h'))) (K : mm_W p l e R s m args below meth c Q nL D cl dA A P xs byt sr ρ0 n0 z0 pc' L' st' h') : mm_W p l e R s m args below meth c Q nL D cl dA A P xs byt sr ρ0 n0 z0 pc L st h := by
  obtain ⟨x, y, r, rfl, hk⟩ := mm_ii_inv hs
  cases hk
  intro ρ ls H locs S
  exact lv_iand X.1 X.2.1 hg (K ρ ls H locs (S.st (mm_b1 trivial (mm_bt (mm_bt S.2.2.1)))))
theorem mg_ior (X : mm_X p R s m args c cc own nL D cl tys dA TB A P) (hg : decode cc pc = .ok (.ior, 1)) (hs : mm_step P mt (.ior) pc L st h = some (.inl (pc', L', st', h'))) (K : mm_W p l e R s m args below meth c Q nL D cl dA A P xs byt sr ρ0 n0 z0 pc' L' st' h') : mm_W p l e R s m args below meth c Q nL D cl dA A P xs byt sr ρ0 n0 z0 pc L st h := by
  obtain ⟨x, y, r, rfl, hk⟩ := mm_ii_inv hs
  cases hk
  intro ρ ls H locs S
  exact lv_ior X.1 X.2.1 hg (K ρ ls H locs (S.st (mm_b1 trivial (mm_bt (mm_bt S.2.2.1)))))
theorem mg_ixor (X : mm_X p R s m args c cc own nL D cl tys dA TB A P) (hg : decode cc pc = .ok (.ixor, 1)) (hs : mm_step P mt (.ixor) pc L st h = some (.inl (pc', L', st', h'))) (K : mm_W p l e R s m args below meth c Q nL D cl dA A P xs byt sr ρ0 n0 z0 pc' L' st' h') : mm_W p l e R s m args below meth c Q nL D cl dA A P xs byt sr ρ0 n0 z0 pc L st h := by
  obtain ⟨x, y, r, rfl, hk⟩ := mm_ii_inv hs
  cases hk
  intro ρ ls H locs S
  exact lv_ixor X.1 X.2.1 hg (K ρ ls H locs (S.st (mm_b1 trivial (mm_bt (mm_bt S.2.2.1)))))
theorem mg_ishl (X : mm_X p R s m args c cc own nL D cl tys dA TB A P) (hg : decode cc pc = .ok (.ishl, 1)) (hs : mm_step P mt (.ishl) pc L st h = some (.inl (pc', L', st', h'))) (K : mm_W p l e R s m args below meth c Q nL D cl dA A P xs byt sr ρ0 n0 z0 pc' L' st' h') : mm_W p l e R s m args below meth c Q nL D cl dA A P xs byt sr ρ0 n0 z0 pc L st h := by
  obtain ⟨x, y, r, rfl, hk⟩ := mm_ii_inv hs
  cases hk
  intro ρ ls H locs S
  exact lv_ishl X.1 X.2.1 hg (K ρ ls H locs (S.st (mm_b1 trivial (mm_bt (mm_bt S.2.2.1)))))
theorem mg_ishr (X : mm_X p R s m args c cc own nL D cl tys dA TB A P) (hg : decode cc pc = .ok (.ishr, 1)) (hs : mm_step P mt (.ishr) pc L st h = some (.inl (pc', L', st', h'))) (K : mm_W p l e R s m args below meth c Q nL D cl dA A P xs byt sr ρ0 n0 z0 pc' L' st' h') : mm_W p l e R s m args below meth c Q nL D cl dA A P xs byt sr ρ0 n0 z0 pc L st h := by
  obtain ⟨x, y, r, rfl, hk⟩ := mm_ii_inv hs
  cases hk
  intro ρ ls H locs S
  exact lv_ishr X.1 X.2.1 hg (K ρ ls H locs (S.st (mm_b1 trivial (mm_bt (mm_bt S.2.2.1)))))
theorem mg_iushr (X : mm_X p R s m args c cc own nL D cl tys dA TB A P) (hg : decode cc pc = .ok (.iushr, 1)) (hs : mm_step P mt (.iushr) pc L st h = some (.inl (pc', L', st', h'))) (K : mm_W p l e R s m args below meth c Q nL D cl dA A P xs byt sr ρ0 n0 z0 pc' L' st' h') : mm_W p l e R s m args below meth c Q nL D cl dA A P xs byt sr ρ0 n0 z0 pc L st h := by
  obtain ⟨x, y, r, rfl, hk⟩ := mm_ii_inv hs
  cases hk
  intro ρ ls H locs S
  exact lv_iushr X.1 X.2.1 hg rfl (K ρ ls H locs (S.st (mm_b1 trivial (mm_bt (mm_bt S.2.2.1)))))
theorem mg_ladd (X : mm_X p R s m args c cc own nL D cl tys dA TB A P) (hg : decode cc pc = .ok (.ladd, 1)) (hs : mm_step P mt (.ladd) pc L st h = some (.inl (pc', L', st', h'))) (K : mm_W p l e R s m args below meth c Q nL D cl dA A P xs byt sr ρ0 n0 z0 pc' L' st' h') : mm_W p l e R s m args below meth c Q nL D cl dA A P xs byt sr ρ0 n0 z0 pc L st h := by
  obtain ⟨x, y, r, rfl, hk⟩ := mm_ll_inv hs
  cases hk
  intro ρ ls H locs S
  exact lv_ladd X.1 X.2.1 hg (K ρ ls H locs (S.st (mm_b1 trivial (mm_bt (mm_bt S.2.2.1)))))
theorem mg_lsub (X : mm_X p R s m args c cc own nL D cl tys dA TB A P) (hg : decode cc pc = .ok (.lsub, 1)) (hs : mm_step P mt (.lsub) pc L st h = some (.inl (pc', L', st', h'))) (K : mm_W p l e R s m args below meth c Q nL D cl dA A P xs byt sr ρ0 n0 z0 pc' L' st' h') : mm_W p l e R s m args below meth c Q nL D cl dA A P xs byt sr ρ0 n0 z0 pc L st h := by
  obtain ⟨x, y, r, rfl, hk⟩ := mm_ll_inv hs
  cases hk
  intro ρ ls H locs S
  exact lv_lsub X.1 X.2.1 hg (K ρ ls H locs (S.st (mm_b1 trivial (mm_bt (mm_bt S.2.2.1)))))
theorem mg_lmul (X : mm_X p R s m args c cc own nL D cl tys dA TB A P) (hg : decode cc pc = .ok (.lmul, 1)) (hs : mm_step P mt (.lmul) pc L st h = some (.inl (pc', L', st', h'))) (K : mm_W p l e R s m args below meth c Q nL D cl dA A P xs byt sr ρ0 n0 z0 pc' L' st' h') : mm_W p l e R s m args below meth c Q nL D cl dA A P xs byt sr ρ0 n0 z0 pc L st h := by
  obtain ⟨x, y, r, rfl, hk⟩ := mm_ll_inv hs
  cases hk
  intro ρ ls H locs S
  exact lv_lmul X.1 X.2.1 hg (K ρ ls H locs (S.st (mm_b1 trivial (mm_bt (mm_bt S.2.2.1)))))
theorem mg_land (X : mm_X p R s m args c cc own nL D cl tys dA TB A P) (hg : decode cc pc = .ok (.land, 1)) (hs : mm_step P mt (.land) pc L st h = some (.inl (pc', L', st', h'))) (K : mm_W p l e R s m args below meth c Q nL D cl dA A P xs byt sr ρ0 n0 z0 pc' L' st' h') : mm_W p l e R s m args below meth c Q nL D cl dA A P xs byt sr ρ0 n0 z0 pc L st h := by
  obtain ⟨x, y, r, rfl, hk⟩ := mm_ll_inv hs
  cases hk
  intro ρ ls H locs S
  exact lv_land X.1 X.2.1 hg (K ρ ls H locs (S.st (mm_b1 trivial (mm_bt (mm_bt S.2.2.1)))))
theorem mg_lor (X : mm_X p R s m args c cc own nL D cl tys dA TB A P) (hg : decode cc pc = .ok (.lor, 1)) (hs : mm_step P mt (.lor) pc L st h = some (.inl (pc', L', st', h'))) (K : mm_W p l e R s m args below meth c Q nL D cl dA A P xs byt sr ρ0 n0 z0 pc' L' st' h') : mm_W p l e R s m args below meth c Q nL D cl dA A P xs byt sr ρ0 n0 z0 pc L st h := by
  obtain ⟨x, y, r, rfl, hk⟩ := mm_ll_inv hs
  cases hk
  intro ρ ls H locs S
  exact lv_lor X.1 X.2.1 hg (K ρ ls H locs (S.st (mm_b1 trivial (mm_bt (mm_bt S.2.2.1)))))
theorem mg_idiv (X : mm_X p R s m args c cc own nL D cl tys dA TB A P) (hg : decode cc pc = .ok (.idiv, 1)) (hs : mm_step P mt (.idiv) pc L st h = some (.inl (pc', L', st', h'))) (K : mm_W p l e R s m args below meth c Q nL D cl dA A P xs byt sr ρ0 n0 z0 pc' L' st' h') : mm_W p l e R s m args below meth c Q nL D cl dA A P xs byt sr ρ0 n0 z0 pc L st h := by
  obtain ⟨x, y, r, rfl, hk⟩ := mm_ii_inv hs
  split at hk
  · cases hk
  · rename_i hne
    cases hk
    intro ρ ls H locs S
    exact lv_idiv X.1 X.2.1 hg hne (K ρ ls H locs (S.st (mm_b1 trivial (mm_bt (mm_bt S.2.2.1)))))
theorem mg_irem (X : mm_X p R s m args c cc own nL D cl tys dA TB A P) (hg : decode cc pc = .ok (.irem, 1)) (hs : mm_step P mt (.irem) pc L st h = some (.inl (pc', L', st', h'))) (K : mm_W p l e R s m args below meth c Q nL D cl dA A P xs byt sr ρ0 n0 z0 pc' L' st' h') : mm_W p l e R s m args below meth c Q nL D cl dA A P xs byt sr ρ0 n0 z0 pc L st h := by
  obtain ⟨x, y, r, rfl, hk⟩ := mm_ii_inv hs
  split at hk
  · cases hk
  · rename_i hne
    cases hk
    intro ρ ls H locs S
    exact lv_irem X.1 X.2.1 hg hne (K ρ ls H locs (S.st (mm_b1 trivial (mm_bt (mm_bt S.2.2.1)))))
theorem mg_ldiv (X : mm_X p R s m args c cc own nL D cl tys dA TB A P) (hg : decode cc pc = .ok (.ldiv, 1)) (hs : mm_step P mt (.ldiv) pc L st h = some (.inl (pc', L', st', h'))) (K : mm_W p l e R s m args below meth c Q nL D cl dA A P xs byt sr ρ0 n0 z0 pc' L' st' h') : mm_W p l e R s m args below meth c Q nL D cl dA A P xs byt sr ρ0 n0 z0 pc L st h := by
  obtain ⟨x, y, r, rfl, hk⟩ := mm_ll_inv hs
  split at hk
  · cases hk
  · rename_i hne
    cases hk
    intro ρ ls H locs S
    exact lv_ldiv X.1 X.2.1 hg hne (K ρ ls H locs (S.st (mm_b1 trivial (mm_bt (mm_bt S.2.2.1)))))
theorem mg_lrem (X : mm_X p R s m args c cc own nL D cl tys dA TB A P) (hg : decode cc pc = .ok (.lrem, 1)) (hs : mm_step P mt (.lrem) pc L st h = some (.inl (pc', L', st', h'))) (K : mm_W p l e R s m args below meth c Q nL D cl dA A P xs byt sr ρ0 n0 z0 pc' L' st' h') : mm_W p l e R s m args below meth c Q nL D cl dA A P xs byt sr ρ0 n0 z0 pc L st h := by
  obtain ⟨x, y, r, rfl, hk⟩ := mm_ll_inv hs
  split at hk
  · cases hk
  · rename_i hne
    cases hk
    intro ρ ls H locs S
    exact lv_lrem X.1 X.2.1 hg hne (K ρ ls H locs (S.st (mm_b1 trivial (mm_bt (mm_bt S.2.2.1)))))
theorem mg_lshl (X : mm_X p R s m args c cc own nL D cl tys dA TB A P) (hg : decode cc pc = .ok (.lshl, 1)) (hs : mm_step P mt (.lshl) pc L st h = some (.inl (pc', L', st', h'))) (K : mm_W p l e R s m args below meth c Q nL D cl dA A P xs byt sr ρ0 n0 z0 pc' L' st' h') : mm_W p l e R s m args below meth c Q nL D cl dA A P xs byt sr ρ0 n0 z0 pc L st h := by
  obtain ⟨x, y, r, rfl, hk⟩ := mm_li_inv hs
  cases hk
  intro ρ ls H locs S
  exact lv_lshl X.1 X.2.1 hg rfl (K ρ ls H locs (S.st (mm_b1 trivial (mm_bt (mm_bt S.2.2.1)))))
theorem mg_lshr (X : mm_X p R s m args c cc own nL D cl tys dA TB A P) (hg : decode cc pc = .ok (.lshr, 1)) (hs : mm_step P mt (.lshr) pc L st h = some (.inl (pc', L', st', h'))) (K : mm_W p l e R s m args below meth c Q nL D cl dA A P xs byt sr ρ0 n0 z0 pc' L' st' h') : mm_W p l e R s m args below meth c Q nL D cl dA A P xs byt sr ρ0 n0 z0 pc L st h := by
  obtain ⟨x, y, r, rfl, hk⟩ := mm_li_inv hs
  cases hk
  intro ρ ls H locs S
  exact lv_lshr X.1 X.2.1 hg rfl (K ρ ls H locs (S.st (mm_b1 trivial (mm_bt (mm_bt S.2.2.1)))))
theorem mg_lushr (X : mm_X p R s m args c cc own nL D cl tys dA TB A P) (hg : decode cc pc = .ok (.lushr, 1)) (hs : mm_step P mt (.lushr) pc L st h = some (.inl (pc', L', st', h'))) (K : mm_W p l e R s m args below meth c Q nL D cl dA A P xs byt sr ρ0 n0 z0 pc' L' st' h') : mm_W p l e R s m args below meth c Q nL D cl dA A P xs byt sr ρ0 n0 z0 pc L st h := by
  obtain ⟨x, y, r, rfl, hk⟩ := mm_li_inv hs
  cases hk
  intro ρ ls H locs S
  exact lv_lushr X.1 X.2.1 hg rfl (K ρ ls H locs (S.st (mm_b1 trivial (mm_bt (mm_bt S.2.2.1)))))
theorem mg_lcmp (X : mm_X p R s m args c cc own nL D cl tys dA TB A P) (hg : decode cc pc = .ok (.lcmp, 1)) (hs : mm_step P mt (.lcmp) pc L st h = some (.inl (pc', L', st', h'))) (K : mm_W p l e R s m args below meth c Q nL D cl dA A P xs byt sr ρ0 n0 z0 pc' L' st' h') : mm_W p l e R s m args below meth c Q nL D cl dA A P xs byt sr ρ0 n0 z0 pc L st h := by
  obtain ⟨x, y, r, rfl, hk⟩ := mm_ll_inv hs
  cases hk
  intro ρ ls H locs S
  exact W.lcmp X.1 X.2.1 hg (K ρ ls H locs (S.st (mm_b1 trivial (mm_bt (mm_bt S.2.2.1)))))
theorem mg_ineg (X : mm_X p R s m args c cc own nL D cl tys dA TB A P) (hg : decode cc pc = .ok (.ineg, 1)) (hs : mm_step P mt (.ineg) pc L st h = some (.inl (pc', L', st', h'))) (K : mm_W p l e R s m args below meth c Q nL D cl dA A P xs byt sr ρ0 n0 z0 pc' L' st' h') : mm_W p l e R s m args below meth c Q nL D cl dA A P xs byt sr ρ0 n0 z0 pc L st h := by
  obtain ⟨x, r, rfl, hk⟩ := mm_i_inv hs
  cases hk
  intro ρ ls H locs S
  exact lv_ineg X.1 X.2.1 hg (K ρ ls H locs (S.st (mm_b1 trivial (mm_bt S.2.2.1))))
theorem mg_i2l (X : mm_X p R s m args c cc own nL D cl tys dA TB A P) (hg : decode cc pc = .ok (.i2l, 1)) (hs : mm_step P mt (.i2l) pc L st h = some (.inl (pc', L', st', h'))) (K : mm_W p l e R s m args below meth c Q nL D cl dA A P xs byt sr ρ0 n0 z0 pc' L' st' h') : mm_W p l e R s m args below meth c Q nL D cl dA A P xs byt sr ρ0 n0 z0 pc L st h := by
  obtain ⟨x, r, rfl, hk⟩ := mm_i_inv hs
  cases hk
  intro ρ ls H locs S
  exact lv_i2l X.1 X.2.1 hg rfl (K ρ ls H locs (S.st (mm_b1 trivial (mm_bt S.2.2.1))))
theorem mg_l2i (X : mm_X p R s m args c cc own nL D cl tys dA TB A P) (hg : decode cc pc = .ok (.l2i, 1)) (hs : mm_step P mt (.l2i) pc L st h = some (.inl (pc', L', st', h'))) (K : mm_W p l e R s m args below meth c Q nL D cl dA A P xs byt sr ρ0 n0 z0 pc' L' st' h') : mm_W p l e R s m args below meth c Q nL D cl dA A P xs byt sr ρ0 n0 z0 pc L st h := by
  obtain ⟨x, r, rfl, hk⟩ := mm_l_inv hs
  cases hk
  intro ρ ls H locs S
  exact lv_l2i X.1 X.2.1 hg rfl (K ρ ls H locs (S.st (mm_b1 trivial (mm_bt S.2.2.1))))
theorem mg_i2c (X : mm_X p R s m args c cc own nL D cl tys dA TB A P) (hg : decode cc pc = .ok (.i2c, 1)) (hs : mm_step P mt (.i2c) pc L st h = some (.inl (pc', L', st', h'))) (K : mm_W p l e R s m args below meth c Q nL D cl dA A P xs byt sr ρ0 n0 z0 pc' L' st' h') : mm_W p l e R s m args below meth c Q nL D cl dA A P xs byt sr ρ0 n0 z0 pc L st h := by
  obtain ⟨x, r, rfl, hk⟩ := mm_i_inv hs
  cases hk
  intro ρ ls H locs S
  exact lv_i2c X.1 X.2.1 hg rfl (K ρ ls H locs (S.st (mm_b1 trivial (mm_bt S.2.2.1))))
theorem mg_i2b (X : mm_X p R s m args c cc own nL D cl tys dA TB A P) (hg : decode cc pc = .ok (.i2b, 1)) (hs : mm_step P mt (.i2b) pc L st h = some (.inl (pc', L', st', h'))) (K : mm_W p l e R s m args below meth c Q nL D cl dA A P xs byt sr ρ0 n0 z0 pc' L' st' h') : mm_W p l e R s m args below meth c Q nL D cl dA A P xs byt sr ρ0 n0 z0 pc L st h := by
  obtain ⟨x, r, rfl, hk⟩ := mm_i_inv hs
  cases hk
  intro ρ ls H locs S
  exact lv_i2b X.1 X.2.1 hg rfl (K ρ ls H locs (S.st (mm_b1 trivial (mm_bt S.2.2.1))))
theorem mg_dup (X : mm_X p R s m args c cc own nL D cl tys dA TB A P) (hg : decode cc pc = .ok (.dup, 1)) (hs : mm_step P mt (.dup) pc L st h = some (.inl (pc', L', st', h'))) (K : mm_W p l e R s m args below meth c Q nL D cl dA A P xs byt sr ρ0 n0 z0 pc' L' st' h') : mm_W p l e R s m args below meth c Q nL D cl dA A P xs byt sr ρ0 n0 z0 pc L st h := by
  obtain ⟨x, r, rfl, hc, hk⟩ := mm_v_inv hs
  cases hk
  intro ρ ls H locs S
  exact lv_dup X.1 X.2.1 hg ((mm_tv_cat x).trans hc) (K ρ ls H locs (S.st (mm_b1 (mm_bh1 S.2.2.1) S.2.2.1)))
theorem mg_pop (X : mm_X p R s m args c cc own nL D cl tys dA TB A P) (hg : decode cc pc = .ok (.pop, 1)) (hs : mm_step P mt (.pop) pc L st h = some (.inl (pc', L', st', h'))) (K : mm_W p l e R s m args below meth c Q nL D cl dA A P xs byt sr ρ0 n0 z0 pc' L' st' h') : mm_W p l e R s m args below meth c Q nL D cl dA A P xs byt sr ρ0 n0 z0 pc L st h := by
  obtain ⟨x, r, rfl, hc, hk⟩ := mm_v_inv hs
  cases hk
  intro ρ ls H locs S
  exact lv_pop X.1 X.2.1 hg ((mm_tv_cat x).trans hc) (K ρ ls H locs (S.st (mm_bt S.2.2.1)))
theorem mg_dup2 (X : mm_X p R s m args c cc own nL D cl tys dA TB A P) (hg : decode cc pc = .ok (.dup2, 1)) (hs : mm_step P mt (.dup2) pc L st h = some (.inl (pc', L', st', h'))) (K : mm_W p l e R s m args below meth c Q nL D cl dA A P xs byt sr ρ0 n0 z0 pc' L' st' h') : mm_W p l e R s m args below meth c Q nL D cl dA A P xs byt sr ρ0 n0 z0 pc L st h := by
  obtain ⟨x, y, r, rfl, hc, hd, hk⟩ := mm_vv_inv hs
  cases hk
  intro ρ ls H locs S
  exact lv_dup2_11 X.1 X.2.1 hg ((mm_tv_cat y).trans hd) ((mm_tv_cat x).trans hc) (K ρ ls H locs (S.st (mm_b1 (mm_bh1 S.2.2.1) (mm_b1 (mm_bh1 (mm_bt S.2.2.1)) S.2.2.1))))
theorem mg_goto (X : mm_X p R s m args c cc own nL D cl tys dA TB A P) {t off : Int} (hg : decode cc pc = .ok (.goto off, 3)) (ht : (pc : Int) + off = (t.toNat : Int)) (hs : mm_step P mt (.goto t) pc L st h = some (.inl (pc', L', st', h'))) (K : mm_W p l e R s m args below meth c Q nL D cl dA A P xs byt sr ρ0 n0 z0 pc' L' st' h') : mm_W p l e R s m args below meth c Q nL D cl dA A P xs byt sr ρ0 n0 z0 pc L st h := by
  cases hs
  intro ρ ls H locs S
  exact lv_goto X.1 X.2.1 hg ht (K ρ ls H locs S)
theorem mg_if (X : mm_X p R s m args c cc own nL D cl tys dA TB A P) {cd : ClassFile.Cond} {t off : Int} (hg : decode cc pc = .ok (.ifCond cd off, 3)) (ht : (pc : Int) + off = (t.toNat : Int)) (hs : mm_step P mt (.ifCond cd t) pc L st h = some (.inl (pc', L', st', h'))) (K : mm_W p l e R s m args below meth c Q nL D cl dA A P xs byt sr ρ0 n0 z0 pc' L' st' h') : mm_W p l e R s m args below meth c Q nL D cl dA A P xs byt sr ρ0 n0 z0 pc L st h := by
  obtain ⟨x, r, rfl, hk⟩ := mm_i_inv hs
  split at hk
  · rename_i hq
    cases hk
    intro ρ ls H locs S
    have kk := K ρ ls H locs (S.st (mm_bt S.2.2.1))
    cases cd
    · have hq' : x = 0 := by simpa [mm_test] using hq
      exact lv_if_eq X.1 X.2.1 hg ht (fun _ => kk) (fun hn => absurd hq' hn)
    · have hq' : ¬ x = 0 := by simpa [mm_test] using hq
      exact lv_if_ne X.1 X.2.1 hg ht (fun _ => kk) (fun hn => absurd hn hq')
    · have hq' : x < 0 := by simpa [mm_test] using hq
      exact lv_if_lt X.1 X.2.1 hg ht (fun _ => kk) (fun hn => absurd hq' hn)
    · have hq' : 0 ≤ x := by simpa [mm_test] using hq
      exact lv_if_ge X.1 X.2.1 hg ht (fun _ => kk) (fun hn => absurd hq' hn)
    · have hq' : 0 < x := by simpa [mm_test] using hq
      exact lv_if_gt X.1 X.2.1 hg ht (fun _ => kk) (fun hn => absurd hq' hn)
    · have hq' : x ≤ 0 := by simpa [mm_test] using hq
      exact lv_if_le X.1 X.2.1 hg ht (fun _ => kk) (fun hn => absurd hq' hn)
  · rename_i hq
    cases hk
    intro ρ ls H locs S
    have kk := K ρ ls H locs (S.st (mm_bt S.2.2.1))
    cases cd
    · have hq' : ¬ x = 0 := fun hn => hq (by simpa [mm_test] using hn)
      exact lv_if_eq X.1 X.2.1 hg ht (fun hn => absurd hn hq') (fun _ => kk)
    · have hq' : x = 0 := by simpa [mm_test] using hq
      exact lv_if_ne X.1 X.2.1 hg ht (fun hn => absurd hq' hn) (fun _ => kk)
    · have hq' : ¬ x < 0 := fun hn => hq (by simpa [mm_test] using hn)
      exact lv_if_lt X.1 X.2.1 hg ht (fun hn => absurd hn hq') (fun _ => kk)
    · have hq' : ¬ 0 ≤ x := fun hn => hq (by simpa [mm_test] using hn)
      exact lv_if_ge X.1 X.2.1 hg ht (fun hn => absurd hn hq') (fun _ => kk)
    · have hq' : ¬ 0 < x := fun hn => hq (by simpa [mm_test] using hn)
      exact lv_if_gt X.1 X.2.1 hg ht (fun hn => absurd hn hq') (fun _ => kk)
    · have hq' : ¬ x ≤ 0 := fun hn => hq (by simpa [mm_test] using hn)
      exact lv_if_le X.1 X.2.1 hg ht (fun hn => absurd hn hq') (fun _ => kk)
theorem mg_icmp (X : mm_X p R s m args c cc own nL D cl tys dA TB A P) {cd : ClassFile.Cond} {t off : Int} (hg : decode cc pc = .ok (.if_icmp cd off, 3)) (ht : (pc : Int) + off = (t.toNat : Int)) (hs : mm_step P mt (.if_icmp cd t) pc L st h = some (.inl (pc', L', st', h'))) (K : mm_W p l e R s m args below meth c Q nL D cl dA A P xs byt sr ρ0 n0 z0 pc' L' st' h') : mm_W p l e R s m args below meth c Q nL D cl dA A P xs byt sr ρ0 n0 z0 pc L st h := by
  obtain ⟨x, y, r, rfl, hk⟩ := mm_ii_inv hs
  split at hk
  · rename_i hq
    cases hk
    intro ρ ls H locs S
    have kk := K ρ ls H locs (S.st (mm_bt (mm_bt S.2.2.1)))
    cases cd
    · have hq' : x = y := by simpa [mm_test] using hq
      exact lv_icmp_eq X.1 X.2.1 hg ht (fun _ => kk) (fun hn => absurd hq' hn)
    · have hq' : ¬ x = y := by simpa [mm_test] using hq
      exact lv_icmp_ne X.1 X.2.1 hg ht (fun _ => kk) (fun hn => absurd hn hq')
    · have hq' : x < y := by simpa [mm_test] using hq
      exact lv_icmp_lt X.1 X.2.1 hg ht (fun _ => kk) (fun hn => absurd hq' hn)
    · have hq' : y ≤ x := by simpa [mm_test] using hq
      exact lv_icmp_ge X.1 X.2.1 hg ht (fun _ => kk) (fun hn => absurd hq' hn)
    · have hq' : y < x := by simpa [mm_test] using hq
      exact lv_icmp_gt X.1 X.2.1 hg ht (fun _ => kk) (fun hn => absurd hq' hn)
    · have hq' : x ≤ y := by simpa [mm_test] using hq
      exact lv_icmp_le X.1 X.2.1 hg ht (fun _ => kk) (fun hn => absurd hq' hn)
  · rename_i hq
    cases hk
    intro ρ ls H locs S
    have kk := K ρ ls H locs (S.st (mm_bt (mm_bt S.2.2.1)))
    cases cd
    · have hq' : ¬ x = y := fun hn => hq (by simpa [mm_test] using hn)
      exact lv_icmp_eq X.1 X.2.1 hg ht (fun hn => absurd hn hq') (fun _ => kk)
    · have hq' : x = y := by simpa [mm_test] using hq
      exact lv_icmp_ne X.1 X.2.1 hg ht (fun hn => absurd hq' hn) (fun _ => kk)
    · have hq' : ¬ x < y := fun hn => hq (by simpa [mm_test] using hn)
      exact lv_icmp_lt X.1 X.2.1 hg ht (fun hn => absurd hn hq') (fun _ => kk)
    · have hq' : ¬ y ≤ x := fun hn => hq (by simpa [mm_test] using hn)
      exact lv_icmp_ge X.1 X.2.1 hg ht (fun hn => absurd hn hq') (fun _ => kk)
    · have hq' : ¬ y < x := fun hn => hq (by simpa [mm_test] using hn)
      exact lv_icmp_gt X.1 X.2.1 hg ht (fun hn => absurd hn hq') (fun _ => kk)
    · have hq' : ¬ x ≤ y := fun hn => hq (by simpa [mm_test] using hn)
      exact lv_icmp_le X.1 X.2.1 hg ht (fun hn => absurd hn hq') (fun _ => kk)
theorem mg_tsw (X : mm_X p R s m args c cc own nL D cl tys dA TB A P) {d lo hi d1 : Int} {offs offs1 : Array Int} {len : Nat} (hg : decode cc pc = .ok (.tableswitch d1 lo hi offs1, len)) (hd : (pc : Int) + d1 = (d.toNat : Int)) (ho : ∀ j : Nat, (j : Int) ≤ hi - lo → ∃ o, offs1[j]? = some o ∧ (pc : Int) + o = ((offs.getD j d).toNat : Int)) (hs : mm_step P mt (.tableswitch d lo hi offs) pc L st h = some (.inl (pc', L', st', h'))) (K : mm_W p l e R s m args below meth c Q nL D cl dA A P xs byt sr ρ0 n0 z0 pc' L' st' h') : mm_W p l e R s m args below meth c Q nL D cl dA A P xs byt sr ρ0 n0 z0 pc L st h := by
  obtain ⟨x, r, rfl, hk⟩ := mm_i_inv hs
  cases hk
  intro ρ ls H locs S
  have kk := K ρ ls H locs (S.st (mm_bt S.2.2.1))
  unfold mm_tsw at kk
  split at kk
  · rename_i hq
    exact lv_tableOut X.1 X.2.1 hg hq hd kk
  · rename_i hq
    have h1 : ¬ x.toInt < lo := fun q => hq (Or.inl q)
    have h2 : ¬ hi < x.toInt := fun q => hq (Or.inr q)
    obtain ⟨o, e1, e2⟩ := ho (x.toInt - lo).toNat (by omega)
    exact lv_tableIn X.1 X.2.1 hg h1 h2 e1 e2 kk
end MM4
