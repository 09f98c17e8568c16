/-! a thrown thing is caught by the only row of a method's table, its class named by a link that may still be cold -/
section CT
variable {p : Program} {l : Launch} {e : Env} {R : Room} {s : State} {m : MethodId} {args : Array Value} {below : List Frame} {meth : Method} {c : Code} {T : State} {locs : List Loc} {cells slots : Nat}
/-- the search for a handler ends with hd and leaves the tables vm' -/
def ct_F (e : Env) (u : State) (f : JFrame) (a : Addr) (hd : Handler) (vm' : Vm) : Prop := ∀ (Q : Handler → Pre) (E : CtlPost) (d : Bool) (acts : List Action), wp (findHandler f a) Q E e d acts u ↔ Q hd d acts (u.setVm vm')
theorem ct_row {u : State} {f : JFrame} {a : Addr} {mt : Method} {cd : Code} {x : ExceptionTableEntry} {k : ClassId} {cell : Cell} (hm : u.vm.method? f.method = some mt) (hc : mt.code = some cd) (ht : cd.exceptionTable.toList = [x]) (hx : covers x f.pc = true) (h0 : x.catchType ≠ 0)
    (hl : u.vm.ClassLinks e.platform f.method.cls x.catchType k) (hcell : u.heap[a]? = some cell) (hobj : ∀ j, cell.vm ≠ .statics j) (h1 : ∃ z, u.vm.classes[cell.cls]? = some z) (h2 : ∃ z, u.vm.classes[k]? = some z) (hfit : u.vm.assignable cell.cls k = true) :
    ct_F e u f a (.found x.handlerPc) (u.vm.noted f.method.cls x.catchType (.cls k)) := by
  intro Q E d acts
  have hal : u.vm.Alike (u.vm.noted f.method.cls x.catchType (.cls k)) := (Vm.Alike.refl u.vm).noted _ _ _
  obtain ⟨ha, ht2⟩ := (resolveClass_links e.toSetting hl).op (op := VmOp.resolveClass f.method.cls x.catchType) rfl
  obtain ⟨z1, hz1⟩ := h1
  obtain ⟨z2, hz2⟩ := h2
  obtain ⟨z3, hz3, -⟩ := hal.2.2 _ _ hz1
  obtain ⟨z4, hz4, -⟩ := hal.2.2 _ _ hz2
  have hf2 : (u.vm.noted f.method.cls x.catchType (.cls k)).assignable cell.cls k = true := by rw [hal.assignable]; exact hfit
  simp only [covers] at hx
  rw [W.findHandler_eq hm hc, ht]
  simp [findHandler.go, hx, h0, ha, ht2, hcell, hobj, hz3, hz4, hf2, VmOp.dirties, VmOp.acts]
theorem ct_go {u t : State} {g : JFrame} {a : Addr} {pc : Nat} {vm' : Vm} (h : At u g.method c below) (hf : ct_F e ((u.setTop g).pushFrame (.throwing a)) g a (.found pc) vm') (hr : Steps p.tables e below ((u.setVm vm').setTop { g with pc := pc, stack := [.ref a] }) t) : Steps p.tables e below ((u.setTop g).pushFrame (.throwing a)) t := by
  obtain ⟨w1, w2⟩ := h.throwing a
  have hs : ∀ r : List Frame, (stepThrowing e ((u.setTop g).pushFrame (.throwing a)) a (.java g :: r)).Is ((((u.setTop g).pushFrame (.throwing a)).setVm vm').setFrames (.java { g with pc := pc, stack := [.ref a] } :: r)) [] := by
    intro r
    simp only [stepThrowing, searchFrame, vmDo]
    generalize hq : Sem.go _ e false [] ((u.setTop g).pushFrame (.throwing a)) = res
    obtain ⟨as, rfl, hz⟩ := Sem.eq_ok_of hq (a := Handler.found pc) (s' := ((u.setTop g).pushFrame (.throwing a)).setVm vm') (acts' := []) (by simp [hf _ _ _ _])
    exact ⟨rfl, hz⟩
  refine Steps.head w1 w2 ?_
  obtain ⟨g₀, hg⟩ := Option.isSome_iff_exists.mp h.top
  obtain ⟨r, hfr⟩ := State.topJava?_eq_some.mp hg
  have hfr2 : (u.setVm vm').frames = .java g₀ :: r := hfr
  have key : ∀ (y : State) (F G : List Frame), ((y.setFrames F).setVm vm').setFrames G = (y.setVm vm').setFrames G := fun y F G => by
    rw [show (y.setFrames F).setVm vm' = (y.setVm vm').setFrames F from rfl, State.setFrames_setFrames]
  rw [stepThread_throwing (frames_entered h.top _), (hs _).1]
  rw [State.setTop_of_frames _ hfr2] at hr
  rw [hfr, List.tail_cons, State.pushFrame, key, State.setTop_of_frames _ hfr, key]
  exact hr
/-- into the handler -/
theorem ct_in (X : Stand p l e R s m args below meth c T locs cells slots) {a : Addr} {g : JFrame} (hg : g.method = m) {own name : String} (hown : s.vm.findClass own = some m.cls) {x : ExceptionTableEntry} (ht : c.exceptionTable.toList = [x]) (hx : covers x g.pc = true) (h0 : x.catchType ≠ 0)
    (hlink : (Cond.classLink own x.catchType name).before args s = true) {k : ClassId} {cell : Cell} (hk : s.vm.findClass name = some k) (hcell : T.heap[a]? = some cell) (hobj : cell.vm.isStatics = false) (hfit : s.vm.assignable cell.cls k = true) :
    ∃ vm', Stand p l e R s m args below meth c (T.setVm vm') locs cells slots ∧ ∀ t, Steps p.tables e below ((T.setVm vm').setTop { g with pc := x.handlerPc, stack := [.ref a] }) t → Steps p.tables e below ((T.setTop g).pushFrame (.throwing a)) t := by
  have hpl : e.platform.magicAccessors = ({} : Platform).magicAccessors := by rw [X.admits.platform]
  obtain ⟨k', hk', hcl⟩ := Cond.classLink_spec hown hlink e.platform hpl
  cases hk.symm.trans hk'
  obtain ⟨dk, _, _, kt, hd, _, _, _, _, hkt, _, hopen⟩ := hcl.here
  have hal := X.warmed.alike
  obtain ⟨kt', hkt', -⟩ := hal.2.2 _ _ hkt
  have hfit' : T.vm.assignable cell.cls k = true := by rw [hal.assignable]; exact hfit
  refine ⟨_, X.noted (X.warmed.noted hd hopen (State.rightAt_cls hcl)), fun t ht2 => ?_⟩
  subst hg
  exact ct_go X.here (ct_row (u := (T.setTop g).pushFrame (.throwing a)) (mt := meth) (cd := c) X.method' X.code ht hx h0 (k := k) (cell := cell) (X.warmed.classLinks hcl) hcell (VmData.ne_statics_of hobj) (Vm.classAt_of_assignable hfit' ⟨kt', hkt'⟩) ⟨kt', hkt'⟩ hfit') ht2
end CT
