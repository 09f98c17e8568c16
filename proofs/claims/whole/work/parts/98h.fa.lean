/-! the class's rests, as the machine has it: it returns, or it throws -/
theorem mm_tr_ex {P : mm_P} : ∀ (n d k pc : Nat) (ls : mm_V) (st : List Value) (h : mm_H) (pcf : Nat) (Lf : mm_V) (stf : List Value) (hf : mm_H) (r : Option Value), mm_tr P n d k pc ls st h = some (pcf, Lf, stf, hf) → mm_step P k (P.1 k pcf) pcf Lf stf hf = some (.inr (.inr r)) → mm_ex P n d k pc ls st h = some (r, hf) := by
  intro n
  induction n with
  | zero => intro d k pc ls st h pcf Lf stf hf r hs; cases hs
  | succ n ih =>
    intro d k pc ls st h pcf Lf stf hf r hs e
    rw [mm_tr] at hs
    rw [mm_ex]
    split at hs
    · cases hs
      rw [e]
    · split at hs
      · cases hs
      · rename_i e0
        rw [e0]
        exact ih _ _ _ _ _ _ _ _ _ _ _ hs e
      · rename_i e0
        rw [e0]
        split at hs
        · cases hs
        · split at hs
          · cases hs
          · rename_i r1 h1 e1
            simp only []
            rw [e1]
            exact ih _ _ _ _ _ _ _ _ _ _ _ hs e
      · cases hs
/-- what a throw needs of the state -/
def fe (A : Nat → Prop) (U : State) : Prop := vx_Zq Bundle.tN "UNASSIGNED_STACK" Bundle.steD A U U.heap ∧ vx_Zq Bundle.tN "SUPPRESSED_SENTINEL" Bundle.listD A U U.heap ∧ ∀ w ∈ fB, va_Nw w U
theorem fB_ot : ∀ w ∈ fB, w.onTables = true := by decide +kernel
theorem fe_same {A : Nat → Prop} {u U : State} (hv : U.vm = u.vm) (hh : U.heap = u.heap) (h : fe A u) : fe A U := by
  have ha : u.vm.Alike U.vm := by rw [hv]; exact Vm.Alike.refl _
  unfold fe
  rw [hh]
  exact ⟨vx_Zq.moved ha h.1, vx_Zq.moved ha h.2.1, fun w hw => va_Nw.same (fB_ot w hw) hv.symm (h.2.2 w hw)⟩
theorem fe_call {A A1 : Nat → Prop} {u U : State} {H : Heap} {locs : List Loc} (hW : u.WarmedH U.vm) (hS : va_S A u.heap H locs) (hU : U.heap = H) (hA : ∀ q, A1 q → A q) (h : fe A u) : fe A1 U := by
  unfold fe
  rw [hU]
  refine ⟨((vx_Zq.moved hW.alike h.1).kept hS.2.1).narrow hA, ((vx_Zq.moved hW.alike h.2.1).kept hS.2.1).narrow hA, fun w hw => ?_⟩
  have hz := h.2.2 w hw
  unfold fB at hw
  rcases List.mem_cons.mp hw with rfl | hw
  · exact va_Nw.warmC hW hz
  rcases List.mem_cons.mp hw with rfl | hw
  · exact va_Nw.warmD hW hz
  rcases List.mem_cons.mp hw with rfl | hw
  · exact va_Nw.warmD hW hz
  rcases List.mem_cons.mp hw with rfl | hw
  · exact va_Nw.warmD hW hz
  · cases hw
section FH
variable {l : Launch} {D : va_G} {tys : List (ClassId × FieldType)} {dA : Nat → ClassId} {XS : List Int32} {a b c v : Int32} {x : Nat} {h : mm_H}
theorem fx0v : mm_FX (fun _ _ => True) l D mp_cl tys dA mp_TB (mp_P f0_0) XS mp_byt mp_sr mp_yy mp_bb := by
  intro p e R s m args below meth c Q d mt A ρ0 n0 z0 pc L st h pc' L' st' h' _ _ _ _ _ hs
  cases hs
abbrev fas (x : Nat) (a b c v : Int32) : List Value := [.ref x, .int a, .int b, .int c, .int v]
theorem fx_met1 (T : mm_XT mp_cl tys dA mp_TB (mp_P f0_0)) {r : Int32} (hr : sp_rests a b c v = some r) (hb : x < h.1) (hI : mm_I0 (mp_P f0_0) XS mp_byt h) (ρ : Nat → Nat) (sz : Nat) :
    Met l (mp_yy 205) (mm_wk mp_TB (mp_P f0_0) mp_yy mp_bb 205) (mm_rm 3 0 0) (va_Pc ((fas x a b c v).map (mm_tv ρ)) (mm_Pre D mp_cl tys dA (mp_P f0_0) XS mp_byt mp_sr ρ h sz)) (mm_Qc D mp_cl dA (va_A (mm_ws dA mp_ne ρ h) sz) (mp_P f0_0) XS mp_byt ρ h.1 h.2.1 (some (.int r)) h) 0 0 (va_A (mm_ws dA mp_ne ρ h) sz) := by
  obtain ⟨n, pcf, Lf, stf, hf, htr, rfl, hk⟩ := xr_tr (fx := f0_0) (d := 1) (x := x) (a := a) (b := b) (c := c) (v := v) (h := h)
  rcases hk with ⟨r', e1, rfl, hpc⟩ | ⟨e1, -⟩
  · rw [hr] at e1
    cases e1
    have hex : mm_ex (mp_P f0_0) n 3 205 0 (mm_ent (fas x a b c v) ((mp_P f0_0).2.1 205).2.1) [] hf = some (some (.int r), hf) := by
      refine mm_tr_ex _ _ _ _ _ _ _ _ _ _ _ _ htr ?_
      rcases hpc with rfl | rfl <;> rfl
    have M := mm_met (l := l) (D := D) (dA := dA) (mm_CW_of (mm_all (mp_GG f0_0) T fx0v n)) (mp_GG f0_0) T hex (by decide) (Nat.le_of_ble_eq_true rfl) (fun w hw => ?_) hI ρ sz
    · rw [Nat.sub_self, Nat.sub_self] at M
      exact M
    · rcases List.mem_cons.mp hw with rfl | hw
      · exact hb
      · rcases List.mem_cons.mp hw with rfl | hw
        · trivial
        · rcases List.mem_cons.mp hw with rfl | hw
          · trivial
          · rcases List.mem_cons.mp hw with rfl | hw
            · trivial
            · rcases List.mem_cons.mp hw with rfl | hw
              · trivial
              · cases hw
  · rw [hr] at e1; cases e1
end FH
