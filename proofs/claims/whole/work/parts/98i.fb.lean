theorem fd_27 : decode (mp_bb 205) 27 = .ok (.new 288, 3) := by decide +kernel
theorem fd_30 : decode (mp_bb 205) 30 = .ok (.dup, 1) := by decide +kernel
theorem fd_31 : decode (mp_bb 205) 31 = .ok (.ldc_w 290, 3) := by decide +kernel
theorem fd_34 : decode (mp_bb 205) 34 = .ok (.invokespecial 292, 3) := by decide +kernel
theorem fd_37 : decode (mp_bb 205) 37 = .ok (.athrow, 1) := by decide +kernel
theorem fd_129 : decode (mp_bb 205) 129 = .ok (.new 288, 3) := by decide +kernel
theorem fd_132 : decode (mp_bb 205) 132 = .ok (.dup, 1) := by decide +kernel
theorem fd_133 : decode (mp_bb 205) 133 = .ok (.ldc_w 299, 3) := by decide +kernel
theorem fd_136 : decode (mp_bb 205) 136 = .ok (.invokespecial 292, 3) := by decide +kernel
theorem fd_139 : decode (mp_bb 205) 139 = .ok (.athrow, 1) := by decide +kernel
theorem fs_290 : (("RainGrammar", 290, "no such corner", 27) : String × Nat × String × Nat) ∈ mp_sr.1 := by decide +kernel
theorem fs_299 : (("RainGrammar", 299, "no such rest", 28) : String × Nat × String × Nat) ∈ mp_sr.1 := by decide +kernel
section FI
variable {l : Launch} {D : va_G} {tys : List (ClassId × FieldType)} {dA : Nat → ClassId} {XS : List Int32} {a b c v : Int32} {x : Nat} {h : mm_H}
/-- what is known where it has thrown -/
def fX (D : va_G) (dA : Nat → ClassId) (ρ : Nat → Nat) (h : mm_H) (A : Nat → Prop) : String → State → State → Prop := fun E st t => E = fN ∧ (∃ ρ1 : Nat → Nat, (∀ i, i < h.1 → ρ1 i = ρ i) ∧ va_P D mp_cl (mm_ws dA mp_ne ρ1 h) t.heap ∧ va_D A (mm_ws dA mp_ne ρ1 h)) ∧ va_F A st t
theorem fx_met0 (hl : l.stackTraces = false) (T : mm_XT mp_cl tys dA mp_TB (mp_P f0_0)) (hr : sp_rests a b c v = none) (hb : x < h.1) (hI : mm_I0 (mp_P f0_0) XS mp_byt h) (ρ : Nat → Nat) (sz : Nat) :
    vx_Met l (mp_yy 205) (mm_wk mp_TB (mp_P f0_0) mp_yy mp_bb 205) (mm_rm 3 6 6) (va_Pc ((fas x a b c v).map (mm_tv ρ)) (fun U => mm_Pre D mp_cl tys dA (mp_P f0_0) XS mp_byt mp_sr ρ h sz U ∧ fe (va_A (mm_ws dA mp_ne ρ h) sz) U)) (fun _ _ _ _ => False) (fX D dA ρ h (va_A (mm_ws dA mp_ne ρ h) sz)) 6 6 (va_A (mm_ws dA mp_ne ρ h) sz) := by
  refine vx_ofW (cc := mp_bb 205) (maxL := ((mp_P f0_0).2.1 205).2.1) (ret := ((mp_P f0_0).2.1 205).2.2.2) (gm_205 f0_0).2.1 rfl ?_
  intro p e s m args below meth cc s₁ B hml htab hv
  obtain ⟨rfl, ⟨hsz, hP, hK, hD0, hE⟩, hfe⟩ := hv
  have hts := atoms_spec (ws := mm_wk mp_TB (mp_P f0_0) mp_yy mp_bb 205) B.pre
  have hle := lv_entry ((fas x a b c v).map (mm_tv ρ)) (n := ((mp_P f0_0).2.1 205).2.1) (by rw [mm_sl_len]; exact Nat.le_of_ble_eq_true rfl)
  rw [lg_entry_eq]
  generalize (lg_sl ((fas x a b c v).map (mm_tv ρ)) ++ List.replicate (((mp_P f0_0).2.1 205).2.1 - (lg_sl ((fas x a b c v).map (mm_tv ρ))).length) Slot.unset).toArray = ls at hle ⊢
  subst hsz
  have X : mm_X p (mm_rm 3 6 6) s m ((fas x a b c v).map (mm_tv ρ)).toArray cc (mp_bb 205) (mp_yy 205).cls ((mp_P f0_0).2.1 205).2.1 D mp_cl tys dA mp_TB (va_A (mm_ws dA mp_ne ρ h) s.heap.size) (mp_P f0_0) :=
    ⟨B.exec, B.bytes, hml, findClass_of_methodNamed B.named, fun w hw => hts w (List.mem_cons_of_mem _ hw), hK, fun q hq => Or.inr hq, ⟨by show 3 ≤ 6; omega, by show 80 ≤ 320; omega⟩, T.1, T.2⟩
  obtain ⟨n, pcf, Lf, stf, hf, htr, rfl, hk⟩ := xr_tr (fx := f0_0) (d := 1) (x := x) (a := a) (b := b) (c := c) (v := v) (h := h)
  rcases hk with ⟨r', e1, -⟩ | ⟨-, rfl, hpc⟩
  · rw [hr] at e1; cases e1
  have hbv : ∀ w ∈ fas x a b c v, mm_bv hf.1 w := by
    intro w hw
    rcases List.mem_cons.mp hw with rfl | hw
    · exact hb
    · rcases List.mem_cons.mp hw with rfl | hw
      · trivial
      · rcases List.mem_cons.mp hw with rfl | hw
        · trivial
        · rcases List.mem_cons.mp hw with rfl | hw
          · trivial
          · rcases List.mem_cons.mp hw with rfl | hw
            · trivial
            · cases hw
  have hat : ∀ w ∈ fA.filter vx_no, w.before ((fas x a b c v).map (mm_tv ρ)).toArray s = true := vx_hat (fun w hw => X.2.2.2.2.1 w (fw_m (fw_at w hw) (List.mem_filter.mp hw).2)) fw_no (fun w hw => va_Nw.use (fB_ot w hw) (hfe.2.2 w hw))
  have K : mm_W p l e (mm_rm 3 6 6) s m ((fas x a b c v).map (mm_tv ρ)).toArray below meth cc (vx_MQ below (fun _ _ _ _ => False) (fX D dA ρ hf (va_A (mm_ws dA mp_ne ρ hf) s.heap.size)) ((fas x a b c v).map (mm_tv ρ)).toArray s 6 6 (va_A (mm_ws dA mp_ne ρ hf) s.heap.size)) ((mp_P f0_0).2.1 205).2.1 D mp_cl dA (va_A (mm_ws dA mp_ne ρ hf) s.heap.size) (mp_P f0_0) XS mp_byt mp_sr ρ hf.1 hf.2.1 pcf Lf [] hf := by
    intro ρ1 ls1 H1 locs1 S1
    obtain ⟨s1, s2, s3, s4, s5, s6, s7, s8, s9, s10, s11⟩ := S1
    rw [Nat.sub_self, Nat.sub_self]
    have hx : ∀ t : State, s.vm.Alike t.vm → H1.size ≤ t.heap.size → (∀ q : Nat, q < H1.size → t.heap[q]? = H1[q]?) → fX D dA ρ hf (va_A (mm_ws dA mp_ne ρ hf) s.heap.size) fN s t := fun t _ h1 h2 =>
      ⟨rfl, ⟨ρ1, s11.2.2.2.2, va_P.kept s7 (fun k q hk => h2 _ (s7 k q hk).lt), s8⟩, Nat.le_trans s9.1 h1, fun q hq hA => (h2 q (Nat.lt_of_lt_of_le hq s9.1)).trans (s9.2.1 q hq hA)⟩
    rcases hpc with rfl | rfl
    · exact fx_throw (cc := mp_bb 205) (pc := 27) X.1 X.2.1 hl X.2.2.2.1 (X.2.2.2.2.1 _ fw_c288) (X.2.2.2.2.1 _ fw_in) (s10.2.2.1 _ fs_290).2 hat fw_ot hfe.1 hfe.2.1 s9 (s1.2.1.trans X.2.2.1.symm) fd_27 fd_30 fd_31 fd_34 fd_37 (fun z hz => (htab z hz).elim) (by show 5 < 6; omega) (by show 0 + 82 ≤ 320; omega) (by show 0 + 0 + 1 ≤ 6; omega) (by show 0 + 6 ≤ 6; omega) B.notSynchronized hx s9.2.2 (by omega) (by omega)
    · exact fx_throw (cc := mp_bb 205) (pc := 129) X.1 X.2.1 hl X.2.2.2.1 (X.2.2.2.2.1 _ fw_c288) (X.2.2.2.2.1 _ fw_in) (s10.2.2.1 _ fs_299).2 hat fw_ot hfe.1 hfe.2.1 s9 (s1.2.1.trans X.2.2.1.symm) fd_129 fd_132 fd_133 fd_136 fd_139 (fun z hz => (htab z hz).elim) (by show 5 < 6; omega) (by show 0 + 82 ≤ 320; omega) (by show 0 + 0 + 1 ≤ 6; omega) (by show 0 + 6 ≤ 6; omega) B.notSynchronized hx s9.2.2 (by omega) (by omega)
  have h2 := mm_all (l := l) (D := D) (mp_GG f0_0) T fx0v n p e (mm_rm 3 6 6) s m _ below meth cc _ 3 205 (va_A (mm_ws dA mp_ne ρ hf) s.heap.size) ρ hf.1 hf.2.1 0 _ _ hf pcf Lf [] hf X (name_of_methodNamed B.named B.method).1 (gm_205 f0_0).2.2.2.2 (fun _ => trivial) ⟨Nat.le_refl _, Nat.le_refl _, by rw [Nat.sub_self, Nat.sub_self]; omega, by rw [Nat.sub_self]; omega⟩ htr K ρ ls s.heap [] ⟨mm_ent_LR (Nat.le_of_ble_eq_true rfl) hle, mm_ent_bv (n := 9) hbv, (fun w hw => by cases hw), hI.1, hI.2.1, hI.2.2.1, hP, hD0.self, va_S.rf, hE, Nat.le_refl _, Nat.le_refl _, hI.1.1, hI.2.2.2, fun i _ => rfl⟩
  rw [Nat.sub_self, Nat.sub_self] at h2
  exact h2
end FI
