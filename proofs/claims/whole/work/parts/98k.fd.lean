section FK
variable {l : Launch} {D : va_G} {tys : List (ClassId × FieldType)} {dA : Nat → ClassId} {XS : List Int32} {a b c v : Int32} {x o : Nat} {h : mm_H}
theorem fe_blind {as : List Value} {ρ : Nat → Nat} {sz : Nat} {A : Nat → Prop} : FrameBlind (va_Pc (as.map (mm_tv ρ)) (fun U => mm_Pre D mp_cl tys dA (mp_P f0_0) XS mp_byt mp_sr ρ h sz U ∧ fe A U)) := by
  intro a U g mk q
  obtain ⟨q0, ⟨q1, qP, qK, qD, qE⟩, q2⟩ := q
  exact ⟨q0, ⟨q1, qP, va_K.moved (u := U) (U := U.calling g mk a) (Vm.Alike.refl U.vm) qK, qD, mm_EX.same (u := U) (U := U.calling g mk a) rfl rfl qE⟩, fe_same (u := U) (U := U.calling g mk a) rfl rfl q2⟩
theorem faL_bv {N : Nat} (hx : x < N) (ho : o < N) : ∀ w ∈ faL x o a b c v, mm_bv N w := by
  intro w hw
  rcases List.mem_cons.mp hw with rfl | hw
  · exact hx
  rcases List.mem_cons.mp hw with rfl | hw
  · trivial
  rcases List.mem_cons.mp hw with rfl | hw
  · trivial
  rcases List.mem_cons.mp hw with rfl | hw
  · trivial
  rcases List.mem_cons.mp hw with rfl | hw
  · trivial
  rcases List.mem_cons.mp hw with rfl | hw
  · exact ho
  · cases hw
theorem fx_metL1 (T : mm_XT mp_cl tys dA mp_TB (mp_P f0_0)) {r : Int32} {u : Int64} {fs : List Value} (hr : sp_rests a b c v = some r) (hx : h.2.2 x = mm_O 9 fs) (ho : h.2.2 o = mm_L [u]) (hxb : x < h.1) (hob : o < h.1) (hI : mm_I0 (mp_P f0_0) XS mp_byt h) (ρ : Nat → Nat) (sz : Nat) :
    Met l fy fwL (mm_rm 4 0 0) (va_Pc ((faL x o a b c v).map (mm_tv ρ)) (fun U => mm_Pre D mp_cl tys dA (mp_P f0_0) XS mp_byt mp_sr ρ h sz U ∧ fe (va_A (mm_ws dA mp_ne ρ h) sz) U)) (mm_Qc D mp_cl dA (va_A (mm_ws dA mp_ne ρ h) sz) (mp_P f0_0) XS mp_byt ρ h.1 h.2.1 (some (.int 0)) (mm_hs h o (.inr (.inl [r.toInt64])))) 0 0 (va_A (mm_ws dA mp_ne ρ h) sz) := by
  refine va_MetW (cc := method_3_code) (maxL := 7) (ret := some .int) (by decide) rfl ?_
  intro p e s m args below meth cc s₁ B hml hv
  obtain ⟨rfl, ⟨hsz, hP, hK, hD0, hE⟩, hfe⟩ := hv
  have hts := atoms_spec (ws := fwL) B.pre
  have hle := lv_entry ((faL x o a b c v).map (mm_tv ρ)) (n := 7) (by rw [mm_sl_len]; exact Nat.le_of_ble_eq_true rfl)
  rw [lg_entry_eq]
  generalize (lg_sl ((faL x o a b c v).map (mm_tv ρ)) ++ List.replicate (7 - (lg_sl ((faL x o a b c v).map (mm_tv ρ))).length) Slot.unset).toArray = ls at hle ⊢
  subst hsz
  generalize hA : va_A (mm_ws dA mp_ne ρ h) s.heap.size = A
  have hAs : ∀ q, s.heap.size ≤ q → A q := fun q hq => by rw [← hA]; exact Or.inr hq
  have X : mm_X p (mm_rm 4 0 0) s m ((faL x o a b c v).map (mm_tv ρ)).toArray cc method_3_code "RainGrammarLaw" 7 D mp_cl tys dA mp_TB A (mp_P f0_0) :=
    ⟨B.exec, B.bytes, hml, findClass_of_methodNamed B.named, fun w hw => hts w (List.mem_cons_of_mem _ hw), hK, hAs, ⟨by show 3 ≤ 7; omega, by show 80 ≤ 400; omega⟩, T.1, T.2⟩
  have hTB := X.2.2.2.2.1
  have K22 : mm_W p l e (mm_rm 4 0 0) s m ((faL x o a b c v).map (mm_tv ρ)).toArray below meth cc (MQ below (mm_Qc D mp_cl dA A (mp_P f0_0) XS mp_byt ρ h.1 h.2.1 (some (.int 0)) (mm_hs h o (.inr (.inl [r.toInt64])))) ((faL x o a b c v).map (mm_tv ρ)).toArray s 0 0 A) 7 D mp_cl dA A (mp_P f0_0) XS mp_byt mp_sr ρ h.1 h.2.1 22 (fL0 x o a b c v) [.int 0] (mm_hs h o (.inr (.inl [r.toInt64]))) := by
    intro ρ2 ls2 H2 locs2 S2
    obtain ⟨s1, s2, s3, s4, s5, s6, s7, s8, s9, s10, s11⟩ := S2
    show W p l e (mm_rm 4 0 0) s m ((faL x o a b c v).map (mm_tv ρ)).toArray below meth cc H2 locs2 ((h.1 - h.1) + (h.2.1 - h.2.1)) (h.2.1 - h.2.1) _ (F0 m 22 ls2 [.int 0])
    rw [Nat.sub_self, Nat.sub_self]
    exact W.iret (v := 0) X.1 X.2.1 B.returns (fun t ht hW => ⟨⟨ρ2, s11.2.2.2.2, rfl, (fun w hw => by cases hw; trivial), ⟨s4, s5, s6, s11.2.2.2.1⟩, ⟨s11.1, s11.2.1⟩, by rw [ht]; exact s7, s8⟩, s9.F ht⟩) s9.2.2 fl_22 (hlocks := B.notSynchronized)
  have K9 : mm_W p l e (mm_rm 4 0 0) s m ((faL x o a b c v).map (mm_tv ρ)).toArray below meth cc (MQ below (mm_Qc D mp_cl dA A (mp_P f0_0) XS mp_byt ρ h.1 h.2.1 (some (.int 0)) (mm_hs h o (.inr (.inl [r.toInt64])))) ((faL x o a b c v).map (mm_tv ρ)).toArray s 0 0 A) 7 D mp_cl dA A (mp_P f0_0) XS mp_byt mp_sr ρ h.1 h.2.1 9 (fL0 x o a b c v) (fst9 x o a b c v) h := by
    intro ρ1 ls1 H1 locs1 S1
    have S0 := S1
    obtain ⟨s1, s2, s3, s4, s5, s6, s7, s8, s9, s10, s11⟩ := S1
    have hI1 : mm_I0 (mp_P f0_0) XS mp_byt h := ⟨s4, s5, s6, s11.2.2.2.1⟩
    have M := fx_met1 (l := l) (D := D) T hr hxb hI1 ρ1 H1.size
    have hAA : ∀ q, va_A (mm_ws dA mp_ne ρ1 h) H1.size q → A q := by
      intro q hq
      rcases hq with ⟨j, y, hj⟩ | hq
      · exact s8.2 j (q, y) hj
      · exact hAs q (Nat.le_trans s9.1 hq)
    have hPc : ∀ U : State, U.heap = H1 → s.WarmedH U.vm → mm_Pre D mp_cl tys dA (mp_P f0_0) XS mp_byt mp_sr ρ1 h H1.size U := fun U hU hW =>
      ⟨by rw [hU], by rw [hU]; exact s7, va_K.moved hW.alike X.2.2.2.2.2.1, s8.weaken (fun _ _ _ _ => trivial), mm_EX.call hW s9 hU hAA s10⟩
    have hcell : ∃ cellB : Cell, H1[ρ1 x]? = some cellB ∧ cellB.vm.isStatics = false ∧ s.vm.findClass "RainGrammar" = some cellB.cls := by
      have hox : mp_ne ≤ x := mm_own S0 hx (show (9 : Nat) ≠ 900 by decide)
      have he := mm_at S0 hx hox hxb
      have hte : mm_te dA ρ1 (mm_O 9 fs) = (Sum.inr (9, fs.map (mm_tv ρ1)) : va_E) := rfl
      rw [hte] at he
      exact va_recv X.2.2.2.2.2.1 s7 fq_9 he
    have hGI := mm_goodIn (mp_GG f0_0) (gm_205 f0_0).1
    have hrun : va_Run p l e (mm_rm 4 0 0) s m ((faL x o a b c v).map (mm_tv ρ)).toArray below meth cc H1 locs1 ((h.1 - h.1) + (h.2.1 - h.2.1)) (h.2.1 - h.2.1) 0 0 (F0 m 9 ls1 ((fst9 x o a b c v).map (mm_tv ρ1))) (([.int 0, .ref o] : List Value).map (mm_tv ρ1)) (mm_Qc D mp_cl dA (va_A (mm_ws dA mp_ne ρ1 h) H1.size) (mp_P f0_0) XS mp_byt ρ1 h.1 h.2.1 (some (.int r)) h ((fas x a b c v).map (mm_tv ρ1)).toArray) (va_A (mm_ws dA mp_ne ρ1 h) H1.size) :=
      va_runV (n := 4) (C := "RainGrammar") (maxL := 9) (bytes := mp_bb 205) (index := 7) (own := "RainGrammarLaw") (As := ([.int a, .int b, .int c, .int v] : List Value)) (b := ρ1 x) ⟨X.1, X.2.1, X.2.2.1, X.2.2.2.1, hTB⟩ M ⟨callB_of 4 hTB hGI rfl rfl rfl (hTB _ fw_ini) (hTB _ fw_l7) ⟨by decide, by decide, by decide⟩ ⟨by decide, by decide⟩, hTB _ fw_im, hTB _ fw_sel⟩ ⟨mm_blind, hcell, fun U hU hW => ⟨rfl, hPc U hU hW⟩⟩ rfl rfl s1.2.1 rfl (by show 2 * 0 + (1 + (1 + 0)) ≤ 8; omega) fl_9 ⟨by rw [Nat.sub_self, Nat.sub_self]; exact Nat.le_refl _, by rw [Nat.sub_self]; exact Nat.le_refl _⟩
    refine mm_callQ hrun s9 (fun q _ hq => hAA q hq) hAA (fun ρ2 H2 locs2 q1 q2 q3 q4 q5 q6 q7 => ?_)
    have hrest : ∀ w ∈ ([.int r, .int 0, .ref o] : List Value), mm_bv h.1 w := by
      intro w hw
      rcases List.mem_cons.mp hw with rfl | hw
      · trivial
      rcases List.mem_cons.mp hw with rfl | hw
      · trivial
      rcases List.mem_cons.mp hw with rfl | hw
      · exact hob
      · cases hw
    have S2 : mm_S s 7 D mp_cl dA A (mp_P f0_0) XS mp_byt mp_sr ρ h.1 h.2.1 (fL0 x o a b c v) [.int r, .int 0, .ref o] h ρ2 ls1 H2 locs2 := by
      refine ⟨mm_LR_mono s1 q1 s2, s2, hrest, q3.1, q3.2.1, q3.2.2.1, q5, q6.weaken (fun j y _ hy => hAA y.1 hy), q7, s10.eq (fun i hi => q1 i ?_), s11.1, s11.2.1, s11.2.2.1, s11.2.2.2.1, fun i hi => (q1 i (Nat.lt_of_lt_of_le hi s11.1)).trans (s11.2.2.2.2 i hi)⟩
      have a1 := s11.2.2.2.1
      have a2 := s4.1
      omega
    have k1 := fx_tail X ho K22 ρ2 ls1 H2 locs2 S2
    have em : ([.int r, .int 0, .ref o] : List Value).map (mm_tv ρ2) = ((some (.int r) : Option Value).map (mm_tv ρ2)).toList ++ ([.int 0, .ref o] : List Value).map (mm_tv ρ1) := by
      show [Value.int r, .int 0, .ref (ρ2 o)] = [Value.int r, .int 0, .ref (ρ1 o)]
      rw [q1 o hob]
    rw [em] at k1
    exact k1
  have h2 := fx_walk X K9 ρ ls s.heap [] ⟨mm_ent_LR (n := 7) (Nat.le_of_ble_eq_true rfl) hle, mm_ent_bv (n := 7) (faL_bv hxb hob), (fun w hw => by cases hw), hI.1, hI.2.1, hI.2.2.1, hP, by rw [← hA]; exact hD0.self, va_S.rf, by rw [← hA]; exact hE, Nat.le_refl _, Nat.le_refl _, hI.1.1, hI.2.2.2, fun i _ => rfl⟩
  rw [Nat.sub_self, Nat.sub_self] at h2
  exact h2
end FK
