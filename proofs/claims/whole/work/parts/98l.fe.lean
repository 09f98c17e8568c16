section FLL
variable {l : Launch} {D : va_G} {tys : List (ClassId × FieldType)} {dA : Nat → ClassId} {XS : List Int32} {a b c v : Int32} {x o : Nat} {h : mm_H}
theorem fx_metL0 (hl : l.stackTraces = false) (T : mm_XT mp_cl tys dA mp_TB (mp_P f0_0)) {u : Int64} {fs : List Value} (hr : sp_rests a b c v = none) (hx : h.2.2 x = mm_O 9 fs) (ho : h.2.2 o = mm_L [u]) (hxb : x < h.1) (hob : o < h.1) (hI : mm_I0 (mp_P f0_0) XS mp_byt h) (ρ : Nat → Nat) (sz : Nat) :
    Met l fy fwL (mm_rm 4 6 6) (va_Pc ((faL x o a b c v).map (mm_tv ρ)) (fun U => mm_Pre D mp_cl tys dA (mp_P f0_0) XS mp_byt mp_sr ρ h sz U ∧ fe (va_A (mm_ws dA mp_ne ρ h) sz) U)) (mm_Qc D mp_cl dA (va_A (mm_ws dA mp_ne ρ h) sz) (mp_P f0_0) XS mp_byt ρ h.1 h.2.1 (some (.int 1)) (h.1, h.2.1 + 6, h.2.2)) 6 6 (va_A (mm_ws dA mp_ne ρ h) sz) := by
  refine va_MetW (cc := method_3_code) (maxL := 7) (ret := some .int) (by decide) rfl ?_
  intro p e s m args below meth cc s₁ B hml hv
  obtain ⟨rfl, ⟨hsz, hP, hK, hD0, hE⟩, hfe⟩ := hv
  have hts := atoms_spec (ws := fwL) B.pre
  have htb : cc.exceptionTable.toList = tableOf [(0, 14, 17, 13)] := vx_table (x := fy) B (hts _ List.mem_cons_self)
  have hle := lv_entry ((faL x o a b c v).map (mm_tv ρ)) (n := 7) (by rw [mm_sl_len]; exact Nat.le_of_ble_eq_true rfl)
  rw [lg_entry_eq]
  generalize (lg_sl ((faL x o a b c v).map (mm_tv ρ)) ++ List.replicate (7 - (lg_sl ((faL x o a b c v).map (mm_tv ρ))).length) Slot.unset).toArray = ls at hle ⊢
  subst hsz
  generalize hA : va_A (mm_ws dA mp_ne ρ h) s.heap.size = A
  rw [hA] at hfe
  have hAs : ∀ q, s.heap.size ≤ q → A q := fun q hq => by rw [← hA]; exact Or.inr hq
  have X : mm_X p (mm_rm 4 6 6) s m ((faL x o a b c v).map (mm_tv ρ)).toArray cc method_3_code "RainGrammarLaw" 7 D mp_cl tys dA mp_TB A (mp_P f0_0) :=
    ⟨B.exec, B.bytes, hml, findClass_of_methodNamed B.named, fun w hw => hts w (List.mem_cons_of_mem _ hw), hK, hAs, ⟨by show 3 ≤ 7; omega, by show 80 ≤ 400; omega⟩, T.1, T.2⟩
  have hTB := X.2.2.2.2.1
  have hcast : (Cond.castable fN fN).before ((faL x o a b c v).map (mm_tv ρ)).toArray s = true := va_Nw.use rfl (hfe.2.2 _ List.mem_cons_self)
  have K9 : mm_W p l e (mm_rm 4 6 6) s m ((faL x o a b c v).map (mm_tv ρ)).toArray below meth cc (MQ below (mm_Qc D mp_cl dA A (mp_P f0_0) XS mp_byt ρ h.1 h.2.1 (some (.int 1)) (h.1, h.2.1 + 6, h.2.2)) ((faL x o a b c v).map (mm_tv ρ)).toArray s 6 6 A) 7 D mp_cl dA A (mp_P f0_0) XS mp_byt mp_sr ρ h.1 h.2.1 9 (fL0 x o a b c v) (fst9 x o a b c v) h := by
    intro ρ1 ls1 H1 locs1 S1
    have S0 := S1
    obtain ⟨s1, s2, s3, s4, s5, s6, s7, s8, s9, s10, s11⟩ := S1
    have hI1 : mm_I0 (mp_P f0_0) XS mp_byt h := ⟨s4, s5, s6, s11.2.2.2.1⟩
    have M := fx_met0 (l := l) (D := D) hl T hr hxb hI1 ρ1 H1.size
    have hAA : ∀ q, va_A (mm_ws dA mp_ne ρ1 h) H1.size q → A q := by
      intro q hq
      rcases hq with ⟨j, y, hj⟩ | hq
      · exact s8.2 j (q, y) hj
      · exact hAs q (Nat.le_trans s9.1 hq)
    have hPc : ∀ U : State, U.heap = H1 → s.WarmedH U.vm → mm_Pre D mp_cl tys dA (mp_P f0_0) XS mp_byt mp_sr ρ1 h H1.size U ∧ fe (va_A (mm_ws dA mp_ne ρ1 h) H1.size) U := fun U hU hW =>
      ⟨⟨by rw [hU], by rw [hU]; exact s7, va_K.moved hW.alike X.2.2.2.2.2.1, s8.weaken (fun _ _ _ _ => trivial), mm_EX.call hW s9 hU hAA s10⟩, fe_call hW s9 hU hAA hfe⟩
    have hcell : ∃ cellB : Cell, H1[ρ1 x]? = some cellB ∧ cellB.vm.isStatics = false ∧ s.vm.findClass "RainGrammar" = some cellB.cls := by
      have hox : mp_ne ≤ x := mm_own S0 hx (show (9 : Nat) ≠ 900 by decide)
      have he := mm_at S0 hx hox hxb
      have hte : mm_te dA ρ1 (mm_O 9 fs) = (Sum.inr (9, fs.map (mm_tv ρ1)) : va_E) := rfl
      rw [hte] at he
      exact va_recv X.2.2.2.2.2.1 s7 fq_9 he
    have hGI := mm_goodIn (mp_GG f0_0) (gm_205 f0_0).1
    have hrun : vx_Run p l e (mm_rm 4 6 6) s m ((faL x o a b c v).map (mm_tv ρ)).toArray below meth cc H1 locs1 ((h.1 - h.1) + (h.2.1 - h.2.1)) (h.2.1 - h.2.1) 6 6 (F0 m 9 ls1 ((fst9 x o a b c v).map (mm_tv ρ1))) (([.int 0, .ref o] : List Value).map (mm_tv ρ1)) (fun _ _ _ => False) (fX D dA ρ1 h (va_A (mm_ws dA mp_ne ρ1 h) H1.size)) (va_A (mm_ws dA mp_ne ρ1 h) H1.size) :=
      vx_runV (n := 4) (C := "RainGrammar") (maxL := 9) (bytes := mp_bb 205) (index := 7) (own := "RainGrammarLaw") (As := ([.int a, .int b, .int c, .int v] : List Value)) (b := ρ1 x) ⟨X.1, X.2.1, X.2.2.1, X.2.2.2.1, hTB⟩ M ⟨callB_of 4 hTB hGI rfl rfl rfl (hTB _ fw_ini) (hTB _ fw_l7) ⟨by decide, by decide, by decide⟩ ⟨by decide, by decide⟩, hTB _ fw_im, hTB _ fw_sel⟩ ⟨fe_blind, hcell, fun U hU hW => ⟨rfl, hPc U hU hW⟩⟩ rfl rfl s1.2.1 rfl (by show 2 * 0 + (1 + (1 + 0)) ≤ 8; omega) fl_9 ⟨by rw [Nat.sub_self, Nat.sub_self]; exact Nat.le_refl _, by rw [Nat.sub_self]; exact Nat.le_refl _⟩
    intro T1 hT1 Xs
    rcases hrun T1 hT1 Xs with ⟨v1, st₀, t, T', L, h0, X', hL, e1, e2, hF, -⟩ | ⟨q, st₀, t, T', L, E, ce, h0, X', hL, e1, e2, ⟨rfl, ⟨ρ2, w1, w2, w3⟩, hF⟩, hce, hcv, hcl, st⟩
    · exact hF.elim
    obtain ⟨k1, k2, k3⟩ := vx_keep h0 e1 s9 (fun q _ hq => hAA q hq) hAA hL hF
    have hc : vx_W p l e (mm_rm 4 6 6) s m ((faL x o a b c v).map (mm_tv ρ)).toArray below meth cc T'.heap (locs1 ++ L) ((h.1 - h.1) + (h.2.1 - h.2.1) + 6) (h.2.1 - h.2.1 + 6) (MQ below (mm_Qc D mp_cl dA A (mp_P f0_0) XS mp_byt ρ h.1 h.2.1 (some (.int 1)) (h.1, h.2.1 + 6, h.2.2)) ((faL x o a b c v).map (mm_tv ρ)).toArray s 6 6 A) (F0 m 9 ls1 (([.int 0, .ref o] : List Value).map (mm_tv ρ1))) q := by
      refine fx_catch (own := "RainGrammarLaw") (name := fN) (E := fN) (ce := ce) X.2.2.2.1 ⟨0, 14, 17, 13⟩ (by rw [htb]; rfl) (by decide) (by decide) (hTB _ fw_c13) hcast (by rw [e1]; exact hce) hcv hcl ?_
      refine lv_astore (x := q) X.1 X.2.1 fl_17 (mm_LR_has s1) (by decide) rfl (fun ls' _ => ?_)
      refine lv_iconst X.1 X.2.1 fl_19 (show Int32.ofInt 1 = 1 from rfl) ?_
      rw [Nat.sub_self, Nat.sub_self]
      refine W.iret (v := 1) X.1 X.2.1 B.returns (fun t1 ht hW => ⟨⟨ρ2, fun i hi => (w1 i hi).trans (s11.2.2.2.2 i hi), rfl, (fun w hw => by cases hw; trivial), ⟨s4, s5, s6, s11.2.2.2.1⟩, ⟨Nat.le_refl _, Nat.le_add_right _ _⟩, by rw [ht, e1]; exact w2, w3.weaken (fun j y _ hy => hAA y.1 hy)⟩, k3.F ht⟩) k3.2.2 fl_20 (hlocks := B.notSynchronized)
    obtain ⟨t2, a1, b1⟩ := hc T' rfl X'
    exact ⟨t2, st.trans a1, b1⟩
  have h2 := fx_walk X K9 ρ ls s.heap [] ⟨mm_ent_LR (n := 7) (Nat.le_of_ble_eq_true rfl) hle, mm_ent_bv (n := 7) (faL_bv hxb hob), (fun w hw => by cases hw), hI.1, hI.2.1, hI.2.2.1, hP, by rw [← hA]; exact hD0.self, va_S.rf, by rw [← hA]; exact hE, Nat.le_refl _, Nat.le_refl _, hI.1.1, hI.2.2.2, fun i _ => rfl⟩
  rw [Nat.sub_self, Nat.sub_self] at h2
  exact h2
end FLL
