/-! printed by wip/whole/gen98g.py -/
section MM9b
variable {l : Launch} {D : va_G} {cl : List vw_C} {tys : List (ClassId × FieldType)} {dA : Nat → ClassId} {TB : List Cond} {P : mm_P}
variable {xs : List Int32} {byt : List (List Int32)} {sr : mm_N} {yy : Nat → MethodName} {bb : Nat → ByteArray}
def mm_FX2 (Z : State → Array Value → (Nat → Prop) → Room → Prop) (l : Launch) (D : va_G) (cl : List vw_C) (tys : List (ClassId × FieldType)) (dA : Nat → ClassId) (TB : List Cond) (P : mm_P) (xs : List Int32) (byt : List (List Int32)) (sr : mm_N) (yy : Nat → MethodName) (bb : Nat → ByteArray) : Prop :=
  ∀ (p : Program) (e : Env) (R : Room) (s : State) (m : MethodId) (args : Array Value) (below : List Frame) (meth : Method) (c : Code) (Q : State → Prop) (d mt : Nat) (A : Nat → Prop) (ρ0 : Nat → Nat) (n0 z0 pc : Nat) (L : mm_V) (st : List Value) (h : mm_H) (pc' : Nat) (L' : mm_V) (st' : List Value) (h' : mm_H),
    mm_X p R s m args c (bb mt) (yy mt).cls (P.2.1 mt).2.1 D cl tys dA TB A P → (∀ pc, mm_G (bb mt) (yy mt).cls (yy mt).name cl TB sr P yy pc (P.1 mt pc)) → (mt = 5000 → Z s args A R) → P.1 mt pc = .fmul → (d + 3 ≤ R.frames ∧ 80 * (d + 1) ≤ R.locals ∧ (h'.1 - n0) + (h'.2.1 - z0) ≤ R.cells ∧ h'.2.1 - z0 ≤ R.slots) → mm_step P mt .fmul pc L st h = some (.inl (pc', L', st', h')) →
    mm_W p l e R s m args below meth c Q (P.2.1 mt).2.1 D cl dA A P xs byt sr ρ0 n0 z0 pc' L' st' h' → mm_W p l e R s m args below meth c Q (P.2.1 mt).2.1 D cl dA A P xs byt sr ρ0 n0 z0 pc L st h
def mm_TR2 (Z : State → Array Value → (Nat → Prop) → Room → Prop) (l : Launch) (D : va_G) (cl : List vw_C) (tys : List (ClassId × FieldType)) (dA : Nat → ClassId) (TB : List Cond) (P : mm_P) (xs : List Int32) (byt : List (List Int32)) (sr : mm_N) (yy : Nat → MethodName) (bb : Nat → ByteArray) (n : Nat) : Prop :=
  ∀ (p : Program) (e : Env) (R : Room) (s : State) (m : MethodId) (args : Array Value) (below : List Frame) (meth : Method) (c : Code) (Q : State → Prop) (d mt : Nat) (A : Nat → Prop) (ρ0 : Nat → Nat) (n0 z0 pc : Nat) (L : mm_V) (st : List Value) (h : mm_H) (pcf : Nat) (Lf : mm_V) (stf : List Value) (hf : mm_H),
    mm_X p R s m args c (bb mt) (yy mt).cls (P.2.1 mt).2.1 D cl tys dA TB A P → meth.name = (yy mt).name → (∀ pc, mm_G (bb mt) (yy mt).cls (yy mt).name cl TB sr P yy pc (P.1 mt pc)) → (mt = 5000 → Z s args A R) → (d + 3 ≤ R.frames ∧ 80 * (d + 1) ≤ R.locals ∧ (hf.1 - n0) + (hf.2.1 - z0) ≤ R.cells ∧ hf.2.1 - z0 ≤ R.slots) → mm_tr P n d mt pc L st h = some (pcf, Lf, stf, hf) →
    mm_W p l e R s m args below meth c Q (P.2.1 mt).2.1 D cl dA A P xs byt sr ρ0 n0 z0 pcf Lf stf hf → mm_W p l e R s m args below meth c Q (P.2.1 mt).2.1 D cl dA A P xs byt sr ρ0 n0 z0 pc L st h
theorem mm_CW_of2 {Z : State → Array Value → (Nat → Prop) → Room → Prop} {n : Nat} (C : mm_TR2 Z l D cl tys dA TB P xs byt sr yy bb n) : mm_CW l D cl tys dA TB P xs byt sr yy bb n := by
  intro p e s m args below meth c d mt A ρ0 n0 z0 pc L st h r hf X hret hlocks hname GM hmt hs
  obtain ⟨pcf, Lf, stf, htr, e1⟩ := mm_ex_tr _ _ _ _ _ _ _ _ _ hs
  refine C p e _ s m args below meth c _ d mt A ρ0 n0 z0 pc L st h pcf Lf stf hf X hname GM.2.2.2.2 (fun q => absurd q (Nat.ne_of_lt hmt)) ⟨Nat.le_refl _, Nat.le_refl _, Nat.le_refl _, Nat.le_refl _⟩ htr ?_
  have hg := GM.2.2.2.2 pcf
  intro ρ ls H locs S
  obtain ⟨s1, s2, s3, s4, s5, s6, s7, s8, s9, s10, s11⟩ := S
  have hQ : ∀ (r : Option Value), (∀ v, r = some v → mm_bv hf.1 v) → ∀ t : State, t.heap = H → s.WarmedH t.vm → mm_Qc D cl dA A P xs byt ρ0 n0 z0 r hf args s (.returned (r.map (mm_tv ρ))) t := fun r hr t ht hW =>
    ⟨⟨ρ, s11.2.2.2.2, rfl, hr, ⟨s4, s5, s6, s11.2.2.2.1⟩, ⟨s11.1, s11.2.1⟩, by rw [ht]; exact s7, s8⟩, s9.F ht⟩
  rcases mm_step_r e1 with ⟨hi, x, rfl, rfl, hr⟩ | ⟨hi, x, rfl, rfl, hr⟩ | ⟨hi, rfl, rfl, hr⟩ <;> rw [hi] at hg
  · unfold mm_ret at hr
    split at hr
    · rename_i ht hv
      exact W.iret (v := x) X.1 X.2.1 (hret.trans ht) (hQ (some (.int x)) (fun v hv => by cases hv; trivial)) s9.2.2 hg
    · rename_i y ht hv
      cases hv
      exact W.zret (v := x) X.1 X.2.1 (hret.trans ht) (of_decide_eq_true hr) (hQ (some (.int x)) (fun v hv => by cases hv; trivial)) s9.2.2 hg
    · rename_i y ht hv
      cases hv
      exact W.zret (v := x) X.1 X.2.1 (hret.trans ht) (of_decide_eq_true hr) (hQ (some (.int x)) (fun v hv => by cases hv; trivial)) s9.2.2 hg
    · rename_i y ht hv
      cases hv
      exact W.zret (v := x) X.1 X.2.1 (hret.trans ht) (of_decide_eq_true hr) (hQ (some (.int x)) (fun v hv => by cases hv; trivial)) s9.2.2 hg
    · rename_i ht hv
      cases hv
    · cases hr
  · unfold mm_ret at hr
    split at hr
    · rename_i ht hv
      cases hv
    · rename_i ht hv
      cases hv
    · rename_i ht hv
      cases hv
    · rename_i ht hv
      cases hv
    · rename_i ht hv
      exact W.lret (v := x) X.1 X.2.1 (hret.trans ht) (hQ (some (.long x)) (fun v hv => by cases hv; trivial)) s9.2.2 hg
    · cases hr
  · exact W.vret X.1 X.2.1 (hret.trans hr) (hQ none (fun v hv => by cases hv)) s9.2.2 hg
theorem mm_all2 (G : mm_GG cl TB sr P yy bb) (T : mm_XT cl tys dA TB P) {Z : State → Array Value → (Nat → Prop) → Room → Prop} (F : mm_FX2 Z l D cl tys dA TB P xs byt sr yy bb) : ∀ n, mm_TR2 Z l D cl tys dA TB P xs byt sr yy bb n := by
  intro n
  induction n with
  | zero => intro p e R s m args below meth c Q d mt A ρ0 n0 z0 pc L st h pcf Lf stf hf X hnm GM hZ hR hs; cases hs
  | succ n ih =>
    intro p e R s m args below meth c Q d mt A ρ0 n0 z0 pc L st h pcf Lf stf hf X hname GM hZ hR hs K
    have hg := GM pc
    rw [mm_tr] at hs
    split at hs
    · cases hs; exact K
    split at hs
    · cases hs
    · -- a step
      rename_i pc' L' st' h' e1
      have hm := mm_tr_m _ _ _ _ _ _ _ _ _ _ _ hs
      have kk := ih p e R s m args below meth c Q d mt A ρ0 n0 z0 pc' L' st' h' pcf Lf stf hf X hname GM hZ hR hs K
      by_cases hfm : P.1 mt pc = .fmul
      · rw [hfm] at e1
        exact F p e R s m args below meth c Q d mt A ρ0 n0 z0 pc L st h pc' L' st' h' X GM hZ hfm ⟨hR.1, hR.2.1, Nat.le_trans (Nat.add_le_add (Nat.sub_le_sub_right hm.1 _) (Nat.sub_le_sub_right hm.2 _)) hR.2.2.1, Nat.le_trans (Nat.sub_le_sub_right hm.2 _) hR.2.2.2⟩ e1 kk
      rw [← hname] at hg
      exact mm_go X hg hfm (Nat.le_trans (Nat.add_le_add (Nat.sub_le_sub_right hm.1 _) (Nat.sub_le_sub_right hm.2 _)) hR.2.2.1) (Nat.le_trans (Nat.sub_le_sub_right hm.2 _) hR.2.2.2) e1 kk
    · -- a call
      rename_i k as rest e1
      obtain ⟨hwho, hcall⟩ := mm_step_c e1
      obtain ⟨hk5, hlen, hw8, hwl, has, hrest⟩ := mm_call_c hcall
      split at hs
      · cases hs
      · rename_i d'
        split at hs
        · cases hs
        · rename_i r1 h1 e2
          intro ρ ls H locs S
          have S0 := S
          obtain ⟨s1, s2, s3, s4, s5, s6, s7, s8, s9, s10, s11⟩ := S
          have hm1 := mm_ex_m _ _ _ _ _ _ _ _ _ e2
          have hm2 := mm_tr_m _ _ _ _ _ _ _ _ _ _ _ hs
          have hI : mm_I0 P xs byt h := ⟨s4, s5, s6, s11.2.2.2.1⟩
          have hbas : ∀ v ∈ as, mm_bv h.1 v := fun v hv => s3 v (List.mem_of_mem_take (List.mem_reverse.mp (has ▸ hv)))
          have hbrest : ∀ v ∈ rest, mm_bv h.1 v := fun v hv => s3 v (List.mem_of_mem_drop (hrest ▸ hv))
          have M := mm_met (l := l) (D := D) (dA := dA) (mm_CW_of2 ih) G T e2 hk5 hwl hbas hI ρ H.size
          have hk0 : P.1 k 0 ≠ .nop := by
            intro q
            cases n with
            | zero => cases e2
            | succ n =>
              rw [mm_ex, q] at e2
              cases e2
          have GK := G.2 k hk5 hk0
          have hAA : ∀ q, va_A (mm_ws dA P.2.2.2.1 ρ h) H.size q → A q := by
            intro q hq
            rcases hq with ⟨j, x, hj⟩ | hq
            · exact s8.2 j (q, x) hj
            · exact X.2.2.2.2.2.2.1 q (Nat.le_trans s9.1 hq)
          have hPc : ∀ U : State, U.heap = H → s.WarmedH U.vm → mm_Pre D cl tys dA P xs byt sr ρ h H.size U := fun U hU hW =>
            ⟨by rw [hU], by rw [hU]; exact s7, va_K.moved hW.alike X.2.2.2.2.2.1, s8.weaken (fun _ _ _ _ => trivial), mm_EX.call hW s9 hU hAA s10⟩
          have hroom : (mm_rm d' ((h1.1 - h.1) + (h1.2.1 - h.2.1)) (h1.2.1 - h.2.1)).frames + 1 ≤ R.frames ∧ 8 + ((P.2.1 k).2.1 + 11) + (mm_rm d' ((h1.1 - h.1) + (h1.2.1 - h.2.1)) (h1.2.1 - h.2.1)).locals ≤ R.locals := by
            have := GK.2.2.2.1
            constructor
            · exact hR.1
            · refine Nat.le_trans ?_ hR.2.1
              show 8 + ((P.2.1 k).2.1 + 11) + 80 * (d' + 1) ≤ 80 * (d' + 1 + 1)
              omega
          have hfit : ((h.1 - n0) + (h.2.1 - z0)) + ((h1.1 - h.1) + (h1.2.1 - h.2.1)) ≤ R.cells ∧ (h.2.1 - z0) + (h1.2.1 - h.2.1) ≤ R.slots := by
            have q1 := s11.1
            have q2 := s11.2.1
            constructor
            · refine Nat.le_trans ?_ hR.2.2.1; omega
            · refine Nat.le_trans ?_ hR.2.2.2; omega
          have hGI := mm_goodIn G GK.1
          have hW8 : 2 * (F0 m pc ls (st.map (mm_tv ρ))).monitorRoom + ((rest.map (mm_tv ρ)).map fun v => v.category).sum ≤ 8 := by
            show 2 * 0 + _ ≤ 8
            rw [mm_words_tv]; omega
          have fix : CallFix p m c (bb mt) (P.2.1 mt).2.1 s args TB (yy mt).cls := ⟨X.1, X.2.1, X.2.2.1, X.2.2.2.1, X.2.2.2.2.1⟩
          have hstk : st.map (mm_tv ρ) = (as.map (mm_tv ρ)).reverse ++ rest.map (mm_tv ρ) := by
            rw [has, hrest, List.map_reverse, List.reverse_reverse, ← List.map_append, List.take_append_drop]
          have hrun : ∃ (aa : Array Value) (mmx : Unit), va_Run p l e R s m args below meth c H locs ((h.1 - n0) + (h.2.1 - z0)) (h.2.1 - z0) ((h1.1 - h.1) + (h1.2.1 - h.2.1)) (h1.2.1 - h.2.1) (F0 m pc ls (st.map (mm_tv ρ))) (rest.map (mm_tv ρ)) (mm_Qc D cl dA (va_A (mm_ws dA P.2.2.2.1 ρ h) H.size) P xs byt ρ h.1 h.2.1 r1 h1 aa) (va_A (mm_ws dA P.2.2.2.1 ρ h) H.size) := by
            rcases hwho with hi | ⟨hi, hrv⟩ | ⟨hi, hrv⟩
            · rw [hi] at hg
              obtain ⟨ix, g1, g2, g3, g4, g5⟩ := hg
              have hlA : (as.map (mm_tv ρ)).length = (P.2.1 k).1 := by
                rw [List.length_map, has, List.length_reverse, List.length_take]
                omega
              rcases g2 with g2 | ⟨host, g2⟩
              · exact ⟨(as.map (mm_tv ρ)).toArray, (), va_runS (As := as.map (mm_tv ρ)) (n := (P.2.1 k).1) fix M ⟨callB_of (P.2.1 k).1 X.2.2.2.2.1 hGI rfl rfl rfl (X.2.2.2.2.1 _ g4) (X.2.2.2.2.1 _ g2) ⟨GK.2.2.1.1, GK.2.2.1.2, g5⟩ hroom, X.2.2.2.2.1 _ g3⟩ ⟨mm_blind, fun U hU hW => ⟨rfl, hPc U hU hW⟩⟩ rfl hlA s1.2.1 hstk hW8 g1 hfit⟩
              · exact ⟨(as.map (mm_tv ρ)).toArray, (), va_runSN (As := as.map (mm_tv ρ)) (n := (P.2.1 k).1) (maxL := (P.2.1 k).2.1) (bytes := bb k) (host := host) fix M ⟨va_cnB (P.2.1 k).1 X.2.2.2.2.1 hGI rfl rfl rfl (s10.2.2.2.2.1 _ g2) (X.2.2.2.2.1 _ g4) ⟨GK.2.2.1.1, GK.2.2.1.2, g5⟩ hroom, X.2.2.2.2.1 _ g3, trivial⟩ ⟨mm_blind, fun U hU hW => ⟨rfl, hPc U hU hW⟩⟩ rfl hlA s1.2.1 hstk hW8 g1 hfit⟩
            · rw [hi] at hg
              obtain ⟨ix, a, g1, g2, g3, g4, g5, g6, g7, g8⟩ := hg
              obtain ⟨b, fs, hb1, hb2⟩ := mm_recv_c hrv g6
              have has2 : as = .ref b :: (st.take a).reverse := by
                rw [has, g6, List.take_succ, hb1]
                simp
              have has3 : as.map (mm_tv ρ) = .ref (ρ b) :: ((st.take a).reverse).map (mm_tv ρ) := by rw [has2]; rfl
              have hlen2 : (((st.take a).reverse).map (mm_tv ρ)).length = a := by
                rw [List.length_map, List.length_reverse, List.length_take]
                omega
              have hstk2 : st.map (mm_tv ρ) = (((st.take a).reverse).map (mm_tv ρ)).reverse ++ .ref (ρ b) :: rest.map (mm_tv ρ) := by
                rw [hstk, has3, List.reverse_cons, List.append_assoc]
                rfl
              have hpS : PreS s H (va_Pc (as.map (mm_tv ρ)) (mm_Pre D cl tys dA P xs byt sr ρ h H.size)) (.ref (ρ b) :: ((st.take a).reverse).map (mm_tv ρ)) := ⟨mm_blind, fun U hU hW => ⟨by rw [has3], hPc U hU hW⟩⟩
              rcases g2 with g2 | ⟨host, g2⟩
              · refine ⟨(.ref (ρ b) :: ((st.take a).reverse).map (mm_tv ρ)).toArray, (), va_runI (n := a) (maxL := (P.2.1 k).2.1) (bytes := bb k) fix M ⟨?_, g3, X.2.2.2.2.1 _ g4⟩ hpS rfl hlen2 s1.2.1 hstk2 hW8 g1 hfit⟩
                rw [← g7]
                exact callB_of a X.2.2.2.2.1 hGI rfl rfl rfl (X.2.2.2.2.1 _ g5) (X.2.2.2.2.1 _ g2) ⟨GK.2.2.1.1, GK.2.2.1.2, g8⟩ hroom
              · refine ⟨(.ref (ρ b) :: ((st.take a).reverse).map (mm_tv ρ)).toArray, (), va_runIN (n := a) (maxL := (P.2.1 k).2.1) (bytes := bb k) (host := host) fix M ⟨?_, g3, X.2.2.2.2.1 _ g4⟩ hpS rfl hlen2 s1.2.1 hstk2 hW8 g1 hfit⟩
                rw [← g7]
                exact va_cnB a X.2.2.2.2.1 hGI rfl rfl rfl (s10.2.2.2.2.1 _ g2) (X.2.2.2.2.1 _ g5) ⟨GK.2.2.1.1, GK.2.2.1.2, g8⟩ hroom
            · rw [hi] at hg
              obtain ⟨ix, a, g1, g2, g3, g4, g5, g6, g7, g8⟩ := hg
              obtain ⟨b, fs, hb1, hb2⟩ := mm_recv_c hrv g6
              have has2 : as = .ref b :: (st.take a).reverse := by
                rw [has, g6, List.take_succ, hb1]
                simp
              have has3 : as.map (mm_tv ρ) = .ref (ρ b) :: ((st.take a).reverse).map (mm_tv ρ) := by rw [has2]; rfl
              have hlen2 : (((st.take a).reverse).map (mm_tv ρ)).length = a := by
                rw [List.length_map, List.length_reverse, List.length_take]
                omega
              have hstk2 : st.map (mm_tv ρ) = (((st.take a).reverse).map (mm_tv ρ)).reverse ++ .ref (ρ b) :: rest.map (mm_tv ρ) := by
                rw [hstk, has3, List.reverse_cons, List.append_assoc]
                rfl
              have hbb : b < h.1 := s3 (.ref b) (List.mem_of_getElem? hb1)
              have hcell : ∃ cellB : Cell, H[ρ b]? = some cellB ∧ cellB.vm.isStatics = false ∧ s.vm.findClass (yy k).cls = some cellB.cls := by
                rcases g8 with ⟨q, hq, hqn⟩ | ⟨h9, hqn⟩
                · have hci := (T.2 _ _ hq).1
                  have ho : P.2.2.2.1 ≤ b := mm_own S0 hb2 (show (P.2.1 k).2.2.1 ≠ 900 by omega)
                  have he := mm_at S0 hb2 ho hbb
                  rw [show mm_te dA ρ (.inr (.inr ((P.2.1 k).2.2.1, fs))) = .inr ((P.2.1 k).2.2.1, fs.map (mm_tv ρ)) from if_neg (by omega)] at he
                  rw [← hqn]
                  exact va_recv X.2.2.2.2.2.1 s7 hq he
                · rw [h9] at hb2
                  have hlt : b < P.2.2.2.1 := by
                    apply Nat.lt_of_not_le
                    intro ho
                    have hkc := s6 b ho hbb
                    rw [hb2] at hkc
                    have h8 : 900 < 900 ∨ 900 = 1000 + P.2.2.2.2.1 := hkc
                    omega
                  have e9 := s5 b hlt
                  rw [hb2] at e9
                  rcases mm_x0_c xs byt b with ⟨-, q⟩ | ⟨j, hj, q⟩ | ⟨j, hj, q⟩ <;> rw [q] at e9
                  · cases e9
                  · have hjN : j < byt.length := by
                      have h5 : P.2.2.2.1 = 1 + 2 * byt.length := s11.2.2.2.1
                      rw [h5, hj] at hlt
                      exact Nat.lt_of_mul_lt_mul_left (Nat.lt_of_add_lt_add_left hlt)
                    have h7 := vk_recv s10.2.1 hjN s9
                    rw [hj, hqn]
                    exact h7
                  · cases e9
              exact ⟨(.ref (ρ b) :: ((st.take a).reverse).map (mm_tv ρ)).toArray, (), va_runV (n := a) (C := (yy k).cls) fix M ⟨callB_of a X.2.2.2.2.1 hGI rfl rfl rfl (X.2.2.2.2.1 _ g5) (X.2.2.2.2.1 _ g2) ⟨GK.2.2.1.1, GK.2.2.1.2, g7⟩ hroom, X.2.2.2.2.1 _ g3, X.2.2.2.2.1 _ g4⟩ ⟨mm_blind, hcell, fun U hU hW => ⟨by rw [has3], hPc U hU hW⟩⟩ rfl hlen2 s1.2.1 hstk2 hW8 g1 hfit⟩
          obtain ⟨aa, -, hrun⟩ := hrun
          refine mm_callQ hrun s9 (fun q _ hq => hAA q hq) hAA (fun ρ1 H1 locs1 q1 q2 q3 q4 q5 q6 q7 => ?_)
          have S1 : mm_S s (P.2.1 mt).2.1 D cl dA A P xs byt sr ρ0 n0 z0 L (r1.toList ++ rest) h1 ρ1 ls H1 locs1 := by
            refine ⟨mm_LR_mono s1 q1 s2, fun i v hv => mm_bv_le q4.1 (s2 i v hv), fun v hv => ?_, q3.1, q3.2.1, q3.2.2.1, q5, q6.weaken (fun j x _ hx => hAA x.1 hx), q7, s10.eq (fun i hi => q1 i ?_), Nat.le_trans s11.1 q4.1, Nat.le_trans s11.2.1 q4.2, s11.2.2.1, s11.2.2.2.1, fun i hi => (q1 i (Nat.lt_of_lt_of_le hi s11.1)).trans (s11.2.2.2.2 i hi)⟩
            · rcases List.mem_append.mp hv with hv | hv
              · cases r1 with
                | none => cases hv
                | some w =>
                  have hvw : v = w := by simpa using hv
                  rw [hvw]
                  exact q2 w rfl
              · exact mm_bv_le q4.1 (hbrest v hv)
            · have a1 := s11.2.2.2.1
              have a2 := s4.1
              omega
          have k1 := ih p e R s m args below meth c Q (d' + 1) mt A ρ0 n0 z0 (pc + 3) L (r1.toList ++ rest) h1 pcf Lf stf hf X hname GM hZ hR hs K ρ1 ls H1 locs1 S1
          have em : (r1.toList ++ rest).map (mm_tv ρ1) = (r1.map (mm_tv ρ1)).toList ++ rest.map (mm_tv ρ) := by
            rw [List.map_append]
            congr 1
            · cases r1 <;> rfl
            · exact List.map_congr_left (fun v hv => mm_tv_eq q1 (hbrest v hv))
          rw [em] at k1
          have a1 := s11.1
          have a2 := s11.2.1
          exact W.cs (show (h.1 - n0) + (h.2.1 - z0) + ((h1.1 - h.1) + (h1.2.1 - h.2.1)) = (h1.1 - n0) + (h1.2.1 - z0) by omega) (show h.2.1 - z0 + (h1.2.1 - h.2.1) = h1.2.1 - z0 by omega) k1
    · cases hs
end MM9b
theorem ms_whole2 (fx : List Value → mm_H → Option (List Value × mm_H)) {Z : State → Array Value → (Nat → Prop) → Room → Prop} (l : Launch) (hZ : ∀ (s : State) (b : Nat), (∀ w ∈ lw_tbl, w.before #[Value.ref b] s = true) → (Jvm.Cond.and given_1 narrow_1).before #[Value.ref b] s = true → Z s #[Value.ref b] (fun q => s.heap.size ≤ q) room_1)
    (F : ∀ (D : va_G) (tys : List (ClassId × FieldType)) (dA : Nat → ClassId) (XS : List Int32), mm_FX2 Z l D mp_cl tys dA mp_TB (mp_P fx) XS mp_byt mp_sr mp_yy mp_bb)
    (PURE : ∀ XS : List Int32, XS.length ≤ 448 → ∃ (n : Nat) (hf : mm_H), mm_ex (mp_P fx) n 900 5000 0 (mm_ent [.ref 0] 7) [] (mp_ne, 0, mm_x0 XS mp_byt) = some (some (.int 1), hf) ∧ (hf.1 - mp_ne) + hf.2.1 ≤ 600128 ∧ hf.2.1 ≤ 7301098)
    {p : Program} {e : Env} {s : State} {m : MethodId} {below : List Frame} {meth : Method} {c : Code} (hname : meth.name = x.name) {b L : Nat} {xs : Nat → Int32} (hL : L ≤ 448) (C0 : lw_At p s m meth c b L xs) : W p l e room_1 s m #[Value.ref b] below meth c s.heap [] 0 0 (lw_Z below #[Value.ref b] s) (entryFrame m ([Value.ref b] : List Value).toArray 7) := by
  obtain ⟨hx, hb, hr, hml, hown, hts, hX, hbl, hlk, hgv⟩ := C0
  obtain ⟨D, tys, dA, ρ, XS, hXL, hr0, hK, hT, hE⟩ := ms_start fx hts hX hbl hgv
  obtain ⟨n, hf, hrun, hcells, hslots⟩ := PURE XS (by rw [hXL]; exact hL)
  have hTB : ∀ w ∈ mp_TB, w.before #[Value.ref b] s = true := fun w hw => hts w (List.mem_filter.mp hw).1
  obtain ⟨pcf, Lf, stf, htr, e1⟩ := mm_ex_tr _ _ _ _ _ _ _ _ _ hrun
  have TR := mm_all2 (l := l) (D := D) (mp_GG fx) hT (F D tys dA XS) n
  have X : mm_X p room_1 s m #[Value.ref b] c (mp_bb 5000) (mp_yy 5000).cls ((mp_P fx).2.1 5000).2.1 D mp_cl tys dA mp_TB (fun q => s.heap.size ≤ q) (mp_P fx) :=
    ⟨hx, hb, hml, hown, hTB, hK, fun q h => h, ⟨by decide, by decide⟩, hT.1, hT.2⟩
  have hI : mm_I0 (mp_P fx) XS mp_byt (mp_ne, 0, mm_x0 XS mp_byt) := by
    refine ⟨⟨Nat.le_refl _, fun i hi => ?_⟩, fun i _ => rfl, fun i h1 h2 => absurd h2 (Nat.not_lt_of_le h1), ms_ne⟩
    show mm_bc mp_ne (mm_x0 XS mp_byt i)
    have hi' : i < mp_ne := hi
    rcases mm_x0_c XS mp_byt i with ⟨-, q⟩ | ⟨j, hj, q⟩ | ⟨j, -, q⟩ <;> rw [q]
    · trivial
    · intro v hv
      rcases List.mem_cons.mp hv with rfl | hv
      · show 2 + 2 * j < mp_ne
        rw [ms_ne] at hi' ⊢
        omega
      · rcases List.mem_cons.mp hv with rfl | hv
        · trivial
        · cases hv
    · trivial
  have hws : mm_ws dA mp_ne ρ (mp_ne, 0, mm_x0 XS mp_byt) = [] := by
    unfold mm_ws
    rw [Nat.sub_self]
    rfl
  have hPw : va_P D mp_cl (mm_ws dA (mp_P fx).2.2.2.1 ρ (mp_ne, 0, mm_x0 XS mp_byt)) s.heap := by
    show va_P D mp_cl (mm_ws dA mp_ne ρ (mp_ne, 0, mm_x0 XS mp_byt)) s.heap
    rw [hws]
    intro k q hq
    cases hq
  have hDw : va_D (fun q => s.heap.size ≤ q) (mm_ws dA (mp_P fx).2.2.2.1 ρ (mp_ne, 0, mm_x0 XS mp_byt)) := by
    show va_D (fun q => s.heap.size ≤ q) (mm_ws dA mp_ne ρ (mp_ne, 0, mm_x0 XS mp_byt))
    rw [hws]
    refine ⟨fun i j p q hp => ?_, fun k q hq => ?_⟩
    · cases hp
    · cases hq
  have hv0 : ∀ v ∈ ([.ref 0] : List Value), mm_bv mp_ne v := by
    intro v hv
    have h9 : v = .ref 0 := by simpa using hv
    rw [h9]
    show 0 < mp_ne
    decide
  have hl := lv_entry (([.ref 0] : List Value).map (mm_tv ρ)) (n := 7) (Nat.le_of_ble_eq_true rfl)
  have hargs : ([.ref 0] : List Value).map (mm_tv ρ) = [.ref b] := by rw [← hr0]; rfl
  rw [hargs] at hl
  rw [lg_entry_eq]
  generalize (lg_sl [.ref b] ++ List.replicate (7 - (lg_sl [.ref b]).length) Slot.unset).toArray = ls at hl ⊢
  rw [← hargs] at hl
  have h2 := TR p e room_1 s m #[Value.ref b] below meth c (lw_Z below #[Value.ref b] s) 900 5000 (fun q => s.heap.size ≤ q) ρ mp_ne 0 0 (mm_ent [.ref 0] 7) [] (mp_ne, 0, mm_x0 XS mp_byt) pcf Lf stf hf X hname (gi_5000 fx) (fun _ => hZ s b hts hgv) ⟨by decide, by decide, hcells, hslots⟩ htr ?_ ρ ls s.heap []
    ⟨mm_ent_LR (by decide) hl, mm_ent_bv hv0, (fun v hv => by cases hv), hI.1, hI.2.1, hI.2.2.1, hPw, hDw, va_S.rf, hE, Nat.le_refl _, Nat.le_refl _, Nat.le_refl _, ms_ne, fun i _ => rfl⟩
  · rw [show ((mp_ne, 0, mm_x0 XS mp_byt) : mm_H).1 = mp_ne from rfl, Nat.sub_self] at h2
    exact h2
  · intro ρ1 ls1 H1 locs1 S1
    rcases mm_step_r e1 with ⟨hi, v, rfl, hv, hr1⟩ | ⟨hi, v, rfl, hv, hr1⟩ | ⟨hi, rfl, hv, hr1⟩
    · cases hv
      have hg := gi_5000 fx pcf
      rw [hi] at hg
      refine va_forget (fun q hq => S1.2.2.2.2.2.2.2.2.1.2.2 q hq) ?_
      refine W.widen hcells hslots ?_
      exact lw_ret hx hb hr hlk hg
    · cases hv
    · cases hv
