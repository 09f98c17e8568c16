def fm_b : Instr → Bool
  | .fmul => true
  | _ => false
theorem fm_c1 : mp_codes.all (fun c => c.all (fun i => !fm_b i)) = true := by decide +kernel
def fm_p : List Instr → Nat → List Nat
  | [], _ => []
  | i :: t, n => if fm_b i = true then n :: fm_p t (n + 1) else fm_p t (n + 1)
theorem fm_c2 : fm_p mc_5000 0 = [1138] := by decide +kernel
theorem fm_pm : ∀ (l : List Instr) (n j : Nat), l[j]? = some .fmul → n + j ∈ fm_p l n := by
  intro l
  induction l with
  | nil => intro n j h; cases h
  | cons i t ih =>
    intro n j h
    rw [fm_p]
    cases j with
    | zero =>
      have h : i = .fmul := by simpa using h
      subst h
      rw [if_pos (show fm_b Instr.fmul = true from rfl)]
      exact List.mem_cons_self
    | succ j =>
      have h : t[j]? = some .fmul := by simpa using h
      have h2 := ih (n + 1) j h
      rw [show n + 1 + j = n + (j + 1) by omega] at h2
      split
      · exact List.mem_cons_of_mem _ h2
      · exact h2
theorem fm_only {fx : List Value → mm_H → Option (List Value × mm_H)} {mt pc : Nat} (h : (mp_P fx).1 mt pc = .fmul) : mt = 5000 ∧ pc = 1138 := by
  have h : (mp_code mt).getD pc .nop = .fmul := h
  unfold mp_code at h
  by_cases e : mt = 5000
  · rw [if_pos e] at h
    refine ⟨e, ?_⟩
    rw [List.getD_eq_getElem?_getD] at h
    cases hi : mc_5000[pc]? with
    | none => rw [hi] at h; cases h
    | some i =>
      rw [hi] at h
      have h : i = .fmul := h
      rw [h] at hi
      have h2 := fm_pm mc_5000 0 pc hi
      rw [fm_c2, Nat.zero_add] at h2
      simpa using h2
  · rw [if_neg e] at h
    exfalso
    cases hc : mp_codes[mt]? with
    | none =>
      rw [List.getD_eq_getElem?_getD (l := mp_codes), hc] at h
      cases h
    | some cd =>
      rw [List.getD_eq_getElem?_getD (l := mp_codes), hc] at h
      have h : cd.getD pc .nop = .fmul := h
      rw [List.getD_eq_getElem?_getD] at h
      cases hi : cd[pc]? with
      | none => rw [hi] at h; cases h
      | some i =>
        rw [hi] at h
        have h : i = .fmul := h
        have h3 := List.all_eq_true.mp (List.all_eq_true.mp fm_c1 cd (List.mem_of_getElem? hc)) i (List.mem_of_getElem? hi)
        rw [h] at h3
        cases h3
theorem fxr_inv {st st' : List Value} {h h' : mm_H} (hf : fxr st h = some (st', h')) : ∃ (o x : Nat) (a b c d : Int32) (fs : List Value) (u : Int64), st = [.ref o, .int d, .int c, .int b, .int a, .ref x] ∧ h.2.2 x = mm_O 9 fs ∧ h.2.2 o = mm_L [u] ∧ ((sp_rests a b c d = none ∧ st' = [.int 1] ∧ h' = (h.1, h.2.1 + 6, h.2.2)) ∨ ∃ v, sp_rests a b c d = some v ∧ st' = [.int 0] ∧ h' = mm_hs h o (.inr (.inl [v.toInt64]))) := by
  unfold fxr at hf
  split at hf
  · rename_i o d c b a x
    split at hf
    · rename_i k fs u e1 e2
      split at hf
      · rename_i hk
        subst hk
        refine ⟨o, x, a, b, c, d, fs, u, rfl, e1, e2, ?_⟩
        split at hf
        · rename_i hr
          cases hf
          exact Or.inl ⟨hr, rfl, rfl⟩
        · rename_i v hr
          cases hf
          exact Or.inr ⟨v, hr, rfl, rfl⟩
      · cases hf
    · cases hf
  · cases hf
theorem fw_ru : Cond.isRef (.static Bundle.tN "UNASSIGNED_STACK" Bundle.steD) ∈ ms_FL := by decide +kernel
theorem fw_rs : Cond.isRef (.static Bundle.tN "SUPPRESSED_SENTINEL" Bundle.listD) ∈ ms_FL := by decide +kernel
theorem fd_law : decode (mp_bb 5000) 1138 = .ok (.invokestatic 165, 3) := by decide +kernel
def fz (s : State) (args : Array Value) (A : Nat → Prop) (R : Room) : Prop := (∀ w ∈ lw_tbl, w.before args s = true) ∧ (Jvm.Cond.and given_1 narrow_1).before args s = true ∧ (∀ q, A q → s.heap.size ≤ q) ∧ (8 ≤ R.frames ∧ 500 ≤ R.locals)
theorem fe_z {s : State} {args : Array Value} {A : Nat → Prop} {R : Room} (h : fz s args A R) : fe A s := by
  have hs := flat_of_before _ h.2.1
  have hA : ∀ a : Nat, a < s.heap.size → ¬ A a := fun a h1 h2 => by have := h.2.2.1 a h2; omega
  exact ⟨vx_Zqof (h.1 _ fw_lu) (h.1 _ fw_it) (hs _ fw_ru) hA, vx_Zqof (h.1 _ fw_ls) (h.1 _ fw_it) (hs _ fw_rs) hA, fun w hw => va_Nw.of (fB_ot w hw) (h.1 w (fw_fB w hw))⟩
theorem fg_L : GoodIn mp_TB (va_wsS "RainGrammarLaw" 165 fy fwL) := by
  have hm : ∀ w ∈ va_wsS "RainGrammarLaw" 165 fy fwL, w ∈ mp_TB := by
    intro w hw
    rcases List.mem_append.mp hw with hw | hw
    · rcases List.mem_cons.mp hw with rfl | hw
      · exact fw_link
      rcases List.mem_cons.mp hw with rfl | hw
      · exact fw_stat
      rcases List.mem_cons.mp hw with rfl | hw
      · exact fw_init
      · cases hw
    · rcases List.mem_cons.mp hw with rfl | hw
      · exact fw_code
      · exact hw
  exact fun w hw => ⟨hm w hw, good_of_word (List.all_eq_true.mp mp_TB_good w (hm w hw))⟩
section FM
variable {l : Launch} {D : va_G} {tys : List (ClassId × FieldType)} {dA : Nat → ClassId} {XS : List Int32}
theorem fx_ok (hl : l.stackTraces = false) : mm_FX2 fz l D mp_cl tys dA mp_TB (mp_P fxr) XS mp_byt mp_sr mp_yy mp_bb := by
  intro p e R s m args below meth c Q d mt A ρ0 n0 z0 pc L st h pc' L' st' h' X GM hZ hfm hR hs K
  obtain ⟨rfl, rfl⟩ := fm_only hfm
  have hz := hZ rfl
  have hfe := fe_z hz
  have T : mm_XT mp_cl tys dA mp_TB (mp_P f0_0) := X.2.2.2.2.2.2.2.2
  have hTB := X.2.2.2.2.1
  have hs2 : (match fxr st h with
    | some (st', h') => if h.1 ≤ h'.1 ∧ h.2.1 ≤ h'.2.1 then mm_nx (1138 + 3) L st' h' else none
    | none => none) = some (.inl (pc', L', st', h')) := hs
  split at hs2
  · rename_i st1 h1 hf
    split at hs2
    · cases hs2
      obtain ⟨o, x, a, b, cc, v, fs, u, rfl, hx, ho, hcase⟩ := fxr_inv hf
      intro ρ ls H locs S
      obtain ⟨s1, s2, s3, s4, s5, s6, s7, s8, s9, s10, s11⟩ := S
      have hI : mm_I0 (mp_P f0_0) XS mp_byt h := ⟨s4, s5, s6, s11.2.2.2.1⟩
      have hob : o < h.1 := s3 (.ref o) List.mem_cons_self
      have hxb : x < h.1 := s3 (.ref x) (List.mem_cons_of_mem _ (List.mem_cons_of_mem _ (List.mem_cons_of_mem _ (List.mem_cons_of_mem _ (List.mem_cons_of_mem _ List.mem_cons_self)))))
      have hAA : ∀ q, va_A (mm_ws dA mp_ne ρ h) H.size q → A q := by
        intro q hq
        rcases hq with ⟨j, y, hj⟩ | hq
        · exact s8.2 j (q, y) hj
        · exact X.2.2.2.2.2.2.1 q (Nat.le_trans s9.1 hq)
      have hPc : ∀ U : State, U.heap = H → s.WarmedH U.vm → mm_Pre D mp_cl tys dA (mp_P f0_0) XS mp_byt mp_sr ρ h H.size U ∧ fe (va_A (mm_ws dA mp_ne ρ h) H.size) U := fun U hU hW =>
        ⟨⟨by rw [hU], by rw [hU]; exact s7, va_K.moved hW.alike X.2.2.2.2.2.1, s8.weaken (fun _ _ _ _ => trivial), mm_EX.call hW s9 hU hAA s10⟩, fe_call hW s9 hU hAA hfe⟩
      have fin : ∀ (r1 : Int32) (k : Nat), st' = [.int r1] → h'.1 = h.1 → h'.2.1 = h.2.1 + k → Met l fy fwL (mm_rm 4 k k) (va_Pc ((faL x o a b cc v).map (mm_tv ρ)) (fun U => mm_Pre D mp_cl tys dA (mp_P f0_0) XS mp_byt mp_sr ρ h H.size U ∧ fe (va_A (mm_ws dA mp_ne ρ h) H.size) U)) (mm_Qc D mp_cl dA (va_A (mm_ws dA mp_ne ρ h) H.size) (mp_P f0_0) XS mp_byt ρ h.1 h.2.1 (some (.int r1)) h') k k (va_A (mm_ws dA mp_ne ρ h) H.size) → W p l e R s m args below meth c H locs ((h.1 - n0) + (h.2.1 - z0)) (h.2.1 - z0) Q (F0 m 1138 ls (([.ref o, .int v, .int cc, .int b, .int a, .ref x] : List Value).map (mm_tv ρ))) := by
        intro r1 k hst hh1 hh2 M
        subst hst
        have a1 := s11.1
        have a2 := s11.2.1
        have hR3 := hR.2.2.1
        have hR4 := hR.2.2.2
        have hfit : ((h.1 - n0) + (h.2.1 - z0)) + k ≤ R.cells ∧ (h.2.1 - z0) + k ≤ R.slots := by
          rw [hh1, hh2] at hR3
          rw [hh2] at hR4
          constructor <;> omega
        have hrun : va_Run p l e R s m args below meth c H locs ((h.1 - n0) + (h.2.1 - z0)) (h.2.1 - z0) k k (F0 m 1138 ls (([.ref o, .int v, .int cc, .int b, .int a, .ref x] : List Value).map (mm_tv ρ))) (([] : List Value).map (mm_tv ρ)) (mm_Qc D mp_cl dA (va_A (mm_ws dA mp_ne ρ h) H.size) (mp_P f0_0) XS mp_byt ρ h.1 h.2.1 (some (.int r1)) h' ((faL x o a b cc v).map (mm_tv ρ)).toArray) (va_A (mm_ws dA mp_ne ρ h) H.size) :=
          vx_runSW (n := 6) (index := 165) (own := "RainGrammarLaw") (cc := mp_bb 5000) (nL := 7) (Ts := mp_TB) (As := (faL x o a b cc v).map (mm_tv ρ)) ⟨X.1, X.2.1, X.2.2.1, X.2.2.2.1, hTB⟩ M (vx_cwSW 6 hTB fg_L rfl rfl rfl ⟨by decide, by decide, by decide⟩ ⟨by show 7 + 1 ≤ R.frames; exact hz.2.2.2.1, by show 8 + (7 + 11) + 400 ≤ R.locals; have := hz.2.2.2.2; omega⟩) ⟨fe_blind, fun U hU hW => ⟨rfl, hPc U hU hW⟩⟩ rfl rfl s1.2.1 rfl (by show 2 * 0 + 0 ≤ 8; omega) fd_law hfit
        refine mm_callQ hrun s9 (fun q _ hq => hAA q hq) hAA (fun ρ1 H1 locs1 q1 q2 q3 q4 q5 q6 q7 => ?_)
        have S1 : mm_S s 7 D mp_cl dA A (mp_P fxr) XS mp_byt mp_sr ρ0 n0 z0 L [.int r1] h' ρ1 ls H1 locs1 := by
          refine ⟨mm_LR_mono s1 q1 s2, fun i w hw => mm_bv_le q4.1 (s2 i w hw), fun w hw => ?_, q3.1, q3.2.1, q3.2.2.1, q5, q6.weaken (fun j y _ hy => hAA y.1 hy), q7, s10.eq (fun i hi => q1 i ?_), Nat.le_trans s11.1 q4.1, Nat.le_trans s11.2.1 q4.2, s11.2.2.1, s11.2.2.2.1, fun i hi => (q1 i (Nat.lt_of_lt_of_le hi s11.1)).trans (s11.2.2.2.2 i hi)⟩
          · rcases List.mem_cons.mp hw with rfl | hw
            · trivial
            · cases hw
          · have b1 := s11.2.2.2.1
            have b2 := s4.1
            omega
        have k1 := K ρ1 ls H1 locs1 S1
        exact W.cs (show (h.1 - n0) + (h.2.1 - z0) + k = (h'.1 - n0) + (h'.2.1 - z0) by omega) (show h.2.1 - z0 + k = h'.2.1 - z0 by omega) k1
      rcases hcase with ⟨hr, e1, e2⟩ | ⟨r, hr, e1, e2⟩
      · subst e2
        exact fin 1 6 e1 rfl rfl (fx_metL0 hl T hr hx ho hxb hob hI ρ H.size)
      · subst e2
        exact fin 0 0 e1 rfl rfl (fx_metL1 T hr hx ho hxb hob hI ρ H.size)
    · cases hs2
  · cases hs2
end FM
