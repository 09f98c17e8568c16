theorem fl_0 : decode method_3_code 0 = .ok (.aload 5, 2) := by decide +kernel
theorem fl_2 : decode method_3_code 2 = .ok (.iconst 0, 1) := by decide +kernel
theorem fl_3 : decode method_3_code 3 = .ok (.aload_n 0, 1) := by decide +kernel
theorem fl_4 : decode method_3_code 4 = .ok (.iload_n 1, 1) := by decide +kernel
theorem fl_5 : decode method_3_code 5 = .ok (.iload_n 2, 1) := by decide +kernel
theorem fl_6 : decode method_3_code 6 = .ok (.iload_n 3, 1) := by decide +kernel
theorem fl_7 : decode method_3_code 7 = .ok (.iload 4, 2) := by decide +kernel
theorem fl_9 : decode method_3_code 9 = .ok (.invokevirtual 7, 3) := by decide +kernel
theorem fl_12 : decode method_3_code 12 = .ok (.i2l, 1) := by decide +kernel
theorem fl_13 : decode method_3_code 13 = .ok (.lastore, 1) := by decide +kernel
theorem fl_14 : decode method_3_code 14 = .ok (.goto 7, 3) := by decide +kernel
theorem fl_17 : decode method_3_code 17 = .ok (.astore 6, 2) := by decide +kernel
theorem fl_19 : decode method_3_code 19 = .ok (.iconst 1, 1) := by decide +kernel
theorem fl_20 : decode method_3_code 20 = .ok (.ireturn, 1) := by decide +kernel
theorem fl_21 : decode method_3_code 21 = .ok (.iconst 0, 1) := by decide +kernel
theorem fl_22 : decode method_3_code 22 = .ok (.ireturn, 1) := by decide +kernel
theorem fq_9 : mp_cl[9]? = some ("RainGrammar", mp_F9, 16) := rfl
abbrev faL (x o : Nat) (a b c v : Int32) : List Value := [.ref x, .int a, .int b, .int c, .int v, .ref o]
abbrev fL0 (x o : Nat) (a b c v : Int32) : mm_V := [some (.ref x), some (.int a), some (.int b), some (.int c), some (.int v), some (.ref o), none]
abbrev fst9 (x o : Nat) (a b c v : Int32) : List Value := [.int v, .int c, .int b, .int a, .ref x, .int 0, .ref o]
abbrev fwL : List Cond := Cond.codeWith fy method_3_code 7 (some .int) [(0, 14, 17, 13)] :: mp_TB
section FJ
variable {p : Program} {l : Launch} {e : Env} {R : Room} {s : State} {m : MethodId} {args : Array Value} {below : List Frame} {meth : Method} {cc : Code} {Q : State → Prop}
variable {D : va_G} {tys : List (ClassId × FieldType)} {dA : Nat → ClassId} {A : Nat → Prop} {XS : List Int32} {ρ0 : Nat → Nat} {n0 z0 : Nat} {a b c v : Int32} {x o : Nat} {h : mm_H}
/-- up to the call -/
theorem fx_walk (X : mm_X p R s m args cc method_3_code "RainGrammarLaw" 7 D mp_cl tys dA mp_TB A (mp_P f0_0)) (K : mm_W p l e R s m args below meth cc Q 7 D mp_cl dA A (mp_P f0_0) XS mp_byt mp_sr ρ0 n0 z0 9 (fL0 x o a b c v) (fst9 x o a b c v) h) : mm_W p l e R s m args below meth cc Q 7 D mp_cl dA A (mp_P f0_0) XS mp_byt mp_sr ρ0 n0 z0 0 (fL0 x o a b c v) [] h := by
  refine mg_aload (mt := 205) (pc' := 2) (L' := fL0 x o a b c v) (st' := [.ref o]) (h' := h) X fl_0 rfl ?_
  refine mg_iconst (mt := 205) (pc' := 3) (L' := fL0 x o a b c v) (st' := [.int 0, .ref o]) (h' := h) X fl_2 rfl ?_
  refine mg_aload_n (mt := 205) (pc' := 4) (L' := fL0 x o a b c v) (st' := [.ref x, .int 0, .ref o]) (h' := h) X fl_3 rfl ?_
  refine mg_iload_n (mt := 205) (pc' := 5) (L' := fL0 x o a b c v) (st' := [.int a, .ref x, .int 0, .ref o]) (h' := h) X fl_4 rfl ?_
  refine mg_iload_n (mt := 205) (pc' := 6) (L' := fL0 x o a b c v) (st' := [.int b, .int a, .ref x, .int 0, .ref o]) (h' := h) X fl_5 rfl ?_
  refine mg_iload_n (mt := 205) (pc' := 7) (L' := fL0 x o a b c v) (st' := [.int c, .int b, .int a, .ref x, .int 0, .ref o]) (h' := h) X fl_6 rfl ?_
  exact mg_iload (mt := 205) (pc' := 9) (L' := fL0 x o a b c v) (st' := fst9 x o a b c v) (h' := h) X fl_7 rfl K
/-- from the call on -/
theorem fx_tail {r : Int32} {u : Int64} (X : mm_X p R s m args cc method_3_code "RainGrammarLaw" 7 D mp_cl tys dA mp_TB A (mp_P f0_0)) (ho : h.2.2 o = mm_L [u]) (K : mm_W p l e R s m args below meth cc Q 7 D mp_cl dA A (mp_P f0_0) XS mp_byt mp_sr ρ0 n0 z0 22 (fL0 x o a b c v) [.int 0] (mm_hs h o (.inr (.inl [r.toInt64])))) : mm_W p l e R s m args below meth cc Q 7 D mp_cl dA A (mp_P f0_0) XS mp_byt mp_sr ρ0 n0 z0 12 (fL0 x o a b c v) [.int r, .int 0, .ref o] h := by
  have hsl : mm_sL h o 0 r.toInt64 = some (mm_hs h o (.inr (.inl [r.toInt64]))) := by unfold mm_sL; rw [ho]; rfl
  refine mg_i2l (mt := 205) (pc' := 13) (L' := fL0 x o a b c v) (st' := [.long r.toInt64, .int 0, .ref o]) (h' := h) X fl_12 rfl ?_
  refine mg_lastore (mt := 205) (pc' := 14) (L' := fL0 x o a b c v) (st' := []) (h' := mm_hs h o (.inr (.inl [r.toInt64]))) X fl_13 (by show mm_k4 (mm_sL h o 0 r.toInt64) _ = _; rw [hsl]; rfl) ?_
  refine mg_goto (mt := 205) (t := 21) (off := 7) (pc' := 21) (L' := fL0 x o a b c v) (st' := []) (h' := mm_hs h o (.inr (.inl [r.toInt64]))) X fl_14 rfl rfl ?_
  exact mg_iconst (mt := 205) (pc' := 22) (L' := fL0 x o a b c v) (st' := [.int 0]) (h' := mm_hs h o (.inr (.inl [r.toInt64]))) X fl_21 rfl K
end FJ
