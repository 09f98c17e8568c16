/-! the first state, and the whole run -/
theorem rp_l {α : Type} {n : Nat} {a : α} : (List.replicate n a).length = n := List.length_replicate
theorem rp_g {α : Type} {n i : Nat} {a : α} (h : i < n) : (List.replicate n a)[i]? = some a := by rw [List.getElem?_replicate, if_pos h]
theorem rp_r {n b : Nat} (h : 0 < b) : rg (List.replicate n (0 : Int32)) n b := ⟨rp_l, fun i hi => ⟨0, h, rp_g hi⟩⟩
theorem rp_f {n : Nat} : af (List.replicate n (0 : Int32)) n (fun _ => 0) := ⟨rp_l, fun i hi => rp_g hi⟩
theorem i0_BKl : BKl i0_B0 := ⟨rp_l, rp_l, rp_l⟩
theorem i0_QLx : QLx i0_q := ⟨rp_l, rp_l, rp_l, rp_l, rp_l, rp_l, rp_l, rp_l, rp_l, rp_l, rp_l, rp_l, rp_l, rp_l, rp_r (by decide)⟩
theorem i0_KX : KX ps0.2.1 ps0.1 i0_q i0_R i0_C := ⟨⟨i0_QLx, ⟨rfl, rfl, rfl, rfl, rfl⟩, ⟨fun i hi => absurd hi (Nat.not_lt_zero _), fun i hi => absurd hi (Nat.not_lt_zero _), fun i hi => absurd hi (Nat.not_lt_zero _), fun i hi => absurd hi (Nat.not_lt_zero _)⟩, rfl, ⟨fun i hi => absurd hi (Nat.not_lt_zero _), fun i hi => absurd hi (Nat.not_lt_zero _), fun i hi => absurd hi (Nat.not_lt_zero _), fun i hi => absurd hi (Nat.not_lt_zero _), fun i hi => absurd hi (Nat.not_lt_zero _)⟩, fun w hw => absurd hw (Nat.not_lt_zero _)⟩, ⟨0, by omega, rfl, fun a b c f => by rw [if_pos rfl]; rfl⟩, ps0_ok.1, ⟨fun i hi => absurd hi (Nat.not_lt_zero _), fun i hi => absurd hi (Nat.not_lt_zero _), fun i hi => absurd hi (Nat.not_lt_zero _)⟩, ⟨rp_l, rp_l, rp_l, rp_l, rp_l, rp_l, rp_l⟩, ⟨rp_l, rp_l, rp_l⟩⟩
theorem i0_IX : IX [] ps0.2.1 ps0.1 (sp_fresh ps0.1) [] bk0 (fun _ => none) i0_T i0_D i0_S i0_S i0_K i0_R i0_C i0_W i0_U i0_q i0_q i0_B0 i0_B0 i0_B0 i0_B0 := by
  refine ⟨⟨⟨rp_l, rp_l, rp_l, rp_l⟩, ⟨rp_l, fun i x h => (by cases h)⟩, rfl⟩, rp_l, i0_KX, ⟨rfl, rfl, rp_r (by decide), fun i hi => absurd hi (Nat.not_lt_zero _)⟩, rp_l, ⟨⟨rp_l, rfl, fun i hi => absurd hi (Nat.not_lt_zero _)⟩, ⟨rp_l, rfl, fun i hi => absurd hi (Nat.not_lt_zero _)⟩, ⟨rp_l, rfl, fun i hi => absurd hi (Nat.not_lt_zero _)⟩⟩, ⟨Nat.zero_le _, fun c hc => (by cases hc), rp_l, rfl, 0, by omega, rfl, fun i c hc => (by cases hc)⟩, ⟨rp_l, rp_l, ⟨i0_BKl, rp_g (by omega), fun c b hc => (by cases hc)⟩, ⟨i0_BKl, rp_g (by omega), fun c b hc => (by cases hc)⟩, ⟨i0_BKl, rp_g (by omega), fun c b hc => (by cases hc)⟩, ⟨i0_BKl, rp_g (by omega), fun c b hc => (by cases hc)⟩⟩, ⟨rp_l, rp_l, rp_l, rp_l, rp_l, rp_l, rp_l⟩, i0_QLx⟩
theorem j0_KM : KM ps0.2.1 ps0.1 j0_Q := by
  refine ⟨⟨⟨rfl, rp_l, rp_l, rp_l, rp_l, rp_l, rp_l, rp_l, rp_l, rp_l, rp_l, rp_l, rp_l, rp_l, rp_l⟩, ⟨rfl, rfl, rfl, rfl, rfl⟩, ⟨-1, rfl, Or.inl ⟨rfl, rfl⟩⟩, ⟨fun i hi => absurd hi (Nat.not_lt_zero _), fun i hi => absurd hi (Nat.not_lt_zero _), fun i hi => absurd hi (Nat.not_lt_zero _), fun i hi => absurd hi (Nat.not_lt_zero _), fun i hi => absurd hi (Nat.not_lt_zero _), fun i hi => absurd hi (Nat.not_lt_zero _), fun i hi => absurd hi (Nat.not_lt_zero _)⟩, fun w hw => absurd hw (Nat.not_lt_zero _)⟩, ⟨0, 0, [], rfl, by omega, rp_g (by omega), rp_g (by omega), fun j hj => absurd hj (Nat.not_lt_zero _), fun _ a b e f => rfl, fun h => absurd h (Nat.lt_irrefl _)⟩, ps0_ok.1, ⟨fun i hi => absurd hi (Nat.not_lt_zero _), fun i hi => absurd hi (Nat.not_lt_zero _), fun i hi => absurd hi (Nat.not_lt_zero _)⟩⟩
theorem j0_KE : KE j0_E j0_R := ⟨⟨⟨fun _ => 0, fun _ => (0, 0, 0, 0, 0, 0, 0, 0), rp_f, rp_f, rp_f, rp_f, rp_f, rp_f, rp_f, rp_f, rp_f⟩, rp_l⟩, rp_l, rp_l, rp_l, rp_l, rp_l, rp_l⟩
theorem j0_BLm : BLm j0_B := ⟨rp_l, rp_l, rp_l, rp_l, rp_l, rp_l, rp_l, rp_l, rp_l, rp_l⟩
theorem j0_IM : IM [] ps0.2.1 ps0.1 (sp_fresh ps0.1) [] bk0 (fun _ => none) j0_T j0_Q j0_O j0_E j0_B j0_S j0_R j0_W := by
  refine ⟨⟨⟨rp_l, fun i x h => (by cases h)⟩, rfl⟩, j0_KM, j0_KE, ⟨rp_l, rfl, rfl, fun i hi => ?_⟩, rfl, ⟨_, _, rp_f, rp_f⟩, j0_BLm, ⟨⟨rp_g (by omega), fun i hi => absurd hi (Nat.not_lt_zero _)⟩, ⟨rp_g (by omega), fun i hi => absurd hi (Nat.not_lt_zero _)⟩, ⟨rp_g (by omega), fun i hi => absurd hi (Nat.not_lt_zero _)⟩⟩, ⟨Nat.zero_le _, rp_l, rfl, fun i c hc => (by cases hc)⟩, ⟨rp_l, rp_l, fun k hk => ⟨rp_g hk, fun c b e => (by cases e)⟩⟩, ⟨rp_l, rp_l, rp_l, rp_l⟩, rp_l, rp_l⟩
  rw [if_neg (show ¬ i < k_nW ps0.1 from Nat.not_lt_zero _)]
  exact rp_g (by omega)
theorem i0_IS : IS 0 [] ps0.2.1 ps0.1 (sp_fresh ps0.1) [] bk0 (fun _ => none) := ⟨tp_ok_nil, ps0_ok.2.1, c_fresh ps0_ok.1, bk0_ok, Nat.le_refl _, fun x hx => (by cases hx), fun k x y e => (by cases e)⟩
theorem x0_hi {XS : List Int32} {j : Nat} (h : ¬ j < 59) : mm_x0 XS mp_byt j = mm_x0 [] mp_byt j := by
  have hj : ¬ j = 0 := by omega
  unfold mm_x0
  simp only [if_neg hj]
theorem x0_O {XS : List Int32} : ((mp_ne, 0, mm_x0 XS mp_byt) : mm_H) = cs_O (mm_x0 XS mp_byt) h0_0 := by
  unfold cs_O h0_0
  refine Prod.ext rfl (Prod.ext rfl ?_)
  funext j
  show mm_x0 XS mp_byt j = if j < 59 then mm_x0 XS mp_byt j else if j < 59 then cs_X else mm_x0 [] mp_byt j
  by_cases h : j < 59
  · rw [if_pos h]
  · rw [if_neg h, if_neg h, x0_hi h]
theorem p0_0 : cs_p h0_0 := ⟨Nat.le_refl _, fun j hj => if_pos hj⟩
theorem rn_g {g : Nat → mm_C} {n : Nat} {l : List mm_C} (h : (List.range n).map (fun i => g (59 + i)) = l) {j : Nat} (hj : j < n) {c : mm_C} : l.getD j c = g (59 + j) := by
  rw [← h, List.getD_eq_getElem?_getD, List.getElem?_map, List.getElem?_range hj]; rfl
theorem pure_ok (XS : List Int32) (hL : XS.length ≤ 448) : ∃ (n : Nat) (hf : mm_H), mm_ex (mp_P fxr) n 900 5000 0 (mm_ent [.ref 0] 7) [] (mp_ne, 0, mm_x0 XS mp_byt) = some (some (.int 1), hf) ∧ (hf.1 - mp_ne) + hf.2.1 ≤ 600128 ∧ hf.2.1 ≤ 7301098 := by
  have W : ww (mp_P fxr) 900 5000 0 (mm_ent [.ref 0] 7) [] (mp_ne, 0, mm_x0 XS mp_byt) (fun r h => r = some (.int 1) ∧ h.1 = 205 ∧ h.2.1 ≤ 16900) := by
    obtain ⟨⟨n1, z1, g1⟩, e1, e2, e3, e4⟩ := k0_e s0_1
    have e2 : n1 = 149 := e2
    have e3 : z1 = 9235 := e3
    subst e2 e3
    have er : r0_2 = cs_ex (mp_P f0_0) 2000 899 214 0 (mm_ent [.ref 149] ((mp_P f0_0).2.1 214).2.1) [] (h0_2 (149, 9235, g1)) := by unfold r0_2; rw [e1]
    obtain ⟨⟨n2, z2, g2⟩, f1, f2, f3, f4⟩ := k0_e s0_2
    have f2 : n2 = 204 := f2
    have f3 : z2 = 16462 := f3
    subst f2 f3
    rw [er] at f1
    have p1 : cs_p h0_1 := cs_pn p0_0
    obtain ⟨a1, a2⟩ := cs_all (g := fxr) (f := mm_x0 XS mp_byt) _ _ _ _ _ _ _ _ _ p1 e1
    have p2 : cs_p (h0_2 (149, 9235, g1)) := cs_pn a2
    obtain ⟨b1, b2⟩ := cs_all (g := fxr) (f := mm_x0 XS mp_byt) _ _ _ _ _ _ _ _ _ p2 f1
    rw [x0_O]
    refine (ww_step (pc' := 3) (ls' := mm_ent [.ref 0] 7) (st' := [.ref 59]) (h' := mm_hn (cs_O (mm_x0 XS mp_byt) h0_0) (.inr (.inr (9, ((mp_P f0_0).2.2.1 9).map defaultValue))) ((mp_P f0_0).2.2.1 9).length) rfl).mpr ?_
    rw [cs_hn p0_0]
    show ww (mp_P fxr) 900 5000 3 (mm_ent [.ref 0] 7) [.ref 59] (cs_O (mm_x0 XS mp_byt) h0_1) _
    refine (ww_step (pc' := 4) (ls' := mm_ent [.ref 0] 7) (st' := [.ref 59, .ref 59]) (h' := cs_O (mm_x0 XS mp_byt) h0_1) rfl).mpr ?_
    refine (ww_call (d := 899) (k' := 0) (as := [.ref 59]) (rest := [.ref 59]) rfl).mpr ?_
    refine ⟨2000, none, cs_O (mm_x0 XS mp_byt) (149, 9235, g1), a1, ?_⟩
    show ww (mp_P fxr) 900 5000 7 (mm_ent [.ref 0] 7) [.ref 59] (cs_O (mm_x0 XS mp_byt) (149, 9235, g1)) _
    refine (ww_step (pc' := 8) (ls' := [some (.ref 0), some (.ref 59), none, none, none, none, none]) (st' := []) (h' := cs_O (mm_x0 XS mp_byt) (149, 9235, g1)) rfl).mpr ?_
    refine (ww_step (pc' := 11) (ls' := [some (.ref 0), some (.ref 59), none, none, none, none, none]) (st' := [.ref 149]) (h' := mm_hn (cs_O (mm_x0 XS mp_byt) (149, 9235, g1)) (.inr (.inr (10, ((mp_P f0_0).2.2.1 10).map defaultValue))) ((mp_P f0_0).2.2.1 10).length) rfl).mpr ?_
    rw [cs_hn a2]
    show ww (mp_P fxr) 900 5000 11 [some (.ref 0), some (.ref 59), none, none, none, none, none] [.ref 149] (cs_O (mm_x0 XS mp_byt) (h0_2 (149, 9235, g1))) _
    refine (ww_step (pc' := 12) (ls' := [some (.ref 0), some (.ref 59), none, none, none, none, none]) (st' := [.ref 149, .ref 149]) (h' := cs_O (mm_x0 XS mp_byt) (h0_2 (149, 9235, g1))) rfl).mpr ?_
    refine (ww_call (d := 899) (k' := 214) (as := [.ref 149]) (rest := [.ref 149]) rfl).mpr ?_
    refine ⟨2000, none, cs_O (mm_x0 XS mp_byt) (204, 16462, g2), b1, ?_⟩
    show ww (mp_P fxr) 900 5000 15 [some (.ref 0), some (.ref 59), none, none, none, none, none] [.ref 149] (cs_O (mm_x0 XS mp_byt) (204, 16462, g2)) _
    refine (ww_step (pc' := 16) (ls' := [some (.ref 0), some (.ref 59), some (.ref 149), none, none, none, none]) (st' := []) (h' := cs_O (mm_x0 XS mp_byt) (204, 16462, g2)) rfl).mpr ?_
    refine (ww_step (pc' := 17) (ls' := [some (.ref 0), some (.ref 59), some (.ref 149), none, none, none, none]) (st' := [.int 1]) (h' := cs_O (mm_x0 XS mp_byt) (204, 16462, g2)) rfl).mpr ?_
    refine (ww_step (pc' := 19) (ls' := [some (.ref 0), some (.ref 59), some (.ref 149), none, none, none, none]) (st' := [.ref 204]) (h' := mm_hn (cs_O (mm_x0 XS mp_byt) (204, 16462, g2)) (mm_L [0]) 1) (by show (if (1 : Int32) < 0 ∨ (100000 : Int32) < 1 then none else _) = _; rw [if_neg (by decide)]; rfl)).mpr ?_
    generalize hH : mm_hn (cs_O (mm_x0 XS mp_byt) (204, 16462, g2)) (mm_L [0]) 1 = H
    refine (ww_step (pc' := 20) (ls' := [some (.ref 0), some (.ref 59), some (.ref 149), some (.ref 204), none, none, none]) (st' := []) (h' := H) rfl).mpr ?_
    refine (ww_step (pc' := 21) (ls' := [some (.ref 0), some (.ref 59), some (.ref 149), some (.ref 204), none, none, none]) (st' := [.int 0]) (h' := H) rfl).mpr ?_
    refine (ww_step (pc' := 23) (ls' := [some (.ref 0), some (.ref 59), some (.ref 149), some (.ref 204), some (.int 0), none, none]) (st' := []) (h' := H) rfl).mpr ?_
    have hf : H = px_h 16463 (mm_x0 XS mp_byt) (pm_f (mm_x0 XS mp_byt) H.2.2 l0_m) l0_x := by
      have hg : ∀ j, H.2.2 j = if j = 204 then mm_L [0] else if j < 59 then mm_x0 XS mp_byt j else g2 j := by
        intro j; rw [← hH]; rfl
      refine Prod.ext (by rw [← hH]; rfl) (Prod.ext (by rw [← hH]; rfl) ?_)
      funext j
      show H.2.2 j = px_f (mm_x0 XS mp_byt) (pm_f (mm_x0 XS mp_byt) H.2.2 l0_m) l0_x j
      unfold px_f pm_f
      by_cases h1 : j < 59
      · rw [if_pos h1, hg, if_neg (by omega), if_pos h1]
      rw [if_neg h1]
      have hl : l0_x.length = 90 := px_ll
      by_cases h2 : j < 149
      · rw [if_pos h2, hg, if_neg (by omega), if_neg h1]
        have := rn_g (g := g2) f4 (j := j - 59) (by omega) (c := mm_I 0 [])
        rw [show 59 + (j - 59) = j by omega] at this
        rw [← this, List.getD_eq_getElem?_getD, List.getD_eq_getElem?_getD, List.getElem?_append_left (by omega)]
      rw [if_neg h2, if_neg h2]
      by_cases h3 : j < 204
      · rw [if_pos h3, hg, if_neg (by omega), if_neg h1]
        have := rn_g (g := g2) f4 (j := j - 59) (by omega) (c := mm_I 0 [])
        rw [show 59 + (j - 59) = j by omega] at this
        rw [← this, List.getD_eq_getElem?_getD, List.getD_eq_getElem?_getD, List.getElem?_append_right (by omega), show j - 59 - l0_x.length = j - 149 by omega]
      · rw [if_neg h3]
    have hY : H.2.2 204 = mm_L [0] := by rw [← hH]; rfl
    have hEL : ELt (mm_x0 XS mp_byt) := by
      intro i h1 h2
      have hj : ¬ i = 0 := by omega
      unfold mm_x0
      simp only [if_neg hj]
    rw [hf]
    exact lw_loop (d := 850) (E := mm_x0 XS mp_byt) (xs := XS) hEL rfl hL (fun h q1 q2 => ⟨rfl, q1, q2⟩) 64 0 0 rfl rfl [] ps0.2.1 ps0.1 (sp_fresh ps0.1) [] bk0 (fun _ => none) ⟨i0_IX, j0_IM, i0_IS, by decide, 0, hY⟩
  obtain ⟨n, r, h', e, e0, e1, e2⟩ := W
  subst e0
  exact ⟨n, h', e, by rw [e1]; show 205 - 59 + h'.2.1 ≤ 600128; omega, by omega⟩
