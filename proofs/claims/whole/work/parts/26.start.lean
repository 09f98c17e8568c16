/-! THE LAW'S START: printed by wip/whole/gen26.py -/
def ms_FL : List Cond := flatC (Jvm.Cond.and given_1 narrow_1)
def ms_tl : List Term := [(Jvm.Term.string "RainGrammar$Tape" (77 : Nat)), (Jvm.Term.string "RainGrammar$Tape" (83 : Nat)), (Jvm.Term.string "RainGrammar$Tape" (85 : Nat)), (Jvm.Term.string "RainGrammar$Tape" (87 : Nat)), (Jvm.Term.string "RainGrammar$Tape" (89 : Nat)), (Jvm.Term.string "RainGrammar$Tape" (91 : Nat)), (Jvm.Term.string "RainGrammar$Tape" (93 : Nat)), (Jvm.Term.string "RainGrammar$Tape" (95 : Nat)), (Jvm.Term.string "RainGrammar$Tape" (96 : Nat)), (Jvm.Term.string "RainGrammar$Tape" (98 : Nat)), (Jvm.Term.string "RainGrammar$Tape" (100 : Nat)), (Jvm.Term.string "RainGrammar$Tape" (102 : Nat)), (Jvm.Term.string "RainGrammar$Tape" (104 : Nat)), (Jvm.Term.string "RainGrammar$Tape" (106 : Nat)), (Jvm.Term.string "RainGrammar$Tape" (108 : Nat)), (Jvm.Term.string "RainGrammar$Tape" (110 : Nat)), (Jvm.Term.string "RainGrammar$Tape" (112 : Nat)), (Jvm.Term.string "RainGrammar$Tape" (114 : Nat)), (Jvm.Term.string "RainGrammar$Tape" (116 : Nat)), (Jvm.Term.string "RainGrammar$Tape" (118 : Nat)), (Jvm.Term.string "RainGrammar$Tape" (120 : Nat)), (Jvm.Term.string "RainGrammar$Tape" (122 : Nat)), (Jvm.Term.string "RainGrammar$Tape" (62 : Nat)), (Jvm.Term.string "RainGrammar$LawReader" (68 : Nat)), (Jvm.Term.string "RainGrammar$LawReader" (70 : Nat)), (Jvm.Term.string "RainGrammar$LawReader" (72 : Nat)), (Jvm.Term.string "RainGrammar$LawReader" (74 : Nat)), (Jvm.Term.string "RainGrammar" (290 : Nat)), (Jvm.Term.string "RainGrammar" (299 : Nat))]
def ms_tm (i : Nat) : Term := ms_tl.getD i .null
def ms_px : List Nat := [22, 30, 40, 46, 54, 60, 68, 78, 84, 92, 101, 110, 118, 126, 134, 142, 151, 159, 168, 176, 183, 190, 196, 345, 353, 362, 370, 438, 456]
def ms_pc : List Nat := [23, 31, 41, 47, 55, 61, 69, 79, 85, 93, 102, 111, 119, 127, 135, 143, 152, 160, 169, 177, 184, 191, 197, 346, 354, 363, 371, 439, 457]
def ms_pa : List Nat := [24, 32, 42, 48, 56, 62, 70, 80, 86, 94, 103, 112, 120, 128, 136, 144, 153, 161, 170, 178, 185, 192, 198, 347, 355, 364, 372, 440, 458]
def ms_pl : List Nat := [25, 33, 43, 49, 57, 63, 71, 81, 87, 95, 104, 113, 121, 129, 137, 145, 154, 162, 171, 179, 186, 193, 199, 348, 356, 365, 373, 441, 459]
def ms_pe : List (List Nat) := [[26, 27, 28, 29], [34, 35, 36, 37, 38, 39], [44, 45], [50, 51, 52, 53], [58, 59], [64, 65, 66, 67], [72, 73, 74, 75, 76, 77], [82, 83], [88, 89, 90, 91], [96, 97, 98, 99, 100], [105, 106, 107, 108, 109], [114, 115, 116, 117], [122, 123, 124, 125], [130, 131, 132, 133], [138, 139, 140, 141], [146, 147, 148, 149, 150], [155, 156, 157, 158], [163, 164, 165, 166, 167], [172, 173, 174, 175], [180, 181, 182], [187, 188, 189], [194, 195], [200, 201, 202, 203, 204, 205, 206, 207], [349, 350, 351, 352], [357, 358, 359, 360, 361], [366, 367, 368, 369], [374, 375, 376, 377, 378], [442, 443, 444, 445, 446, 447, 448, 449, 450, 451, 452, 453, 454, 455], [460, 461, 462, 463, 464, 465, 466, 467, 468, 469, 470, 471]]
theorem ms_x1 : ∀ i, i < 29 → ms_FL[ms_px.getD i 0]? = some (Cond.exactly (ms_tm i) "java/lang/String") := by decide +kernel
theorem ms_x2 : ∀ i, i < 29 → ms_FL[ms_pc.getD i 0]? = some (Cond.eq (.field (ms_tm i) "java/lang/String" "coder" "B") (.int 0)) := by decide +kernel
theorem ms_x3 : ∀ i, i < 29 → ms_FL[ms_pa.getD i 0]? = some (Cond.arrayOf (.field (ms_tm i) "java/lang/String" "value" "[B") .byte) := by decide +kernel
theorem ms_x4 : ∀ i, i < 29 → ms_FL[ms_pl.getD i 0]? = some (Cond.eq (.length (.field (ms_tm i) "java/lang/String" "value" "[B")) (.int (Int32.ofNat ((mp_byt.map List.length).getD i 0)))) := by decide +kernel
theorem ms_x5 : ∀ i, i < 29 → ∀ j, j < (mp_byt.map List.length).getD i 0 → ms_FL[(ms_pe.getD i []).getD j 0]? = some (Cond.eq (.elem (.field (ms_tm i) "java/lang/String" "value" "[B") (.int (Int32.ofNat j))) (.int ((mp_byt.getD i []).getD j 0))) := by decide +kernel
theorem ms_x6 : ∀ i, i < 29 → (mp_byt.map List.length).getD i 0 < 2 ^ 31 := by decide +kernel
theorem ms_x7 : ∀ i, i < 29 → ∀ j, j < 29 → i ≠ j → mp_byt.getD i [] ≠ mp_byt.getD j [] := by decide +kernel
theorem ms_len : mp_byt.length = 29 := by decide +kernel
theorem ms_ne : mp_ne = 1 + 2 * mp_byt.length := by decide +kernel
theorem ms_eq {args : Array Value} {s : State} {t u : Term} {a : Nat} (h : (Cond.eq t u).before args s = true) (ht : t.eval args s none [] s = some (.ref a)) (hu : (u.eval args s none [] s = none ∨ ∃ b, u.eval args s none [] s = some (.ref b))) : u.eval args s none [] s = some (.ref a) := by
  rcases hu with hu | ⟨b, hu⟩
  · simp [Cond.before, Cond.holds, Cond.value, ht, hu] at h
  · simp [Cond.before, Cond.holds, Cond.value, ht, hu] at h
    rw [hu, h]
theorem ms_eq' {args : Array Value} {s : State} {t u : Term} {a : Nat} (h : (Cond.eq u t).before args s = true) (ht : t.eval args s none [] s = some (.ref a)) (hu : (u.eval args s none [] s = none ∨ ∃ b, u.eval args s none [] s = some (.ref b))) : u.eval args s none [] s = some (.ref a) := by
  rcases hu with hu | ⟨b, hu⟩
  · simp [Cond.before, Cond.holds, Cond.value, ht, hu] at h
  · simp [Cond.before, Cond.holds, Cond.value, ht, hu] at h
    rw [hu, ← h]
theorem ms_str {args : Array Value} {s : State} (c : String) (k : Nat) : (Term.string c k).eval args s none [] s = none ∨ ∃ b, (Term.string c k).eval args s none [] s = some (.ref b) := by
  cases hq : (Term.string c k).eval args s none [] s with
  | none => exact Or.inl rfl
  | some v =>
    right
    simp only [Term.eval] at hq
    cases hc : s.vm.findClass c with
    | none => simp [hc] at hq
    | some ci =>
      cases hk : s.vm.classes[ci]? with
      | none => simp [hc, hk] at hq
      | some kk =>
        cases hr : kk.resolved[k]? with
        | none => simp [hc, hk, hr] at hq
        | some r =>
          cases r with
          | none => simp [hc, hk, hr] at hq
          | some r =>
            cases r <;> simp [hc, hk, hr] at hq
            subst hq
            exact ⟨_, rfl⟩
theorem ms_lenc {args : Array Value} {s : State} {t u : Term} (h : t.eval args s none [] s = u.eval args s none [] s) : (Term.length t).eval args s none [] s = (Term.length u).eval args s none [] s := by simp only [Term.eval, h]
theorem ms_elc {args : Array Value} {s : State} {t u : Term} (h : t.eval args s none [] s = u.eval args s none [] s) (i : Term) : (Term.elem t i).eval args s none [] s = (Term.elem u i).eval args s none [] s := by simp only [Term.eval, h]
/-- two literals that are told apart are two cells -/
theorem ms_apart {args : Array Value} {s : State} (hgv : (Jvm.Cond.and given_1 narrow_1).before args s = true) : ∀ i j : Nat, i < mp_byt.length → j < mp_byt.length → i ≠ j → (Cond.not (Cond.eq (ms_tm i) (ms_tm j))).before args s = true ∨ (Cond.not (Cond.eq (ms_tm j) (ms_tm i))).before args s = true := by
  intro i j hi hj hij
  rw [ms_len] at hi hj
  have hs := flat_of_before _ hgv
  obtain ⟨a, c1, cA, kA, ea, -⟩ := Cond.exactly_spec (args := args) (first := s) (o := none) (s := s) (idx := []) (t := ms_tm i) (cls := "java/lang/String") (hs _ (List.mem_of_getElem? (ms_x1 i hi)))
  obtain ⟨b, c2, cB, kB, eb, -⟩ := Cond.exactly_spec (args := args) (first := s) (o := none) (s := s) (idx := []) (t := ms_tm j) (cls := "java/lang/String") (hs _ (List.mem_of_getElem? (ms_x1 j hj)))
  have hab : a ≠ b := by
    intro hab
    subst hab
    apply ms_x7 i hi j hj hij
    have l1 := va_eqt (hs _ (List.mem_of_getElem? (ms_x4 i hi)))
    have l2 := va_eqt (hs _ (List.mem_of_getElem? (ms_x4 j hj)))
    have hf : (Term.field (ms_tm i) "java/lang/String" "value" "[B").eval args s none [] s = (Term.field (ms_tm j) "java/lang/String" "value" "[B").eval args s none [] s := by
      simp only [Term.eval, ea, eb]
    have hl : (Term.length (.field (ms_tm i) "java/lang/String" "value" "[B")).eval args s none [] s = (Term.length (.field (ms_tm j) "java/lang/String" "value" "[B")).eval args s none [] s := ms_lenc hf
    rw [l1, l2] at hl
    have hl2 : (mp_byt.map List.length).getD i 0 = (mp_byt.map List.length).getD j 0 := by
      have := Option.some.inj hl
      have h3 : Int32.ofNat ((mp_byt.map List.length).getD i 0) = Int32.ofNat ((mp_byt.map List.length).getD j 0) := by injection this
      exact (nI_eq (ms_x6 i hi) (ms_x6 j hj)).mp h3
    have len : ∀ k, (mp_byt.map List.length).getD k 0 = (mp_byt.getD k []).length := by
      intro k
      rw [List.getD_eq_getElem?_getD, List.getD_eq_getElem?_getD, List.getElem?_map]
      cases mp_byt[k]? <;> rfl
    apply List.ext_getElem
    · rw [← len i, ← len j, hl2]
    · intro k g1 g2
      have h1 : k < (mp_byt.map List.length).getD i 0 := by rw [len i]; exact g1
      have h2 : k < (mp_byt.map List.length).getD j 0 := by rw [len j]; exact g2
      have e1 := va_eqt (hs _ (List.mem_of_getElem? (ms_x5 i hi k h1)))
      have e2 := va_eqt (hs _ (List.mem_of_getElem? (ms_x5 j hj k h2)))
      have he : (Term.elem (.field (ms_tm i) "java/lang/String" "value" "[B") (.int (Int32.ofNat k))).eval args s none [] s = (Term.elem (.field (ms_tm j) "java/lang/String" "value" "[B") (.int (Int32.ofNat k))).eval args s none [] s := ms_elc hf _
      rw [e1, e2] at he
      have h4 : (mp_byt.getD i []).getD k 0 = (mp_byt.getD j []).getD k 0 := by
        have := Option.some.inj he
        injection this
      exact (mm_getD_some (List.getElem?_eq_getElem g1)).symm.trans (h4.trans (mm_getD_some (List.getElem?_eq_getElem g2)))
  refine Or.inl ?_
  simp [Cond.before, Cond.holds, Cond.value, ea, eb, hab]
theorem ms_inst : ∀ (ci : Nat) (q : vw_C), mp_cl[ci]? = some q → Cond.instantiable q.1 q.2.2 ∈ mp_TB := by
  intro ci q hq
  have hl : ci < 11 := (List.getElem?_eq_some_iff.mp hq).1
  by_cases h5 : ci < 5
  · by_cases h2 : ci < 2
    · by_cases h1 : ci < 1
      · have hk3 : ci = 0 := by omega
        subst hk3
        cases hq
        exact wd_1_36
      · have hk3 : ci = 1 := by omega
        subst hk3
        cases hq
        exact wd_1_76
    · by_cases h3 : ci < 3
      · have hk3 : ci = 2 := by omega
        subst hk3
        cases hq
        exact wd_1_86
      · by_cases h4 : ci < 4
        · have hk3 : ci = 3 := by omega
          subst hk3
          cases hq
          exact wd_1_108
        · have hk3 : ci = 4 := by omega
          subst hk3
          cases hq
          exact wd_1_140
  · by_cases h8 : ci < 8
    · by_cases h6 : ci < 6
      · have hk3 : ci = 5 := by omega
        subst hk3
        cases hq
        exact wd_1_186
      · by_cases h7 : ci < 7
        · have hk3 : ci = 6 := by omega
          subst hk3
          cases hq
          exact wd_1_208
        · have hk3 : ci = 7 := by omega
          subst hk3
          cases hq
          exact wd_2_10
    · by_cases h9 : ci < 9
      · have hk3 : ci = 8 := by omega
        subst hk3
        cases hq
        exact wd_2_4
      · by_cases h10 : ci < 10
        · have hk3 : ci = 9 := by omega
          subst hk3
          cases hq
          exact wd_1_28
        · have hk3 : ci = 10 := by omega
          subst hk3
          cases hq
          exact wd_6_177
theorem ms_n0 : (Jvm.Cond.methodLinkNest "RainGrammar" (9 : Nat) ({ cls := "RainGrammar$Tape", name := "<init>", desc := "()V" } : Jvm.MethodName) "RainGrammar") ∈ lw_tbl := List.mem_append_right _ (List.mem_append_left _ (List.mem_of_getElem? (i := 37) (show tables_1_1[37]? = some (Jvm.Cond.methodLinkNest "RainGrammar" (9 : Nat) ({ cls := "RainGrammar$Tape", name := "<init>", desc := "()V" } : Jvm.MethodName) "RainGrammar") by decide +kernel)))
theorem ms_n1 : (Jvm.Cond.methodLinkNest "RainGrammar" (18 : Nat) ({ cls := "RainGrammar$BookReader", name := "<init>", desc := "()V" } : Jvm.MethodName) "RainGrammar") ∈ lw_tbl := List.mem_append_right _ (List.mem_append_left _ (List.mem_of_getElem? (i := 77) (show tables_1_1[77]? = some (Jvm.Cond.methodLinkNest "RainGrammar" (18 : Nat) ({ cls := "RainGrammar$BookReader", name := "<init>", desc := "()V" } : Jvm.MethodName) "RainGrammar") by decide +kernel)))
theorem ms_n2 : (Jvm.Cond.methodLinkNest "RainGrammar" (25 : Nat) ({ cls := "RainGrammar$Scene", name := "<init>", desc := "()V" } : Jvm.MethodName) "RainGrammar") ∈ lw_tbl := List.mem_append_right _ (List.mem_append_left _ (List.mem_of_getElem? (i := 87) (show tables_1_1[87]? = some (Jvm.Cond.methodLinkNest "RainGrammar" (25 : Nat) ({ cls := "RainGrammar$Scene", name := "<init>", desc := "()V" } : Jvm.MethodName) "RainGrammar") by decide +kernel)))
theorem ms_n3 : (Jvm.Cond.methodLinkNest "RainGrammar" (35 : Nat) ({ cls := "RainGrammar$Book", name := "<init>", desc := "()V" } : Jvm.MethodName) "RainGrammar") ∈ lw_tbl := List.mem_append_right _ (List.mem_append_left _ (List.mem_of_getElem? (i := 109) (show tables_1_1[109]? = some (Jvm.Cond.methodLinkNest "RainGrammar" (35 : Nat) ({ cls := "RainGrammar$Book", name := "<init>", desc := "()V" } : Jvm.MethodName) "RainGrammar") by decide +kernel)))
theorem ms_n4 : (Jvm.Cond.methodLinkNest "RainGrammar" (42 : Nat) ({ cls := "RainGrammar$Reading", name := "<init>", desc := "()V" } : Jvm.MethodName) "RainGrammar") ∈ lw_tbl := List.mem_append_right _ (List.mem_append_left _ (List.mem_of_getElem? (i := 141) (show tables_1_1[141]? = some (Jvm.Cond.methodLinkNest "RainGrammar" (42 : Nat) ({ cls := "RainGrammar$Reading", name := "<init>", desc := "()V" } : Jvm.MethodName) "RainGrammar") by decide +kernel)))
theorem ms_n5 : (Jvm.Cond.methodLinkNest "RainGrammar" (49 : Nat) ({ cls := "RainGrammar$Chart", name := "<init>", desc := "()V" } : Jvm.MethodName) "RainGrammar") ∈ lw_tbl := List.mem_append_right _ (List.mem_append_left _ (List.mem_of_getElem? (i := 187) (show tables_1_1[187]? = some (Jvm.Cond.methodLinkNest "RainGrammar" (49 : Nat) ({ cls := "RainGrammar$Chart", name := "<init>", desc := "()V" } : Jvm.MethodName) "RainGrammar") by decide +kernel)))
theorem ms_n6 : (Jvm.Cond.methodLinkNest "RainGrammar" (56 : Nat) ({ cls := "RainGrammar$Wisher", name := "<init>", desc := "()V" } : Jvm.MethodName) "RainGrammar") ∈ lw_tbl := List.mem_append_right _ (List.mem_append_left _ (List.mem_of_getElem? (i := 209) (show tables_1_1[209]? = some (Jvm.Cond.methodLinkNest "RainGrammar" (56 : Nat) ({ cls := "RainGrammar$Wisher", name := "<init>", desc := "()V" } : Jvm.MethodName) "RainGrammar") by decide +kernel)))
theorem ms_n7 : (Jvm.Cond.methodLinkNest "RainGrammar" (78 : Nat) ({ cls := "RainGrammar$Square", name := "<init>", desc := "()V" } : Jvm.MethodName) "RainGrammar") ∈ lw_tbl := List.mem_append_right _ (List.mem_append_right _ (List.mem_append_left _ (List.mem_of_getElem? (i := 5) (show tables_1_2[5]? = some (Jvm.Cond.methodLinkNest "RainGrammar" (78 : Nat) ({ cls := "RainGrammar$Square", name := "<init>", desc := "()V" } : Jvm.MethodName) "RainGrammar") by decide +kernel))))
theorem ms_n8 : (Jvm.Cond.methodLinkNest "RainGrammar$Square" (58 : Nat) ({ cls := "RainGrammar$Law", name := "<init>", desc := "()V" } : Jvm.MethodName) "RainGrammar") ∈ lw_tbl := List.mem_append_right _ (List.mem_append_right _ (List.mem_append_left _ (List.mem_of_getElem? (i := 11) (show tables_1_2[11]? = some (Jvm.Cond.methodLinkNest "RainGrammar$Square" (58 : Nat) ({ cls := "RainGrammar$Law", name := "<init>", desc := "()V" } : Jvm.MethodName) "RainGrammar") by decide +kernel))))
theorem ms_n9 : (Jvm.Cond.methodLinkNest "RainGrammar$SquareReader" (212 : Nat) ({ cls := "RainGrammar$LawReader", name := "fill", desc := "(LRainGrammar$Tape;LRainGrammar$Law;I)Z" } : Jvm.MethodName) "RainGrammar") ∈ lw_tbl := List.mem_append_right _ (List.mem_append_right _ (List.mem_append_right _ (List.mem_append_right _ (List.mem_append_left _ (List.mem_of_getElem? (i := 19) (show tables_1_4[19]? = some (Jvm.Cond.methodLinkNest "RainGrammar$SquareReader" (212 : Nat) ({ cls := "RainGrammar$LawReader", name := "fill", desc := "(LRainGrammar$Tape;LRainGrammar$Law;I)Z" } : Jvm.MethodName) "RainGrammar") by decide +kernel))))))
theorem ms_ov : (Jvm.Cond.arrayOver (Jvm.ClassFile.FieldType.object "RainGrammar$Book")) ∈ lw_tbl := List.mem_append_right _ (List.mem_append_right _ (List.mem_append_left _ (List.mem_of_getElem? (i := 2) (show tables_1_2[2]? = some (Jvm.Cond.arrayOver (Jvm.ClassFile.FieldType.object "RainGrammar$Book")) by decide +kernel))))
theorem ms_s0 : (Jvm.Cond.stringRef "RainGrammar$Tape" (77 : Nat) "sort") ∈ lw_tbl := List.mem_append_right _ (List.mem_append_right _ (List.mem_append_left _ (List.mem_of_getElem? (i := 223) (show tables_1_2[223]? = some (Jvm.Cond.stringRef "RainGrammar$Tape" (77 : Nat) "sort") by decide +kernel))))
theorem ms_s1 : (Jvm.Cond.stringRef "RainGrammar$Tape" (83 : Nat) "colour") ∈ lw_tbl := List.mem_append_right _ (List.mem_append_right _ (List.mem_append_right _ (List.mem_append_left _ (List.mem_of_getElem? (i := 36) (show tables_1_3[36]? = some (Jvm.Cond.stringRef "RainGrammar$Tape" (83 : Nat) "colour") by decide +kernel)))))
theorem ms_s2 : (Jvm.Cond.stringRef "RainGrammar$Tape" (85 : Nat) "as") ∈ lw_tbl := List.mem_append_right _ (List.mem_append_right _ (List.mem_append_right _ (List.mem_append_left _ (List.mem_of_getElem? (i := 37) (show tables_1_3[37]? = some (Jvm.Cond.stringRef "RainGrammar$Tape" (85 : Nat) "as") by decide +kernel)))))
theorem ms_s3 : (Jvm.Cond.stringRef "RainGrammar$Tape" (87 : Nat) "rule") ∈ lw_tbl := List.mem_append_right _ (List.mem_append_right _ (List.mem_append_right _ (List.mem_append_left _ (List.mem_of_getElem? (i := 38) (show tables_1_3[38]? = some (Jvm.Cond.stringRef "RainGrammar$Tape" (87 : Nat) "rule") by decide +kernel)))))
theorem ms_s4 : (Jvm.Cond.stringRef "RainGrammar$Tape" (89 : Nat) "is") ∈ lw_tbl := List.mem_append_right _ (List.mem_append_right _ (List.mem_append_right _ (List.mem_append_left _ (List.mem_of_getElem? (i := 39) (show tables_1_3[39]? = some (Jvm.Cond.stringRef "RainGrammar$Tape" (89 : Nat) "is") by decide +kernel)))))
theorem ms_s5 : (Jvm.Cond.stringRef "RainGrammar$Tape" (91 : Nat) "says") ∈ lw_tbl := List.mem_append_right _ (List.mem_append_right _ (List.mem_append_right _ (List.mem_append_left _ (List.mem_of_getElem? (i := 40) (show tables_1_3[40]? = some (Jvm.Cond.stringRef "RainGrammar$Tape" (91 : Nat) "says") by decide +kernel)))))
theorem ms_s6 : (Jvm.Cond.stringRef "RainGrammar$Tape" (93 : Nat) "walker") ∈ lw_tbl := List.mem_append_right _ (List.mem_append_right _ (List.mem_append_right _ (List.mem_append_left _ (List.mem_of_getElem? (i := 41) (show tables_1_3[41]? = some (Jvm.Cond.stringRef "RainGrammar$Tape" (93 : Nat) "walker") by decide +kernel)))))
theorem ms_s7 : (Jvm.Cond.stringRef "RainGrammar$Tape" (95 : Nat) "at") ∈ lw_tbl := List.mem_append_right _ (List.mem_append_right _ (List.mem_append_right _ (List.mem_append_left _ (List.mem_of_getElem? (i := 42) (show tables_1_3[42]? = some (Jvm.Cond.stringRef "RainGrammar$Tape" (95 : Nat) "at") by decide +kernel)))))
theorem ms_s8 : (Jvm.Cond.stringRef "RainGrammar$Tape" (96 : Nat) "goes") ∈ lw_tbl := List.mem_append_right _ (List.mem_append_right _ (List.mem_append_right _ (List.mem_append_left _ (List.mem_of_getElem? (i := 43) (show tables_1_3[43]? = some (Jvm.Cond.stringRef "RainGrammar$Tape" (96 : Nat) "goes") by decide +kernel)))))
theorem ms_s9 : (Jvm.Cond.stringRef "RainGrammar$Tape" (98 : Nat) "gusts") ∈ lw_tbl := List.mem_append_right _ (List.mem_append_right _ (List.mem_append_right _ (List.mem_append_left _ (List.mem_of_getElem? (i := 44) (show tables_1_3[44]? = some (Jvm.Cond.stringRef "RainGrammar$Tape" (98 : Nat) "gusts") by decide +kernel)))))
theorem ms_s10 : (Jvm.Cond.stringRef "RainGrammar$Tape" (100 : Nat) "reads") ∈ lw_tbl := List.mem_append_right _ (List.mem_append_right _ (List.mem_append_right _ (List.mem_append_left _ (List.mem_of_getElem? (i := 45) (show tables_1_3[45]? = some (Jvm.Cond.stringRef "RainGrammar$Tape" (100 : Nat) "reads") by decide +kernel)))))
theorem ms_s11 : (Jvm.Cond.stringRef "RainGrammar$Tape" (102 : Nat) "tick") ∈ lw_tbl := List.mem_append_right _ (List.mem_append_right _ (List.mem_append_right _ (List.mem_append_left _ (List.mem_of_getElem? (i := 50) (show tables_1_3[50]? = some (Jvm.Cond.stringRef "RainGrammar$Tape" (102 : Nat) "tick") by decide +kernel)))))
theorem ms_s12 : (Jvm.Cond.stringRef "RainGrammar$Tape" (104 : Nat) "move") ∈ lw_tbl := List.mem_append_right _ (List.mem_append_right _ (List.mem_append_right _ (List.mem_append_left _ (List.mem_of_getElem? (i := 51) (show tables_1_3[51]? = some (Jvm.Cond.stringRef "RainGrammar$Tape" (104 : Nat) "move") by decide +kernel)))))
theorem ms_s13 : (Jvm.Cond.stringRef "RainGrammar$Tape" (106 : Nat) "shut") ∈ lw_tbl := List.mem_append_right _ (List.mem_append_right _ (List.mem_append_right _ (List.mem_append_left _ (List.mem_of_getElem? (i := 52) (show tables_1_3[52]? = some (Jvm.Cond.stringRef "RainGrammar$Tape" (106 : Nat) "shut") by decide +kernel)))))
theorem ms_s14 : (Jvm.Cond.stringRef "RainGrammar$Tape" (108 : Nat) "open") ∈ lw_tbl := List.mem_append_right _ (List.mem_append_right _ (List.mem_append_right _ (List.mem_append_left _ (List.mem_of_getElem? (i := 53) (show tables_1_3[53]? = some (Jvm.Cond.stringRef "RainGrammar$Tape" (108 : Nat) "open") by decide +kernel)))))
theorem ms_s15 : (Jvm.Cond.stringRef "RainGrammar$Tape" (110 : Nat) "plain") ∈ lw_tbl := List.mem_append_right _ (List.mem_append_right _ (List.mem_append_right _ (List.mem_append_left _ (List.mem_of_getElem? (i := 54) (show tables_1_3[54]? = some (Jvm.Cond.stringRef "RainGrammar$Tape" (110 : Nat) "plain") by decide +kernel)))))
theorem ms_s16 : (Jvm.Cond.stringRef "RainGrammar$Tape" (112 : Nat) "bare") ∈ lw_tbl := List.mem_append_right _ (List.mem_append_right _ (List.mem_append_right _ (List.mem_append_left _ (List.mem_of_getElem? (i := 55) (show tables_1_3[55]? = some (Jvm.Cond.stringRef "RainGrammar$Tape" (112 : Nat) "bare") by decide +kernel)))))
theorem ms_s17 : (Jvm.Cond.stringRef "RainGrammar$Tape" (114 : Nat) "lover") ∈ lw_tbl := List.mem_append_right _ (List.mem_append_right _ (List.mem_append_right _ (List.mem_append_left _ (List.mem_of_getElem? (i := 56) (show tables_1_3[56]? = some (Jvm.Cond.stringRef "RainGrammar$Tape" (114 : Nat) "lover") by decide +kernel)))))
theorem ms_s18 : (Jvm.Cond.stringRef "RainGrammar$Tape" (116 : Nat) "bent") ∈ lw_tbl := List.mem_append_right _ (List.mem_append_right _ (List.mem_append_right _ (List.mem_append_left _ (List.mem_of_getElem? (i := 57) (show tables_1_3[57]? = some (Jvm.Cond.stringRef "RainGrammar$Tape" (116 : Nat) "bent") by decide +kernel)))))
theorem ms_s19 : (Jvm.Cond.stringRef "RainGrammar$Tape" (118 : Nat) "not") ∈ lw_tbl := List.mem_append_right _ (List.mem_append_right _ (List.mem_append_right _ (List.mem_append_left _ (List.mem_of_getElem? (i := 58) (show tables_1_3[58]? = some (Jvm.Cond.stringRef "RainGrammar$Tape" (118 : Nat) "not") by decide +kernel)))))
theorem ms_s20 : (Jvm.Cond.stringRef "RainGrammar$Tape" (120 : Nat) "and") ∈ lw_tbl := List.mem_append_right _ (List.mem_append_right _ (List.mem_append_right _ (List.mem_append_left _ (List.mem_of_getElem? (i := 59) (show tables_1_3[59]? = some (Jvm.Cond.stringRef "RainGrammar$Tape" (120 : Nat) "and") by decide +kernel)))))
theorem ms_s21 : (Jvm.Cond.stringRef "RainGrammar$Tape" (122 : Nat) "or") ∈ lw_tbl := List.mem_append_right _ (List.mem_append_right _ (List.mem_append_right _ (List.mem_append_left _ (List.mem_of_getElem? (i := 60) (show tables_1_3[60]? = some (Jvm.Cond.stringRef "RainGrammar$Tape" (122 : Nat) "or") by decide +kernel)))))
theorem ms_s22 : (Jvm.Cond.stringRef "RainGrammar$Tape" (62 : Nat) "()<=+-*;") ∈ lw_tbl := List.mem_append_right _ (List.mem_append_right _ (List.mem_append_right _ (List.mem_append_left _ (List.mem_of_getElem? (i := 68) (show tables_1_3[68]? = some (Jvm.Cond.stringRef "RainGrammar$Tape" (62 : Nat) "()<=+-*;") by decide +kernel)))))
theorem ms_s23 : (Jvm.Cond.stringRef "RainGrammar$SquareReader" (37 : Nat) "sort") ∈ lw_tbl := List.mem_append_right _ (List.mem_append_right _ (List.mem_append_right _ (List.mem_append_left _ (List.mem_of_getElem? (i := 135) (show tables_1_3[135]? = some (Jvm.Cond.stringRef "RainGrammar$SquareReader" (37 : Nat) "sort") by decide +kernel)))))
theorem ms_s24 : (Jvm.Cond.stringRef "RainGrammar$SquareReader" (46 : Nat) "colour") ∈ lw_tbl := List.mem_append_right _ (List.mem_append_right _ (List.mem_append_right _ (List.mem_append_left _ (List.mem_of_getElem? (i := 181) (show tables_1_3[181]? = some (Jvm.Cond.stringRef "RainGrammar$SquareReader" (46 : Nat) "colour") by decide +kernel)))))
theorem ms_s25 : (Jvm.Cond.stringRef "RainGrammar$SquareReader" (106 : Nat) "as") ∈ lw_tbl := List.mem_append_right _ (List.mem_append_right _ (List.mem_append_right _ (List.mem_append_left _ (List.mem_of_getElem? (i := 185) (show tables_1_3[185]? = some (Jvm.Cond.stringRef "RainGrammar$SquareReader" (106 : Nat) "as") by decide +kernel)))))
theorem ms_s26 : (Jvm.Cond.stringRef "RainGrammar$SquareReader" (51 : Nat) "rule") ∈ lw_tbl := List.mem_append_right _ (List.mem_append_right _ (List.mem_append_right _ (List.mem_append_left _ (List.mem_of_getElem? (i := 197) (show tables_1_3[197]? = some (Jvm.Cond.stringRef "RainGrammar$SquareReader" (51 : Nat) "rule") by decide +kernel)))))
theorem ms_s27 : (Jvm.Cond.stringRef "RainGrammar$SquareReader" (125 : Nat) "is") ∈ lw_tbl := List.mem_append_right _ (List.mem_append_right _ (List.mem_append_right _ (List.mem_append_left _ (List.mem_of_getElem? (i := 201) (show tables_1_3[201]? = some (Jvm.Cond.stringRef "RainGrammar$SquareReader" (125 : Nat) "is") by decide +kernel)))))
theorem ms_s28 : (Jvm.Cond.stringRef "RainGrammar$SquareReader" (56 : Nat) "says") ∈ lw_tbl := List.mem_append_right _ (List.mem_append_right _ (List.mem_append_right _ (List.mem_append_left _ (List.mem_of_getElem? (i := 206) (show tables_1_3[206]? = some (Jvm.Cond.stringRef "RainGrammar$SquareReader" (56 : Nat) "says") by decide +kernel)))))
theorem ms_s29 : (Jvm.Cond.stringRef "RainGrammar$SquareReader" (61 : Nat) "walker") ∈ lw_tbl := List.mem_append_right _ (List.mem_append_right _ (List.mem_append_right _ (List.mem_append_left _ (List.mem_of_getElem? (i := 210) (show tables_1_3[210]? = some (Jvm.Cond.stringRef "RainGrammar$SquareReader" (61 : Nat) "walker") by decide +kernel)))))
theorem ms_s30 : (Jvm.Cond.stringRef "RainGrammar$SquareReader" (165 : Nat) "plain") ∈ lw_tbl := List.mem_append_right _ (List.mem_append_right _ (List.mem_append_right _ (List.mem_append_left _ (List.mem_of_getElem? (i := 217) (show tables_1_3[217]? = some (Jvm.Cond.stringRef "RainGrammar$SquareReader" (165 : Nat) "plain") by decide +kernel)))))
theorem ms_s31 : (Jvm.Cond.stringRef "RainGrammar$SquareReader" (167 : Nat) "bare") ∈ lw_tbl := List.mem_append_right _ (List.mem_append_right _ (List.mem_append_right _ (List.mem_append_left _ (List.mem_of_getElem? (i := 218) (show tables_1_3[218]? = some (Jvm.Cond.stringRef "RainGrammar$SquareReader" (167 : Nat) "bare") by decide +kernel)))))
theorem ms_s32 : (Jvm.Cond.stringRef "RainGrammar$SquareReader" (169 : Nat) "lover") ∈ lw_tbl := List.mem_append_right _ (List.mem_append_right _ (List.mem_append_right _ (List.mem_append_left _ (List.mem_of_getElem? (i := 219) (show tables_1_3[219]? = some (Jvm.Cond.stringRef "RainGrammar$SquareReader" (169 : Nat) "lover") by decide +kernel)))))
theorem ms_s33 : (Jvm.Cond.stringRef "RainGrammar$SquareReader" (171 : Nat) "bent") ∈ lw_tbl := List.mem_append_right _ (List.mem_append_right _ (List.mem_append_right _ (List.mem_append_left _ (List.mem_of_getElem? (i := 220) (show tables_1_3[220]? = some (Jvm.Cond.stringRef "RainGrammar$SquareReader" (171 : Nat) "bent") by decide +kernel)))))
theorem ms_s34 : (Jvm.Cond.stringRef "RainGrammar$SquareReader" (173 : Nat) "at") ∈ lw_tbl := List.mem_append_right _ (List.mem_append_right _ (List.mem_append_right _ (List.mem_append_left _ (List.mem_of_getElem? (i := 228) (show tables_1_3[228]? = some (Jvm.Cond.stringRef "RainGrammar$SquareReader" (173 : Nat) "at") by decide +kernel)))))
theorem ms_s35 : (Jvm.Cond.stringRef "RainGrammar$SquareReader" (186 : Nat) "goes") ∈ lw_tbl := List.mem_append_right _ (List.mem_append_right _ (List.mem_append_right _ (List.mem_append_right _ (List.mem_append_left _ (List.mem_of_getElem? (i := 2) (show tables_1_4[2]? = some (Jvm.Cond.stringRef "RainGrammar$SquareReader" (186 : Nat) "goes") by decide +kernel))))))
theorem ms_s36 : (Jvm.Cond.stringRef "RainGrammar$SquareReader" (69 : Nat) "gusts") ∈ lw_tbl := List.mem_append_right _ (List.mem_append_right _ (List.mem_append_right _ (List.mem_append_right _ (List.mem_append_left _ (List.mem_of_getElem? (i := 7) (show tables_1_4[7]? = some (Jvm.Cond.stringRef "RainGrammar$SquareReader" (69 : Nat) "gusts") by decide +kernel))))))
theorem ms_s37 : (Jvm.Cond.stringRef "RainGrammar$SquareReader" (74 : Nat) "reads") ∈ lw_tbl := List.mem_append_right _ (List.mem_append_right _ (List.mem_append_right _ (List.mem_append_right _ (List.mem_append_left _ (List.mem_of_getElem? (i := 11) (show tables_1_4[11]? = some (Jvm.Cond.stringRef "RainGrammar$SquareReader" (74 : Nat) "reads") by decide +kernel))))))
theorem ms_s38 : (Jvm.Cond.stringRef "RainGrammar$LawReader" (68 : Nat) "spot") ∈ lw_tbl := List.mem_append_right _ (List.mem_append_right _ (List.mem_append_right _ (List.mem_append_right _ (List.mem_append_left _ (List.mem_of_getElem? (i := 37) (show tables_1_4[37]? = some (Jvm.Cond.stringRef "RainGrammar$LawReader" (68 : Nat) "spot") by decide +kernel))))))
theorem ms_s39 : (Jvm.Cond.stringRef "RainGrammar$LawReader" (70 : Nat) "crowd") ∈ lw_tbl := List.mem_append_right _ (List.mem_append_right _ (List.mem_append_right _ (List.mem_append_right _ (List.mem_append_left _ (List.mem_of_getElem? (i := 39) (show tables_1_4[39]? = some (Jvm.Cond.stringRef "RainGrammar$LawReader" (70 : Nat) "crowd") by decide +kernel))))))
theorem ms_s40 : (Jvm.Cond.stringRef "RainGrammar$LawReader" (72 : Nat) "hour") ∈ lw_tbl := List.mem_append_right _ (List.mem_append_right _ (List.mem_append_right _ (List.mem_append_right _ (List.mem_append_left _ (List.mem_of_getElem? (i := 40) (show tables_1_4[40]? = some (Jvm.Cond.stringRef "RainGrammar$LawReader" (72 : Nat) "hour") by decide +kernel))))))
theorem ms_s41 : (Jvm.Cond.stringRef "RainGrammar$LawReader" (74 : Nat) "first") ∈ lw_tbl := List.mem_append_right _ (List.mem_append_right _ (List.mem_append_right _ (List.mem_append_right _ (List.mem_append_left _ (List.mem_of_getElem? (i := 41) (show tables_1_4[41]? = some (Jvm.Cond.stringRef "RainGrammar$LawReader" (74 : Nat) "first") by decide +kernel))))))
theorem ms_s42 : (Jvm.Cond.stringRef "RainGrammar$LawReader" (50 : Nat) "not") ∈ lw_tbl := List.mem_append_right _ (List.mem_append_right _ (List.mem_append_right _ (List.mem_append_right _ (List.mem_append_left _ (List.mem_of_getElem? (i := 42) (show tables_1_4[42]? = some (Jvm.Cond.stringRef "RainGrammar$LawReader" (50 : Nat) "not") by decide +kernel))))))
theorem ms_s43 : (Jvm.Cond.stringRef "RainGrammar$LawReader" (15 : Nat) "and") ∈ lw_tbl := List.mem_append_right _ (List.mem_append_right _ (List.mem_append_right _ (List.mem_append_right _ (List.mem_append_left _ (List.mem_of_getElem? (i := 61) (show tables_1_4[61]? = some (Jvm.Cond.stringRef "RainGrammar$LawReader" (15 : Nat) "and") by decide +kernel))))))
theorem ms_s44 : (Jvm.Cond.stringRef "RainGrammar$LawReader" (21 : Nat) "or") ∈ lw_tbl := List.mem_append_right _ (List.mem_append_right _ (List.mem_append_right _ (List.mem_append_right _ (List.mem_append_left _ (List.mem_of_getElem? (i := 62) (show tables_1_4[62]? = some (Jvm.Cond.stringRef "RainGrammar$LawReader" (21 : Nat) "or") by decide +kernel))))))
theorem ms_s45 : (Jvm.Cond.stringRef "RainGrammar$BookReader" (50 : Nat) "tick") ∈ lw_tbl := List.mem_append_right _ (List.mem_append_right _ (List.mem_append_right _ (List.mem_append_right _ (List.mem_append_left _ (List.mem_of_getElem? (i := 100) (show tables_1_4[100]? = some (Jvm.Cond.stringRef "RainGrammar$BookReader" (50 : Nat) "tick") by decide +kernel))))))
theorem ms_s46 : (Jvm.Cond.stringRef "RainGrammar$BookReader" (56 : Nat) "move") ∈ lw_tbl := List.mem_append_right _ (List.mem_append_right _ (List.mem_append_right _ (List.mem_append_right _ (List.mem_append_left _ (List.mem_of_getElem? (i := 102) (show tables_1_4[102]? = some (Jvm.Cond.stringRef "RainGrammar$BookReader" (56 : Nat) "move") by decide +kernel))))))
theorem ms_s47 : (Jvm.Cond.stringRef "RainGrammar$BookReader" (58 : Nat) "shut") ∈ lw_tbl := List.mem_append_right _ (List.mem_append_right _ (List.mem_append_right _ (List.mem_append_right _ (List.mem_append_left _ (List.mem_of_getElem? (i := 103) (show tables_1_4[103]? = some (Jvm.Cond.stringRef "RainGrammar$BookReader" (58 : Nat) "shut") by decide +kernel))))))
theorem ms_s48 : (Jvm.Cond.stringRef "RainGrammar$BookReader" (60 : Nat) "open") ∈ lw_tbl := List.mem_append_right _ (List.mem_append_right _ (List.mem_append_right _ (List.mem_append_right _ (List.mem_append_left _ (List.mem_of_getElem? (i := 104) (show tables_1_4[104]? = some (Jvm.Cond.stringRef "RainGrammar$BookReader" (60 : Nat) "open") by decide +kernel))))))
theorem ms_s49 : (Jvm.Cond.stringRef "RainGrammar" (290 : Nat) "no such corner") ∈ lw_tbl := List.mem_append_right _ (List.mem_append_right _ (List.mem_append_right _ (List.mem_append_right _ (List.mem_append_right _ (List.mem_append_right _ (List.mem_append_left _ (List.mem_of_getElem? (i := 143) (show tables_1_6[143]? = some (Jvm.Cond.stringRef "RainGrammar" (290 : Nat) "no such corner") by decide +kernel))))))))
theorem ms_s50 : (Jvm.Cond.stringRef "RainGrammar" (299 : Nat) "no such rest") ∈ lw_tbl := List.mem_append_right _ (List.mem_append_right _ (List.mem_append_right _ (List.mem_append_right _ (List.mem_append_right _ (List.mem_append_right _ (List.mem_append_left _ (List.mem_of_getElem? (i := 175) (show tables_1_6[175]? = some (Jvm.Cond.stringRef "RainGrammar" (299 : Nat) "no such rest") by decide +kernel))))))))
theorem ms_ls : (Jvm.Cond.laysStatic "java/lang/String" "COMPACT_STRINGS" "Z") ∈ lw_tbl := List.mem_append_right _ (List.mem_append_right _ (List.mem_append_left _ (List.mem_of_getElem? (i := 237) (show tables_1_2[237]? = some (Jvm.Cond.laysStatic "java/lang/String" "COMPACT_STRINGS" "Z") by decide +kernel))))
theorem ms_lp : (Jvm.Cond.laysStatic "jdk/internal/util/Preconditions" "SIOOBE_FORMATTER" "Ljava/util/function/BiFunction;") ∈ lw_tbl := List.mem_append_right _ (List.mem_append_right _ (List.mem_append_right _ (List.mem_append_left _ (List.mem_of_getElem? (i := 13) (show tables_1_3[13]? = some (Jvm.Cond.laysStatic "jdk/internal/util/Preconditions" "SIOOBE_FORMATTER" "Ljava/util/function/BiFunction;") by decide +kernel)))))
theorem ms_is : (Jvm.Cond.initialized "java/lang/String") ∈ lw_tbl := List.mem_append_right _ (List.mem_append_left _ (List.mem_of_getElem? (i := 13) (show tables_1_1[13]? = some (Jvm.Cond.initialized "java/lang/String") by decide +kernel)))
theorem ms_ip : (Jvm.Cond.initialized "jdk/internal/util/Preconditions") ∈ lw_tbl := List.mem_append_right _ (List.mem_append_left _ (List.mem_of_getElem? (i := 15) (show tables_1_1[15]? = some (Jvm.Cond.initialized "jdk/internal/util/Preconditions") by decide +kernel)))
theorem ms_fc : (Jvm.Cond.eq (Jvm.Term.static "java/lang/String" "COMPACT_STRINGS" "Z") (Jvm.Term.int (1 : Int32))) ∈ ms_FL := List.mem_of_getElem? (i := 4) (by decide +kernel)
theorem ms_fp : (Jvm.Cond.isRef (Jvm.Term.static "jdk/internal/util/Preconditions" "SIOOBE_FORMATTER" "Ljava/util/function/BiFunction;")) ∈ ms_FL := List.mem_of_getElem? (i := 5) (by decide +kernel)
theorem ms_q23 : (Jvm.Cond.eq (Jvm.Term.string "RainGrammar$Tape" (77 : Nat)) (Jvm.Term.string "RainGrammar$SquareReader" (37 : Nat))) ∈ ms_FL := List.mem_of_getElem? (i := 216) (by decide +kernel)
theorem ms_q24 : (Jvm.Cond.eq (Jvm.Term.string "RainGrammar$Tape" (83 : Nat)) (Jvm.Term.string "RainGrammar$SquareReader" (46 : Nat))) ∈ ms_FL := List.mem_of_getElem? (i := 227) (by decide +kernel)
theorem ms_q25 : (Jvm.Cond.eq (Jvm.Term.string "RainGrammar$Tape" (85 : Nat)) (Jvm.Term.string "RainGrammar$SquareReader" (106 : Nat))) ∈ ms_FL := List.mem_of_getElem? (i := 234) (by decide +kernel)
theorem ms_q26 : (Jvm.Cond.eq (Jvm.Term.string "RainGrammar$Tape" (87 : Nat)) (Jvm.Term.string "RainGrammar$SquareReader" (51 : Nat))) ∈ ms_FL := List.mem_of_getElem? (i := 243) (by decide +kernel)
theorem ms_q27 : (Jvm.Cond.eq (Jvm.Term.string "RainGrammar$Tape" (89 : Nat)) (Jvm.Term.string "RainGrammar$SquareReader" (125 : Nat))) ∈ ms_FL := List.mem_of_getElem? (i := 250) (by decide +kernel)
theorem ms_q28 : (Jvm.Cond.eq (Jvm.Term.string "RainGrammar$Tape" (91 : Nat)) (Jvm.Term.string "RainGrammar$SquareReader" (56 : Nat))) ∈ ms_FL := List.mem_of_getElem? (i := 259) (by decide +kernel)
theorem ms_q29 : (Jvm.Cond.eq (Jvm.Term.string "RainGrammar$Tape" (93 : Nat)) (Jvm.Term.string "RainGrammar$SquareReader" (61 : Nat))) ∈ ms_FL := List.mem_of_getElem? (i := 270) (by decide +kernel)
theorem ms_q30 : (Jvm.Cond.eq (Jvm.Term.string "RainGrammar$Tape" (110 : Nat)) (Jvm.Term.string "RainGrammar$SquareReader" (165 : Nat))) ∈ ms_FL := List.mem_of_getElem? (i := 280) (by decide +kernel)
theorem ms_q31 : (Jvm.Cond.eq (Jvm.Term.string "RainGrammar$Tape" (112 : Nat)) (Jvm.Term.string "RainGrammar$SquareReader" (167 : Nat))) ∈ ms_FL := List.mem_of_getElem? (i := 289) (by decide +kernel)
theorem ms_q32 : (Jvm.Cond.eq (Jvm.Term.string "RainGrammar$Tape" (114 : Nat)) (Jvm.Term.string "RainGrammar$SquareReader" (169 : Nat))) ∈ ms_FL := List.mem_of_getElem? (i := 299) (by decide +kernel)
theorem ms_q33 : (Jvm.Cond.eq (Jvm.Term.string "RainGrammar$Tape" (116 : Nat)) (Jvm.Term.string "RainGrammar$SquareReader" (171 : Nat))) ∈ ms_FL := List.mem_of_getElem? (i := 308) (by decide +kernel)
theorem ms_q34 : (Jvm.Cond.eq (Jvm.Term.string "RainGrammar$Tape" (95 : Nat)) (Jvm.Term.string "RainGrammar$SquareReader" (173 : Nat))) ∈ ms_FL := List.mem_of_getElem? (i := 315) (by decide +kernel)
theorem ms_q35 : (Jvm.Cond.eq (Jvm.Term.string "RainGrammar$Tape" (96 : Nat)) (Jvm.Term.string "RainGrammar$SquareReader" (186 : Nat))) ∈ ms_FL := List.mem_of_getElem? (i := 324) (by decide +kernel)
theorem ms_q36 : (Jvm.Cond.eq (Jvm.Term.string "RainGrammar$Tape" (98 : Nat)) (Jvm.Term.string "RainGrammar$SquareReader" (69 : Nat))) ∈ ms_FL := List.mem_of_getElem? (i := 334) (by decide +kernel)
theorem ms_q37 : (Jvm.Cond.eq (Jvm.Term.string "RainGrammar$Tape" (100 : Nat)) (Jvm.Term.string "RainGrammar$SquareReader" (74 : Nat))) ∈ ms_FL := List.mem_of_getElem? (i := 344) (by decide +kernel)
theorem ms_q42 : (Jvm.Cond.eq (Jvm.Term.string "RainGrammar$Tape" (118 : Nat)) (Jvm.Term.string "RainGrammar$LawReader" (50 : Nat))) ∈ ms_FL := List.mem_of_getElem? (i := 386) (by decide +kernel)
theorem ms_q43 : (Jvm.Cond.eq (Jvm.Term.string "RainGrammar$Tape" (120 : Nat)) (Jvm.Term.string "RainGrammar$LawReader" (15 : Nat))) ∈ ms_FL := List.mem_of_getElem? (i := 394) (by decide +kernel)
theorem ms_q44 : (Jvm.Cond.eq (Jvm.Term.string "RainGrammar$Tape" (122 : Nat)) (Jvm.Term.string "RainGrammar$LawReader" (21 : Nat))) ∈ ms_FL := List.mem_of_getElem? (i := 401) (by decide +kernel)
theorem ms_q45 : (Jvm.Cond.eq (Jvm.Term.string "RainGrammar$Tape" (102 : Nat)) (Jvm.Term.string "RainGrammar$BookReader" (50 : Nat))) ∈ ms_FL := List.mem_of_getElem? (i := 410) (by decide +kernel)
theorem ms_q46 : (Jvm.Cond.eq (Jvm.Term.string "RainGrammar$Tape" (104 : Nat)) (Jvm.Term.string "RainGrammar$BookReader" (56 : Nat))) ∈ ms_FL := List.mem_of_getElem? (i := 419) (by decide +kernel)
theorem ms_q47 : (Jvm.Cond.eq (Jvm.Term.string "RainGrammar$Tape" (106 : Nat)) (Jvm.Term.string "RainGrammar$BookReader" (58 : Nat))) ∈ ms_FL := List.mem_of_getElem? (i := 428) (by decide +kernel)
theorem ms_q48 : (Jvm.Cond.eq (Jvm.Term.string "RainGrammar$Tape" (108 : Nat)) (Jvm.Term.string "RainGrammar$BookReader" (60 : Nat))) ∈ ms_FL := List.mem_of_getElem? (i := 437) (by decide +kernel)
def R_law : String := "RainGrammarLaw"
def lw_P (b : Addr) (xs : List Int32) (args : Array Value) (s : State) : Prop := args = #[.ref b] ∧ s.IntsAt b xs ∧ xs.length ≤ 448 ∧ (Jvm.Cond.and given_1 narrow_1).before args s = true
def lw_Q (_ : Array Value) (s : State) (o : Outcome) (t : State) : Prop := o = .returned (some (.int 1)) ∧ Framed s o t [] 600128 7301098
def lw_Z (below : List Frame) (a : Array Value) (s : State) : State → Prop := fun t => ∃ o, t.status = .running ∧ Ended t below o ∧ lw_Q a s o t
/-- the law's own end, with 1 on the stack, nothing written that was there before, its room as the claim has it -/
theorem lw_ret {p : Program} {l : Launch} {e : Env} {s : State} {m : MethodId} {below : List Frame} {meth : Method} {c : Code} {b : Nat} (hx : p.tables.exec = Jvm.exec) (hb : c.code = code) (hr : meth.sig.returnType = ret) (hlocks : meth.locks = false) {pc : Nat} {H : Heap} {ls : Array Slot} (hdg : decode code pc = .ok (.ireturn, 1)) : W p l e room_1 s m #[Value.ref b] below meth c H [] 600128 7301098 (lw_Z below #[Value.ref b] s) (F0 m pc ls [.int 1]) := by
  intro T hT X
  obtain ⟨fs, hret, hrun, hended, hW, hframe⟩ := X.leave (v := some (.int 1)) (hlocks := hlocks) (fun h => by rw [hr] at h; cases h)
  have hmeth' : T.vm.method? m = some meth := X.method'
  refine ⟨T.setFrames fs, ?_, .returned (some (.int 1)), hrun, hended, rfl, ⟨_, rfl⟩, hW, hframe⟩
  jvm_step X.here [X.here.top, hx, hb, hdg, hmeth', hr, ret, narrow_b1]
  (try refine ⟨rfl, ?_⟩); (try refine ⟨rfl, ?_⟩)
  first | (intro acts; rw [hret _ acts rfl rfl rfl]) | rw [hret _ _ rfl rfl rfl]
  exact Steps.refl _
/-- what holds at the law's entry: the machine, the code, the tables' words (any of lw_tbl by 'hts w (by decide +kernel)'), the script of L ints xs at the cell b, what the Statement gives of the start (any of its parts by flat_of_before) -/
def lw_At (p : Program) (s : State) (m : MethodId) (meth : Method) (c : Code) (b L : Nat) (xs : Nat → Int32) : Prop :=
  p.tables.exec = Jvm.exec ∧ c.code = code ∧ meth.sig.returnType = ret ∧ c.maxLocals = 7 ∧ s.vm.findClass R_law = some m.cls ∧ (∀ w ∈ lw_tbl, w.before #[Value.ref b] s = true) ∧ va_X b L xs s s.heap ∧ b < s.heap.size ∧ meth.locks = false ∧ (Jvm.Cond.and given_1 narrow_1).before #[Value.ref b] s = true
/-- the law's start: what is known there, for the small machine -/
theorem ms_start (fx : List Value → mm_H → Option (List Value × mm_H)) {s : State} {b L : Nat} {xs : Nat → Int32} (hts : ∀ w ∈ lw_tbl, w.before #[Value.ref b] s = true) (hX : va_X b L xs s s.heap) (hbl : b < s.heap.size) (hgv : (Jvm.Cond.and given_1 narrow_1).before #[Value.ref b] s = true) :
    ∃ (D : va_G) (tys : List (ClassId × FieldType)) (dA : Nat → ClassId) (ρ : Nat → Nat) (XS : List Int32), XS.length = L ∧ ρ 0 = b ∧ va_K D mp_cl tys s ∧ mm_XT mp_cl tys dA mp_TB (mp_P fx) ∧ mm_EX XS mp_byt mp_sr ρ (fun q => s.heap.size ≤ q) s := by
  have hs := flat_of_before _ hgv
  have hTB : ∀ w ∈ mp_TB, w.before #[Value.ref b] s = true := fun w hw => hts w (List.mem_filter.mp hw).1
  have hA : ∀ a : Nat, a < s.heap.size → ¬ (fun q => s.heap.size ≤ q) a := fun a h1 h2 => by
    have h3 : s.heap.size ≤ a := h2
    omega
  have hcl : ∀ ci : Nat, ∃ q : ClassId × (Nat → Nat), ∀ v : vw_C, mp_cl[ci]? = some v → u_Kn s v.1 v.2.1 v.2.2 q.1 q.2 := by
    intro ci
    cases hq : mp_cl[ci]? with
    | none => exact ⟨(0, fun _ => 0), fun v hv => by cases hv⟩
    | some v =>
      obtain ⟨cC, iS, hk⟩ := u_known hTB (mp_CT fx ci v hq).2.1 (hTB _ (ms_inst ci v hq))
      exact ⟨(cC, iS), fun v' hv' => by cases hv'; exact hk⟩
  obtain ⟨f, hf⟩ := Classical.axiomOfChoice hcl
  obtain ⟨c0, k0, p0, a1, a2, a3⟩ := Cond.arrayClass_spec (hTB _ wd_1_73)
  obtain ⟨c1, k1, p1, b1, b2, b3⟩ := Cond.arrayClass_spec (hTB _ wd_1_72)
  obtain ⟨c2, k2, p2, d1, d2, d3⟩ := Cond.arrayClass_spec (hTB _ wd_2_28)
  obtain ⟨c4, k4, p4, e1, e2, e3⟩ := Cond.arrayClass_spec (hTB _ wd_1_74)
  obtain ⟨p5, c5, k5, f1, f2, f3, f4, f5⟩ := Cond.arrayOver_spec (hts _ ms_ov)
  obtain ⟨adK, adV, hV, hev⟩ := vk_Sof (N := mp_byt.length) (tm := ms_tm) (len := mp_byt.map List.length) (byt := mp_byt) (A := fun q => s.heap.size ≤ q) (fun i hi => ms_x6 i (by rw [ms_len] at hi; exact hi)) (fun i hi => hs _ (List.mem_of_getElem? (ms_x1 i (by rw [ms_len] at hi; exact hi)))) (fun i hi => hs _ (List.mem_of_getElem? (ms_x2 i (by rw [ms_len] at hi; exact hi)))) (fun i hi => hs _ (List.mem_of_getElem? (ms_x3 i (by rw [ms_len] at hi; exact hi)))) (fun i hi => hs _ (List.mem_of_getElem? (ms_x4 i (by rw [ms_len] at hi; exact hi)))) (fun i hi j hj => hs _ (List.mem_of_getElem? (ms_x5 i (by rw [ms_len] at hi; exact hi) j hj))) (ms_apart hgv) hA
  obtain ⟨ρ, hρ⟩ : ∃ ρ : Nat → Nat, ρ = fun i => if i = 0 then b else if i % 2 = 1 then adK (i / 2) else adV (i / 2 - 1) := ⟨_, rfl⟩
  have hr0 : ρ 0 = b := by rw [hρ]; rfl
  have hro : ∀ j, j < mp_byt.length → ρ (1 + 2 * j) = adK j := by
    intro j _
    rw [hρ]
    show (if 1 + 2 * j = 0 then b else if (1 + 2 * j) % 2 = 1 then adK ((1 + 2 * j) / 2) else adV ((1 + 2 * j) / 2 - 1)) = adK j
    rw [if_neg (by omega), if_pos (by omega), show (1 + 2 * j) / 2 = j by omega]
  have hrv : ∀ j, j < mp_byt.length → ρ (2 + 2 * j) = adV j := by
    intro j _
    rw [hρ]
    show (if 2 + 2 * j = 0 then b else if (2 + 2 * j) % 2 = 1 then adK ((2 + 2 * j) / 2) else adV ((2 + 2 * j) / 2 - 1)) = adV j
    rw [if_neg (by omega), if_neg (by omega), show (2 + 2 * j) / 2 - 1 = j by omega]
  refine ⟨(fun c => (f c).1, fun c => (f c).2), [(c0, .int), (c1, .char), (c2, .boolean), (c4, .long), (c5, .object "RainGrammar$Book")], fun t => if t = 0 then c0 else if t = 1 then c1 else if t = 2 then c2 else if t = 4 then c4 else c5, ρ, (List.range L).map xs, by rw [List.length_map, List.length_range], hr0, ⟨fun ci q hq => hf ci q hq, ?_⟩, ⟨⟨⟨0, rfl⟩, ⟨1, rfl⟩, ⟨2, rfl⟩, ⟨3, rfl⟩, ⟨4, _, rfl, rfl⟩⟩, mp_CT fx⟩, ?_⟩
  · intro k q hq
    have hk : k < 5 := (List.getElem?_eq_some_iff.mp hq).1
    have hk5 : k = 0 ∨ k = 1 ∨ k = 2 ∨ k = 3 ∨ k = 4 := by omega
    rcases hk5 with rfl | rfl | rfl | rfl | rfl <;> cases hq
    · exact ⟨fun n z => ⟨fun k h => (by cases h), k0, a2, p0, a3⟩, a1⟩
    · exact ⟨fun n z => ⟨fun k h => (by cases h), k1, b2, p1, b3⟩, b1⟩
    · exact ⟨fun n z => ⟨fun k h => (by cases h), k2, d2, p2, d3⟩, d1⟩
    · exact ⟨fun n z => ⟨fun k h => (by cases h), k4, e2, p4, e3⟩, e1⟩
    · exact ⟨fun n z => ⟨fun k h => (by cases h), k5, f3, p5, f4⟩, k5, p5, f3, f4, f1, f5⟩
  · refine ⟨⟨?_, by rw [hr0]; exact hbl, by rw [hr0]; exact hA b hbl⟩, ⟨fun i hi => ?_, fun i j hi hj hij => ?_⟩, ?_, ?_, ?_, ?_, ?_⟩
    · obtain ⟨scr, g1, g2, g3, g4, g5⟩ := hX
      rw [hr0]
      refine ⟨scr, g1, g2, g3, by rw [List.length_map, List.length_range]; exact g4, fun j hj => ?_⟩
      rw [List.length_map, List.length_range] at hj
      rw [g5 j hj]
      show some (Value.int (xs j)) = some (Value.int (((List.range L).map xs).getD j 0))
      rw [List.getD_eq_getElem?_getD, List.getElem?_map, List.getElem?_range hj]
      rfl
    · simp only [hro i hi, hrv i hi]
      exact hV.1 i hi
    · simp only [hro i hi, hro j hj] at hij
      exact hV.2 i j hi hj hij
    · exact List.forall_mem_cons.mpr ⟨⟨by show 0 < mp_byt.length; rw [ms_len]; decide, vk_R.of (A := #[Value.ref b]) (hts _ ms_s0) (by rw [hro 0 (by rw [ms_len]; decide)]; exact hev 0 (by rw [ms_len]; decide))⟩, List.forall_mem_cons.mpr ⟨⟨by show 1 < mp_byt.length; rw [ms_len]; decide, vk_R.of (A := #[Value.ref b]) (hts _ ms_s1) (by rw [hro 1 (by rw [ms_len]; decide)]; exact hev 1 (by rw [ms_len]; decide))⟩, List.forall_mem_cons.mpr ⟨⟨by show 2 < mp_byt.length; rw [ms_len]; decide, vk_R.of (A := #[Value.ref b]) (hts _ ms_s2) (by rw [hro 2 (by rw [ms_len]; decide)]; exact hev 2 (by rw [ms_len]; decide))⟩, List.forall_mem_cons.mpr ⟨⟨by show 3 < mp_byt.length; rw [ms_len]; decide, vk_R.of (A := #[Value.ref b]) (hts _ ms_s3) (by rw [hro 3 (by rw [ms_len]; decide)]; exact hev 3 (by rw [ms_len]; decide))⟩, List.forall_mem_cons.mpr ⟨⟨by show 4 < mp_byt.length; rw [ms_len]; decide, vk_R.of (A := #[Value.ref b]) (hts _ ms_s4) (by rw [hro 4 (by rw [ms_len]; decide)]; exact hev 4 (by rw [ms_len]; decide))⟩, List.forall_mem_cons.mpr ⟨⟨by show 5 < mp_byt.length; rw [ms_len]; decide, vk_R.of (A := #[Value.ref b]) (hts _ ms_s5) (by rw [hro 5 (by rw [ms_len]; decide)]; exact hev 5 (by rw [ms_len]; decide))⟩, List.forall_mem_cons.mpr ⟨⟨by show 6 < mp_byt.length; rw [ms_len]; decide, vk_R.of (A := #[Value.ref b]) (hts _ ms_s6) (by rw [hro 6 (by rw [ms_len]; decide)]; exact hev 6 (by rw [ms_len]; decide))⟩, List.forall_mem_cons.mpr ⟨⟨by show 7 < mp_byt.length; rw [ms_len]; decide, vk_R.of (A := #[Value.ref b]) (hts _ ms_s7) (by rw [hro 7 (by rw [ms_len]; decide)]; exact hev 7 (by rw [ms_len]; decide))⟩, List.forall_mem_cons.mpr ⟨⟨by show 8 < mp_byt.length; rw [ms_len]; decide, vk_R.of (A := #[Value.ref b]) (hts _ ms_s8) (by rw [hro 8 (by rw [ms_len]; decide)]; exact hev 8 (by rw [ms_len]; decide))⟩, List.forall_mem_cons.mpr ⟨⟨by show 9 < mp_byt.length; rw [ms_len]; decide, vk_R.of (A := #[Value.ref b]) (hts _ ms_s9) (by rw [hro 9 (by rw [ms_len]; decide)]; exact hev 9 (by rw [ms_len]; decide))⟩, List.forall_mem_cons.mpr ⟨⟨by show 10 < mp_byt.length; rw [ms_len]; decide, vk_R.of (A := #[Value.ref b]) (hts _ ms_s10) (by rw [hro 10 (by rw [ms_len]; decide)]; exact hev 10 (by rw [ms_len]; decide))⟩, List.forall_mem_cons.mpr ⟨⟨by show 11 < mp_byt.length; rw [ms_len]; decide, vk_R.of (A := #[Value.ref b]) (hts _ ms_s11) (by rw [hro 11 (by rw [ms_len]; decide)]; exact hev 11 (by rw [ms_len]; decide))⟩, List.forall_mem_cons.mpr ⟨⟨by show 12 < mp_byt.length; rw [ms_len]; decide, vk_R.of (A := #[Value.ref b]) (hts _ ms_s12) (by rw [hro 12 (by rw [ms_len]; decide)]; exact hev 12 (by rw [ms_len]; decide))⟩, List.forall_mem_cons.mpr ⟨⟨by show 13 < mp_byt.length; rw [ms_len]; decide, vk_R.of (A := #[Value.ref b]) (hts _ ms_s13) (by rw [hro 13 (by rw [ms_len]; decide)]; exact hev 13 (by rw [ms_len]; decide))⟩, List.forall_mem_cons.mpr ⟨⟨by show 14 < mp_byt.length; rw [ms_len]; decide, vk_R.of (A := #[Value.ref b]) (hts _ ms_s14) (by rw [hro 14 (by rw [ms_len]; decide)]; exact hev 14 (by rw [ms_len]; decide))⟩, List.forall_mem_cons.mpr ⟨⟨by show 15 < mp_byt.length; rw [ms_len]; decide, vk_R.of (A := #[Value.ref b]) (hts _ ms_s15) (by rw [hro 15 (by rw [ms_len]; decide)]; exact hev 15 (by rw [ms_len]; decide))⟩, List.forall_mem_cons.mpr ⟨⟨by show 16 < mp_byt.length; rw [ms_len]; decide, vk_R.of (A := #[Value.ref b]) (hts _ ms_s16) (by rw [hro 16 (by rw [ms_len]; decide)]; exact hev 16 (by rw [ms_len]; decide))⟩, List.forall_mem_cons.mpr ⟨⟨by show 17 < mp_byt.length; rw [ms_len]; decide, vk_R.of (A := #[Value.ref b]) (hts _ ms_s17) (by rw [hro 17 (by rw [ms_len]; decide)]; exact hev 17 (by rw [ms_len]; decide))⟩, List.forall_mem_cons.mpr ⟨⟨by show 18 < mp_byt.length; rw [ms_len]; decide, vk_R.of (A := #[Value.ref b]) (hts _ ms_s18) (by rw [hro 18 (by rw [ms_len]; decide)]; exact hev 18 (by rw [ms_len]; decide))⟩, List.forall_mem_cons.mpr ⟨⟨by show 19 < mp_byt.length; rw [ms_len]; decide, vk_R.of (A := #[Value.ref b]) (hts _ ms_s19) (by rw [hro 19 (by rw [ms_len]; decide)]; exact hev 19 (by rw [ms_len]; decide))⟩, List.forall_mem_cons.mpr ⟨⟨by show 20 < mp_byt.length; rw [ms_len]; decide, vk_R.of (A := #[Value.ref b]) (hts _ ms_s20) (by rw [hro 20 (by rw [ms_len]; decide)]; exact hev 20 (by rw [ms_len]; decide))⟩, List.forall_mem_cons.mpr ⟨⟨by show 21 < mp_byt.length; rw [ms_len]; decide, vk_R.of (A := #[Value.ref b]) (hts _ ms_s21) (by rw [hro 21 (by rw [ms_len]; decide)]; exact hev 21 (by rw [ms_len]; decide))⟩, List.forall_mem_cons.mpr ⟨⟨by show 22 < mp_byt.length; rw [ms_len]; decide, vk_R.of (A := #[Value.ref b]) (hts _ ms_s22) (by rw [hro 22 (by rw [ms_len]; decide)]; exact hev 22 (by rw [ms_len]; decide))⟩, List.forall_mem_cons.mpr ⟨⟨by show 0 < mp_byt.length; rw [ms_len]; decide, vk_R.of (A := #[Value.ref b]) (hts _ ms_s23) (by rw [hro 0 (by rw [ms_len]; decide)]; exact ms_eq (hs _ ms_q23) (hev 0 (by rw [ms_len]; decide)) (ms_str _ _))⟩, List.forall_mem_cons.mpr ⟨⟨by show 1 < mp_byt.length; rw [ms_len]; decide, vk_R.of (A := #[Value.ref b]) (hts _ ms_s24) (by rw [hro 1 (by rw [ms_len]; decide)]; exact ms_eq (hs _ ms_q24) (hev 1 (by rw [ms_len]; decide)) (ms_str _ _))⟩, List.forall_mem_cons.mpr ⟨⟨by show 2 < mp_byt.length; rw [ms_len]; decide, vk_R.of (A := #[Value.ref b]) (hts _ ms_s25) (by rw [hro 2 (by rw [ms_len]; decide)]; exact ms_eq (hs _ ms_q25) (hev 2 (by rw [ms_len]; decide)) (ms_str _ _))⟩, List.forall_mem_cons.mpr ⟨⟨by show 3 < mp_byt.length; rw [ms_len]; decide, vk_R.of (A := #[Value.ref b]) (hts _ ms_s26) (by rw [hro 3 (by rw [ms_len]; decide)]; exact ms_eq (hs _ ms_q26) (hev 3 (by rw [ms_len]; decide)) (ms_str _ _))⟩, List.forall_mem_cons.mpr ⟨⟨by show 4 < mp_byt.length; rw [ms_len]; decide, vk_R.of (A := #[Value.ref b]) (hts _ ms_s27) (by rw [hro 4 (by rw [ms_len]; decide)]; exact ms_eq (hs _ ms_q27) (hev 4 (by rw [ms_len]; decide)) (ms_str _ _))⟩, List.forall_mem_cons.mpr ⟨⟨by show 5 < mp_byt.length; rw [ms_len]; decide, vk_R.of (A := #[Value.ref b]) (hts _ ms_s28) (by rw [hro 5 (by rw [ms_len]; decide)]; exact ms_eq (hs _ ms_q28) (hev 5 (by rw [ms_len]; decide)) (ms_str _ _))⟩, List.forall_mem_cons.mpr ⟨⟨by show 6 < mp_byt.length; rw [ms_len]; decide, vk_R.of (A := #[Value.ref b]) (hts _ ms_s29) (by rw [hro 6 (by rw [ms_len]; decide)]; exact ms_eq (hs _ ms_q29) (hev 6 (by rw [ms_len]; decide)) (ms_str _ _))⟩, List.forall_mem_cons.mpr ⟨⟨by show 15 < mp_byt.length; rw [ms_len]; decide, vk_R.of (A := #[Value.ref b]) (hts _ ms_s30) (by rw [hro 15 (by rw [ms_len]; decide)]; exact ms_eq (hs _ ms_q30) (hev 15 (by rw [ms_len]; decide)) (ms_str _ _))⟩, List.forall_mem_cons.mpr ⟨⟨by show 16 < mp_byt.length; rw [ms_len]; decide, vk_R.of (A := #[Value.ref b]) (hts _ ms_s31) (by rw [hro 16 (by rw [ms_len]; decide)]; exact ms_eq (hs _ ms_q31) (hev 16 (by rw [ms_len]; decide)) (ms_str _ _))⟩, List.forall_mem_cons.mpr ⟨⟨by show 17 < mp_byt.length; rw [ms_len]; decide, vk_R.of (A := #[Value.ref b]) (hts _ ms_s32) (by rw [hro 17 (by rw [ms_len]; decide)]; exact ms_eq (hs _ ms_q32) (hev 17 (by rw [ms_len]; decide)) (ms_str _ _))⟩, List.forall_mem_cons.mpr ⟨⟨by show 18 < mp_byt.length; rw [ms_len]; decide, vk_R.of (A := #[Value.ref b]) (hts _ ms_s33) (by rw [hro 18 (by rw [ms_len]; decide)]; exact ms_eq (hs _ ms_q33) (hev 18 (by rw [ms_len]; decide)) (ms_str _ _))⟩, List.forall_mem_cons.mpr ⟨⟨by show 7 < mp_byt.length; rw [ms_len]; decide, vk_R.of (A := #[Value.ref b]) (hts _ ms_s34) (by rw [hro 7 (by rw [ms_len]; decide)]; exact ms_eq (hs _ ms_q34) (hev 7 (by rw [ms_len]; decide)) (ms_str _ _))⟩, List.forall_mem_cons.mpr ⟨⟨by show 8 < mp_byt.length; rw [ms_len]; decide, vk_R.of (A := #[Value.ref b]) (hts _ ms_s35) (by rw [hro 8 (by rw [ms_len]; decide)]; exact ms_eq (hs _ ms_q35) (hev 8 (by rw [ms_len]; decide)) (ms_str _ _))⟩, List.forall_mem_cons.mpr ⟨⟨by show 9 < mp_byt.length; rw [ms_len]; decide, vk_R.of (A := #[Value.ref b]) (hts _ ms_s36) (by rw [hro 9 (by rw [ms_len]; decide)]; exact ms_eq (hs _ ms_q36) (hev 9 (by rw [ms_len]; decide)) (ms_str _ _))⟩, List.forall_mem_cons.mpr ⟨⟨by show 10 < mp_byt.length; rw [ms_len]; decide, vk_R.of (A := #[Value.ref b]) (hts _ ms_s37) (by rw [hro 10 (by rw [ms_len]; decide)]; exact ms_eq (hs _ ms_q37) (hev 10 (by rw [ms_len]; decide)) (ms_str _ _))⟩, List.forall_mem_cons.mpr ⟨⟨by show 23 < mp_byt.length; rw [ms_len]; decide, vk_R.of (A := #[Value.ref b]) (hts _ ms_s38) (by rw [hro 23 (by rw [ms_len]; decide)]; exact hev 23 (by rw [ms_len]; decide))⟩, List.forall_mem_cons.mpr ⟨⟨by show 24 < mp_byt.length; rw [ms_len]; decide, vk_R.of (A := #[Value.ref b]) (hts _ ms_s39) (by rw [hro 24 (by rw [ms_len]; decide)]; exact hev 24 (by rw [ms_len]; decide))⟩, List.forall_mem_cons.mpr ⟨⟨by show 25 < mp_byt.length; rw [ms_len]; decide, vk_R.of (A := #[Value.ref b]) (hts _ ms_s40) (by rw [hro 25 (by rw [ms_len]; decide)]; exact hev 25 (by rw [ms_len]; decide))⟩, List.forall_mem_cons.mpr ⟨⟨by show 26 < mp_byt.length; rw [ms_len]; decide, vk_R.of (A := #[Value.ref b]) (hts _ ms_s41) (by rw [hro 26 (by rw [ms_len]; decide)]; exact hev 26 (by rw [ms_len]; decide))⟩, List.forall_mem_cons.mpr ⟨⟨by show 19 < mp_byt.length; rw [ms_len]; decide, vk_R.of (A := #[Value.ref b]) (hts _ ms_s42) (by rw [hro 19 (by rw [ms_len]; decide)]; exact ms_eq (hs _ ms_q42) (hev 19 (by rw [ms_len]; decide)) (ms_str _ _))⟩, List.forall_mem_cons.mpr ⟨⟨by show 20 < mp_byt.length; rw [ms_len]; decide, vk_R.of (A := #[Value.ref b]) (hts _ ms_s43) (by rw [hro 20 (by rw [ms_len]; decide)]; exact ms_eq (hs _ ms_q43) (hev 20 (by rw [ms_len]; decide)) (ms_str _ _))⟩, List.forall_mem_cons.mpr ⟨⟨by show 21 < mp_byt.length; rw [ms_len]; decide, vk_R.of (A := #[Value.ref b]) (hts _ ms_s44) (by rw [hro 21 (by rw [ms_len]; decide)]; exact ms_eq (hs _ ms_q44) (hev 21 (by rw [ms_len]; decide)) (ms_str _ _))⟩, List.forall_mem_cons.mpr ⟨⟨by show 11 < mp_byt.length; rw [ms_len]; decide, vk_R.of (A := #[Value.ref b]) (hts _ ms_s45) (by rw [hro 11 (by rw [ms_len]; decide)]; exact ms_eq (hs _ ms_q45) (hev 11 (by rw [ms_len]; decide)) (ms_str _ _))⟩, List.forall_mem_cons.mpr ⟨⟨by show 12 < mp_byt.length; rw [ms_len]; decide, vk_R.of (A := #[Value.ref b]) (hts _ ms_s46) (by rw [hro 12 (by rw [ms_len]; decide)]; exact ms_eq (hs _ ms_q46) (hev 12 (by rw [ms_len]; decide)) (ms_str _ _))⟩, List.forall_mem_cons.mpr ⟨⟨by show 13 < mp_byt.length; rw [ms_len]; decide, vk_R.of (A := #[Value.ref b]) (hts _ ms_s47) (by rw [hro 13 (by rw [ms_len]; decide)]; exact ms_eq (hs _ ms_q47) (hev 13 (by rw [ms_len]; decide)) (ms_str _ _))⟩, List.forall_mem_cons.mpr ⟨⟨by show 14 < mp_byt.length; rw [ms_len]; decide, vk_R.of (A := #[Value.ref b]) (hts _ ms_s48) (by rw [hro 14 (by rw [ms_len]; decide)]; exact ms_eq (hs _ ms_q48) (hev 14 (by rw [ms_len]; decide)) (ms_str _ _))⟩, List.forall_mem_cons.mpr ⟨⟨by show 27 < mp_byt.length; rw [ms_len]; decide, vk_R.of (A := #[Value.ref b]) (hts _ ms_s49) (by rw [hro 27 (by rw [ms_len]; decide)]; exact hev 27 (by rw [ms_len]; decide))⟩, List.forall_mem_cons.mpr ⟨⟨by show 28 < mp_byt.length; rw [ms_len]; decide, vk_R.of (A := #[Value.ref b]) (hts _ ms_s50) (by rw [hro 28 (by rw [ms_len]; decide)]; exact hev 28 (by rw [ms_len]; decide))⟩, fun _ h => absurd h List.not_mem_nil⟩⟩⟩⟩⟩⟩⟩⟩⟩⟩⟩⟩⟩⟩⟩⟩⟩⟩⟩⟩⟩⟩⟩⟩⟩⟩⟩⟩⟩⟩⟩⟩⟩⟩⟩⟩⟩⟩⟩⟩⟩⟩⟩⟩⟩⟩⟩⟩⟩⟩⟩
    · exact va_Zof (hts _ ms_ls) (hts _ ms_is) (va_eqt (hs _ ms_fc)) hA
    · exact List.forall_mem_cons.mpr ⟨va_Nw.of rfl (hts _ ms_n0), List.forall_mem_cons.mpr ⟨va_Nw.of rfl (hts _ ms_n1), List.forall_mem_cons.mpr ⟨va_Nw.of rfl (hts _ ms_n2), List.forall_mem_cons.mpr ⟨va_Nw.of rfl (hts _ ms_n3), List.forall_mem_cons.mpr ⟨va_Nw.of rfl (hts _ ms_n4), List.forall_mem_cons.mpr ⟨va_Nw.of rfl (hts _ ms_n5), List.forall_mem_cons.mpr ⟨va_Nw.of rfl (hts _ ms_n6), List.forall_mem_cons.mpr ⟨va_Nw.of rfl (hts _ ms_n7), List.forall_mem_cons.mpr ⟨va_Nw.of rfl (hts _ ms_n8), List.forall_mem_cons.mpr ⟨va_Nw.of rfl (hts _ ms_n9), fun _ h => absurd h List.not_mem_nil⟩⟩⟩⟩⟩⟩⟩⟩⟩⟩
    · exact va_AO.of (hts _ ms_ov)
    · exact va_Zqof (hts _ ms_lp) (hts _ ms_ip) (hs _ ms_fp) hA
/-- the claim's walk out of the small machine's run -/
theorem ms_whole (fx : List Value → mm_H → Option (List Value × mm_H)) {Z : State → Array Value → Prop} (hZ : ∀ (s : State) (b : Nat), (∀ w ∈ lw_tbl, w.before #[Value.ref b] s = true) → (Jvm.Cond.and given_1 narrow_1).before #[Value.ref b] s = true → Z s #[Value.ref b])
    (F : ∀ (l : Launch) (D : va_G) (tys : List (ClassId × FieldType)) (dA : Nat → ClassId) (XS : List Int32), mm_FX Z l D mp_cl tys dA mp_TB (mp_P fx) XS mp_byt mp_sr mp_yy mp_bb)
    (PURE : ∀ XS : List Int32, XS.length ≤ 448 → ∃ (n : Nat) (hf : mm_H), mm_ex (mp_P fx) n 900 5000 0 (mm_ent [.ref 0] 7) [] (mp_ne, 0, mm_x0 XS mp_byt) = some (some (.int 1), hf) ∧ (hf.1 - mp_ne) + hf.2.1 ≤ 600128 ∧ hf.2.1 ≤ 7301098)
    {p : Program} {e : Env} {s : State} {m : MethodId} {below : List Frame} {meth : Method} {c : Code} (l : Launch) (hname : meth.name = x.name) {b L : Nat} {xs : Nat → Int32} (hL : L ≤ 448) (C0 : lw_At p s m meth c b L xs) : W p l e room_1 s m #[Value.ref b] below meth c s.heap [] 0 0 (lw_Z below #[Value.ref b] s) (entryFrame m ([Value.ref b] : List Value).toArray 7) := by
  obtain ⟨hx, hb, hr, hml, hown, hts, hX, hbl, hlk, hgv⟩ := C0
  obtain ⟨D, tys, dA, ρ, XS, hXL, hr0, hK, hT, hE⟩ := ms_start fx hts hX hbl hgv
  obtain ⟨n, hf, hrun, hcells, hslots⟩ := PURE XS (by rw [hXL]; exact hL)
  have hTB : ∀ w ∈ mp_TB, w.before #[Value.ref b] s = true := fun w hw => hts w (List.mem_filter.mp hw).1
  obtain ⟨pcf, Lf, stf, htr, e1⟩ := mm_ex_tr _ _ _ _ _ _ _ _ _ hrun
  have TR := mm_all (l := l) (D := D) (mp_GG fx) hT (F l D tys dA XS) n
  have X : mm_X p room_1 s m #[Value.ref b] c (mp_bb 5000) (mp_yy 5000).cls ((mp_P fx).2.1 5000).2.1 D mp_cl tys dA mp_TB (fun q => s.heap.size ≤ q) (mp_P fx) :=
    ⟨hx, hb, hml, hown, hTB, hK, fun q h => h, ⟨by decide, by decide⟩, hT.1, hT.2⟩
  have hI : mm_I0 (mp_P fx) XS mp_byt (mp_ne, 0, mm_x0 XS mp_byt) := by
    refine ⟨⟨Nat.le_refl _, fun i hi => ?_⟩, fun i _ => rfl, fun i h1 h2 => absurd h2 (Nat.not_lt_of_le h1), ms_ne⟩
    show mm_bc mp_ne (mm_x0 XS mp_byt i)
    have hi' : i < mp_ne := hi
    rcases mm_x0_c XS mp_byt i with ⟨-, q⟩ | ⟨j, hj, q⟩ | ⟨j, -, q⟩ <;> rw [q]
    · trivial
    · intro v hv
      rcases List.mem_cons.mp hv with rfl | hv
      · show 2 + 2 * j < mp_ne
        rw [ms_ne] at hi' ⊢
        omega
      · rcases List.mem_cons.mp hv with rfl | hv
        · trivial
        · cases hv
    · trivial
  have hws : mm_ws dA mp_ne ρ (mp_ne, 0, mm_x0 XS mp_byt) = [] := by
    unfold mm_ws
    rw [Nat.sub_self]
    rfl
  have hPw : va_P D mp_cl (mm_ws dA (mp_P fx).2.2.2.1 ρ (mp_ne, 0, mm_x0 XS mp_byt)) s.heap := by
    show va_P D mp_cl (mm_ws dA mp_ne ρ (mp_ne, 0, mm_x0 XS mp_byt)) s.heap
    rw [hws]
    intro k q hq
    cases hq
  have hDw : va_D (fun q => s.heap.size ≤ q) (mm_ws dA (mp_P fx).2.2.2.1 ρ (mp_ne, 0, mm_x0 XS mp_byt)) := by
    show va_D (fun q => s.heap.size ≤ q) (mm_ws dA mp_ne ρ (mp_ne, 0, mm_x0 XS mp_byt))
    rw [hws]
    refine ⟨fun i j p q hp => ?_, fun k q hq => ?_⟩
    · cases hp
    · cases hq
  have hv0 : ∀ v ∈ ([.ref 0] : List Value), mm_bv mp_ne v := by
    intro v hv
    have h9 : v = .ref 0 := by simpa using hv
    rw [h9]
    show 0 < mp_ne
    decide
  have hl := lv_entry (([.ref 0] : List Value).map (mm_tv ρ)) (n := 7) (Nat.le_of_ble_eq_true rfl)
  have hargs : ([.ref 0] : List Value).map (mm_tv ρ) = [.ref b] := by rw [← hr0]; rfl
  rw [hargs] at hl
  rw [lg_entry_eq]
  generalize (lg_sl [.ref b] ++ List.replicate (7 - (lg_sl [.ref b]).length) Slot.unset).toArray = ls at hl ⊢
  rw [← hargs] at hl
  have h2 := TR p e room_1 s m #[Value.ref b] below meth c (lw_Z below #[Value.ref b] s) 900 5000 (fun q => s.heap.size ≤ q) ρ mp_ne 0 0 (mm_ent [.ref 0] 7) [] (mp_ne, 0, mm_x0 XS mp_byt) pcf Lf stf hf X hname (gi_5000 fx) (fun _ => hZ s b hts hgv) ⟨by decide, by decide, hcells, hslots⟩ htr ?_ ρ ls s.heap []
    ⟨mm_ent_LR (by decide) hl, mm_ent_bv hv0, (fun v hv => by cases hv), hI.1, hI.2.1, hI.2.2.1, hPw, hDw, va_S.rf, hE, Nat.le_refl _, Nat.le_refl _, Nat.le_refl _, ms_ne, fun i _ => rfl⟩
  · rw [show ((mp_ne, 0, mm_x0 XS mp_byt) : mm_H).1 = mp_ne from rfl, Nat.sub_self] at h2
    exact h2
  · intro ρ1 ls1 H1 locs1 S1
    rcases mm_step_r e1 with ⟨hi, v, rfl, hv, hr1⟩ | ⟨hi, v, rfl, hv, hr1⟩ | ⟨hi, rfl, hv, hr1⟩
    · cases hv
      have hg := gi_5000 fx pcf
      rw [hi] at hg
      refine va_forget (fun q hq => S1.2.2.2.2.2.2.2.2.1.2.2 q hq) ?_
      refine W.widen hcells hslots ?_
      exact lw_ret hx hb hr hlk hg
    · cases hv
    · cases hv
