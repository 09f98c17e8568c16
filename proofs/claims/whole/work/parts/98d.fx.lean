abbrev fy : MethodName := ⟨"RainGrammarLaw", "rests", "(LRainGrammar;IIII[J)I"⟩
abbrev fN : String := "java/util/NoSuchElementException"
def fL : List String := ["java/lang/RuntimeException", "java/lang/Exception"]
theorem fw_m {w : Cond} (h : w ∈ lw_tbl) (hg : goodWord w = true) : w ∈ mp_TB := List.mem_filter.mpr ⟨h, hg⟩
theorem fw_link : Cond.methodLink "RainGrammarLaw" 165 fy ∈ mp_TB := fw_m (by decide +kernel) (by decide +kernel)
theorem fw_stat : Cond.static fy ∈ mp_TB := fw_m (by decide +kernel) (by decide +kernel)
theorem fw_init : Cond.initialized "RainGrammarLaw" ∈ mp_TB := fw_m (by decide +kernel) (by decide +kernel)
theorem fw_code : Cond.codeWith fy method_3_code 7 (some .int) [(0, 14, 17, 13)] ∈ mp_TB := fw_m (by decide +kernel) (by decide +kernel)
theorem fw_l7 : Cond.methodLink "RainGrammarLaw" 7 (mp_yy 205) ∈ mp_TB := fw_m (by decide +kernel) (by decide +kernel)
theorem fw_im : Cond.instanceMethod (mp_yy 205) ∈ mp_TB := fw_m (by decide +kernel) (by decide +kernel)
theorem fw_sel : Cond.selects "RainGrammar" (mp_yy 205) (mp_yy 205) ∈ mp_TB := fw_m (by decide +kernel) (by decide +kernel)
theorem fw_ini : Cond.initialized "RainGrammar" ∈ mp_TB := fw_m (by decide +kernel) (by decide +kernel)
theorem fw_c13 : Cond.classLink "RainGrammarLaw" 13 fN ∈ mp_TB := fw_m (by decide +kernel) (by decide +kernel)
theorem fw_c288 : Cond.classLink "RainGrammar" 288 fN ∈ mp_TB := fw_m (by decide +kernel) (by decide +kernel)
theorem fw_in : Cond.initialized fN ∈ mp_TB := fw_m (by decide +kernel) (by decide +kernel)
theorem fw_ca : Cond.castable fN fN ∈ lw_tbl := by decide +kernel
theorem fw_lu : Cond.laysStatic Bundle.tN "UNASSIGNED_STACK" Bundle.steD ∈ lw_tbl := by decide +kernel
theorem fw_ls : Cond.laysStatic Bundle.tN "SUPPRESSED_SENTINEL" Bundle.listD ∈ lw_tbl := by decide +kernel
theorem fw_it : Cond.initialized Bundle.tN ∈ lw_tbl := by decide +kernel
/-! a throw of this class's exception: its (String) constructor calls its superclass's by another entry than the kit's throws have -/
abbrev fR : String := "java/lang/RuntimeException"
def fA : List Cond := Bundle.throwableAtoms ++ Bundle.throwableSAtoms ++ (Bundle.passSAtoms fN fR 13 prog_31_method_4_code ++ Bundle.chainSAtoms fR ["java/lang/Exception"]) ++
  [.methodLink "RainGrammar" 292 (Bundle.initS fN), .instantiable fN 6, .castable fN fN, .selects fN Bundle.tFill0 Bundle.tFill0, .selects fN Bundle.tFill Bundle.tFill,
   .lays fN Bundle.tN "cause" "Ljava/lang/Throwable;", .lays fN Bundle.tN "stackTrace" Bundle.steD, .lays fN Bundle.tN "suppressedExceptions" Bundle.listD, .lays fN Bundle.tN "detailMessage" "Ljava/lang/String;",
   .isRef (.static Bundle.tN "UNASSIGNED_STACK" Bundle.steD), .isRef (.static Bundle.tN "SUPPRESSED_SENTINEL" Bundle.listD),
   .fieldLink Bundle.tN 198 Bundle.tN "backtrace" "Ljava/lang/Object;", .lays Bundle.tN Bundle.tN "backtrace" "Ljava/lang/Object;", .lays fN Bundle.tN "backtrace" "Ljava/lang/Object;"]
def fB : List Cond := [.castable fN fN, .declares (Bundle.initS fR), .declares (Bundle.initS "java/lang/Exception"), .declares (Bundle.initS Bundle.tN)]
theorem fw_at : ∀ w ∈ (fA.filter vx_no).filter goodWord, w ∈ lw_tbl := by decide +kernel
theorem fw_no : ∀ w ∈ (fA.filter vx_no).filter (fun w => !goodWord w), w ∈ fB := by decide +kernel
theorem fw_ot : ∀ w ∈ Cond.classLink "RainGrammar" 288 fN :: Cond.initialized fN :: fA.filter vx_no, vx_ot w = true := by decide +kernel
theorem fw_fB : ∀ w ∈ fB, w ∈ lw_tbl := by decide +kernel
theorem fr_0 : decode prog_31_method_4_code 0 = .ok (.aload_n 0, 1) := by decide +kernel
theorem fr_1 : decode prog_31_method_4_code 1 = .ok (.aload_n 1, 1) := by decide +kernel
theorem fr_2 : decode prog_31_method_4_code 2 = .ok (.invokespecial 13, 3) := by decide +kernel
theorem fr_5 : decode prog_31_method_4_code 5 = .ok (.return_, 1) := by decide +kernel
