theorem mq_all {own nm : String} {cl : List vw_C} {TB : List Cond} {sr : mm_N} {P : mm_P} {yy : Nat → MethodName} {T : mq_T} {fi : Nat → Bool} {aw : ArrayType → Bool} (O : mq_ok own nm cl TB sr P yy T fi aw) {cc : ByteArray} {ra : Nat} (hra : P.2.2.2.2.1 = ra) {mc : List Instr} (h : mc.zipIdx.all (fun q => mq_b T fi aw ra cc q.2 q.1) = true) : ∀ pc, mm_G cc own nm cl TB sr P yy pc (mc.getD pc .nop) := by
  intro pc
  rw [List.getD_eq_getElem?_getD]
  cases hp : mc[pc]? with
  | none => exact trivial
  | some i =>
    have h1 := List.all_eq_true.mp h (i, pc) (List.mem_zipIdx_iff_getElem?.mpr hp)
    rw [← hra] at h1
    exact mq_sound O h1
def mt_21 : mq_T := ([], [], [], [], [], [])
theorem mo_21 (fx : List Value → mm_H → Option (List Value × mm_H)) (nm : String) : mq_ok "jdk/internal/util/Preconditions" nm mp_cl mp_TB mp_sr (mp_P fx) mp_yy mt_21 mp_fi mp_aw := ⟨fun _ h => absurd h List.not_mem_nil, fun _ h => absurd h List.not_mem_nil, fun _ h => absurd h List.not_mem_nil, fun _ h => absurd h List.not_mem_nil, fun _ h => absurd h List.not_mem_nil, fun _ h => absurd h List.not_mem_nil, mp_fi_ok _ _, mp_aw_ok⟩
def mt_22 : mq_T := ([], [], [], [], [], [])
theorem mo_22 (fx : List Value → mm_H → Option (List Value × mm_H)) (nm : String) : mq_ok "java/lang/Math" nm mp_cl mp_TB mp_sr (mp_P fx) mp_yy mt_22 mp_fi mp_aw := ⟨fun _ h => absurd h List.not_mem_nil, fun _ h => absurd h List.not_mem_nil, fun _ h => absurd h List.not_mem_nil, fun _ h => absurd h List.not_mem_nil, fun _ h => absurd h List.not_mem_nil, fun _ h => absurd h List.not_mem_nil, mp_fi_ok _ _, mp_aw_ok⟩
def mt_23 : mq_T := ([], [], [], [], [], [])
theorem mo_23 (fx : List Value → mm_H → Option (List Value × mm_H)) (nm : String) : mq_ok "java/util/NoSuchElementException" nm mp_cl mp_TB mp_sr (mp_P fx) mp_yy mt_23 mp_fi mp_aw := ⟨fun _ h => absurd h List.not_mem_nil, fun _ h => absurd h List.not_mem_nil, fun _ h => absurd h List.not_mem_nil, fun _ h => absurd h List.not_mem_nil, fun _ h => absurd h List.not_mem_nil, fun _ h => absurd h List.not_mem_nil, mp_fi_ok _ _, mp_aw_ok⟩
def mt_24 : mq_T := ([], [], [], [], [], [])
theorem mo_24 (fx : List Value → mm_H → Option (List Value × mm_H)) (nm : String) : mq_ok "java/lang/RuntimeException" nm mp_cl mp_TB mp_sr (mp_P fx) mp_yy mt_24 mp_fi mp_aw := ⟨fun _ h => absurd h List.not_mem_nil, fun _ h => absurd h List.not_mem_nil, fun _ h => absurd h List.not_mem_nil, fun _ h => absurd h List.not_mem_nil, fun _ h => absurd h List.not_mem_nil, fun _ h => absurd h List.not_mem_nil, mp_fi_ok _ _, mp_aw_ok⟩
def mt_25 : mq_T := ([], [], [], [], [], [])
theorem mo_25 (fx : List Value → mm_H → Option (List Value × mm_H)) (nm : String) : mq_ok "java/lang/Exception" nm mp_cl mp_TB mp_sr (mp_P fx) mp_yy mt_25 mp_fi mp_aw := ⟨fun _ h => absurd h List.not_mem_nil, fun _ h => absurd h List.not_mem_nil, fun _ h => absurd h List.not_mem_nil, fun _ h => absurd h List.not_mem_nil, fun _ h => absurd h List.not_mem_nil, fun _ h => absurd h List.not_mem_nil, mp_fi_ok _ _, mp_aw_ok⟩
theorem gc_0 : mc_0.zipIdx.all (fun q => mq_b mt_0 (mp_fi1 "RainGrammar") mp_aw mp_ra prog_1_method_1_code q.2 q.1) = true := by decide +kernel
theorem gm_0 (fx : List Value → mm_H → Option (List Value × mm_H)) : mm_GM mp_cl mp_TB mp_sr (mp_P fx) mp_yy mp_bb 0 := ⟨wd_1_31, by decide +kernel, ⟨by decide +kernel, by decide +kernel⟩, by decide +kernel, mq_all (mo1_0 fx) rfl gc_0⟩
theorem gc_1 : mc_1.zipIdx.all (fun q => mq_b mt_1 (mp_fi1 "RainGrammar$Tape") mp_aw mp_ra prog_11_method_1_code q.2 q.1) = true := by decide +kernel
theorem gm_1 (fx : List Value → mm_H → Option (List Value × mm_H)) : mm_GM mp_cl mp_TB mp_sr (mp_P fx) mp_yy mp_bb 1 := ⟨wd_1_39, by decide +kernel, ⟨by decide +kernel, by decide +kernel⟩, by decide +kernel, mq_all (mo1_1 fx) rfl gc_1⟩
theorem gc_2 : mc_2.zipIdx.all (fun q => mq_b mt_2 (mp_fi1 "RainGrammar$BookReader") mp_aw mp_ra prog_3_method_1_code q.2 q.1) = true := by decide +kernel
theorem gm_2 (fx : List Value → mm_H → Option (List Value × mm_H)) : mm_GM mp_cl mp_TB mp_sr (mp_P fx) mp_yy mp_bb 2 := ⟨wd_1_79, by decide +kernel, ⟨by decide +kernel, by decide +kernel⟩, by decide +kernel, mq_all (mo1_2 fx) rfl gc_2⟩
theorem gc_3 : mc_3.zipIdx.all (fun q => mq_b mt_3 (mp_fi1 "RainGrammar$Scene") mp_aw mp_ra prog_8_method_1_code q.2 q.1) = true := by decide +kernel
theorem gm_3 (fx : List Value → mm_H → Option (List Value × mm_H)) : mm_GM mp_cl mp_TB mp_sr (mp_P fx) mp_yy mp_bb 3 := ⟨wd_1_89, by decide +kernel, ⟨by decide +kernel, by decide +kernel⟩, by decide +kernel, mq_all (mo1_3 fx) rfl gc_3⟩
theorem gc_4 : mc_4.zipIdx.all (fun q => mq_b mt_4 (mp_fi1 "RainGrammar$Book") mp_aw mp_ra prog_2_method_1_code q.2 q.1) = true := by decide +kernel
theorem gm_4 (fx : List Value → mm_H → Option (List Value × mm_H)) : mm_GM mp_cl mp_TB mp_sr (mp_P fx) mp_yy mp_bb 4 := ⟨wd_1_111, by decide +kernel, ⟨by decide +kernel, by decide +kernel⟩, by decide +kernel, mq_all (mo1_4 fx) rfl gc_4⟩
theorem gc_5 : mc_5.zipIdx.all (fun q => mq_b mt_5 (mp_fi1 "RainGrammar$Reading") mp_aw mp_ra prog_7_method_1_code q.2 q.1) = true := by decide +kernel
theorem gm_5 (fx : List Value → mm_H → Option (List Value × mm_H)) : mm_GM mp_cl mp_TB mp_sr (mp_P fx) mp_yy mp_bb 5 := ⟨wd_1_143, by decide +kernel, ⟨by decide +kernel, by decide +kernel⟩, by decide +kernel, mq_all (mo1_5 fx) rfl gc_5⟩
theorem gc_6 : mc_6.zipIdx.all (fun q => mq_b mt_6 (mp_fi1 "RainGrammar$Chart") mp_aw mp_ra prog_4_method_1_code q.2 q.1) = true := by decide +kernel
theorem gm_6 (fx : List Value → mm_H → Option (List Value × mm_H)) : mm_GM mp_cl mp_TB mp_sr (mp_P fx) mp_yy mp_bb 6 := ⟨wd_1_189, by decide +kernel, ⟨by decide +kernel, by decide +kernel⟩, by decide +kernel, mq_all (mo1_6 fx) rfl gc_6⟩
theorem gc_7 : mc_7.zipIdx.all (fun q => mq_b mt_7 (mp_fi1 "RainGrammar$Wisher") mp_aw mp_ra prog_12_method_1_code q.2 q.1) = true := by decide +kernel
theorem gm_7 (fx : List Value → mm_H → Option (List Value × mm_H)) : mm_GM mp_cl mp_TB mp_sr (mp_P fx) mp_yy mp_bb 7 := ⟨wd_1_211, by decide +kernel, ⟨by decide +kernel, by decide +kernel⟩, by decide +kernel, mq_all (mo1_7 fx) rfl gc_7⟩
theorem gc_8 : mc_8.zipIdx.all (fun q => mq_b mt_8 (mp_fi1 "RainGrammar$Square") mp_aw mp_ra prog_9_method_1_code q.2 q.1) = true := by decide +kernel
theorem gm_8 (fx : List Value → mm_H → Option (List Value × mm_H)) : mm_GM mp_cl mp_TB mp_sr (mp_P fx) mp_yy mp_bb 8 := ⟨wd_2_7, by decide +kernel, ⟨by decide +kernel, by decide +kernel⟩, by decide +kernel, mq_all (mo1_8 fx) rfl gc_8⟩
theorem gc_9 : mc_9.zipIdx.all (fun q => mq_b mt_9 (mp_fi1 "RainGrammar$Law") mp_aw mp_ra prog_5_method_1_code q.2 q.1) = true := by decide +kernel
theorem gm_9 (fx : List Value → mm_H → Option (List Value × mm_H)) : mm_GM mp_cl mp_TB mp_sr (mp_P fx) mp_yy mp_bb 9 := ⟨wd_2_13, by decide +kernel, ⟨by decide +kernel, by decide +kernel⟩, by decide +kernel, mq_all (mo1_9 fx) rfl gc_9⟩
theorem gc_10 : mc_10.zipIdx.all (fun q => mq_b mt_0 mp_fi mp_aw mp_ra prog_1_method_2_code q.2 q.1) = true := by decide +kernel
theorem gm_10 (fx : List Value → mm_H → Option (List Value × mm_H)) : mm_GM mp_cl mp_TB mp_sr (mp_P fx) mp_yy mp_bb 10 := ⟨wd_2_180, by decide +kernel, ⟨by decide +kernel, by decide +kernel⟩, by decide +kernel, mq_all (mo_0 fx "feed") rfl gc_10⟩
theorem gc_11 : mc_11.zipIdx.all (fun q => mq_b mt_1 mp_fi mp_aw mp_ra prog_11_method_2_code q.2 q.1) = true := by decide +kernel
theorem gm_11 (fx : List Value → mm_H → Option (List Value × mm_H)) : mm_GM mp_cl mp_TB mp_sr (mp_P fx) mp_yy mp_bb 11 := ⟨wd_2_184, by decide +kernel, ⟨by decide +kernel, by decide +kernel⟩, by decide +kernel, mq_all (mo_1 fx "addBytes") rfl gc_11⟩
theorem gc_12 : mc_12.zipIdx.all (fun q => mq_b mt_0 mp_fi mp_aw mp_ra prog_1_method_3_code q.2 q.1) = true := by decide +kernel
theorem gm_12 (fx : List Value → mm_H → Option (List Value × mm_H)) : mm_GM mp_cl mp_TB mp_sr (mp_P fx) mp_yy mp_bb 12 := ⟨wd_2_189, by decide +kernel, ⟨by decide +kernel, by decide +kernel⟩, by decide +kernel, mq_all (mo_0 fx "square") rfl gc_12⟩
theorem gc_13 : mc_13.zipIdx.all (fun q => mq_b mt_10 mp_fi mp_aw mp_ra prog_10_method_2_code q.2 q.1) = true := by decide +kernel
theorem gm_13 (fx : List Value → mm_H → Option (List Value × mm_H)) : mm_GM mp_cl mp_TB mp_sr (mp_P fx) mp_yy mp_bb 13 := ⟨wd_2_192, by decide +kernel, ⟨by decide +kernel, by decide +kernel⟩, by decide +kernel, mq_all (mo_10 fx "fill") rfl gc_13⟩
theorem gc_14 : mc_14.zipIdx.all (fun q => mq_b mt_8 mp_fi mp_aw mp_ra prog_9_method_2_code q.2 q.1) = true := by decide +kernel
theorem gm_14 (fx : List Value → mm_H → Option (List Value × mm_H)) : mm_GM mp_cl mp_TB mp_sr (mp_P fx) mp_yy mp_bb 14 := ⟨wd_2_196, by decide +kernel, ⟨by decide +kernel, by decide +kernel⟩, by decide +kernel, mq_all (mo_8 fx "clear") rfl gc_14⟩
theorem gc_15 : mc_15.zipIdx.all (fun q => mq_b mt_9 mp_fi mp_aw mp_ra prog_5_method_2_code q.2 q.1) = true := by decide +kernel
theorem gm_15 (fx : List Value → mm_H → Option (List Value × mm_H)) : mm_GM mp_cl mp_TB mp_sr (mp_P fx) mp_yy mp_bb 15 := ⟨wd_2_200, by decide +kernel, ⟨by decide +kernel, by decide +kernel⟩, by decide +kernel, mq_all (mo_9 fx "clear") rfl gc_15⟩
theorem gc_16 : mc_16.zipIdx.all (fun q => mq_b mt_1 mp_fi mp_aw mp_ra prog_11_method_3_code q.2 q.1) = true := by decide +kernel
theorem gm_16 (fx : List Value → mm_H → Option (List Value × mm_H)) : mm_GM mp_cl mp_TB mp_sr (mp_P fx) mp_yy mp_bb 16 := ⟨wd_2_204, by decide +kernel, ⟨by decide +kernel, by decide +kernel⟩, by decide +kernel, mq_all (mo_1 fx "begin") rfl gc_16⟩
theorem gc_17 : mc_17.zipIdx.all (fun q => mq_b mt_1 mp_fi mp_aw mp_ra prog_11_method_4_code q.2 q.1) = true := by decide +kernel
theorem gm_17 (fx : List Value → mm_H → Option (List Value × mm_H)) : mm_GM mp_cl mp_TB mp_sr (mp_P fx) mp_yy mp_bb 17 := ⟨wd_2_208, by decide +kernel, ⟨by decide +kernel, by decide +kernel⟩, by decide +kernel, mq_all (mo_1 fx "skipBlanks") rfl gc_17⟩
theorem gc_18 : mc_18.zipIdx.all (fun q => mq_b mt_1 mp_fi mp_aw mp_ra prog_11_method_5_code q.2 q.1) = true := by decide +kernel
theorem gm_18 (fx : List Value → mm_H → Option (List Value × mm_H)) : mm_GM mp_cl mp_TB mp_sr (mp_P fx) mp_yy mp_bb 18 := ⟨wd_2_212, by decide +kernel, ⟨by decide +kernel, by decide +kernel⟩, by decide +kernel, mq_all (mo_1 fx "addToken") rfl gc_18⟩
theorem gc_19 : mc_19.zipIdx.all (fun q => mq_b mt_1 mp_fi mp_aw mp_ra prog_11_method_8_code q.2 q.1) = true := by decide +kernel
theorem gm_19 (fx : List Value → mm_H → Option (List Value × mm_H)) : mm_GM mp_cl mp_TB mp_sr (mp_P fx) mp_yy mp_bb 19 := ⟨wd_2_215, by decide +kernel, ⟨by decide +kernel, by decide +kernel⟩, by decide +kernel, mq_all (mo_1 fx "isLetter") rfl gc_19⟩
theorem gc_20 : mc_20.zipIdx.all (fun q => mq_b mt_1 mp_fi mp_aw mp_ra prog_11_method_6_code q.2 q.1) = true := by decide +kernel
theorem gm_20 (fx : List Value → mm_H → Option (List Value × mm_H)) : mm_GM mp_cl mp_TB mp_sr (mp_P fx) mp_yy mp_bb 20 := ⟨wd_2_219, by decide +kernel, ⟨by decide +kernel, by decide +kernel⟩, by decide +kernel, mq_all (mo_1 fx "addWord") rfl gc_20⟩
theorem gc_21 : mc_21.zipIdx.all (fun q => mq_b mt_1 mp_fi mp_aw mp_ra prog_11_method_10_code q.2 q.1) = true := by decide +kernel
theorem gm_21 (fx : List Value → mm_H → Option (List Value × mm_H)) : mm_GM mp_cl mp_TB mp_sr (mp_P fx) mp_yy mp_bb 21 := ⟨wd_2_223, by decide +kernel, ⟨by decide +kernel, by decide +kernel⟩, by decide +kernel, mq_all (mo_1 fx "isSquareWord") rfl gc_21⟩
theorem gc_22 : mc_22.zipIdx.all (fun q => mq_b mt_1 mp_fi mp_aw mp_ra prog_11_method_12_code q.2 q.1) = true := by decide +kernel
theorem gm_22 (fx : List Value → mm_H → Option (List Value × mm_H)) : mm_GM mp_cl mp_TB mp_sr (mp_P fx) mp_yy mp_bb 22 := ⟨wd_2_228, by decide +kernel, ⟨by decide +kernel, by decide +kernel⟩, by decide +kernel, mq_all (mo_1 fx "spells") rfl gc_22⟩
theorem gc_23 : mc_23.zipIdx.all (fun q => mq_b mt_11 mp_fi mp_aw mp_ra prog_23_method_54_code q.2 q.1) = true := by decide +kernel
theorem gm_23 (fx : List Value → mm_H → Option (List Value × mm_H)) : mm_GM mp_cl mp_TB mp_sr (mp_P fx) mp_yy mp_bb 23 := ⟨wd_2_232, by decide +kernel, ⟨by decide +kernel, by decide +kernel⟩, by decide +kernel, mq_all (mo_11 fx "length") rfl gc_23⟩
theorem gc_24 : mc_24.zipIdx.all (fun q => mq_b mt_11 mp_fi mp_aw mp_ra prog_23_method_152_code q.2 q.1) = true := by decide +kernel
theorem gm_24 (fx : List Value → mm_H → Option (List Value × mm_H)) : mm_GM mp_cl mp_TB mp_sr (mp_P fx) mp_yy mp_bb 24 := ⟨wd_2_236, by decide +kernel, ⟨by decide +kernel, by decide +kernel⟩, by decide +kernel, mq_all (mo_11 fx "coder") rfl gc_24⟩
theorem gc_25 : mc_25.zipIdx.all (fun q => mq_b mt_11 mp_fi mp_aw mp_ra prog_23_method_56_code q.2 q.1) = true := by decide +kernel
theorem gm_25 (fx : List Value → mm_H → Option (List Value × mm_H)) : mm_GM mp_cl mp_TB mp_sr (mp_P fx) mp_yy mp_bb 25 := ⟨wd_3_2, by decide +kernel, ⟨by decide +kernel, by decide +kernel⟩, by decide +kernel, mq_all (mo_11 fx "charAt") rfl gc_25⟩
theorem gc_26 : mc_26.zipIdx.all (fun q => mq_b mt_11 mp_fi mp_aw mp_ra prog_23_method_154_code q.2 q.1) = true := by decide +kernel
theorem gm_26 (fx : List Value → mm_H → Option (List Value × mm_H)) : mm_GM mp_cl mp_TB mp_sr (mp_P fx) mp_yy mp_bb 26 := ⟨wd_3_6, by decide +kernel, ⟨by decide +kernel, by decide +kernel⟩, by decide +kernel, mq_all (mo_11 fx "isLatin1") rfl gc_26⟩
theorem gc_27 : mc_27.zipIdx.all (fun q => mq_b mt_12 mp_fi mp_aw mp_ra prog_24_method_2_code q.2 q.1) = true := by decide +kernel
theorem gm_27 (fx : List Value → mm_H → Option (List Value × mm_H)) : mm_GM mp_cl mp_TB mp_sr (mp_P fx) mp_yy mp_bb 27 := ⟨wd_3_9, by decide +kernel, ⟨by decide +kernel, by decide +kernel⟩, by decide +kernel, mq_all (mo_12 fx "charAt") rfl gc_27⟩
theorem gc_28 : mc_28.zipIdx.all (fun q => mq_b mt_11 mp_fi mp_aw mp_ra prog_23_method_155_code q.2 q.1) = true := by decide +kernel
theorem gm_28 (fx : List Value → mm_H → Option (List Value × mm_H)) : mm_GM mp_cl mp_TB mp_sr (mp_P fx) mp_yy mp_bb 28 := ⟨wd_3_12, by decide +kernel, ⟨by decide +kernel, by decide +kernel⟩, by decide +kernel, mq_all (mo_11 fx "checkIndex") rfl gc_28⟩
theorem gc_29 : mc_29.zipIdx.all (fun q => mq_b mt_21 mp_fi mp_aw mp_ra prog_32_method_11_code q.2 q.1) = true := by decide +kernel
theorem gm_29 (fx : List Value → mm_H → Option (List Value × mm_H)) : mm_GM mp_cl mp_TB mp_sr (mp_P fx) mp_yy mp_bb 29 := ⟨wd_3_17, by decide +kernel, ⟨by decide +kernel, by decide +kernel⟩, by decide +kernel, mq_all (mo_21 fx "checkIndex") rfl gc_29⟩
theorem gc_30 : mc_30.zipIdx.all (fun q => mq_b mt_13 mp_fi mp_aw mp_ra prog_25_method_83_code q.2 q.1) = true := by decide +kernel
theorem gm_30 (fx : List Value → mm_H → Option (List Value × mm_H)) : mm_GM mp_cl mp_TB mp_sr (mp_P fx) mp_yy mp_bb 30 := ⟨wd_3_20, by decide +kernel, ⟨by decide +kernel, by decide +kernel⟩, by decide +kernel, mq_all (mo_13 fx "charAt") rfl gc_30⟩
theorem gc_31 : mc_31.zipIdx.all (fun q => mq_b mt_13 mp_fi mp_aw mp_ra prog_25_method_91_code q.2 q.1) = true := by decide +kernel
theorem gm_31 (fx : List Value → mm_H → Option (List Value × mm_H)) : mm_GM mp_cl mp_TB mp_sr (mp_P fx) mp_yy mp_bb 31 := ⟨wd_3_23, by decide +kernel, ⟨by decide +kernel, by decide +kernel⟩, by decide +kernel, mq_all (mo_13 fx "checkIndex") rfl gc_31⟩
theorem gc_32 : mc_32.zipIdx.all (fun q => mq_b mt_13 mp_fi mp_aw mp_ra prog_25_method_6_code q.2 q.1) = true := by decide +kernel
theorem gm_32 (fx : List Value → mm_H → Option (List Value × mm_H)) : mm_GM mp_cl mp_TB mp_sr (mp_P fx) mp_yy mp_bb 32 := ⟨wd_3_26, by decide +kernel, ⟨by decide +kernel, by decide +kernel⟩, by decide +kernel, mq_all (mo_13 fx "length") rfl gc_32⟩
theorem gc_33 : mc_33.zipIdx.all (fun q => mq_b mt_13 mp_fi mp_aw mp_ra prog_25_method_5_code q.2 q.1) = true := by decide +kernel
theorem gm_33 (fx : List Value → mm_H → Option (List Value × mm_H)) : mm_GM mp_cl mp_TB mp_sr (mp_P fx) mp_yy mp_bb 33 := ⟨wd_3_30, by decide +kernel, ⟨by decide +kernel, by decide +kernel⟩, by decide +kernel, mq_all (mo_13 fx "getChar") rfl gc_33⟩
theorem gc_34 : mc_34.zipIdx.all (fun q => mq_b mt_1 mp_fi mp_aw mp_ra prog_11_method_11_code q.2 q.1) = true := by decide +kernel
theorem gm_34 (fx : List Value → mm_H → Option (List Value × mm_H)) : mm_GM mp_cl mp_TB mp_sr (mp_P fx) mp_yy mp_bb 34 := ⟨wd_3_50, by decide +kernel, ⟨by decide +kernel, by decide +kernel⟩, by decide +kernel, mq_all (mo_1 fx "isOtherWord") rfl gc_34⟩
theorem gc_35 : mc_35.zipIdx.all (fun q => mq_b mt_1 mp_fi mp_aw mp_ra prog_11_method_9_code q.2 q.1) = true := by decide +kernel
theorem gm_35 (fx : List Value → mm_H → Option (List Value × mm_H)) : mm_GM mp_cl mp_TB mp_sr (mp_P fx) mp_yy mp_bb 35 := ⟨wd_3_64, by decide +kernel, ⟨by decide +kernel, by decide +kernel⟩, by decide +kernel, mq_all (mo_1 fx "isFigure") rfl gc_35⟩
theorem gc_36 : mc_36.zipIdx.all (fun q => mq_b mt_1 mp_fi mp_aw mp_ra prog_11_method_7_code q.2 q.1) = true := by decide +kernel
theorem gm_36 (fx : List Value → mm_H → Option (List Value × mm_H)) : mm_GM mp_cl mp_TB mp_sr (mp_P fx) mp_yy mp_bb 36 := ⟨wd_3_68, by decide +kernel, ⟨by decide +kernel, by decide +kernel⟩, by decide +kernel, mq_all (mo_1 fx "addNumber") rfl gc_36⟩
theorem gc_37 : mc_37.zipIdx.all (fun q => mq_b mt_11 mp_fi mp_aw mp_ra prog_23_method_79_code q.2 q.1) = true := by decide +kernel
theorem gm_37 (fx : List Value → mm_H → Option (List Value × mm_H)) : mm_GM mp_cl mp_TB mp_sr (mp_P fx) mp_yy mp_bb 37 := ⟨wd_3_73, by decide +kernel, ⟨by decide +kernel, by decide +kernel⟩, by decide +kernel, mq_all (mo_11 fx "indexOf") rfl gc_37⟩
theorem gc_38 : mc_38.zipIdx.all (fun q => mq_b mt_11 mp_fi mp_aw mp_ra prog_23_method_80_code q.2 q.1) = true := by decide +kernel
theorem gm_38 (fx : List Value → mm_H → Option (List Value × mm_H)) : mm_GM mp_cl mp_TB mp_sr (mp_P fx) mp_yy mp_bb 38 := ⟨wd_3_77, by decide +kernel, ⟨by decide +kernel, by decide +kernel⟩, by decide +kernel, mq_all (mo_11 fx "indexOf") rfl gc_38⟩
theorem gc_39 : mc_39.zipIdx.all (fun q => mq_b mt_12 mp_fi mp_aw mp_ra prog_24_method_22_code q.2 q.1) = true := by decide +kernel
theorem gm_39 (fx : List Value → mm_H → Option (List Value × mm_H)) : mm_GM mp_cl mp_TB mp_sr (mp_P fx) mp_yy mp_bb 39 := ⟨wd_3_81, by decide +kernel, ⟨by decide +kernel, by decide +kernel⟩, by decide +kernel, mq_all (mo_12 fx "indexOf") rfl gc_39⟩
theorem gc_40 : mc_40.zipIdx.all (fun q => mq_b mt_12 mp_fi mp_aw mp_ra prog_24_method_4_code q.2 q.1) = true := by decide +kernel
theorem gm_40 (fx : List Value → mm_H → Option (List Value × mm_H)) : mm_GM mp_cl mp_TB mp_sr (mp_P fx) mp_yy mp_bb 40 := ⟨wd_3_84, by decide +kernel, ⟨by decide +kernel, by decide +kernel⟩, by decide +kernel, mq_all (mo_12 fx "canEncode") rfl gc_40⟩
theorem gc_41 : mc_41.zipIdx.all (fun q => mq_b mt_22 mp_fi mp_aw mp_ra prog_21_method_65_code q.2 q.1) = true := by decide +kernel
theorem gm_41 (fx : List Value → mm_H → Option (List Value × mm_H)) : mm_GM mp_cl mp_TB mp_sr (mp_P fx) mp_yy mp_bb 41 := ⟨wd_3_87, by decide +kernel, ⟨by decide +kernel, by decide +kernel⟩, by decide +kernel, mq_all (mo_22 fx "max") rfl gc_41⟩
theorem gc_42 : mc_42.zipIdx.all (fun q => mq_b mt_22 mp_fi mp_aw mp_ra prog_21_method_69_code q.2 q.1) = true := by decide +kernel
theorem gm_42 (fx : List Value → mm_H → Option (List Value × mm_H)) : mm_GM mp_cl mp_TB mp_sr (mp_P fx) mp_yy mp_bb 42 := ⟨wd_3_90, by decide +kernel, ⟨by decide +kernel, by decide +kernel⟩, by decide +kernel, mq_all (mo_22 fx "min") rfl gc_42⟩
theorem gc_43 : mc_43.zipIdx.all (fun q => mq_b mt_12 mp_fi mp_aw mp_ra prog_24_method_23_code q.2 q.1) = true := by decide +kernel
theorem gm_43 (fx : List Value → mm_H → Option (List Value × mm_H)) : mm_GM mp_cl mp_TB mp_sr (mp_P fx) mp_yy mp_bb 43 := ⟨wd_3_93, by decide +kernel, ⟨by decide +kernel, by decide +kernel⟩, by decide +kernel, mq_all (mo_12 fx "indexOfChar") rfl gc_43⟩
theorem gc_44 : mc_44.zipIdx.all (fun q => mq_b mt_13 mp_fi mp_aw mp_ra prog_25_method_40_code q.2 q.1) = true := by decide +kernel
theorem gm_44 (fx : List Value → mm_H → Option (List Value × mm_H)) : mm_GM mp_cl mp_TB mp_sr (mp_P fx) mp_yy mp_bb 44 := ⟨wd_3_96, by decide +kernel, ⟨by decide +kernel, by decide +kernel⟩, by decide +kernel, mq_all (mo_13 fx "indexOf") rfl gc_44⟩
theorem gc_45 : mc_45.zipIdx.all (fun q => mq_b mt_13 mp_fi mp_aw mp_ra prog_25_method_47_code q.2 q.1) = true := by decide +kernel
theorem gm_45 (fx : List Value → mm_H → Option (List Value × mm_H)) : mm_GM mp_cl mp_TB mp_sr (mp_P fx) mp_yy mp_bb 45 := ⟨wd_3_102, by decide +kernel, ⟨by decide +kernel, by decide +kernel⟩, by decide +kernel, mq_all (mo_13 fx "indexOfChar") rfl gc_45⟩
theorem gc_46 : mc_46.zipIdx.all (fun q => mq_b mt_13 mp_fi mp_aw mp_ra prog_25_method_93_code q.2 q.1) = true := by decide +kernel
theorem gm_46 (fx : List Value → mm_H → Option (List Value × mm_H)) : mm_GM mp_cl mp_TB mp_sr (mp_P fx) mp_yy mp_bb 46 := ⟨wd_3_105, by decide +kernel, ⟨by decide +kernel, by decide +kernel⟩, by decide +kernel, mq_all (mo_13 fx "checkBoundsBeginEnd") rfl gc_46⟩
theorem gc_47 : mc_47.zipIdx.all (fun q => mq_b mt_11 mp_fi mp_aw mp_ra prog_23_method_158_code q.2 q.1) = true := by decide +kernel
theorem gm_47 (fx : List Value → mm_H → Option (List Value × mm_H)) : mm_GM mp_cl mp_TB mp_sr (mp_P fx) mp_yy mp_bb 47 := ⟨wd_3_108, by decide +kernel, ⟨by decide +kernel, by decide +kernel⟩, by decide +kernel, mq_all (mo_11 fx "checkBoundsBeginEnd") rfl gc_47⟩
theorem gc_48 : mc_48.zipIdx.all (fun q => mq_b mt_21 mp_fi mp_aw mp_ra prog_32_method_12_code q.2 q.1) = true := by decide +kernel
theorem gm_48 (fx : List Value → mm_H → Option (List Value × mm_H)) : mm_GM mp_cl mp_TB mp_sr (mp_P fx) mp_yy mp_bb 48 := ⟨wd_3_111, by decide +kernel, ⟨by decide +kernel, by decide +kernel⟩, by decide +kernel, mq_all (mo_21 fx "checkFromToIndex") rfl gc_48⟩
theorem gc_49 : mc_49.zipIdx.all (fun q => mq_b mt_13 mp_fi mp_aw mp_ra prog_25_method_48_code q.2 q.1) = true := by decide +kernel
theorem gm_49 (fx : List Value → mm_H → Option (List Value × mm_H)) : mm_GM mp_cl mp_TB mp_sr (mp_P fx) mp_yy mp_bb 49 := ⟨wd_3_114, by decide +kernel, ⟨by decide +kernel, by decide +kernel⟩, by decide +kernel, mq_all (mo_13 fx "indexOfCharUnsafe") rfl gc_49⟩
theorem gc_50 : mc_50.zipIdx.all (fun q => mq_b mt_13 mp_fi mp_aw mp_ra prog_25_method_49_code q.2 q.1) = true := by decide +kernel
theorem gm_50 (fx : List Value → mm_H → Option (List Value × mm_H)) : mm_GM mp_cl mp_TB mp_sr (mp_P fx) mp_yy mp_bb 50 := ⟨wd_3_117, by decide +kernel, ⟨by decide +kernel, by decide +kernel⟩, by decide +kernel, mq_all (mo_13 fx "indexOfSupplementary") rfl gc_50⟩
theorem gc_51 : mc_51.zipIdx.all (fun q => mq_b mt_14 mp_fi mp_aw mp_ra prog_17_method_11_code q.2 q.1) = true := by decide +kernel
theorem gm_51 (fx : List Value → mm_H → Option (List Value × mm_H)) : mm_GM mp_cl mp_TB mp_sr (mp_P fx) mp_yy mp_bb 51 := ⟨wd_3_120, by decide +kernel, ⟨by decide +kernel, by decide +kernel⟩, by decide +kernel, mq_all (mo_14 fx "isValidCodePoint") rfl gc_51⟩
theorem gc_52 : mc_52.zipIdx.all (fun q => mq_b mt_14 mp_fi mp_aw mp_ra prog_17_method_28_code q.2 q.1) = true := by decide +kernel
theorem gm_52 (fx : List Value → mm_H → Option (List Value × mm_H)) : mm_GM mp_cl mp_TB mp_sr (mp_P fx) mp_yy mp_bb 52 := ⟨wd_3_123, by decide +kernel, ⟨by decide +kernel, by decide +kernel⟩, by decide +kernel, mq_all (mo_14 fx "highSurrogate") rfl gc_52⟩
theorem gc_53 : mc_53.zipIdx.all (fun q => mq_b mt_14 mp_fi mp_aw mp_ra prog_17_method_29_code q.2 q.1) = true := by decide +kernel
theorem gm_53 (fx : List Value → mm_H → Option (List Value × mm_H)) : mm_GM mp_cl mp_TB mp_sr (mp_P fx) mp_yy mp_bb 53 := ⟨wd_3_127, by decide +kernel, ⟨by decide +kernel, by decide +kernel⟩, by decide +kernel, mq_all (mo_14 fx "lowSurrogate") rfl gc_53⟩
theorem gc_54 : mc_54.zipIdx.all (fun q => mq_b mt_1 mp_fi mp_aw mp_ra prog_11_method_13_code q.2 q.1) = true := by decide +kernel
theorem gm_54 (fx : List Value → mm_H → Option (List Value × mm_H)) : mm_GM mp_cl mp_TB mp_sr (mp_P fx) mp_yy mp_bb 54 := ⟨wd_3_132, by decide +kernel, ⟨by decide +kernel, by decide +kernel⟩, by decide +kernel, mq_all (mo_1 fx "atEnd") rfl gc_54⟩
theorem gc_55 : mc_55.zipIdx.all (fun q => mq_b mt_10 mp_fi mp_aw mp_ra prog_10_method_3_code q.2 q.1) = true := by decide +kernel
theorem gm_55 (fx : List Value → mm_H → Option (List Value × mm_H)) : mm_GM mp_cl mp_TB mp_sr (mp_P fx) mp_yy mp_bb 55 := ⟨wd_3_135, by decide +kernel, ⟨by decide +kernel, by decide +kernel⟩, by decide +kernel, mq_all (mo_10 fx "addLine") rfl gc_55⟩
theorem gc_56 : mc_56.zipIdx.all (fun q => mq_b mt_1 mp_fi mp_aw mp_ra prog_11_method_17_code q.2 q.1) = true := by decide +kernel
theorem gm_56 (fx : List Value → mm_H → Option (List Value × mm_H)) : mm_GM mp_cl mp_TB mp_sr (mp_P fx) mp_yy mp_bb 56 := ⟨wd_3_140, by decide +kernel, ⟨by decide +kernel, by decide +kernel⟩, by decide +kernel, mq_all (mo_1 fx "atWord") rfl gc_56⟩
theorem gc_57 : mc_57.zipIdx.all (fun q => mq_b mt_10 mp_fi mp_aw mp_ra prog_10_method_4_code q.2 q.1) = true := by decide +kernel
theorem gm_57 (fx : List Value → mm_H → Option (List Value × mm_H)) : mm_GM mp_cl mp_TB mp_sr (mp_P fx) mp_yy mp_bb 57 := ⟨wd_3_143, by decide +kernel, ⟨by decide +kernel, by decide +kernel⟩, by decide +kernel, mq_all (mo_10 fx "addSort") rfl gc_57⟩
theorem gc_58 : mc_58.zipIdx.all (fun q => mq_b mt_1 mp_fi mp_aw mp_ra prog_11_method_24_code q.2 q.1) = true := by decide +kernel
theorem gm_58 (fx : List Value → mm_H → Option (List Value × mm_H)) : mm_GM mp_cl mp_TB mp_sr (mp_P fx) mp_yy mp_bb 58 := ⟨wd_3_147, by decide +kernel, ⟨by decide +kernel, by decide +kernel⟩, by decide +kernel, mq_all (mo_1 fx "refuse") rfl gc_58⟩
theorem gc_59 : mc_59.zipIdx.all (fun q => mq_b mt_1 mp_fi mp_aw mp_ra prog_11_method_20_code q.2 q.1) = true := by decide +kernel
theorem gm_59 (fx : List Value → mm_H → Option (List Value × mm_H)) : mm_GM mp_cl mp_TB mp_sr (mp_P fx) mp_yy mp_bb 59 := ⟨wd_3_151, by decide +kernel, ⟨by decide +kernel, by decide +kernel⟩, by decide +kernel, mq_all (mo_1 fx "pass") rfl gc_59⟩
theorem gc_60 : mc_60.zipIdx.all (fun q => mq_b mt_10 mp_fi mp_aw mp_ra prog_10_method_14_code q.2 q.1) = true := by decide +kernel
theorem gm_60 (fx : List Value → mm_H → Option (List Value × mm_H)) : mm_GM mp_cl mp_TB mp_sr (mp_P fx) mp_yy mp_bb 60 := ⟨wd_3_154, by decide +kernel, ⟨by decide +kernel, by decide +kernel⟩, by decide +kernel, mq_all (mo_10 fx "checkNewName") rfl gc_60⟩
theorem gc_61 : mc_61.zipIdx.all (fun q => mq_b mt_1 mp_fi mp_aw mp_ra prog_11_method_14_code q.2 q.1) = true := by decide +kernel
theorem gm_61 (fx : List Value → mm_H → Option (List Value × mm_H)) : mm_GM mp_cl mp_TB mp_sr (mp_P fx) mp_yy mp_bb 61 := ⟨wd_3_158, by decide +kernel, ⟨by decide +kernel, by decide +kernel⟩, by decide +kernel, mq_all (mo_1 fx "atName") rfl gc_61⟩
theorem gc_62 : mc_62.zipIdx.all (fun q => mq_b mt_1 mp_fi mp_aw mp_ra prog_11_method_18_code q.2 q.1) = true := by decide +kernel
theorem gm_62 (fx : List Value → mm_H → Option (List Value × mm_H)) : mm_GM mp_cl mp_TB mp_sr (mp_P fx) mp_yy mp_bb 62 := ⟨wd_3_162, by decide +kernel, ⟨by decide +kernel, by decide +kernel⟩, by decide +kernel, mq_all (mo_1 fx "word") rfl gc_62⟩
theorem gc_63 : mc_63.zipIdx.all (fun q => mq_b mt_8 mp_fi mp_aw mp_ra prog_9_method_6_code q.2 q.1) = true := by decide +kernel
theorem gm_63 (fx : List Value → mm_H → Option (List Value × mm_H)) : mm_GM mp_cl mp_TB mp_sr (mp_P fx) mp_yy mp_bb 63 := ⟨wd_3_166, by decide +kernel, ⟨by decide +kernel, by decide +kernel⟩, by decide +kernel, mq_all (mo_8 fx "isTold") rfl gc_63⟩
theorem gc_64 : mc_64.zipIdx.all (fun q => mq_b mt_8 mp_fi mp_aw mp_ra prog_9_method_3_code q.2 q.1) = true := by decide +kernel
theorem gm_64 (fx : List Value → mm_H → Option (List Value × mm_H)) : mm_GM mp_cl mp_TB mp_sr (mp_P fx) mp_yy mp_bb 64 := ⟨wd_3_170, by decide +kernel, ⟨by decide +kernel, by decide +kernel⟩, by decide +kernel, mq_all (mo_8 fx "sortNamed") rfl gc_64⟩
theorem gc_65 : mc_65.zipIdx.all (fun q => mq_b mt_8 mp_fi mp_aw mp_ra prog_9_method_7_code q.2 q.1) = true := by decide +kernel
theorem gm_65 (fx : List Value → mm_H → Option (List Value × mm_H)) : mm_GM mp_cl mp_TB mp_sr (mp_P fx) mp_yy mp_bb 65 := ⟨wd_3_173, by decide +kernel, ⟨by decide +kernel, by decide +kernel⟩, by decide +kernel, mq_all (mo_8 fx "placeOf") rfl gc_65⟩
theorem gc_66 : mc_66.zipIdx.all (fun q => mq_b mt_8 mp_fi mp_aw mp_ra prog_9_method_4_code q.2 q.1) = true := by decide +kernel
theorem gm_66 (fx : List Value → mm_H → Option (List Value × mm_H)) : mm_GM mp_cl mp_TB mp_sr (mp_P fx) mp_yy mp_bb 66 := ⟨wd_3_177, by decide +kernel, ⟨by decide +kernel, by decide +kernel⟩, by decide +kernel, mq_all (mo_8 fx "colourNamed") rfl gc_66⟩
theorem gc_67 : mc_67.zipIdx.all (fun q => mq_b mt_8 mp_fi mp_aw mp_ra prog_9_method_5_code q.2 q.1) = true := by decide +kernel
theorem gm_67 (fx : List Value → mm_H → Option (List Value × mm_H)) : mm_GM mp_cl mp_TB mp_sr (mp_P fx) mp_yy mp_bb 67 := ⟨wd_3_181, by decide +kernel, ⟨by decide +kernel, by decide +kernel⟩, by decide +kernel, mq_all (mo_8 fx "walkerNamed") rfl gc_67⟩
theorem gc_68 : mc_68.zipIdx.all (fun q => mq_b mt_10 mp_fi mp_aw mp_ra prog_10_method_5_code q.2 q.1) = true := by decide +kernel
theorem gm_68 (fx : List Value → mm_H → Option (List Value × mm_H)) : mm_GM mp_cl mp_TB mp_sr (mp_P fx) mp_yy mp_bb 68 := ⟨wd_3_185, by decide +kernel, ⟨by decide +kernel, by decide +kernel⟩, by decide +kernel, mq_all (mo_10 fx "addColour") rfl gc_68⟩
theorem gc_69 : mc_69.zipIdx.all (fun q => mq_b mt_1 mp_fi mp_aw mp_ra prog_11_method_21_code q.2 q.1) = true := by decide +kernel
theorem gm_69 (fx : List Value → mm_H → Option (List Value × mm_H)) : mm_GM mp_cl mp_TB mp_sr (mp_P fx) mp_yy mp_bb 69 := ⟨wd_3_190, by decide +kernel, ⟨by decide +kernel, by decide +kernel⟩, by decide +kernel, mq_all (mo_1 fx "passWord") rfl gc_69⟩
theorem gc_70 : mc_70.zipIdx.all (fun q => mq_b mt_10 mp_fi mp_aw mp_ra prog_10_method_15_code q.2 q.1) = true := by decide +kernel
theorem gm_70 (fx : List Value → mm_H → Option (List Value × mm_H)) : mm_GM mp_cl mp_TB mp_sr (mp_P fx) mp_yy mp_bb 70 := ⟨wd_3_196, by decide +kernel, ⟨by decide +kernel, by decide +kernel⟩, by decide +kernel, mq_all (mo_10 fx "checkSort") rfl gc_70⟩
theorem gc_71 : mc_71.zipIdx.all (fun q => mq_b mt_10 mp_fi mp_aw mp_ra prog_10_method_6_code q.2 q.1) = true := by decide +kernel
theorem gm_71 (fx : List Value → mm_H → Option (List Value × mm_H)) : mm_GM mp_cl mp_TB mp_sr (mp_P fx) mp_yy mp_bb 71 := ⟨wd_3_201, by decide +kernel, ⟨by decide +kernel, by decide +kernel⟩, by decide +kernel, mq_all (mo_10 fx "addRule") rfl gc_71⟩
theorem gc_72 : mc_72.zipIdx.all (fun q => mq_b mt_8 mp_fi mp_aw mp_ra prog_9_method_8_code q.2 q.1) = true := by decide +kernel
theorem gm_72 (fx : List Value → mm_H → Option (List Value × mm_H)) : mm_GM mp_cl mp_TB mp_sr (mp_P fx) mp_yy mp_bb 72 := ⟨wd_3_206, by decide +kernel, ⟨by decide +kernel, by decide +kernel⟩, by decide +kernel, mq_all (mo_8 fx "hasRule") rfl gc_72⟩
theorem gc_73 : mc_73.zipIdx.all (fun q => mq_b mt_10 mp_fi mp_aw mp_ra prog_10_method_7_code q.2 q.1) = true := by decide +kernel
theorem gm_73 (fx : List Value → mm_H → Option (List Value × mm_H)) : mm_GM mp_cl mp_TB mp_sr (mp_P fx) mp_yy mp_bb 73 := ⟨wd_3_210, by decide +kernel, ⟨by decide +kernel, by decide +kernel⟩, by decide +kernel, mq_all (mo_10 fx "addSays") rfl gc_73⟩
theorem gc_74 : mc_74.zipIdx.all (fun q => mq_b mt_10 mp_fi mp_aw mp_ra prog_10_method_8_code q.2 q.1) = true := by decide +kernel
theorem gm_74 (fx : List Value → mm_H → Option (List Value × mm_H)) : mm_GM mp_cl mp_TB mp_sr (mp_P fx) mp_yy mp_bb 74 := ⟨wd_3_214, by decide +kernel, ⟨by decide +kernel, by decide +kernel⟩, by decide +kernel, mq_all (mo_10 fx "addWalker") rfl gc_74⟩
theorem gc_75 : mc_75.zipIdx.all (fun q => mq_b mt_10 mp_fi mp_aw mp_ra prog_10_method_9_code q.2 q.1) = true := by decide +kernel
theorem gm_75 (fx : List Value → mm_H → Option (List Value × mm_H)) : mm_GM mp_cl mp_TB mp_sr (mp_P fx) mp_yy mp_bb 75 := ⟨wd_3_217, by decide +kernel, ⟨by decide +kernel, by decide +kernel⟩, by decide +kernel, mq_all (mo_10 fx "kindAt") rfl gc_75⟩
theorem gc_76 : mc_76.zipIdx.all (fun q => mq_b mt_10 mp_fi mp_aw mp_ra prog_10_method_16_code q.2 q.1) = true := by decide +kernel
theorem gm_76 (fx : List Value → mm_H → Option (List Value × mm_H)) : mm_GM mp_cl mp_TB mp_sr (mp_P fx) mp_yy mp_bb 76 := ⟨wd_3_224, by decide +kernel, ⟨by decide +kernel, by decide +kernel⟩, by decide +kernel, mq_all (mo_10 fx "checkColour") rfl gc_76⟩
theorem gc_77 : mc_77.zipIdx.all (fun q => mq_b mt_10 mp_fi mp_aw mp_ra prog_10_method_10_code q.2 q.1) = true := by decide +kernel
theorem gm_77 (fx : List Value → mm_H → Option (List Value × mm_H)) : mm_GM mp_cl mp_TB mp_sr (mp_P fx) mp_yy mp_bb 77 := ⟨wd_3_228, by decide +kernel, ⟨by decide +kernel, by decide +kernel⟩, by decide +kernel, mq_all (mo_10 fx "addWalk") rfl gc_77⟩
theorem gc_78 : mc_78.zipIdx.all (fun q => mq_b mt_1 mp_fi mp_aw mp_ra prog_11_method_23_code q.2 q.1) = true := by decide +kernel
theorem gm_78 (fx : List Value → mm_H → Option (List Value × mm_H)) : mm_GM mp_cl mp_TB mp_sr (mp_P fx) mp_yy mp_bb 78 := ⟨wd_3_233, by decide +kernel, ⟨by decide +kernel, by decide +kernel⟩, by decide +kernel, mq_all (mo_1 fx "checkNumber") rfl gc_78⟩
theorem gc_79 : mc_79.zipIdx.all (fun q => mq_b mt_1 mp_fi mp_aw mp_ra prog_11_method_15_code q.2 q.1) = true := by decide +kernel
theorem gm_79 (fx : List Value → mm_H → Option (List Value × mm_H)) : mm_GM mp_cl mp_TB mp_sr (mp_P fx) mp_yy mp_bb 79 := ⟨wd_3_237, by decide +kernel, ⟨by decide +kernel, by decide +kernel⟩, by decide +kernel, mq_all (mo_1 fx "atNumber") rfl gc_79⟩
theorem gc_80 : mc_80.zipIdx.all (fun q => mq_b mt_1 mp_fi mp_aw mp_ra prog_11_method_19_code q.2 q.1) = true := by decide +kernel
theorem gm_80 (fx : List Value → mm_H → Option (List Value × mm_H)) : mm_GM mp_cl mp_TB mp_sr (mp_P fx) mp_yy mp_bb 80 := ⟨wd_4_1, by decide +kernel, ⟨by decide +kernel, by decide +kernel⟩, by decide +kernel, mq_all (mo_1 fx "number") rfl gc_80⟩
theorem gc_81 : mc_81.zipIdx.all (fun q => mq_b mt_10 mp_fi mp_aw mp_ra prog_10_method_13_code q.2 q.1) = true := by decide +kernel
theorem gm_81 (fx : List Value → mm_H → Option (List Value × mm_H)) : mm_GM mp_cl mp_TB mp_sr (mp_P fx) mp_yy mp_bb 81 := ⟨wd_4_6, by decide +kernel, ⟨by decide +kernel, by decide +kernel⟩, by decide +kernel, mq_all (mo_10 fx "takeNumbers") rfl gc_81⟩
theorem gc_82 : mc_82.zipIdx.all (fun q => mq_b mt_10 mp_fi mp_aw mp_ra prog_10_method_11_code q.2 q.1) = true := by decide +kernel
theorem gm_82 (fx : List Value → mm_H → Option (List Value × mm_H)) : mm_GM mp_cl mp_TB mp_sr (mp_P fx) mp_yy mp_bb 82 := ⟨wd_4_11, by decide +kernel, ⟨by decide +kernel, by decide +kernel⟩, by decide +kernel, mq_all (mo_10 fx "addGusts") rfl gc_82⟩
theorem gc_83 : mc_83.zipIdx.all (fun q => mq_b mt_10 mp_fi mp_aw mp_ra prog_10_method_12_code q.2 q.1) = true := by decide +kernel
theorem gm_83 (fx : List Value → mm_H → Option (List Value × mm_H)) : mm_GM mp_cl mp_TB mp_sr (mp_P fx) mp_yy mp_bb 83 := ⟨wd_4_15, by decide +kernel, ⟨by decide +kernel, by decide +kernel⟩, by decide +kernel, mq_all (mo_10 fx "addReads") rfl gc_83⟩
theorem gc_84 : mc_84.zipIdx.all (fun q => mq_b mt_9 mp_fi mp_aw mp_ra prog_5_method_3_code q.2 q.1) = true := by decide +kernel
theorem gm_84 (fx : List Value → mm_H → Option (List Value × mm_H)) : mm_GM mp_cl mp_TB mp_sr (mp_P fx) mp_yy mp_bb 84 := ⟨wd_4_19, by decide +kernel, ⟨by decide +kernel, by decide +kernel⟩, by decide +kernel, mq_all (mo_9 fx "isTold") rfl gc_84⟩
theorem gc_85 : mc_85.zipIdx.all (fun q => mq_b mt_15 mp_fi mp_aw mp_ra prog_6_method_2_code q.2 q.1) = true := by decide +kernel
theorem gm_85 (fx : List Value → mm_H → Option (List Value × mm_H)) : mm_GM mp_cl mp_TB mp_sr (mp_P fx) mp_yy mp_bb 85 := ⟨wd_4_22, by decide +kernel, ⟨by decide +kernel, by decide +kernel⟩, by decide +kernel, mq_all (mo_15 fx "fill") rfl gc_85⟩
theorem gc_86 : mc_86.zipIdx.all (fun q => mq_b mt_15 mp_fi mp_aw mp_ra prog_6_method_3_code q.2 q.1) = true := by decide +kernel
theorem gm_86 (fx : List Value → mm_H → Option (List Value × mm_H)) : mm_GM mp_cl mp_TB mp_sr (mp_P fx) mp_yy mp_bb 86 := ⟨wd_4_25, by decide +kernel, ⟨by decide +kernel, by decide +kernel⟩, by decide +kernel, mq_all (mo_15 fx "addTest") rfl gc_86⟩
theorem gc_87 : mc_87.zipIdx.all (fun q => mq_b mt_15 mp_fi mp_aw mp_ra prog_6_method_4_code q.2 q.1) = true := by decide +kernel
theorem gm_87 (fx : List Value → mm_H → Option (List Value × mm_H)) : mm_GM mp_cl mp_TB mp_sr (mp_P fx) mp_yy mp_bb 87 := ⟨wd_4_28, by decide +kernel, ⟨by decide +kernel, by decide +kernel⟩, by decide +kernel, mq_all (mo_15 fx "addSum") rfl gc_87⟩
theorem gc_88 : mc_88.zipIdx.all (fun q => mq_b mt_15 mp_fi mp_aw mp_ra prog_6_method_5_code q.2 q.1) = true := by decide +kernel
theorem gm_88 (fx : List Value → mm_H → Option (List Value × mm_H)) : mm_GM mp_cl mp_TB mp_sr (mp_P fx) mp_yy mp_bb 88 := ⟨wd_4_31, by decide +kernel, ⟨by decide +kernel, by decide +kernel⟩, by decide +kernel, mq_all (mo_15 fx "addProduct") rfl gc_88⟩
theorem gc_89 : mc_89.zipIdx.all (fun q => mq_b mt_15 mp_fi mp_aw mp_ra prog_6_method_6_code q.2 q.1) = true := by decide +kernel
theorem gm_89 (fx : List Value → mm_H → Option (List Value × mm_H)) : mm_GM mp_cl mp_TB mp_sr (mp_P fx) mp_yy mp_bb 89 := ⟨wd_4_34, by decide +kernel, ⟨by decide +kernel, by decide +kernel⟩, by decide +kernel, mq_all (mo_15 fx "addPart") rfl gc_89⟩
