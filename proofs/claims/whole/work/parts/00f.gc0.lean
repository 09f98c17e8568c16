theorem gc_0 : mc_0.zipIdx.all (fun q => mq_b mt_0 (mp_fi1 "RainGrammar") mp_aw mp_ra prog_1_method_1_code q.2 q.1) = true := by decide +kernel
theorem gc_1 : mc_1.zipIdx.all (fun q => mq_b mt_1 (mp_fi1 "RainGrammar$Tape") mp_aw mp_ra prog_11_method_1_code q.2 q.1) = true := by decide +kernel
theorem gc_2 : mc_2.zipIdx.all (fun q => mq_b mt_2 (mp_fi1 "RainGrammar$BookReader") mp_aw mp_ra prog_3_method_1_code q.2 q.1) = true := by decide +kernel
theorem gc_3 : mc_3.zipIdx.all (fun q => mq_b mt_3 (mp_fi1 "RainGrammar$Scene") mp_aw mp_ra prog_8_method_1_code q.2 q.1) = true := by decide +kernel
theorem gc_4 : mc_4.zipIdx.all (fun q => mq_b mt_4 (mp_fi1 "RainGrammar$Book") mp_aw mp_ra prog_2_method_1_code q.2 q.1) = true := by decide +kernel
theorem gc_5 : mc_5.zipIdx.all (fun q => mq_b mt_5 (mp_fi1 "RainGrammar$Reading") mp_aw mp_ra prog_7_method_1_code q.2 q.1) = true := by decide +kernel
theorem gc_6 : mc_6.zipIdx.all (fun q => mq_b mt_6 (mp_fi1 "RainGrammar$Chart") mp_aw mp_ra prog_4_method_1_code q.2 q.1) = true := by decide +kernel
theorem gc_7 : mc_7.zipIdx.all (fun q => mq_b mt_7 (mp_fi1 "RainGrammar$Wisher") mp_aw mp_ra prog_12_method_1_code q.2 q.1) = true := by decide +kernel
theorem gc_8 : mc_8.zipIdx.all (fun q => mq_b mt_8 (mp_fi1 "RainGrammar$Square") mp_aw mp_ra prog_9_method_1_code q.2 q.1) = true := by decide +kernel
theorem gc_9 : mc_9.zipIdx.all (fun q => mq_b mt_9 (mp_fi1 "RainGrammar$Law") mp_aw mp_ra prog_5_method_1_code q.2 q.1) = true := by decide +kernel
theorem gc_10 : mc_10.zipIdx.all (fun q => mq_b mt_0 mp_fi mp_aw mp_ra prog_1_method_2_code q.2 q.1) = true := by decide +kernel
theorem gc_11 : mc_11.zipIdx.all (fun q => mq_b mt_1 mp_fi mp_aw mp_ra prog_11_method_2_code q.2 q.1) = true := by decide +kernel
theorem gc_12 : mc_12.zipIdx.all (fun q => mq_b mt_0 mp_fi mp_aw mp_ra prog_1_method_3_code q.2 q.1) = true := by decide +kernel
theorem gc_13 : mc_13.zipIdx.all (fun q => mq_b mt_10 mp_fi mp_aw mp_ra prog_10_method_2_code q.2 q.1) = true := by decide +kernel
theorem gc_14 : mc_14.zipIdx.all (fun q => mq_b mt_8 mp_fi mp_aw mp_ra prog_9_method_2_code q.2 q.1) = true := by decide +kernel
theorem gc_15 : mc_15.zipIdx.all (fun q => mq_b mt_9 mp_fi mp_aw mp_ra prog_5_method_2_code q.2 q.1) = true := by decide +kernel
theorem gc_16 : mc_16.zipIdx.all (fun q => mq_b mt_1 mp_fi mp_aw mp_ra prog_11_method_3_code q.2 q.1) = true := by decide +kernel
theorem gc_17 : mc_17.zipIdx.all (fun q => mq_b mt_1 mp_fi mp_aw mp_ra prog_11_method_4_code q.2 q.1) = true := by decide +kernel
theorem gc_18 : mc_18.zipIdx.all (fun q => mq_b mt_1 mp_fi mp_aw mp_ra prog_11_method_5_code q.2 q.1) = true := by decide +kernel
theorem gc_19 : mc_19.zipIdx.all (fun q => mq_b mt_1 mp_fi mp_aw mp_ra prog_11_method_8_code q.2 q.1) = true := by decide +kernel
theorem gc_20 : mc_20.zipIdx.all (fun q => mq_b mt_1 mp_fi mp_aw mp_ra prog_11_method_6_code q.2 q.1) = true := by decide +kernel
theorem gc_21 : mc_21.zipIdx.all (fun q => mq_b mt_1 mp_fi mp_aw mp_ra prog_11_method_10_code q.2 q.1) = true := by decide +kernel
theorem gc_22 : mc_22.zipIdx.all (fun q => mq_b mt_1 mp_fi mp_aw mp_ra prog_11_method_12_code q.2 q.1) = true := by decide +kernel
theorem gc_23 : mc_23.zipIdx.all (fun q => mq_b mt_11 mp_fi mp_aw mp_ra prog_23_method_54_code q.2 q.1) = true := by decide +kernel
theorem gc_24 : mc_24.zipIdx.all (fun q => mq_b mt_11 mp_fi mp_aw mp_ra prog_23_method_152_code q.2 q.1) = true := by decide +kernel
theorem gc_25 : mc_25.zipIdx.all (fun q => mq_b mt_11 mp_fi mp_aw mp_ra prog_23_method_56_code q.2 q.1) = true := by decide +kernel
theorem gc_26 : mc_26.zipIdx.all (fun q => mq_b mt_11 mp_fi mp_aw mp_ra prog_23_method_154_code q.2 q.1) = true := by decide +kernel
theorem gc_27 : mc_27.zipIdx.all (fun q => mq_b mt_12 mp_fi mp_aw mp_ra prog_24_method_2_code q.2 q.1) = true := by decide +kernel
theorem gc_28 : mc_28.zipIdx.all (fun q => mq_b mt_13 mp_fi mp_aw mp_ra prog_25_method_83_code q.2 q.1) = true := by decide +kernel
theorem gc_29 : mc_29.zipIdx.all (fun q => mq_b mt_13 mp_fi mp_aw mp_ra prog_25_method_91_code q.2 q.1) = true := by decide +kernel
theorem gc_30 : mc_30.zipIdx.all (fun q => mq_b mt_13 mp_fi mp_aw mp_ra prog_25_method_6_code q.2 q.1) = true := by decide +kernel
theorem gc_31 : mc_31.zipIdx.all (fun q => mq_b mt_13 mp_fi mp_aw mp_ra prog_25_method_5_code q.2 q.1) = true := by decide +kernel
theorem gc_32 : mc_32.zipIdx.all (fun q => mq_b mt_1 mp_fi mp_aw mp_ra prog_11_method_11_code q.2 q.1) = true := by decide +kernel
theorem gc_33 : mc_33.zipIdx.all (fun q => mq_b mt_1 mp_fi mp_aw mp_ra prog_11_method_9_code q.2 q.1) = true := by decide +kernel
theorem gc_34 : mc_34.zipIdx.all (fun q => mq_b mt_1 mp_fi mp_aw mp_ra prog_11_method_7_code q.2 q.1) = true := by decide +kernel
theorem gc_35 : mc_35.zipIdx.all (fun q => mq_b mt_11 mp_fi mp_aw mp_ra prog_23_method_79_code q.2 q.1) = true := by decide +kernel
theorem gc_36 : mc_36.zipIdx.all (fun q => mq_b mt_11 mp_fi mp_aw mp_ra prog_23_method_80_code q.2 q.1) = true := by decide +kernel
theorem gc_37 : mc_37.zipIdx.all (fun q => mq_b mt_12 mp_fi mp_aw mp_ra prog_24_method_22_code q.2 q.1) = true := by decide +kernel
theorem gc_38 : mc_38.zipIdx.all (fun q => mq_b mt_12 mp_fi mp_aw mp_ra prog_24_method_4_code q.2 q.1) = true := by decide +kernel
theorem gc_39 : mc_39.zipIdx.all (fun q => mq_b mt_12 mp_fi mp_aw mp_ra prog_24_method_23_code q.2 q.1) = true := by decide +kernel
theorem gc_40 : mc_40.zipIdx.all (fun q => mq_b mt_13 mp_fi mp_aw mp_ra prog_25_method_40_code q.2 q.1) = true := by decide +kernel
theorem gc_41 : mc_41.zipIdx.all (fun q => mq_b mt_13 mp_fi mp_aw mp_ra prog_25_method_47_code q.2 q.1) = true := by decide +kernel
theorem gc_42 : mc_42.zipIdx.all (fun q => mq_b mt_13 mp_fi mp_aw mp_ra prog_25_method_93_code q.2 q.1) = true := by decide +kernel
theorem gc_43 : mc_43.zipIdx.all (fun q => mq_b mt_11 mp_fi mp_aw mp_ra prog_23_method_158_code q.2 q.1) = true := by decide +kernel
theorem gc_44 : mc_44.zipIdx.all (fun q => mq_b mt_21 mp_fi mp_aw mp_ra prog_32_method_12_code q.2 q.1) = true := by decide +kernel
theorem gc_45 : mc_45.zipIdx.all (fun q => mq_b mt_13 mp_fi mp_aw mp_ra prog_25_method_48_code q.2 q.1) = true := by decide +kernel
theorem gc_46 : mc_46.zipIdx.all (fun q => mq_b mt_13 mp_fi mp_aw mp_ra prog_25_method_49_code q.2 q.1) = true := by decide +kernel
theorem gc_47 : mc_47.zipIdx.all (fun q => mq_b mt_14 mp_fi mp_aw mp_ra prog_17_method_11_code q.2 q.1) = true := by decide +kernel
theorem gc_48 : mc_48.zipIdx.all (fun q => mq_b mt_14 mp_fi mp_aw mp_ra prog_17_method_28_code q.2 q.1) = true := by decide +kernel
theorem gc_49 : mc_49.zipIdx.all (fun q => mq_b mt_14 mp_fi mp_aw mp_ra prog_17_method_29_code q.2 q.1) = true := by decide +kernel
theorem gc_50 : mc_50.zipIdx.all (fun q => mq_b mt_1 mp_fi mp_aw mp_ra prog_11_method_13_code q.2 q.1) = true := by decide +kernel
theorem gc_51 : mc_51.zipIdx.all (fun q => mq_b mt_10 mp_fi mp_aw mp_ra prog_10_method_3_code q.2 q.1) = true := by decide +kernel
theorem gc_52 : mc_52.zipIdx.all (fun q => mq_b mt_1 mp_fi mp_aw mp_ra prog_11_method_17_code q.2 q.1) = true := by decide +kernel
theorem gc_53 : mc_53.zipIdx.all (fun q => mq_b mt_10 mp_fi mp_aw mp_ra prog_10_method_4_code q.2 q.1) = true := by decide +kernel
theorem gc_54 : mc_54.zipIdx.all (fun q => mq_b mt_1 mp_fi mp_aw mp_ra prog_11_method_24_code q.2 q.1) = true := by decide +kernel
theorem gc_55 : mc_55.zipIdx.all (fun q => mq_b mt_1 mp_fi mp_aw mp_ra prog_11_method_20_code q.2 q.1) = true := by decide +kernel
theorem gc_56 : mc_56.zipIdx.all (fun q => mq_b mt_10 mp_fi mp_aw mp_ra prog_10_method_14_code q.2 q.1) = true := by decide +kernel
theorem gc_57 : mc_57.zipIdx.all (fun q => mq_b mt_1 mp_fi mp_aw mp_ra prog_11_method_14_code q.2 q.1) = true := by decide +kernel
theorem gc_58 : mc_58.zipIdx.all (fun q => mq_b mt_1 mp_fi mp_aw mp_ra prog_11_method_18_code q.2 q.1) = true := by decide +kernel
theorem gc_59 : mc_59.zipIdx.all (fun q => mq_b mt_8 mp_fi mp_aw mp_ra prog_9_method_7_code q.2 q.1) = true := by decide +kernel
theorem gc_60 : mc_60.zipIdx.all (fun q => mq_b mt_8 mp_fi mp_aw mp_ra prog_9_method_4_code q.2 q.1) = true := by decide +kernel
theorem gc_61 : mc_61.zipIdx.all (fun q => mq_b mt_8 mp_fi mp_aw mp_ra prog_9_method_8_code q.2 q.1) = true := by decide +kernel
theorem gc_62 : mc_62.zipIdx.all (fun q => mq_b mt_8 mp_fi mp_aw mp_ra prog_9_method_5_code q.2 q.1) = true := by decide +kernel
theorem gc_63 : mc_63.zipIdx.all (fun q => mq_b mt_8 mp_fi mp_aw mp_ra prog_9_method_6_code q.2 q.1) = true := by decide +kernel
theorem gc_64 : mc_64.zipIdx.all (fun q => mq_b mt_10 mp_fi mp_aw mp_ra prog_10_method_5_code q.2 q.1) = true := by decide +kernel
theorem gc_65 : mc_65.zipIdx.all (fun q => mq_b mt_1 mp_fi mp_aw mp_ra prog_11_method_21_code q.2 q.1) = true := by decide +kernel
theorem gc_66 : mc_66.zipIdx.all (fun q => mq_b mt_10 mp_fi mp_aw mp_ra prog_10_method_15_code q.2 q.1) = true := by decide +kernel
theorem gc_67 : mc_67.zipIdx.all (fun q => mq_b mt_10 mp_fi mp_aw mp_ra prog_10_method_6_code q.2 q.1) = true := by decide +kernel
theorem gc_68 : mc_68.zipIdx.all (fun q => mq_b mt_8 mp_fi mp_aw mp_ra prog_9_method_9_code q.2 q.1) = true := by decide +kernel
theorem gc_69 : mc_69.zipIdx.all (fun q => mq_b mt_10 mp_fi mp_aw mp_ra prog_10_method_7_code q.2 q.1) = true := by decide +kernel
theorem gc_70 : mc_70.zipIdx.all (fun q => mq_b mt_10 mp_fi mp_aw mp_ra prog_10_method_8_code q.2 q.1) = true := by decide +kernel
theorem gc_71 : mc_71.zipIdx.all (fun q => mq_b mt_10 mp_fi mp_aw mp_ra prog_10_method_9_code q.2 q.1) = true := by decide +kernel
theorem gc_72 : mc_72.zipIdx.all (fun q => mq_b mt_10 mp_fi mp_aw mp_ra prog_10_method_16_code q.2 q.1) = true := by decide +kernel
theorem gc_73 : mc_73.zipIdx.all (fun q => mq_b mt_10 mp_fi mp_aw mp_ra prog_10_method_10_code q.2 q.1) = true := by decide +kernel
theorem gc_74 : mc_74.zipIdx.all (fun q => mq_b mt_1 mp_fi mp_aw mp_ra prog_11_method_23_code q.2 q.1) = true := by decide +kernel
theorem gc_75 : mc_75.zipIdx.all (fun q => mq_b mt_1 mp_fi mp_aw mp_ra prog_11_method_15_code q.2 q.1) = true := by decide +kernel
theorem gc_76 : mc_76.zipIdx.all (fun q => mq_b mt_1 mp_fi mp_aw mp_ra prog_11_method_19_code q.2 q.1) = true := by decide +kernel
theorem gc_77 : mc_77.zipIdx.all (fun q => mq_b mt_10 mp_fi mp_aw mp_ra prog_10_method_13_code q.2 q.1) = true := by decide +kernel
theorem gc_78 : mc_78.zipIdx.all (fun q => mq_b mt_10 mp_fi mp_aw mp_ra prog_10_method_11_code q.2 q.1) = true := by decide +kernel
theorem gc_79 : mc_79.zipIdx.all (fun q => mq_b mt_10 mp_fi mp_aw mp_ra prog_10_method_12_code q.2 q.1) = true := by decide +kernel
