theorem gc_90 : mc_90.zipIdx.all (fun q => mq_b mt_15 mp_fi mp_aw mp_ra prog_6_method_7_code q.2 q.1) = true := by decide +kernel
theorem gm_90 (fx : List Value → mm_H → Option (List Value × mm_H)) : mm_GM mp_cl mp_TB mp_sr (mp_P fx) mp_yy mp_bb 90 := ⟨wd_4_37, by decide +kernel, ⟨by decide +kernel, by decide +kernel⟩, by decide +kernel, mq_all (mo_15 fx "factAt") rfl gc_90⟩
theorem gc_91 : mc_91.zipIdx.all (fun q => mq_b mt_1 mp_fi mp_aw mp_ra prog_11_method_16_code q.2 q.1) = true := by decide +kernel
theorem gm_91 (fx : List Value → mm_H → Option (List Value × mm_H)) : mm_GM mp_cl mp_TB mp_sr (mp_P fx) mp_yy mp_bb 91 := ⟨wd_4_47, by decide +kernel, ⟨by decide +kernel, by decide +kernel⟩, by decide +kernel, mq_all (mo_1 fx "atSign") rfl gc_91⟩
theorem gc_92 : mc_92.zipIdx.all (fun q => mq_b mt_9 mp_fi mp_aw mp_ra prog_5_method_4_code q.2 q.1) = true := by decide +kernel
theorem gm_92 (fx : List Value → mm_H → Option (List Value × mm_H)) : mm_GM mp_cl mp_TB mp_sr (mp_P fx) mp_yy mp_bb 92 := ⟨wd_4_54, by decide +kernel, ⟨by decide +kernel, by decide +kernel⟩, by decide +kernel, mq_all (mo_9 fx "add") rfl gc_92⟩
theorem gc_93 : mc_93.zipIdx.all (fun q => mq_b mt_1 mp_fi mp_aw mp_ra prog_11_method_22_code q.2 q.1) = true := by decide +kernel
theorem gm_93 (fx : List Value → mm_H → Option (List Value × mm_H)) : mm_GM mp_cl mp_TB mp_sr (mp_P fx) mp_yy mp_bb 93 := ⟨wd_4_59, by decide +kernel, ⟨by decide +kernel, by decide +kernel⟩, by decide +kernel, mq_all (mo_1 fx "passSign") rfl gc_93⟩
theorem gc_94 : mc_94.zipIdx.all (fun q => mq_b mt_0 mp_fi mp_aw mp_ra prog_1_method_40_code q.2 q.1) = true := by decide +kernel
theorem gm_94 (fx : List Value → mm_H → Option (List Value × mm_H)) : mm_GM mp_cl mp_TB mp_sr (mp_P fx) mp_yy mp_bb 94 := ⟨wd_4_68, by decide +kernel, ⟨by decide +kernel, by decide +kernel⟩, by decide +kernel, mq_all (mo_0 fx "beginSquare") rfl gc_94⟩
theorem gc_95 : mc_95.zipIdx.all (fun q => mq_b mt_3 mp_fi mp_aw mp_ra prog_8_method_2_code q.2 q.1) = true := by decide +kernel
theorem gm_95 (fx : List Value → mm_H → Option (List Value × mm_H)) : mm_GM mp_cl mp_TB mp_sr (mp_P fx) mp_yy mp_bb 95 := ⟨wd_4_72, by decide +kernel, ⟨by decide +kernel, by decide +kernel⟩, by decide +kernel, mq_all (mo_3 fx "begin") rfl gc_95⟩
theorem gc_96 : mc_96.zipIdx.all (fun q => mq_b mt_4 mp_fi mp_aw mp_ra prog_2_method_3_code q.2 q.1) = true := by decide +kernel
theorem gm_96 (fx : List Value → mm_H → Option (List Value × mm_H)) : mm_GM mp_cl mp_TB mp_sr (mp_P fx) mp_yy mp_bb 96 := ⟨wd_4_79, by decide +kernel, ⟨by decide +kernel, by decide +kernel⟩, by decide +kernel, mq_all (mo_4 fx "clear") rfl gc_96⟩
theorem gc_97 : mc_97.zipIdx.all (fun q => mq_b mt_0 mp_fi mp_aw mp_ra prog_1_method_43_code q.2 q.1) = true := by decide +kernel
theorem gm_97 (fx : List Value → mm_H → Option (List Value × mm_H)) : mm_GM mp_cl mp_TB mp_sr (mp_P fx) mp_yy mp_bb 97 := ⟨wd_4_83, by decide +kernel, ⟨by decide +kernel, by decide +kernel⟩, by decide +kernel, mq_all (mo_0 fx "forgetUndo") rfl gc_97⟩
theorem gc_98 : mc_98.zipIdx.all (fun q => mq_b mt_0 mp_fi mp_aw mp_ra prog_1_method_4_code q.2 q.1) = true := by decide +kernel
theorem gm_98 (fx : List Value → mm_H → Option (List Value × mm_H)) : mm_GM mp_cl mp_TB mp_sr (mp_P fx) mp_yy mp_bb 98 := ⟨wd_4_88, by decide +kernel, ⟨by decide +kernel, by decide +kernel⟩, by decide +kernel, mq_all (mo_0 fx "day") rfl gc_98⟩
theorem gc_99 : mc_99.zipIdx.all (fun q => mq_b mt_2 mp_fi mp_aw mp_ra prog_3_method_2_code q.2 q.1) = true := by decide +kernel
theorem gm_99 (fx : List Value → mm_H → Option (List Value × mm_H)) : mm_GM mp_cl mp_TB mp_sr (mp_P fx) mp_yy mp_bb 99 := ⟨wd_4_92, by decide +kernel, ⟨by decide +kernel, by decide +kernel⟩, by decide +kernel, mq_all (mo_2 fx "fillDay") rfl gc_99⟩
theorem gc_100 : mc_100.zipIdx.all (fun q => mq_b mt_2 mp_fi mp_aw mp_ra prog_3_method_4_code q.2 q.1) = true := by decide +kernel
theorem gm_100 (fx : List Value → mm_H → Option (List Value × mm_H)) : mm_GM mp_cl mp_TB mp_sr (mp_P fx) mp_yy mp_bb 100 := ⟨wd_4_97, by decide +kernel, ⟨by decide +kernel, by decide +kernel⟩, by decide +kernel, mq_all (mo_2 fx "takeLine") rfl gc_100⟩
theorem gc_101 : mc_101.zipIdx.all (fun q => mq_b mt_2 mp_fi mp_aw mp_ra prog_3_method_3_code q.2 q.1) = true := by decide +kernel
theorem gm_101 (fx : List Value → mm_H → Option (List Value × mm_H)) : mm_GM mp_cl mp_TB mp_sr (mp_P fx) mp_yy mp_bb 101 := ⟨wd_4_100, by decide +kernel, ⟨by decide +kernel, by decide +kernel⟩, by decide +kernel, mq_all (mo_2 fx "kindAt") rfl gc_101⟩
theorem gc_102 : mc_102.zipIdx.all (fun q => mq_b mt_2 mp_fi mp_aw mp_ra prog_3_method_5_code q.2 q.1) = true := by decide +kernel
theorem gm_102 (fx : List Value → mm_H → Option (List Value × mm_H)) : mm_GM mp_cl mp_TB mp_sr (mp_P fx) mp_yy mp_bb 102 := ⟨wd_4_110, by decide +kernel, ⟨by decide +kernel, by decide +kernel⟩, by decide +kernel, mq_all (mo_2 fx "checkWalker") rfl gc_102⟩
theorem gc_103 : mc_103.zipIdx.all (fun q => mq_b mt_4 mp_fi mp_aw mp_ra prog_2_method_2_code q.2 q.1) = true := by decide +kernel
theorem gm_103 (fx : List Value → mm_H → Option (List Value × mm_H)) : mm_GM mp_cl mp_TB mp_sr (mp_P fx) mp_yy mp_bb 103 := ⟨wd_4_118, by decide +kernel, ⟨by decide +kernel, by decide +kernel⟩, by decide +kernel, mq_all (mo_4 fx "lineOf") rfl gc_103⟩
theorem gc_104 : mc_104.zipIdx.all (fun q => mq_b mt_4 mp_fi mp_aw mp_ra prog_2_method_5_code q.2 q.1) = true := by decide +kernel
theorem gm_104 (fx : List Value → mm_H → Option (List Value × mm_H)) : mm_GM mp_cl mp_TB mp_sr (mp_P fx) mp_yy mp_bb 104 := ⟨wd_4_123, by decide +kernel, ⟨by decide +kernel, by decide +kernel⟩, by decide +kernel, mq_all (mo_4 fx "setLines") rfl gc_104⟩
theorem gc_105 : mc_105.zipIdx.all (fun q => mq_b mt_0 mp_fi mp_aw mp_ra prog_1_method_5_code q.2 q.1) = true := by decide +kernel
theorem gm_105 (fx : List Value → mm_H → Option (List Value × mm_H)) : mm_GM mp_cl mp_TB mp_sr (mp_P fx) mp_yy mp_bb 105 := ⟨wd_4_128, by decide +kernel, ⟨by decide +kernel, by decide +kernel⟩, by decide +kernel, mq_all (mo_0 fx "wish") rfl gc_105⟩
theorem gc_106 : mc_106.zipIdx.all (fun q => mq_b mt_2 mp_fi mp_aw mp_ra prog_3_method_6_code q.2 q.1) = true := by decide +kernel
theorem gm_106 (fx : List Value → mm_H → Option (List Value × mm_H)) : mm_GM mp_cl mp_TB mp_sr (mp_P fx) mp_yy mp_bb 106 := ⟨wd_4_132, by decide +kernel, ⟨by decide +kernel, by decide +kernel⟩, by decide +kernel, mq_all (mo_2 fx "fillWish") rfl gc_106⟩
theorem gc_107 : mc_107.zipIdx.all (fun q => mq_b mt_4 mp_fi mp_aw mp_ra prog_2_method_6_code q.2 q.1) = true := by decide +kernel
theorem gm_107 (fx : List Value → mm_H → Option (List Value × mm_H)) : mm_GM mp_cl mp_TB mp_sr (mp_P fx) mp_yy mp_bb 107 := ⟨wd_4_138, by decide +kernel, ⟨by decide +kernel, by decide +kernel⟩, by decide +kernel, mq_all (mo_4 fx "setWishes") rfl gc_107⟩
theorem gc_108 : mc_108.zipIdx.all (fun q => mq_b mt_0 mp_fi mp_aw mp_ra prog_1_method_6_code q.2 q.1) = true := by decide +kernel
theorem gm_108 (fx : List Value → mm_H → Option (List Value × mm_H)) : mm_GM mp_cl mp_TB mp_sr (mp_P fx) mp_yy mp_bb 108 := ⟨wd_4_142, by decide +kernel, ⟨by decide +kernel, by decide +kernel⟩, by decide +kernel, mq_all (mo_0 fx "walker") rfl gc_108⟩
theorem gc_109 : mc_109.zipIdx.all (fun q => mq_b mt_0 mp_fi mp_aw mp_ra prog_1_method_41_code q.2 q.1) = true := by decide +kernel
theorem gm_109 (fx : List Value → mm_H → Option (List Value × mm_H)) : mm_GM mp_cl mp_TB mp_sr (mp_P fx) mp_yy mp_bb 109 := ⟨wd_4_146, by decide +kernel, ⟨by decide +kernel, by decide +kernel⟩, by decide +kernel, mq_all (mo_0 fx "isWalker") rfl gc_109⟩
theorem gc_110 : mc_110.zipIdx.all (fun q => mq_b mt_3 mp_fi mp_aw mp_ra prog_8_method_8_code q.2 q.1) = true := by decide +kernel
theorem gm_110 (fx : List Value → mm_H → Option (List Value × mm_H)) : mm_GM mp_cl mp_TB mp_sr (mp_P fx) mp_yy mp_bb 110 := ⟨wd_4_150, by decide +kernel, ⟨by decide +kernel, by decide +kernel⟩, by decide +kernel, mq_all (mo_3 fx "isOpen") rfl gc_110⟩
theorem gc_111 : mc_111.zipIdx.all (fun q => mq_b mt_8 mp_fi mp_aw mp_ra prog_9_method_9_code q.2 q.1) = true := by decide +kernel
theorem gm_111 (fx : List Value → mm_H → Option (List Value × mm_H)) : mm_GM mp_cl mp_TB mp_sr (mp_P fx) mp_yy mp_bb 111 := ⟨wd_4_154, by decide +kernel, ⟨by decide +kernel, by decide +kernel⟩, by decide +kernel, mq_all (mo_8 fx "stepOf") rfl gc_111⟩
theorem gc_112 : mc_112.zipIdx.all (fun q => mq_b mt_0 mp_fi mp_aw mp_ra prog_1_method_44_code q.2 q.1) = true := by decide +kernel
theorem gm_112 (fx : List Value → mm_H → Option (List Value × mm_H)) : mm_GM mp_cl mp_TB mp_sr (mp_P fx) mp_yy mp_bb 112 := ⟨wd_4_158, by decide +kernel, ⟨by decide +kernel, by decide +kernel⟩, by decide +kernel, mq_all (mo_0 fx "readIn") rfl gc_112⟩
theorem gc_113 : mc_113.zipIdx.all (fun q => mq_b mt_5 mp_fi mp_aw mp_ra prog_7_method_2_code q.2 q.1) = true := by decide +kernel
theorem gm_113 (fx : List Value → mm_H → Option (List Value × mm_H)) : mm_GM mp_cl mp_TB mp_sr (mp_P fx) mp_yy mp_bb 113 := ⟨wd_4_162, by decide +kernel, ⟨by decide +kernel, by decide +kernel⟩, by decide +kernel, mq_all (mo_5 fx "look") rfl gc_113⟩
theorem gc_114 : mc_114.zipIdx.all (fun q => mq_b mt_5 mp_fi mp_aw mp_ra prog_7_method_3_code q.2 q.1) = true := by decide +kernel
theorem gm_114 (fx : List Value → mm_H → Option (List Value × mm_H)) : mm_GM mp_cl mp_TB mp_sr (mp_P fx) mp_yy mp_bb 114 := ⟨wd_4_166, by decide +kernel, ⟨by decide +kernel, by decide +kernel⟩, by decide +kernel, mq_all (mo_5 fx "countPlaces") rfl gc_114⟩
theorem gc_115 : mc_115.zipIdx.all (fun q => mq_b mt_16 mp_fi mp_aw mp_ra prog_30_method_103_code q.2 q.1) = true := by decide +kernel
theorem gm_115 (fx : List Value → mm_H → Option (List Value × mm_H)) : mm_GM mp_cl mp_TB mp_sr (mp_P fx) mp_yy mp_bb 115 := ⟨wd_4_169, by decide +kernel, ⟨by decide +kernel, by decide +kernel⟩, by decide +kernel, mq_all (mo_16 fx "fill") rfl gc_115⟩
theorem gc_116 : mc_116.zipIdx.all (fun q => mq_b mt_5 mp_fi mp_aw mp_ra prog_7_method_4_code q.2 q.1) = true := by decide +kernel
theorem gm_116 (fx : List Value → mm_H → Option (List Value × mm_H)) : mm_GM mp_cl mp_TB mp_sr (mp_P fx) mp_yy mp_bb 116 := ⟨wd_4_173, by decide +kernel, ⟨by decide +kernel, by decide +kernel⟩, by decide +kernel, mq_all (mo_5 fx "sortByPlaces") rfl gc_116⟩
theorem gc_117 : mc_117.zipIdx.all (fun q => mq_b mt_5 mp_fi mp_aw mp_ra prog_7_method_5_code q.2 q.1) = true := by decide +kernel
theorem gm_117 (fx : List Value → mm_H → Option (List Value × mm_H)) : mm_GM mp_cl mp_TB mp_sr (mp_P fx) mp_yy mp_bb 117 := ⟨wd_4_177, by decide +kernel, ⟨by decide +kernel, by decide +kernel⟩, by decide +kernel, mq_all (mo_5 fx "isAble") rfl gc_117⟩
theorem gc_118 : mc_118.zipIdx.all (fun q => mq_b mt_9 mp_fi mp_aw mp_ra prog_5_method_5_code q.2 q.1) = true := by decide +kernel
theorem gm_118 (fx : List Value → mm_H → Option (List Value × mm_H)) : mm_GM mp_cl mp_TB mp_sr (mp_P fx) mp_yy mp_bb 118 := ⟨wd_4_182, by decide +kernel, ⟨by decide +kernel, by decide +kernel⟩, by decide +kernel, mq_all (mo_9 fx "valueFor") rfl gc_118⟩
theorem gc_119 : mc_119.zipIdx.all (fun q => mq_b mt_9 mp_fi mp_aw mp_ra prog_5_method_6_code q.2 q.1) = true := by decide +kernel
theorem gm_119 (fx : List Value → mm_H → Option (List Value × mm_H)) : mm_GM mp_cl mp_TB mp_sr (mp_P fx) mp_yy mp_bb 119 := ⟨wd_4_186, by decide +kernel, ⟨by decide +kernel, by decide +kernel⟩, by decide +kernel, mq_all (mo_9 fx "push") rfl gc_119⟩
theorem gc_120 : mc_120.zipIdx.all (fun q => mq_b mt_9 mp_fi mp_aw mp_ra prog_5_method_7_code q.2 q.1) = true := by decide +kernel
theorem gm_120 (fx : List Value → mm_H → Option (List Value × mm_H)) : mm_GM mp_cl mp_TB mp_sr (mp_P fx) mp_yy mp_bb 120 := ⟨wd_4_190, by decide +kernel, ⟨by decide +kernel, by decide +kernel⟩, by decide +kernel, mq_all (mo_9 fx "pop") rfl gc_120⟩
theorem gc_121 : mc_121.zipIdx.all (fun q => mq_b mt_9 mp_fi mp_aw mp_ra prog_5_method_8_code q.2 q.1) = true := by decide +kernel
theorem gm_121 (fx : List Value → mm_H → Option (List Value × mm_H)) : mm_GM mp_cl mp_TB mp_sr (mp_P fx) mp_yy mp_bb 121 := ⟨wd_4_193, by decide +kernel, ⟨by decide +kernel, by decide +kernel⟩, by decide +kernel, mq_all (mo_9 fx "joined") rfl gc_121⟩
theorem gc_122 : mc_122.zipIdx.all (fun q => mq_b mt_8 mp_fi mp_aw mp_ra prog_9_method_10_code q.2 q.1) = true := by decide +kernel
theorem gm_122 (fx : List Value → mm_H → Option (List Value × mm_H)) : mm_GM mp_cl mp_TB mp_sr (mp_P fx) mp_yy mp_bb 122 := ⟨wd_4_197, by decide +kernel, ⟨by decide +kernel, by decide +kernel⟩, by decide +kernel, mq_all (mo_8 fx "gustOf") rfl gc_122⟩
theorem gc_123 : mc_123.zipIdx.all (fun q => mq_b mt_5 mp_fi mp_aw mp_ra prog_7_method_6_code q.2 q.1) = true := by decide +kernel
theorem gm_123 (fx : List Value → mm_H → Option (List Value × mm_H)) : mm_GM mp_cl mp_TB mp_sr (mp_P fx) mp_yy mp_bb 123 := ⟨wd_4_201, by decide +kernel, ⟨by decide +kernel, by decide +kernel⟩, by decide +kernel, mq_all (mo_5 fx "take") rfl gc_123⟩
theorem gc_124 : mc_124.zipIdx.all (fun q => mq_b mt_8 mp_fi mp_aw mp_ra prog_9_method_11_code q.2 q.1) = true := by decide +kernel
theorem gm_124 (fx : List Value → mm_H → Option (List Value × mm_H)) : mm_GM mp_cl mp_TB mp_sr (mp_P fx) mp_yy mp_bb 124 := ⟨wd_4_205, by decide +kernel, ⟨by decide +kernel, by decide +kernel⟩, by decide +kernel, mq_all (mo_8 fx "shownBy") rfl gc_124⟩
theorem gc_125 : mc_125.zipIdx.all (fun q => mq_b mt_5 mp_fi mp_aw mp_ra prog_7_method_7_code q.2 q.1) = true := by decide +kernel
theorem gm_125 (fx : List Value → mm_H → Option (List Value × mm_H)) : mm_GM mp_cl mp_TB mp_sr (mp_P fx) mp_yy mp_bb 125 := ⟨wd_4_209, by decide +kernel, ⟨by decide +kernel, by decide +kernel⟩, by decide +kernel, mq_all (mo_5 fx "addShown") rfl gc_125⟩
theorem gc_126 : mc_126.zipIdx.all (fun q => mq_b mt_0 mp_fi mp_aw mp_ra prog_1_method_7_code q.2 q.1) = true := by decide +kernel
theorem gm_126 (fx : List Value → mm_H → Option (List Value × mm_H)) : mm_GM mp_cl mp_TB mp_sr (mp_P fx) mp_yy mp_bb 126 := ⟨wd_4_213, by decide +kernel, ⟨by decide +kernel, by decide +kernel⟩, by decide +kernel, mq_all (mo_0 fx "read") rfl gc_126⟩
theorem gc_127 : mc_127.zipIdx.all (fun q => mq_b mt_0 mp_fi mp_aw mp_ra prog_1_method_8_code q.2 q.1) = true := by decide +kernel
theorem gm_127 (fx : List Value → mm_H → Option (List Value × mm_H)) : mm_GM mp_cl mp_TB mp_sr (mp_P fx) mp_yy mp_bb 127 := ⟨wd_4_217, by decide +kernel, ⟨by decide +kernel, by decide +kernel⟩, by decide +kernel, mq_all (mo_0 fx "tick") rfl gc_127⟩
theorem gc_128 : mc_128.zipIdx.all (fun q => mq_b mt_0 mp_fi mp_aw mp_ra prog_1_method_42_code q.2 q.1) = true := by decide +kernel
theorem gm_128 (fx : List Value → mm_H → Option (List Value × mm_H)) : mm_GM mp_cl mp_TB mp_sr (mp_P fx) mp_yy mp_bb 128 := ⟨wd_4_221, by decide +kernel, ⟨by decide +kernel, by decide +kernel⟩, by decide +kernel, mq_all (mo_0 fx "keepForUndo") rfl gc_128⟩
theorem gc_129 : mc_129.zipIdx.all (fun q => mq_b mt_3 mp_fi mp_aw mp_ra prog_8_method_4_code q.2 q.1) = true := by decide +kernel
theorem gm_129 (fx : List Value → mm_H → Option (List Value × mm_H)) : mm_GM mp_cl mp_TB mp_sr (mp_P fx) mp_yy mp_bb 129 := ⟨wd_4_225, by decide +kernel, ⟨by decide +kernel, by decide +kernel⟩, by decide +kernel, mq_all (mo_3 fx "packed") rfl gc_129⟩
theorem gc_130 : mc_130.zipIdx.all (fun q => mq_b mt_3 mp_fi mp_aw mp_ra prog_8_method_6_code q.2 q.1) = true := by decide +kernel
theorem gm_130 (fx : List Value → mm_H → Option (List Value × mm_H)) : mm_GM mp_cl mp_TB mp_sr (mp_P fx) mp_yy mp_bb 130 := ⟨wd_4_232, by decide +kernel, ⟨by decide +kernel, by decide +kernel⟩, by decide +kernel, mq_all (mo_3 fx "goOn") rfl gc_130⟩
theorem gc_131 : mc_131.zipIdx.all (fun q => mq_b mt_3 mp_fi mp_aw mp_ra prog_8_method_7_code q.2 q.1) = true := by decide +kernel
theorem gm_131 (fx : List Value → mm_H → Option (List Value × mm_H)) : mm_GM mp_cl mp_TB mp_sr (mp_P fx) mp_yy mp_bb 131 := ⟨wd_4_236, by decide +kernel, ⟨by decide +kernel, by decide +kernel⟩, by decide +kernel, mq_all (mo_3 fx "placeBehind") rfl gc_131⟩
theorem gc_132 : mc_132.zipIdx.all (fun q => mq_b mt_0 mp_fi mp_aw mp_ra prog_1_method_45_code q.2 q.1) = true := by decide +kernel
theorem gm_132 (fx : List Value → mm_H → Option (List Value × mm_H)) : mm_GM mp_cl mp_TB mp_sr (mp_P fx) mp_yy mp_bb 132 := ⟨wd_5_0, by decide +kernel, ⟨by decide +kernel, by decide +kernel⟩, by decide +kernel, mq_all (mo_0 fx "saidIn") rfl gc_132⟩
theorem gc_133 : mc_133.zipIdx.all (fun q => mq_b mt_0 mp_fi mp_aw mp_ra prog_1_method_46_code q.2 q.1) = true := by decide +kernel
theorem gm_133 (fx : List Value → mm_H → Option (List Value × mm_H)) : mm_GM mp_cl mp_TB mp_sr (mp_P fx) mp_yy mp_bb 133 := ⟨wd_5_4, by decide +kernel, ⟨by decide +kernel, by decide +kernel⟩, by decide +kernel, mq_all (mo_0 fx "saidInReading") rfl gc_133⟩
theorem gc_134 : mc_134.zipIdx.all (fun q => mq_b mt_6 mp_fi mp_aw mp_ra prog_4_method_3_code q.2 q.1) = true := by decide +kernel
theorem gm_134 (fx : List Value → mm_H → Option (List Value × mm_H)) : mm_GM mp_cl mp_TB mp_sr (mp_P fx) mp_yy mp_bb 134 := ⟨wd_5_8, by decide +kernel, ⟨by decide +kernel, by decide +kernel⟩, by decide +kernel, mq_all (mo_6 fx "fill") rfl gc_134⟩
theorem gc_135 : mc_135.zipIdx.all (fun q => mq_b mt_6 mp_fi mp_aw mp_ra prog_4_method_2_code q.2 q.1) = true := by decide +kernel
theorem gm_135 (fx : List Value → mm_H → Option (List Value × mm_H)) : mm_GM mp_cl mp_TB mp_sr (mp_P fx) mp_yy mp_bb 135 := ⟨wd_5_11, by decide +kernel, ⟨by decide +kernel, by decide +kernel⟩, by decide +kernel, mq_all (mo_6 fx "cell") rfl gc_135⟩
theorem gc_136 : mc_136.zipIdx.all (fun q => mq_b mt_16 mp_fi mp_aw mp_ra prog_30_method_104_code q.2 q.1) = true := by decide +kernel
theorem gm_136 (fx : List Value → mm_H → Option (List Value × mm_H)) : mm_GM mp_cl mp_TB mp_sr (mp_P fx) mp_yy mp_bb 136 := ⟨wd_5_14, by decide +kernel, ⟨by decide +kernel, by decide +kernel⟩, by decide +kernel, mq_all (mo_16 fx "fill") rfl gc_136⟩
theorem gc_137 : mc_137.zipIdx.all (fun q => mq_b mt_16 mp_fi mp_aw mp_ra prog_30_method_30_code q.2 q.1) = true := by decide +kernel
theorem gm_137 (fx : List Value → mm_H → Option (List Value × mm_H)) : mm_GM mp_cl mp_TB mp_sr (mp_P fx) mp_yy mp_bb 137 := ⟨wd_5_17, by decide +kernel, ⟨by decide +kernel, by decide +kernel⟩, by decide +kernel, mq_all (mo_16 fx "rangeCheck") rfl gc_137⟩
theorem gc_138 : mc_138.zipIdx.all (fun q => mq_b mt_6 mp_fi mp_aw mp_ra prog_4_method_4_code q.2 q.1) = true := by decide +kernel
theorem gm_138 (fx : List Value → mm_H → Option (List Value × mm_H)) : mm_GM mp_cl mp_TB mp_sr (mp_P fx) mp_yy mp_bb 138 := ⟨wd_5_21, by decide +kernel, ⟨by decide +kernel, by decide +kernel⟩, by decide +kernel, mq_all (mo_6 fx "addWays") rfl gc_138⟩
theorem gc_139 : mc_139.zipIdx.all (fun q => mq_b mt_6 mp_fi mp_aw mp_ra prog_4_method_5_code q.2 q.1) = true := by decide +kernel
theorem gm_139 (fx : List Value → mm_H → Option (List Value × mm_H)) : mm_GM mp_cl mp_TB mp_sr (mp_P fx) mp_yy mp_bb 139 := ⟨wd_5_25, by decide +kernel, ⟨by decide +kernel, by decide +kernel⟩, by decide +kernel, mq_all (mo_6 fx "waysOfWhole") rfl gc_139⟩
theorem gc_140 : mc_140.zipIdx.all (fun q => mq_b mt_0 mp_fi mp_aw mp_ra prog_1_method_9_code q.2 q.1) = true := by decide +kernel
theorem gm_140 (fx : List Value → mm_H → Option (List Value × mm_H)) : mm_GM mp_cl mp_TB mp_sr (mp_P fx) mp_yy mp_bb 140 := ⟨wd_5_29, by decide +kernel, ⟨by decide +kernel, by decide +kernel⟩, by decide +kernel, mq_all (mo_0 fx "move") rfl gc_140⟩
theorem gc_141 : mc_141.zipIdx.all (fun q => mq_b mt_3 mp_fi mp_aw mp_ra prog_8_method_9_code q.2 q.1) = true := by decide +kernel
theorem gm_141 (fx : List Value → mm_H → Option (List Value × mm_H)) : mm_GM mp_cl mp_TB mp_sr (mp_P fx) mp_yy mp_bb 141 := ⟨wd_5_33, by decide +kernel, ⟨by decide +kernel, by decide +kernel⟩, by decide +kernel, mq_all (mo_3 fx "canStep") rfl gc_141⟩
theorem gc_142 : mc_142.zipIdx.all (fun q => mq_b mt_3 mp_fi mp_aw mp_ra prog_8_method_10_code q.2 q.1) = true := by decide +kernel
theorem gm_142 (fx : List Value → mm_H → Option (List Value × mm_H)) : mm_GM mp_cl mp_TB mp_sr (mp_P fx) mp_yy mp_bb 142 := ⟨wd_5_37, by decide +kernel, ⟨by decide +kernel, by decide +kernel⟩, by decide +kernel, mq_all (mo_3 fx "stepAside") rfl gc_142⟩
theorem gc_143 : mc_143.zipIdx.all (fun q => mq_b mt_0 mp_fi mp_aw mp_ra prog_1_method_10_code q.2 q.1) = true := by decide +kernel
theorem gm_143 (fx : List Value → mm_H → Option (List Value × mm_H)) : mm_GM mp_cl mp_TB mp_sr (mp_P fx) mp_yy mp_bb 143 := ⟨wd_5_41, by decide +kernel, ⟨by decide +kernel, by decide +kernel⟩, by decide +kernel, mq_all (mo_0 fx "shut") rfl gc_143⟩
theorem gc_144 : mc_144.zipIdx.all (fun q => mq_b mt_3 mp_fi mp_aw mp_ra prog_8_method_11_code q.2 q.1) = true := by decide +kernel
theorem gm_144 (fx : List Value → mm_H → Option (List Value × mm_H)) : mm_GM mp_cl mp_TB mp_sr (mp_P fx) mp_yy mp_bb 144 := ⟨wd_5_45, by decide +kernel, ⟨by decide +kernel, by decide +kernel⟩, by decide +kernel, mq_all (mo_3 fx "close") rfl gc_144⟩
theorem gc_145 : mc_145.zipIdx.all (fun q => mq_b mt_0 mp_fi mp_aw mp_ra prog_1_method_11_code q.2 q.1) = true := by decide +kernel
theorem gm_145 (fx : List Value → mm_H → Option (List Value × mm_H)) : mm_GM mp_cl mp_TB mp_sr (mp_P fx) mp_yy mp_bb 145 := ⟨wd_5_49, by decide +kernel, ⟨by decide +kernel, by decide +kernel⟩, by decide +kernel, mq_all (mo_0 fx "open") rfl gc_145⟩
theorem gc_146 : mc_146.zipIdx.all (fun q => mq_b mt_3 mp_fi mp_aw mp_ra prog_8_method_12_code q.2 q.1) = true := by decide +kernel
theorem gm_146 (fx : List Value → mm_H → Option (List Value × mm_H)) : mm_GM mp_cl mp_TB mp_sr (mp_P fx) mp_yy mp_bb 146 := ⟨wd_5_53, by decide +kernel, ⟨by decide +kernel, by decide +kernel⟩, by decide +kernel, mq_all (mo_3 fx "putUp") rfl gc_146⟩
theorem gc_147 : mc_147.zipIdx.all (fun q => mq_b mt_0 mp_fi mp_aw mp_ra prog_1_method_12_code q.2 q.1) = true := by decide +kernel
theorem gm_147 (fx : List Value → mm_H → Option (List Value × mm_H)) : mm_GM mp_cl mp_TB mp_sr (mp_P fx) mp_yy mp_bb 147 := ⟨wd_5_57, by decide +kernel, ⟨by decide +kernel, by decide +kernel⟩, by decide +kernel, mq_all (mo_0 fx "undo") rfl gc_147⟩
theorem gc_148 : mc_148.zipIdx.all (fun q => mq_b mt_3 mp_fi mp_aw mp_ra prog_8_method_5_code q.2 q.1) = true := by decide +kernel
theorem gm_148 (fx : List Value → mm_H → Option (List Value × mm_H)) : mm_GM mp_cl mp_TB mp_sr (mp_P fx) mp_yy mp_bb 148 := ⟨wd_5_61, by decide +kernel, ⟨by decide +kernel, by decide +kernel⟩, by decide +kernel, mq_all (mo_3 fx "unpack") rfl gc_148⟩
theorem gc_149 : mc_149.zipIdx.all (fun q => mq_b mt_0 mp_fi mp_aw mp_ra prog_1_method_13_code q.2 q.1) = true := by decide +kernel
theorem gm_149 (fx : List Value → mm_H → Option (List Value × mm_H)) : mm_GM mp_cl mp_TB mp_sr (mp_P fx) mp_yy mp_bb 149 := ⟨wd_5_67, by decide +kernel, ⟨by decide +kernel, by decide +kernel⟩, by decide +kernel, mq_all (mo_0 fx "judged") rfl gc_149⟩
theorem gc_150 : mc_150.zipIdx.all (fun q => mq_b mt_3 mp_fi mp_aw mp_ra prog_8_method_13_code q.2 q.1) = true := by decide +kernel
theorem gm_150 (fx : List Value → mm_H → Option (List Value × mm_H)) : mm_GM mp_cl mp_TB mp_sr (mp_P fx) mp_yy mp_bb 150 := ⟨wd_5_71, by decide +kernel, ⟨by decide +kernel, by decide +kernel⟩, by decide +kernel, mq_all (mo_3 fx "obey") rfl gc_150⟩
theorem gc_151 : mc_151.zipIdx.all (fun q => mq_b mt_0 mp_fi mp_aw mp_ra prog_1_method_14_code q.2 q.1) = true := by decide +kernel
theorem gm_151 (fx : List Value → mm_H → Option (List Value × mm_H)) : mm_GM mp_cl mp_TB mp_sr (mp_P fx) mp_yy mp_bb 151 := ⟨wd_5_81, by decide +kernel, ⟨by decide +kernel, by decide +kernel⟩, by decide +kernel, mq_all (mo_0 fx "said") rfl gc_151⟩
theorem gc_152 : mc_152.zipIdx.all (fun q => mq_b mt_0 mp_fi mp_aw mp_ra prog_1_method_15_code q.2 q.1) = true := by decide +kernel
theorem gm_152 (fx : List Value → mm_H → Option (List Value × mm_H)) : mm_GM mp_cl mp_TB mp_sr (mp_P fx) mp_yy mp_bb 152 := ⟨wd_5_85, by decide +kernel, ⟨by decide +kernel, by decide +kernel⟩, by decide +kernel, mq_all (mo_0 fx "ways") rfl gc_152⟩
theorem gc_153 : mc_153.zipIdx.all (fun q => mq_b mt_0 mp_fi mp_aw mp_ra prog_1_method_47_code q.2 q.1) = true := by decide +kernel
theorem gm_153 (fx : List Value → mm_H → Option (List Value × mm_H)) : mm_GM mp_cl mp_TB mp_sr (mp_P fx) mp_yy mp_bb 153 := ⟨wd_5_89, by decide +kernel, ⟨by decide +kernel, by decide +kernel⟩, by decide +kernel, mq_all (mo_0 fx "parseNow") rfl gc_153⟩
theorem gc_154 : mc_154.zipIdx.all (fun q => mq_b mt_0 mp_fi mp_aw mp_ra prog_1_method_16_code q.2 q.1) = true := by decide +kernel
theorem gm_154 (fx : List Value → mm_H → Option (List Value × mm_H)) : mm_GM mp_cl mp_TB mp_sr (mp_P fx) mp_yy mp_bb 154 := ⟨wd_5_93, by decide +kernel, ⟨by decide +kernel, by decide +kernel⟩, by decide +kernel, mq_all (mo_0 fx "sorts") rfl gc_154⟩
theorem gc_155 : mc_155.zipIdx.all (fun q => mq_b mt_6 mp_fi mp_aw mp_ra prog_4_method_6_code q.2 q.1) = true := by decide +kernel
theorem gm_155 (fx : List Value → mm_H → Option (List Value × mm_H)) : mm_GM mp_cl mp_TB mp_sr (mp_P fx) mp_yy mp_bb 155 := ⟨wd_5_97, by decide +kernel, ⟨by decide +kernel, by decide +kernel⟩, by decide +kernel, mq_all (mo_6 fx "sortBits") rfl gc_155⟩
theorem gc_156 : mc_156.zipIdx.all (fun q => mq_b mt_0 mp_fi mp_aw mp_ra prog_1_method_17_code q.2 q.1) = true := by decide +kernel
theorem gm_156 (fx : List Value → mm_H → Option (List Value × mm_H)) : mm_GM mp_cl mp_TB mp_sr (mp_P fx) mp_yy mp_bb 156 := ⟨wd_5_101, by decide +kernel, ⟨by decide +kernel, by decide +kernel⟩, by decide +kernel, mq_all (mo_0 fx "depth") rfl gc_156⟩
theorem gc_157 : mc_157.zipIdx.all (fun q => mq_b mt_6 mp_fi mp_aw mp_ra prog_4_method_7_code q.2 q.1) = true := by decide +kernel
theorem gm_157 (fx : List Value → mm_H → Option (List Value × mm_H)) : mm_GM mp_cl mp_TB mp_sr (mp_P fx) mp_yy mp_bb 157 := ⟨wd_5_105, by decide +kernel, ⟨by decide +kernel, by decide +kernel⟩, by decide +kernel, mq_all (mo_6 fx "leastDepth") rfl gc_157⟩
theorem gc_158 : mc_158.zipIdx.all (fun q => mq_b mt_6 mp_fi mp_aw mp_ra prog_4_method_9_code q.2 q.1) = true := by decide +kernel
theorem gm_158 (fx : List Value → mm_H → Option (List Value × mm_H)) : mm_GM mp_cl mp_TB mp_sr (mp_P fx) mp_yy mp_bb 158 := ⟨wd_5_110, by decide +kernel, ⟨by decide +kernel, by decide +kernel⟩, by decide +kernel, mq_all (mo_6 fx "startRows") rfl gc_158⟩
theorem gc_159 : mc_159.zipIdx.all (fun q => mq_b mt_6 mp_fi mp_aw mp_ra prog_4_method_10_code q.2 q.1) = true := by decide +kernel
theorem gm_159 (fx : List Value → mm_H → Option (List Value × mm_H)) : mm_GM mp_cl mp_TB mp_sr (mp_P fx) mp_yy mp_bb 159 := ⟨wd_5_115, by decide +kernel, ⟨by decide +kernel, by decide +kernel⟩, by decide +kernel, mq_all (mo_6 fx "deepenRows") rfl gc_159⟩
theorem gc_160 : mc_160.zipIdx.all (fun q => mq_b mt_6 mp_fi mp_aw mp_ra prog_4_method_11_code q.2 q.1) = true := by decide +kernel
theorem gm_160 (fx : List Value → mm_H → Option (List Value × mm_H)) : mm_GM mp_cl mp_TB mp_sr (mp_P fx) mp_yy mp_bb 160 := ⟨wd_5_119, by decide +kernel, ⟨by decide +kernel, by decide +kernel⟩, by decide +kernel, mq_all (mo_6 fx "joinRows") rfl gc_160⟩
theorem gc_161 : mc_161.zipIdx.all (fun q => mq_b mt_0 mp_fi mp_aw mp_ra prog_1_method_18_code q.2 q.1) = true := by decide +kernel
theorem gm_161 (fx : List Value → mm_H → Option (List Value × mm_H)) : mm_GM mp_cl mp_TB mp_sr (mp_P fx) mp_yy mp_bb 161 := ⟨wd_5_124, by decide +kernel, ⟨by decide +kernel, by decide +kernel⟩, by decide +kernel, mq_all (mo_0 fx "tree") rfl gc_161⟩
theorem gc_162 : mc_162.zipIdx.all (fun q => mq_b mt_6 mp_fi mp_aw mp_ra prog_4_method_8_code q.2 q.1) = true := by decide +kernel
theorem gm_162 (fx : List Value → mm_H → Option (List Value × mm_H)) : mm_GM mp_cl mp_TB mp_sr (mp_P fx) mp_yy mp_bb 162 := ⟨wd_5_128, by decide +kernel, ⟨by decide +kernel, by decide +kernel⟩, by decide +kernel, mq_all (mo_6 fx "ruleInTree") rfl gc_162⟩
theorem gc_163 : mc_163.zipIdx.all (fun q => mq_b mt_0 mp_fi mp_aw mp_ra prog_1_method_19_code q.2 q.1) = true := by decide +kernel
theorem gm_163 (fx : List Value → mm_H → Option (List Value × mm_H)) : mm_GM mp_cl mp_TB mp_sr (mp_P fx) mp_yy mp_bb 163 := ⟨wd_5_133, by decide +kernel, ⟨by decide +kernel, by decide +kernel⟩, by decide +kernel, mq_all (mo_0 fx "keys") rfl gc_163⟩
theorem gc_164 : mc_164.zipIdx.all (fun q => mq_b mt_0 mp_fi mp_aw mp_ra prog_1_method_20_code q.2 q.1) = true := by decide +kernel
theorem gm_164 (fx : List Value → mm_H → Option (List Value × mm_H)) : mm_GM mp_cl mp_TB mp_sr (mp_P fx) mp_yy mp_bb 164 := ⟨wd_5_137, by decide +kernel, ⟨by decide +kernel, by decide +kernel⟩, by decide +kernel, mq_all (mo_0 fx "least") rfl gc_164⟩
theorem gc_165 : mc_165.zipIdx.all (fun q => mq_b mt_17 mp_fi mp_aw mp_ra prog_20_method_49_code q.2 q.1) = true := by decide +kernel
theorem gm_165 (fx : List Value → mm_H → Option (List Value × mm_H)) : mm_GM mp_cl mp_TB mp_sr (mp_P fx) mp_yy mp_bb 165 := ⟨wd_5_140, by decide +kernel, ⟨by decide +kernel, by decide +kernel⟩, by decide +kernel, mq_all (mo_17 fx "bitCount") rfl gc_165⟩
theorem gc_166 : mc_166.zipIdx.all (fun q => mq_b mt_0 mp_fi mp_aw mp_ra prog_1_method_48_code q.2 q.1) = true := by decide +kernel
theorem gm_166 (fx : List Value → mm_H → Option (List Value × mm_H)) : mm_GM mp_cl mp_TB mp_sr (mp_P fx) mp_yy mp_bb 166 := ⟨wd_5_147, by decide +kernel, ⟨by decide +kernel, by decide +kernel⟩, by decide +kernel, mq_all (mo_0 fx "isSaidInOneWay") rfl gc_166⟩
theorem gc_167 : mc_167.zipIdx.all (fun q => mq_b mt_0 mp_fi mp_aw mp_ra prog_1_method_21_code q.2 q.1) = true := by decide +kernel
theorem gm_167 (fx : List Value → mm_H → Option (List Value × mm_H)) : mm_GM mp_cl mp_TB mp_sr (mp_P fx) mp_yy mp_bb 167 := ⟨wd_5_151, by decide +kernel, ⟨by decide +kernel, by decide +kernel⟩, by decide +kernel, mq_all (mo_0 fx "later") rfl gc_167⟩
theorem gc_168 : mc_168.zipIdx.all (fun q => mq_b mt_0 mp_fi mp_aw mp_ra prog_1_method_49_code q.2 q.1) = true := by decide +kernel
theorem gm_168 (fx : List Value → mm_H → Option (List Value × mm_H)) : mm_GM mp_cl mp_TB mp_sr (mp_P fx) mp_yy mp_bb 168 := ⟨wd_5_155, by decide +kernel, ⟨by decide +kernel, by decide +kernel⟩, by decide +kernel, mq_all (mo_0 fx "placeLater") rfl gc_168⟩
theorem gc_169 : mc_169.zipIdx.all (fun q => mq_b mt_0 mp_fi mp_aw mp_ra prog_1_method_22_code q.2 q.1) = true := by decide +kernel
theorem gm_169 (fx : List Value → mm_H → Option (List Value × mm_H)) : mm_GM mp_cl mp_TB mp_sr (mp_P fx) mp_yy mp_bb 169 := ⟨wd_5_160, by decide +kernel, ⟨by decide +kernel, by decide +kernel⟩, by decide +kernel, mq_all (mo_0 fx "when") rfl gc_169⟩
theorem gc_170 : mc_170.zipIdx.all (fun q => mq_b mt_3 mp_fi mp_aw mp_ra prog_8_method_3_code q.2 q.1) = true := by decide +kernel
theorem gm_170 (fx : List Value → mm_H → Option (List Value × mm_H)) : mm_GM mp_cl mp_TB mp_sr (mp_P fx) mp_yy mp_bb 170 := ⟨wd_5_164, by decide +kernel, ⟨by decide +kernel, by decide +kernel⟩, by decide +kernel, mq_all (mo_3 fx "copy") rfl gc_170⟩
theorem gc_171 : mc_171.zipIdx.all (fun q => mq_b mt_0 mp_fi mp_aw mp_ra prog_1_method_23_code q.2 q.1) = true := by decide +kernel
theorem gm_171 (fx : List Value → mm_H → Option (List Value × mm_H)) : mm_GM mp_cl mp_TB mp_sr (mp_P fx) mp_yy mp_bb 171 := ⟨wd_5_168, by decide +kernel, ⟨by decide +kernel, by decide +kernel⟩, by decide +kernel, mq_all (mo_0 fx "most") rfl gc_171⟩
theorem gc_172 : mc_172.zipIdx.all (fun q => mq_b mt_0 mp_fi mp_aw mp_ra prog_1_method_24_code q.2 q.1) = true := by decide +kernel
theorem gm_172 (fx : List Value → mm_H → Option (List Value × mm_H)) : mm_GM mp_cl mp_TB mp_sr (mp_P fx) mp_yy mp_bb 172 := ⟨wd_5_172, by decide +kernel, ⟨by decide +kernel, by decide +kernel⟩, by decide +kernel, mq_all (mo_0 fx "talk") rfl gc_172⟩
theorem gc_173 : mc_173.zipIdx.all (fun q => mq_b mt_0 mp_fi mp_aw mp_ra prog_1_method_25_code q.2 q.1) = true := by decide +kernel
theorem gm_173 (fx : List Value → mm_H → Option (List Value × mm_H)) : mm_GM mp_cl mp_TB mp_sr (mp_P fx) mp_yy mp_bb 173 := ⟨wd_5_176, by decide +kernel, ⟨by decide +kernel, by decide +kernel⟩, by decide +kernel, mq_all (mo_0 fx "wished") rfl gc_173⟩
theorem gc_174 : mc_174.zipIdx.all (fun q => mq_b mt_0 mp_fi mp_aw mp_ra prog_1_method_26_code q.2 q.1) = true := by decide +kernel
theorem gm_174 (fx : List Value → mm_H → Option (List Value × mm_H)) : mm_GM mp_cl mp_TB mp_sr (mp_P fx) mp_yy mp_bb 174 := ⟨wd_5_180, by decide +kernel, ⟨by decide +kernel, by decide +kernel⟩, by decide +kernel, mq_all (mo_0 fx "steps") rfl gc_174⟩
theorem gc_175 : mc_175.zipIdx.all (fun q => mq_b mt_7 mp_fi mp_aw mp_ra prog_12_method_2_code q.2 q.1) = true := by decide +kernel
theorem gm_175 (fx : List Value → mm_H → Option (List Value × mm_H)) : mm_GM mp_cl mp_TB mp_sr (mp_P fx) mp_yy mp_bb 175 := ⟨wd_5_184, by decide +kernel, ⟨by decide +kernel, by decide +kernel⟩, by decide +kernel, mq_all (mo_7 fx "fewest") rfl gc_175⟩
theorem gc_176 : mc_176.zipIdx.all (fun q => mq_b mt_7 mp_fi mp_aw mp_ra prog_12_method_3_code q.2 q.1) = true := by decide +kernel
theorem gm_176 (fx : List Value → mm_H → Option (List Value × mm_H)) : mm_GM mp_cl mp_TB mp_sr (mp_P fx) mp_yy mp_bb 176 := ⟨wd_5_188, by decide +kernel, ⟨by decide +kernel, by decide +kernel⟩, by decide +kernel, mq_all (mo_7 fx "take") rfl gc_176⟩
theorem gc_177 : mc_177.zipIdx.all (fun q => mq_b mt_7 mp_fi mp_aw mp_ra prog_12_method_4_code q.2 q.1) = true := by decide +kernel
theorem gm_177 (fx : List Value → mm_H → Option (List Value × mm_H)) : mm_GM mp_cl mp_TB mp_sr (mp_P fx) mp_yy mp_bb 177 := ⟨wd_5_194, by decide +kernel, ⟨by decide +kernel, by decide +kernel⟩, by decide +kernel, mq_all (mo_7 fx "fillRest") rfl gc_177⟩
theorem gc_178 : mc_178.zipIdx.all (fun q => mq_b mt_7 mp_fi mp_aw mp_ra prog_12_method_6_code q.2 q.1) = true := by decide +kernel
theorem gm_178 (fx : List Value → mm_H → Option (List Value × mm_H)) : mm_GM mp_cl mp_TB mp_sr (mp_P fx) mp_yy mp_bb 178 := ⟨wd_5_200, by decide +kernel, ⟨by decide +kernel, by decide +kernel⟩, by decide +kernel, mq_all (mo_7 fx "fits") rfl gc_178⟩
theorem gc_179 : mc_179.zipIdx.all (fun q => mq_b mt_7 mp_fi mp_aw mp_ra prog_12_method_5_code q.2 q.1) = true := by decide +kernel
theorem gm_179 (fx : List Value → mm_H → Option (List Value × mm_H)) : mm_GM mp_cl mp_TB mp_sr (mp_P fx) mp_yy mp_bb 179 := ⟨wd_5_204, by decide +kernel, ⟨by decide +kernel, by decide +kernel⟩, by decide +kernel, mq_all (mo_7 fx "addWalks") rfl gc_179⟩
