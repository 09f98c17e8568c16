theorem gc_180 : mc_180.zipIdx.all (fun q => mq_b mt_7 mp_fi mp_aw mp_ra prog_12_method_7_code q.2 q.1) = true := by decide +kernel
theorem gm_180 (fx : List Value → mm_H → Option (List Value × mm_H)) : mm_GM mp_cl mp_TB mp_sr (mp_P fx) mp_yy mp_bb 180 := ⟨wd_5_208, by decide +kernel, ⟨by decide +kernel, by decide +kernel⟩, by decide +kernel, mq_all (mo_7 fx "stepsTo") rfl gc_180⟩
theorem gc_181 : mc_181.zipIdx.all (fun q => mq_b mt_22 mp_fi mp_aw mp_ra prog_21_method_59_code q.2 q.1) = true := by decide +kernel
theorem gm_181 (fx : List Value → mm_H → Option (List Value × mm_H)) : mm_GM mp_cl mp_TB mp_sr (mp_P fx) mp_yy mp_bb 181 := ⟨wd_5_211, by decide +kernel, ⟨by decide +kernel, by decide +kernel⟩, by decide +kernel, mq_all (mo_22 fx "abs") rfl gc_181⟩
theorem gc_182 : mc_182.zipIdx.all (fun q => mq_b mt_7 mp_fi mp_aw mp_ra prog_12_method_8_code q.2 q.1) = true := by decide +kernel
theorem gm_182 (fx : List Value → mm_H → Option (List Value × mm_H)) : mm_GM mp_cl mp_TB mp_sr (mp_P fx) mp_yy mp_bb 182 := ⟨wd_5_216, by decide +kernel, ⟨by decide +kernel, by decide +kernel⟩, by decide +kernel, mq_all (mo_7 fx "findRow") rfl gc_182⟩
theorem gc_183 : mc_183.zipIdx.all (fun q => mq_b mt_7 mp_fi mp_aw mp_ra prog_12_method_9_code q.2 q.1) = true := by decide +kernel
theorem gm_183 (fx : List Value → mm_H → Option (List Value × mm_H)) : mm_GM mp_cl mp_TB mp_sr (mp_P fx) mp_yy mp_bb 183 := ⟨wd_5_221, by decide +kernel, ⟨by decide +kernel, by decide +kernel⟩, by decide +kernel, mq_all (mo_7 fx "firstBy") rfl gc_183⟩
theorem gc_184 : mc_184.zipIdx.all (fun q => mq_b mt_7 mp_fi mp_aw mp_ra prog_12_method_10_code q.2 q.1) = true := by decide +kernel
theorem gm_184 (fx : List Value → mm_H → Option (List Value × mm_H)) : mm_GM mp_cl mp_TB mp_sr (mp_P fx) mp_yy mp_bb 184 := ⟨wd_5_225, by decide +kernel, ⟨by decide +kernel, by decide +kernel⟩, by decide +kernel, mq_all (mo_7 fx "bestWith") rfl gc_184⟩
theorem gc_185 : mc_185.zipIdx.all (fun q => mq_b mt_0 mp_fi mp_aw mp_ra prog_1_method_27_code q.2 q.1) = true := by decide +kernel
theorem gm_185 (fx : List Value → mm_H → Option (List Value × mm_H)) : mm_GM mp_cl mp_TB mp_sr (mp_P fx) mp_yy mp_bb 185 := ⟨wd_5_229, by decide +kernel, ⟨by decide +kernel, by decide +kernel⟩, by decide +kernel, mq_all (mo_0 fx "colours") rfl gc_185⟩
theorem gc_186 : mc_186.zipIdx.all (fun q => mq_b mt_0 mp_fi mp_aw mp_ra prog_1_method_28_code q.2 q.1) = true := by decide +kernel
theorem gm_186 (fx : List Value → mm_H → Option (List Value × mm_H)) : mm_GM mp_cl mp_TB mp_sr (mp_P fx) mp_yy mp_bb 186 := ⟨wd_5_233, by decide +kernel, ⟨by decide +kernel, by decide +kernel⟩, by decide +kernel, mq_all (mo_0 fx "code") rfl gc_186⟩
theorem gc_187 : mc_187.zipIdx.all (fun q => mq_b mt_0 mp_fi mp_aw mp_ra prog_1_method_51_code q.2 q.1) = true := by decide +kernel
theorem gm_187 (fx : List Value → mm_H → Option (List Value × mm_H)) : mm_GM mp_cl mp_TB mp_sr (mp_P fx) mp_yy mp_bb 187 := ⟨wd_5_236, by decide +kernel, ⟨by decide +kernel, by decide +kernel⟩, by decide +kernel, mq_all (mo_0 fx "slatsOf") rfl gc_187⟩
theorem gc_188 : mc_188.zipIdx.all (fun q => mq_b mt_0 mp_fi mp_aw mp_ra prog_1_method_52_code q.2 q.1) = true := by decide +kernel
theorem gm_188 (fx : List Value → mm_H → Option (List Value × mm_H)) : mm_GM mp_cl mp_TB mp_sr (mp_P fx) mp_yy mp_bb 188 := ⟨wd_5_239, by decide +kernel, ⟨by decide +kernel, by decide +kernel⟩, by decide +kernel, mq_all (mo_0 fx "wrongSlat") rfl gc_188⟩
theorem gc_189 : mc_189.zipIdx.all (fun q => mq_b mt_0 mp_fi mp_aw mp_ra prog_1_method_29_code q.2 q.1) = true := by decide +kernel
theorem gm_189 (fx : List Value → mm_H → Option (List Value × mm_H)) : mm_GM mp_cl mp_TB mp_sr (mp_P fx) mp_yy mp_bb 189 := ⟨wd_6_3, by decide +kernel, ⟨by decide +kernel, by decide +kernel⟩, by decide +kernel, mq_all (mo_0 fx "amiss") rfl gc_189⟩
theorem gc_190 : mc_190.zipIdx.all (fun q => mq_b mt_0 mp_fi mp_aw mp_ra prog_1_method_30_code q.2 q.1) = true := by decide +kernel
theorem gm_190 (fx : List Value → mm_H → Option (List Value × mm_H)) : mm_GM mp_cl mp_TB mp_sr (mp_P fx) mp_yy mp_bb 190 := ⟨wd_6_7, by decide +kernel, ⟨by decide +kernel, by decide +kernel⟩, by decide +kernel, mq_all (mo_0 fx "blind") rfl gc_190⟩
theorem gc_191 : mc_191.zipIdx.all (fun q => mq_b mt_0 mp_fi mp_aw mp_ra prog_1_method_31_code q.2 q.1) = true := by decide +kernel
theorem gm_191 (fx : List Value → mm_H → Option (List Value × mm_H)) : mm_GM mp_cl mp_TB mp_sr (mp_P fx) mp_yy mp_bb 191 := ⟨wd_6_11, by decide +kernel, ⟨by decide +kernel, by decide +kernel⟩, by decide +kernel, mq_all (mo_0 fx "answer") rfl gc_191⟩
theorem gc_192 : mc_192.zipIdx.all (fun q => mq_b mt_0 mp_fi mp_aw mp_ra prog_1_method_32_code q.2 q.1) = true := by decide +kernel
theorem gm_192 (fx : List Value → mm_H → Option (List Value × mm_H)) : mm_GM mp_cl mp_TB mp_sr (mp_P fx) mp_yy mp_bb 192 := ⟨wd_6_15, by decide +kernel, ⟨by decide +kernel, by decide +kernel⟩, by decide +kernel, mq_all (mo_0 fx "see") rfl gc_192⟩
theorem gc_193 : mc_193.zipIdx.all (fun q => mq_b mt_4 mp_fi mp_aw mp_ra prog_2_method_7_code q.2 q.1) = true := by decide +kernel
theorem gm_193 (fx : List Value → mm_H → Option (List Value × mm_H)) : mm_GM mp_cl mp_TB mp_sr (mp_P fx) mp_yy mp_bb 193 := ⟨wd_6_19, by decide +kernel, ⟨by decide +kernel, by decide +kernel⟩, by decide +kernel, mq_all (mo_4 fx "addSight") rfl gc_193⟩
theorem gc_194 : mc_194.zipIdx.all (fun q => mq_b mt_0 mp_fi mp_aw mp_ra prog_1_method_33_code q.2 q.1) = true := by decide +kernel
theorem gm_194 (fx : List Value → mm_H → Option (List Value × mm_H)) : mm_GM mp_cl mp_TB mp_sr (mp_P fx) mp_yy mp_bb 194 := ⟨wd_6_23, by decide +kernel, ⟨by decide +kernel, by decide +kernel⟩, by decide +kernel, mq_all (mo_0 fx "who") rfl gc_194⟩
theorem gc_195 : mc_195.zipIdx.all (fun q => mq_b mt_0 mp_fi mp_aw mp_ra prog_1_method_50_code q.2 q.1) = true := by decide +kernel
theorem gm_195 (fx : List Value → mm_H → Option (List Value × mm_H)) : mm_GM mp_cl mp_TB mp_sr (mp_P fx) mp_yy mp_bb 195 := ⟨wd_6_27, by decide +kernel, ⟨by decide +kernel, by decide +kernel⟩, by decide +kernel, mq_all (mo_0 fx "fitsAllSeen") rfl gc_195⟩
theorem gc_196 : mc_196.zipIdx.all (fun q => mq_b mt_4 mp_fi mp_aw mp_ra prog_2_method_9_code q.2 q.1) = true := by decide +kernel
theorem gm_196 (fx : List Value → mm_H → Option (List Value × mm_H)) : mm_GM mp_cl mp_TB mp_sr (mp_P fx) mp_yy mp_bb 196 := ⟨wd_6_31, by decide +kernel, ⟨by decide +kernel, by decide +kernel⟩, by decide +kernel, mq_all (mo_4 fx "sightTicks") rfl gc_196⟩
theorem gc_197 : mc_197.zipIdx.all (fun q => mq_b mt_4 mp_fi mp_aw mp_ra prog_2_method_8_code q.2 q.1) = true := by decide +kernel
theorem gm_197 (fx : List Value → mm_H → Option (List Value × mm_H)) : mm_GM mp_cl mp_TB mp_sr (mp_P fx) mp_yy mp_bb 197 := ⟨wd_6_35, by decide +kernel, ⟨by decide +kernel, by decide +kernel⟩, by decide +kernel, mq_all (mo_4 fx "sightPlace") rfl gc_197⟩
theorem gc_198 : mc_198.zipIdx.all (fun q => mq_b mt_4 mp_fi mp_aw mp_ra prog_2_method_10_code q.2 q.1) = true := by decide +kernel
theorem gm_198 (fx : List Value → mm_H → Option (List Value × mm_H)) : mm_GM mp_cl mp_TB mp_sr (mp_P fx) mp_yy mp_bb 198 := ⟨wd_6_39, by decide +kernel, ⟨by decide +kernel, by decide +kernel⟩, by decide +kernel, mq_all (mo_4 fx "sightThere") rfl gc_198⟩
theorem gc_199 : mc_199.zipIdx.all (fun q => mq_b mt_0 mp_fi mp_aw mp_ra prog_1_method_34_code q.2 q.1) = true := by decide +kernel
theorem gm_199 (fx : List Value → mm_H → Option (List Value × mm_H)) : mm_GM mp_cl mp_TB mp_sr (mp_P fx) mp_yy mp_bb 199 := ⟨wd_6_43, by decide +kernel, ⟨by decide +kernel, by decide +kernel⟩, by decide +kernel, mq_all (mo_0 fx "ask") rfl gc_199⟩
theorem gc_200 : mc_200.zipIdx.all (fun q => mq_b mt_3 mp_fi mp_aw mp_ra prog_8_method_14_code q.2 q.1) = true := by decide +kernel
theorem gm_200 (fx : List Value → mm_H → Option (List Value × mm_H)) : mm_GM mp_cl mp_TB mp_sr (mp_P fx) mp_yy mp_bb 200 := ⟨wd_6_48, by decide +kernel, ⟨by decide +kernel, by decide +kernel⟩, by decide +kernel, mq_all (mo_3 fx "whoStandAt") rfl gc_200⟩
theorem gc_201 : mc_201.zipIdx.all (fun q => mq_b mt_0 mp_fi mp_aw mp_ra prog_1_method_35_code q.2 q.1) = true := by decide +kernel
theorem gm_201 (fx : List Value → mm_H → Option (List Value × mm_H)) : mm_GM mp_cl mp_TB mp_sr (mp_P fx) mp_yy mp_bb 201 := ⟨wd_6_53, by decide +kernel, ⟨by decide +kernel, by decide +kernel⟩, by decide +kernel, mq_all (mo_0 fx "chance") rfl gc_201⟩
theorem gc_202 : mc_202.zipIdx.all (fun q => mq_b mt_0 mp_fi mp_aw mp_ra prog_1_method_37_code q.2 q.1) = true := by decide +kernel
theorem gm_202 (fx : List Value → mm_H → Option (List Value × mm_H)) : mm_GM mp_cl mp_TB mp_sr (mp_P fx) mp_yy mp_bb 202 := ⟨wd_6_58, by decide +kernel, ⟨by decide +kernel, by decide +kernel⟩, by decide +kernel, mq_all (mo_0 fx "days") rfl gc_202⟩
theorem gc_203 : mc_203.zipIdx.all (fun q => mq_b mt_0 mp_fi mp_aw mp_ra prog_1_method_56_code q.2 q.1) = true := by decide +kernel
theorem gm_203 (fx : List Value → mm_H → Option (List Value × mm_H)) : mm_GM mp_cl mp_TB mp_sr (mp_P fx) mp_yy mp_bb 203 := ⟨wd_6_62, by decide +kernel, ⟨by decide +kernel, by decide +kernel⟩, by decide +kernel, mq_all (mo_0 fx "stirTrial") rfl gc_203⟩
theorem gc_204 : mc_204.zipIdx.all (fun q => mq_b mt_0 mp_fi mp_aw mp_ra prog_1_method_57_code q.2 q.1) = true := by decide +kernel
theorem gm_204 (fx : List Value → mm_H → Option (List Value × mm_H)) : mm_GM mp_cl mp_TB mp_sr (mp_P fx) mp_yy mp_bb 204 := ⟨wd_6_65, by decide +kernel, ⟨by decide +kernel, by decide +kernel⟩, by decide +kernel, mq_all (mo_0 fx "drawn") rfl gc_204⟩
theorem gc_205 : mc_205.zipIdx.all (fun q => mq_b mt_3 mp_fi mp_aw mp_ra prog_8_method_15_code q.2 q.1) = true := by decide +kernel
theorem gm_205 (fx : List Value → mm_H → Option (List Value × mm_H)) : mm_GM mp_cl mp_TB mp_sr (mp_P fx) mp_yy mp_bb 205 := ⟨wd_6_75, by decide +kernel, ⟨by decide +kernel, by decide +kernel⟩, by decide +kernel, mq_all (mo_3 fx "sumOfPlaces") rfl gc_205⟩
theorem gc_206 : mc_206.zipIdx.all (fun q => mq_b mt_0 mp_fi mp_aw mp_ra prog_1_method_38_code q.2 q.1) = true := by decide +kernel
theorem gm_206 (fx : List Value → mm_H → Option (List Value × mm_H)) : mm_GM mp_cl mp_TB mp_sr (mp_P fx) mp_yy mp_bb 206 := ⟨wd_6_79, by decide +kernel, ⟨by decide +kernel, by decide +kernel⟩, by decide +kernel, mq_all (mo_0 fx "mark") rfl gc_206⟩
theorem gc_207 : mc_207.zipIdx.all (fun q => mq_b mt_4 mp_fi mp_aw mp_ra prog_2_method_4_code q.2 q.1) = true := by decide +kernel
theorem gm_207 (fx : List Value → mm_H → Option (List Value × mm_H)) : mm_GM mp_cl mp_TB mp_sr (mp_P fx) mp_yy mp_bb 207 := ⟨wd_6_83, by decide +kernel, ⟨by decide +kernel, by decide +kernel⟩, by decide +kernel, mq_all (mo_4 fx "copy") rfl gc_207⟩
theorem gc_208 : mc_208.zipIdx.all (fun q => mq_b mt_0 mp_fi mp_aw mp_ra prog_1_method_39_code q.2 q.1) = true := by decide +kernel
theorem gm_208 (fx : List Value → mm_H → Option (List Value × mm_H)) : mm_GM mp_cl mp_TB mp_sr (mp_P fx) mp_yy mp_bb 208 := ⟨wd_6_89, by decide +kernel, ⟨by decide +kernel, by decide +kernel⟩, by decide +kernel, mq_all (mo_0 fx "count") rfl gc_208⟩
theorem gc_209 : mc_209.zipIdx.all (fun q => mq_b mt_0 mp_fi mp_aw mp_ra prog_1_method_36_code q.2 q.1) = true := by decide +kernel
theorem gm_209 (fx : List Value → mm_H → Option (List Value × mm_H)) : mm_GM mp_cl mp_TB mp_sr (mp_P fx) mp_yy mp_bb 209 := ⟨wd_6_97, by decide +kernel, ⟨by decide +kernel, by decide +kernel⟩, by decide +kernel, mq_all (mo_0 fx "rests") rfl gc_209⟩
theorem gc_210 : mc_210.zipIdx.all (fun q => mq_b mt_0 mp_fi mp_aw mp_ra prog_1_method_53_code q.2 q.1) = true := by decide +kernel
theorem gm_210 (fx : List Value → mm_H → Option (List Value × mm_H)) : mm_GM mp_cl mp_TB mp_sr (mp_P fx) mp_yy mp_bb 210 := ⟨wd_6_100, by decide +kernel, ⟨by decide +kernel, by decide +kernel⟩, by decide +kernel, mq_all (mo_0 fx "isDigit") rfl gc_210⟩
theorem gc_211 : mc_211.zipIdx.all (fun q => mq_b mt_18 mp_fi mp_aw mp_ra prog_27_method_1_code q.2 q.1) = true := by decide +kernel
theorem gm_211 (fx : List Value → mm_H → Option (List Value × mm_H)) : mm_GM mp_cl mp_TB mp_sr (mp_P fx) mp_yy mp_bb 211 := ⟨wd_6_125, by decide +kernel, ⟨by decide +kernel, by decide +kernel⟩, by decide +kernel, mq_all (mo_18 fx "<init>") rfl gc_211⟩
theorem gc_212 : mc_212.zipIdx.all (fun q => mq_b mt_23 mp_fi mp_aw mp_ra prog_31_method_4_code q.2 q.1) = true := by decide +kernel
theorem gm_212 (fx : List Value → mm_H → Option (List Value × mm_H)) : mm_GM mp_cl mp_TB mp_sr (mp_P fx) mp_yy mp_bb 212 := ⟨wd_6_143, by decide +kernel, ⟨by decide +kernel, by decide +kernel⟩, by decide +kernel, mq_all (mo_23 fx "<init>") rfl gc_212⟩
theorem gc_213 : mc_213.zipIdx.all (fun q => mq_b mt_24 mp_fi mp_aw mp_ra prog_22_method_2_code q.2 q.1) = true := by decide +kernel
theorem gm_213 (fx : List Value → mm_H → Option (List Value × mm_H)) : mm_GM mp_cl mp_TB mp_sr (mp_P fx) mp_yy mp_bb 213 := ⟨wd_6_146, by decide +kernel, ⟨by decide +kernel, by decide +kernel⟩, by decide +kernel, mq_all (mo_24 fx "<init>") rfl gc_213⟩
theorem gc_214 : mc_214.zipIdx.all (fun q => mq_b mt_25 mp_fi mp_aw mp_ra prog_19_method_2_code q.2 q.1) = true := by decide +kernel
theorem gm_214 (fx : List Value → mm_H → Option (List Value × mm_H)) : mm_GM mp_cl mp_TB mp_sr (mp_P fx) mp_yy mp_bb 214 := ⟨wd_6_149, by decide +kernel, ⟨by decide +kernel, by decide +kernel⟩, by decide +kernel, mq_all (mo_25 fx "<init>") rfl gc_214⟩
theorem gc_215 : mc_215.zipIdx.all (fun q => mq_b mt_18 mp_fi mp_aw mp_ra prog_27_method_2_code q.2 q.1) = true := by decide +kernel
theorem gm_215 (fx : List Value → mm_H → Option (List Value × mm_H)) : mm_GM mp_cl mp_TB mp_sr (mp_P fx) mp_yy mp_bb 215 := ⟨wd_6_152, by decide +kernel, ⟨by decide +kernel, by decide +kernel⟩, by decide +kernel, mq_all (mo_18 fx "<init>") rfl gc_215⟩
theorem gc_216 : mc_216.zipIdx.all (fun q => mq_b mt_0 mp_fi mp_aw mp_ra prog_1_method_54_code q.2 q.1) = true := by decide +kernel
theorem gm_216 (fx : List Value → mm_H → Option (List Value × mm_H)) : mm_GM mp_cl mp_TB mp_sr (mp_P fx) mp_yy mp_bb 216 := ⟨wd_6_168, by decide +kernel, ⟨by decide +kernel, by decide +kernel⟩, by decide +kernel, mq_all (mo_0 fx "holdsStill") rfl gc_216⟩
theorem gc_217 : mc_217.zipIdx.all (fun q => mq_b mt_0 mp_fi mp_aw mp_ra prog_1_method_55_code q.2 q.1) = true := by decide +kernel
theorem gm_217 (fx : List Value → mm_H → Option (List Value × mm_H)) : mm_GM mp_cl mp_TB mp_sr (mp_P fx) mp_yy mp_bb 217 := ⟨wd_6_171, by decide +kernel, ⟨by decide +kernel, by decide +kernel⟩, by decide +kernel, mq_all (mo_0 fx "gain") rfl gc_217⟩
theorem gc_218 : mc_218.zipIdx.all (fun q => mq_b mt_19 (mp_fi1 "RainGrammarModel") mp_aw mp_ra prog_14_method_1_code q.2 q.1) = true := by decide +kernel
theorem gm_218 (fx : List Value → mm_H → Option (List Value × mm_H)) : mm_GM mp_cl mp_TB mp_sr (mp_P fx) mp_yy mp_bb 218 := ⟨wd_6_177, by decide +kernel, ⟨by decide +kernel, by decide +kernel⟩, by decide +kernel, mq_all (mo1_19 fx) rfl gc_218⟩
theorem gc_219 : mc_219.zipIdx.all (fun q => mq_b mt_19 mp_fi mp_aw mp_ra prog_14_method_11_code q.2 q.1) = true := by decide +kernel
theorem gm_219 (fx : List Value → mm_H → Option (List Value × mm_H)) : mm_GM mp_cl mp_TB mp_sr (mp_P fx) mp_yy mp_bb 219 := ⟨wd_6_182, by decide +kernel, ⟨by decide +kernel, by decide +kernel⟩, by decide +kernel, mq_all (mo_19 fx "usual") rfl gc_219⟩
theorem gc_220 : mc_220.zipIdx.all (fun q => mq_b mt_19 mp_fi mp_aw mp_ra prog_14_method_47_code q.2 q.1) = true := by decide +kernel
theorem gm_220 (fx : List Value → mm_H → Option (List Value × mm_H)) : mm_GM mp_cl mp_TB mp_sr (mp_P fx) mp_yy mp_bb 220 := ⟨wd_6_186, by decide +kernel, ⟨by decide +kernel, by decide +kernel⟩, by decide +kernel, mq_all (mo_19 fx "fresh0") rfl gc_220⟩
theorem gc_221 : mc_221.zipIdx.all (fun q => mq_b mt_19 mp_fi mp_aw mp_ra prog_14_method_2_code q.2 q.1) = true := by decide +kernel
theorem gm_221 (fx : List Value → mm_H → Option (List Value × mm_H)) : mm_GM mp_cl mp_TB mp_sr (mp_P fx) mp_yy mp_bb 221 := ⟨wd_7_170, by decide +kernel, ⟨by decide +kernel, by decide +kernel⟩, by decide +kernel, mq_all (mo_19 fx "thrown") rfl gc_221⟩
theorem gc_222 : mc_222.zipIdx.all (fun q => mq_b mt_19 mp_fi mp_aw mp_ra prog_14_method_5_code q.2 q.1) = true := by decide +kernel
theorem gm_222 (fx : List Value → mm_H → Option (List Value × mm_H)) : mm_GM mp_cl mp_TB mp_sr (mp_P fx) mp_yy mp_bb 222 := ⟨wd_7_174, by decide +kernel, ⟨by decide +kernel, by decide +kernel⟩, by decide +kernel, mq_all (mo_19 fx "feed") rfl gc_222⟩
theorem gc_223 : mc_223.zipIdx.all (fun q => mq_b mt_19 mp_fi mp_aw mp_ra prog_14_method_48_code q.2 q.1) = true := by decide +kernel
theorem gm_223 (fx : List Value → mm_H → Option (List Value × mm_H)) : mm_GM mp_cl mp_TB mp_sr (mp_P fx) mp_yy mp_bb 223 := ⟨wd_7_179, by decide +kernel, ⟨by decide +kernel, by decide +kernel⟩, by decide +kernel, mq_all (mo_19 fx "square") rfl gc_223⟩
theorem gc_224 : mc_224.zipIdx.all (fun q => mq_b mt_19 mp_fi mp_aw mp_ra prog_14_method_38_code q.2 q.1) = true := by decide +kernel
theorem gm_224 (fx : List Value → mm_H → Option (List Value × mm_H)) : mm_GM mp_cl mp_TB mp_sr (mp_P fx) mp_yy mp_bb 224 := ⟨wd_7_183, by decide +kernel, ⟨by decide +kernel, by decide +kernel⟩, by decide +kernel, mq_all (mo_19 fx "readsAll") rfl gc_224⟩
theorem gc_225 : mc_225.zipIdx.all (fun q => mq_b mt_19 mp_fi mp_aw mp_ra prog_14_method_37_code q.2 q.1) = true := by decide +kernel
theorem gm_225 (fx : List Value → mm_H → Option (List Value × mm_H)) : mm_GM mp_cl mp_TB mp_sr (mp_P fx) mp_yy mp_bb 225 := ⟨wd_7_187, by decide +kernel, ⟨by decide +kernel, by decide +kernel⟩, by decide +kernel, mq_all (mo_19 fx "begins") rfl gc_225⟩
theorem gc_226 : mc_226.zipIdx.all (fun q => mq_b mt_19 mp_fi mp_aw mp_ra prog_14_method_7_code q.2 q.1) = true := by decide +kernel
theorem gm_226 (fx : List Value → mm_H → Option (List Value × mm_H)) : mm_GM mp_cl mp_TB mp_sr (mp_P fx) mp_yy mp_bb 226 := ⟨wd_7_191, by decide +kernel, ⟨by decide +kernel, by decide +kernel⟩, by decide +kernel, mq_all (mo_19 fx "nextToken") rfl gc_226⟩
theorem gc_227 : mc_227.zipIdx.all (fun q => mq_b mt_19 mp_fi mp_aw mp_ra prog_14_method_6_code q.2 q.1) = true := by decide +kernel
theorem gm_227 (fx : List Value → mm_H → Option (List Value × mm_H)) : mm_GM mp_cl mp_TB mp_sr (mp_P fx) mp_yy mp_bb 227 := ⟨wd_7_195, by decide +kernel, ⟨by decide +kernel, by decide +kernel⟩, by decide +kernel, mq_all (mo_19 fx "signAt") rfl gc_227⟩
theorem gc_228 : mc_228.zipIdx.all (fun q => mq_b mt_19 mp_fi mp_aw mp_ra prog_14_method_8_code q.2 q.1) = true := by decide +kernel
theorem gm_228 (fx : List Value → mm_H → Option (List Value × mm_H)) : mm_GM mp_cl mp_TB mp_sr (mp_P fx) mp_yy mp_bb 228 := ⟨wd_7_202, by decide +kernel, ⟨by decide +kernel, by decide +kernel⟩, by decide +kernel, mq_all (mo_19 fx "isWord") rfl gc_228⟩
theorem gc_229 : mc_229.zipIdx.all (fun q => mq_b mt_19 mp_fi mp_aw mp_ra prog_14_method_29_code q.2 q.1) = true := by decide +kernel
theorem gm_229 (fx : List Value → mm_H → Option (List Value × mm_H)) : mm_GM mp_cl mp_TB mp_sr (mp_P fx) mp_yy mp_bb 229 := ⟨wd_7_206, by decide +kernel, ⟨by decide +kernel, by decide +kernel⟩, by decide +kernel, mq_all (mo_19 fx "readsSort") rfl gc_229⟩
theorem gc_230 : mc_230.zipIdx.all (fun q => mq_b mt_19 mp_fi mp_aw mp_ra prog_14_method_10_code q.2 q.1) = true := by decide +kernel
theorem gm_230 (fx : List Value → mm_H → Option (List Value × mm_H)) : mm_GM mp_cl mp_TB mp_sr (mp_P fx) mp_yy mp_bb 230 := ⟨wd_7_210, by decide +kernel, ⟨by decide +kernel, by decide +kernel⟩, by decide +kernel, mq_all (mo_19 fx "fails") rfl gc_230⟩
theorem gc_231 : mc_231.zipIdx.all (fun q => mq_b mt_19 mp_fi mp_aw mp_ra prog_14_method_26_code q.2 q.1) = true := by decide +kernel
theorem gm_231 (fx : List Value → mm_H → Option (List Value × mm_H)) : mm_GM mp_cl mp_TB mp_sr (mp_P fx) mp_yy mp_bb 231 := ⟨wd_7_214, by decide +kernel, ⟨by decide +kernel, by decide +kernel⟩, by decide +kernel, mq_all (mo_19 fx "needsNew") rfl gc_231⟩
theorem gc_232 : mc_232.zipIdx.all (fun q => mq_b mt_19 mp_fi mp_aw mp_ra prog_14_method_19_code q.2 q.1) = true := by decide +kernel
theorem gm_232 (fx : List Value → mm_H → Option (List Value × mm_H)) : mm_GM mp_cl mp_TB mp_sr (mp_P fx) mp_yy mp_bb 232 := ⟨wd_7_218, by decide +kernel, ⟨by decide +kernel, by decide +kernel⟩, by decide +kernel, mq_all (mo_19 fx "isKept") rfl gc_232⟩
theorem gc_233 : mc_233.zipIdx.all (fun q => mq_b mt_19 mp_fi mp_aw mp_ra prog_14_method_20_code q.2 q.1) = true := by decide +kernel
theorem gm_233 (fx : List Value → mm_H → Option (List Value × mm_H)) : mm_GM mp_cl mp_TB mp_sr (mp_P fx) mp_yy mp_bb 233 := ⟨wd_8_3, by decide +kernel, ⟨by decide +kernel, by decide +kernel⟩, by decide +kernel, mq_all (mo_19 fx "sortNamed") rfl gc_233⟩
theorem gc_234 : mc_234.zipIdx.all (fun q => mq_b mt_19 mp_fi mp_aw mp_ra prog_14_method_21_code q.2 q.1) = true := by decide +kernel
theorem gm_234 (fx : List Value → mm_H → Option (List Value × mm_H)) : mm_GM mp_cl mp_TB mp_sr (mp_P fx) mp_yy mp_bb 234 := ⟨wd_8_7, by decide +kernel, ⟨by decide +kernel, by decide +kernel⟩, by decide +kernel, mq_all (mo_19 fx "colourNamed") rfl gc_234⟩
theorem gc_235 : mc_235.zipIdx.all (fun q => mq_b mt_19 mp_fi mp_aw mp_ra prog_14_method_22_code q.2 q.1) = true := by decide +kernel
theorem gm_235 (fx : List Value → mm_H → Option (List Value × mm_H)) : mm_GM mp_cl mp_TB mp_sr (mp_P fx) mp_yy mp_bb 235 := ⟨wd_8_11, by decide +kernel, ⟨by decide +kernel, by decide +kernel⟩, by decide +kernel, mq_all (mo_19 fx "walkerNamed") rfl gc_235⟩
theorem gc_236 : mc_236.zipIdx.all (fun q => mq_b mt_19 mp_fi mp_aw mp_ra prog_14_method_25_code q.2 q.1) = true := by decide +kernel
theorem gm_236 (fx : List Value → mm_H → Option (List Value × mm_H)) : mm_GM mp_cl mp_TB mp_sr (mp_P fx) mp_yy mp_bb 236 := ⟨wd_8_15, by decide +kernel, ⟨by decide +kernel, by decide +kernel⟩, by decide +kernel, mq_all (mo_19 fx "closes") rfl gc_236⟩
theorem gc_237 : mc_237.zipIdx.all (fun q => mq_b mt_19 mp_fi mp_aw mp_ra prog_14_method_9_code q.2 q.1) = true := by decide +kernel
theorem gm_237 (fx : List Value → mm_H → Option (List Value × mm_H)) : mm_GM mp_cl mp_TB mp_sr (mp_P fx) mp_yy mp_bb 237 := ⟨wd_8_19, by decide +kernel, ⟨by decide +kernel, by decide +kernel⟩, by decide +kernel, mq_all (mo_19 fx "isSign") rfl gc_237⟩
theorem gc_238 : mc_238.zipIdx.all (fun q => mq_b mt_19 mp_fi mp_aw mp_ra prog_14_method_30_code q.2 q.1) = true := by decide +kernel
theorem gm_238 (fx : List Value → mm_H → Option (List Value × mm_H)) : mm_GM mp_cl mp_TB mp_sr (mp_P fx) mp_yy mp_bb 238 := ⟨wd_8_23, by decide +kernel, ⟨by decide +kernel, by decide +kernel⟩, by decide +kernel, mq_all (mo_19 fx "readsColour") rfl gc_238⟩
theorem gc_239 : mc_239.zipIdx.all (fun q => mq_b mt_19 mp_fi mp_aw mp_ra prog_14_method_24_code q.2 q.1) = true := by decide +kernel
theorem gm_239 (fx : List Value → mm_H → Option (List Value × mm_H)) : mm_GM mp_cl mp_TB mp_sr (mp_P fx) mp_yy mp_bb 239 := ⟨wd_8_27, by decide +kernel, ⟨by decide +kernel, by decide +kernel⟩, by decide +kernel, mq_all (mo_19 fx "needsWord") rfl gc_239⟩
theorem gc_240 : mc_240.zipIdx.all (fun q => mq_b mt_19 mp_fi mp_aw mp_ra prog_14_method_28_code q.2 q.1) = true := by decide +kernel
theorem gm_240 (fx : List Value → mm_H → Option (List Value × mm_H)) : mm_GM mp_cl mp_TB mp_sr (mp_P fx) mp_yy mp_bb 240 := ⟨wd_8_31, by decide +kernel, ⟨by decide +kernel, by decide +kernel⟩, by decide +kernel, mq_all (mo_19 fx "passesSort") rfl gc_240⟩
theorem gc_241 : mc_241.zipIdx.all (fun q => mq_b mt_19 mp_fi mp_aw mp_ra prog_14_method_27_code q.2 q.1) = true := by decide +kernel
theorem gm_241 (fx : List Value → mm_H → Option (List Value × mm_H)) : mm_GM mp_cl mp_TB mp_sr (mp_P fx) mp_yy mp_bb 241 := ⟨wd_8_35, by decide +kernel, ⟨by decide +kernel, by decide +kernel⟩, by decide +kernel, mq_all (mo_19 fx "needsSort") rfl gc_241⟩
theorem gc_242 : mc_242.zipIdx.all (fun q => mq_b mt_19 mp_fi mp_aw mp_ra prog_14_method_31_code q.2 q.1) = true := by decide +kernel
theorem gm_242 (fx : List Value → mm_H → Option (List Value × mm_H)) : mm_GM mp_cl mp_TB mp_sr (mp_P fx) mp_yy mp_bb 242 := ⟨wd_8_39, by decide +kernel, ⟨by decide +kernel, by decide +kernel⟩, by decide +kernel, mq_all (mo_19 fx "readsRule") rfl gc_242⟩
theorem gc_243 : mc_243.zipIdx.all (fun q => mq_b mt_19 mp_fi mp_aw mp_ra prog_14_method_32_code q.2 q.1) = true := by decide +kernel
theorem gm_243 (fx : List Value → mm_H → Option (List Value × mm_H)) : mm_GM mp_cl mp_TB mp_sr (mp_P fx) mp_yy mp_bb 243 := ⟨wd_8_43, by decide +kernel, ⟨by decide +kernel, by decide +kernel⟩, by decide +kernel, mq_all (mo_19 fx "readsSays") rfl gc_243⟩
theorem gc_244 : mc_244.zipIdx.all (fun q => mq_b mt_19 mp_fi mp_aw mp_ra prog_14_method_34_code q.2 q.1) = true := by decide +kernel
theorem gm_244 (fx : List Value → mm_H → Option (List Value × mm_H)) : mm_GM mp_cl mp_TB mp_sr (mp_P fx) mp_yy mp_bb 244 := ⟨wd_8_47, by decide +kernel, ⟨by decide +kernel, by decide +kernel⟩, by decide +kernel, mq_all (mo_19 fx "readsWalker") rfl gc_244⟩
theorem gc_245 : mc_245.zipIdx.all (fun q => mq_b mt_19 mp_fi mp_aw mp_ra prog_14_method_23_code q.2 q.1) = true := by decide +kernel
theorem gm_245 (fx : List Value → mm_H → Option (List Value × mm_H)) : mm_GM mp_cl mp_TB mp_sr (mp_P fx) mp_yy mp_bb 245 := ⟨wd_8_51, by decide +kernel, ⟨by decide +kernel, by decide +kernel⟩, by decide +kernel, mq_all (mo_19 fx "needsNumber") rfl gc_245⟩
theorem gc_246 : mc_246.zipIdx.all (fun q => mq_b mt_19 mp_fi mp_aw mp_ra prog_14_method_3_code q.2 q.1) = true := by decide +kernel
theorem gm_246 (fx : List Value → mm_H → Option (List Value × mm_H)) : mm_GM mp_cl mp_TB mp_sr (mp_P fx) mp_yy mp_bb 246 := ⟨wd_8_54, by decide +kernel, ⟨by decide +kernel, by decide +kernel⟩, by decide +kernel, mq_all (mo_19 fx "within") rfl gc_246⟩
theorem gc_247 : mc_247.zipIdx.all (fun q => mq_b mt_19 mp_fi mp_aw mp_ra prog_14_method_33_code q.2 q.1) = true := by decide +kernel
theorem gm_247 (fx : List Value → mm_H → Option (List Value × mm_H)) : mm_GM mp_cl mp_TB mp_sr (mp_P fx) mp_yy mp_bb 247 := ⟨wd_8_58, by decide +kernel, ⟨by decide +kernel, by decide +kernel⟩, by decide +kernel, mq_all (mo_19 fx "numbersInto") rfl gc_247⟩
theorem gc_248 : mc_248.zipIdx.all (fun q => mq_b mt_19 mp_fi mp_aw mp_ra prog_14_method_35_code q.2 q.1) = true := by decide +kernel
theorem gm_248 (fx : List Value → mm_H → Option (List Value × mm_H)) : mm_GM mp_cl mp_TB mp_sr (mp_P fx) mp_yy mp_bb 248 := ⟨wd_8_62, by decide +kernel, ⟨by decide +kernel, by decide +kernel⟩, by decide +kernel, mq_all (mo_19 fx "readsGusts") rfl gc_248⟩
theorem gc_249 : mc_249.zipIdx.all (fun q => mq_b mt_19 mp_fi mp_aw mp_ra prog_14_method_36_code q.2 q.1) = true := by decide +kernel
theorem gm_249 (fx : List Value → mm_H → Option (List Value × mm_H)) : mm_GM mp_cl mp_TB mp_sr (mp_P fx) mp_yy mp_bb 249 := ⟨wd_8_66, by decide +kernel, ⟨by decide +kernel, by decide +kernel⟩, by decide +kernel, mq_all (mo_19 fx "readsReads") rfl gc_249⟩
theorem gc_250 : mc_250.zipIdx.all (fun q => mq_b mt_19 mp_fi mp_aw mp_ra prog_14_method_14_code q.2 q.1) = true := by decide +kernel
theorem gm_250 (fx : List Value → mm_H → Option (List Value × mm_H)) : mm_GM mp_cl mp_TB mp_sr (mp_P fx) mp_yy mp_bb 250 := ⟨wd_8_70, by decide +kernel, ⟨by decide +kernel, by decide +kernel⟩, by decide +kernel, mq_all (mo_19 fx "reads") rfl gc_250⟩
theorem gc_251 : mc_251.zipIdx.all (fun q => mq_b mt_19 mp_fi mp_aw mp_ra prog_14_method_13_code q.2 q.1) = true := by decide +kernel
theorem gm_251 (fx : List Value → mm_H → Option (List Value × mm_H)) : mm_GM mp_cl mp_TB mp_sr (mp_P fx) mp_yy mp_bb 251 := ⟨wd_8_74, by decide +kernel, ⟨by decide +kernel, by decide +kernel⟩, by decide +kernel, mq_all (mo_19 fx "fact") rfl gc_251⟩
theorem gc_252 : mc_252.zipIdx.all (fun q => mq_b mt_19 mp_fi mp_aw mp_ra prog_14_method_12_code q.2 q.1) = true := by decide +kernel
theorem gm_252 (fx : List Value → mm_H → Option (List Value × mm_H)) : mm_GM mp_cl mp_TB mp_sr (mp_P fx) mp_yy mp_bb 252 := ⟨wd_8_82, by decide +kernel, ⟨by decide +kernel, by decide +kernel⟩, by decide +kernel, mq_all (mo_19 fx "puts") rfl gc_252⟩
theorem gc_253 : mc_253.zipIdx.all (fun q => mq_b mt_19 mp_fi mp_aw mp_ra prog_14_method_41_code q.2 q.1) = true := by decide +kernel
theorem gm_253 (fx : List Value → mm_H → Option (List Value × mm_H)) : mm_GM mp_cl mp_TB mp_sr (mp_P fx) mp_yy mp_bb 253 := ⟨wd_8_86, by decide +kernel, ⟨by decide +kernel, by decide +kernel⟩, by decide +kernel, mq_all (mo_19 fx "lays") rfl gc_253⟩
theorem gc_254 : mc_254.zipIdx.all (fun q => mq_b mt_19 mp_fi mp_aw mp_ra prog_14_method_39_code q.2 q.1) = true := by decide +kernel
theorem gm_254 (fx : List Value → mm_H → Option (List Value × mm_H)) : mm_GM mp_cl mp_TB mp_sr (mp_P fx) mp_yy mp_bb 254 := ⟨wd_8_89, by decide +kernel, ⟨by decide +kernel, by decide +kernel⟩, by decide +kernel, mq_all (mo_19 fx "shifts") rfl gc_254⟩
theorem gc_255 : mc_255.zipIdx.all (fun q => mq_b mt_19 mp_fi mp_aw mp_ra prog_14_method_40_code q.2 q.1) = true := by decide +kernel
theorem gm_255 (fx : List Value → mm_H → Option (List Value × mm_H)) : mm_GM mp_cl mp_TB mp_sr (mp_P fx) mp_yy mp_bb 255 := ⟨wd_8_92, by decide +kernel, ⟨by decide +kernel, by decide +kernel⟩, by decide +kernel, mq_all (mo_19 fx "shiftsNames") rfl gc_255⟩
theorem gc_256 : mc_256.zipIdx.all (fun q => mq_b mt_19 mp_fi mp_aw mp_ra prog_14_method_49_code q.2 q.1) = true := by decide +kernel
theorem gm_256 (fx : List Value → mm_H → Option (List Value × mm_H)) : mm_GM mp_cl mp_TB mp_sr (mp_P fx) mp_yy mp_bb 256 := ⟨wd_8_96, by decide +kernel, ⟨by decide +kernel, by decide +kernel⟩, by decide +kernel, mq_all (mo_19 fx "day") rfl gc_256⟩
theorem gc_257 : mc_257.zipIdx.all (fun q => mq_b mt_19 mp_fi mp_aw mp_ra prog_14_method_43_code q.2 q.1) = true := by decide +kernel
theorem gm_257 (fx : List Value → mm_H → Option (List Value × mm_H)) : mm_GM mp_cl mp_TB mp_sr (mp_P fx) mp_yy mp_bb 257 := ⟨wd_8_100, by decide +kernel, ⟨by decide +kernel, by decide +kernel⟩, by decide +kernel, mq_all (mo_19 fx "readsLine") rfl gc_257⟩
theorem gc_258 : mc_258.zipIdx.all (fun q => mq_b mt_19 mp_fi mp_aw mp_ra prog_14_method_44_code q.2 q.1) = true := by decide +kernel
theorem gm_258 (fx : List Value → mm_H → Option (List Value × mm_H)) : mm_GM mp_cl mp_TB mp_sr (mp_P fx) mp_yy mp_bb 258 := ⟨wd_8_104, by decide +kernel, ⟨by decide +kernel, by decide +kernel⟩, by decide +kernel, mq_all (mo_19 fx "laysLines") rfl gc_258⟩
theorem gc_259 : mc_259.zipIdx.all (fun q => mq_b mt_19 mp_fi mp_aw mp_ra prog_14_method_51_code q.2 q.1) = true := by decide +kernel
theorem gm_259 (fx : List Value → mm_H → Option (List Value × mm_H)) : mm_GM mp_cl mp_TB mp_sr (mp_P fx) mp_yy mp_bb 259 := ⟨wd_8_108, by decide +kernel, ⟨by decide +kernel, by decide +kernel⟩, by decide +kernel, mq_all (mo_19 fx "wish") rfl gc_259⟩
theorem gc_260 : mc_260.zipIdx.all (fun q => mq_b mt_19 mp_fi mp_aw mp_ra prog_14_method_50_code q.2 q.1) = true := by decide +kernel
theorem gm_260 (fx : List Value → mm_H → Option (List Value × mm_H)) : mm_GM mp_cl mp_TB mp_sr (mp_P fx) mp_yy mp_bb 260 := ⟨wd_8_112, by decide +kernel, ⟨by decide +kernel, by decide +kernel⟩, by decide +kernel, mq_all (mo_19 fx "readsWish") rfl gc_260⟩
theorem gc_261 : mc_261.zipIdx.all (fun q => mq_b mt_19 mp_fi mp_aw mp_ra prog_14_method_45_code q.2 q.1) = true := by decide +kernel
theorem gm_261 (fx : List Value → mm_H → Option (List Value × mm_H)) : mm_GM mp_cl mp_TB mp_sr (mp_P fx) mp_yy mp_bb 261 := ⟨wd_8_116, by decide +kernel, ⟨by decide +kernel, by decide +kernel⟩, by decide +kernel, mq_all (mo_19 fx "laysWish") rfl gc_261⟩
theorem gc_262 : mc_262.zipIdx.all (fun q => mq_b mt_19 mp_fi mp_aw mp_ra prog_14_method_71_code q.2 q.1) = true := by decide +kernel
theorem gm_262 (fx : List Value → mm_H → Option (List Value × mm_H)) : mm_GM mp_cl mp_TB mp_sr (mp_P fx) mp_yy mp_bb 262 := ⟨wd_8_120, by decide +kernel, ⟨by decide +kernel, by decide +kernel⟩, by decide +kernel, mq_all (mo_19 fx "walker") rfl gc_262⟩
theorem gc_263 : mc_263.zipIdx.all (fun q => mq_b mt_19 mp_fi mp_aw mp_ra prog_14_method_52_code q.2 q.1) = true := by decide +kernel
theorem gm_263 (fx : List Value → mm_H → Option (List Value × mm_H)) : mm_GM mp_cl mp_TB mp_sr (mp_P fx) mp_yy mp_bb 263 := ⟨wd_8_124, by decide +kernel, ⟨by decide +kernel, by decide +kernel⟩, by decide +kernel, mq_all (mo_19 fx "isWalker") rfl gc_263⟩
theorem gc_264 : mc_264.zipIdx.all (fun q => mq_b mt_19 mp_fi mp_aw mp_ra prog_14_method_69_code q.2 q.1) = true := by decide +kernel
theorem gm_264 (fx : List Value → mm_H → Option (List Value × mm_H)) : mm_GM mp_cl mp_TB mp_sr (mp_P fx) mp_yy mp_bb 264 := ⟨wd_8_128, by decide +kernel, ⟨by decide +kernel, by decide +kernel⟩, by decide +kernel, mq_all (mo_19 fx "stepOf") rfl gc_264⟩
theorem gc_265 : mc_265.zipIdx.all (fun q => mq_b mt_19 mp_fi mp_aw mp_ra prog_14_method_55_code q.2 q.1) = true := by decide +kernel
theorem gm_265 (fx : List Value → mm_H → Option (List Value × mm_H)) : mm_GM mp_cl mp_TB mp_sr (mp_P fx) mp_yy mp_bb 265 := ⟨wd_8_132, by decide +kernel, ⟨by decide +kernel, by decide +kernel⟩, by decide +kernel, mq_all (mo_19 fx "isRead") rfl gc_265⟩
theorem gc_266 : mc_266.zipIdx.all (fun q => mq_b mt_19 mp_fi mp_aw mp_ra prog_14_method_53_code q.2 q.1) = true := by decide +kernel
theorem gm_266 (fx : List Value → mm_H → Option (List Value × mm_H)) : mm_GM mp_cl mp_TB mp_sr (mp_P fx) mp_yy mp_bb 266 := ⟨wd_8_136, by decide +kernel, ⟨by decide +kernel, by decide +kernel⟩, by decide +kernel, mq_all (mo_19 fx "isOpen") rfl gc_266⟩
theorem gc_267 : mc_267.zipIdx.all (fun q => mq_b mt_19 mp_fi mp_aw mp_ra prog_14_method_54_code q.2 q.1) = true := by decide +kernel
theorem gm_267 (fx : List Value → mm_H → Option (List Value × mm_H)) : mm_GM mp_cl mp_TB mp_sr (mp_P fx) mp_yy mp_bb 267 := ⟨wd_8_140, by decide +kernel, ⟨by decide +kernel, by decide +kernel⟩, by decide +kernel, mq_all (mo_19 fx "gustOf") rfl gc_267⟩
theorem gc_268 : mc_268.zipIdx.all (fun q => mq_b mt_19 mp_fi mp_aw mp_ra prog_14_method_18_code q.2 q.1) = true := by decide +kernel
theorem gm_268 (fx : List Value → mm_H → Option (List Value × mm_H)) : mm_GM mp_cl mp_TB mp_sr (mp_P fx) mp_yy mp_bb 268 := ⟨wd_8_144, by decide +kernel, ⟨by decide +kernel, by decide +kernel⟩, by decide +kernel, mq_all (mo_19 fx "worked") rfl gc_268⟩
theorem gc_269 : mc_269.zipIdx.all (fun q => mq_b mt_19 mp_fi mp_aw mp_ra prog_14_method_15_code q.2 q.1) = true := by decide +kernel
theorem gm_269 (fx : List Value → mm_H → Option (List Value × mm_H)) : mm_GM mp_cl mp_TB mp_sr (mp_P fx) mp_yy mp_bb 269 := ⟨wd_8_148, by decide +kernel, ⟨by decide +kernel, by decide +kernel⟩, by decide +kernel, mq_all (mo_19 fx "opens") rfl gc_269⟩
