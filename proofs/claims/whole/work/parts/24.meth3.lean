theorem gc_270 : mc_270.zipIdx.all (fun q => mq_b mt_19 mp_fi mp_aw mp_ra prog_14_method_16_code q.2 q.1) = true := by decide +kernel
theorem gm_270 (fx : List Value → mm_H → Option (List Value × mm_H)) : mm_GM mp_cl mp_TB mp_sr (mp_P fx) mp_yy mp_bb 270 := ⟨wd_8_152, by decide +kernel, ⟨by decide +kernel, by decide +kernel⟩, by decide +kernel, mq_all (mo_19 fx "sums") rfl gc_270⟩
theorem gc_271 : mc_271.zipIdx.all (fun q => mq_b mt_19 mp_fi mp_aw mp_ra prog_14_method_17_code q.2 q.1) = true := by decide +kernel
theorem gm_271 (fx : List Value → mm_H → Option (List Value × mm_H)) : mm_GM mp_cl mp_TB mp_sr (mp_P fx) mp_yy mp_bb 271 := ⟨wd_8_156, by decide +kernel, ⟨by decide +kernel, by decide +kernel⟩, by decide +kernel, mq_all (mo_19 fx "tests") rfl gc_271⟩
theorem gc_272 : mc_272.zipIdx.all (fun q => mq_b mt_19 mp_fi mp_aw mp_ra prog_14_method_72_code q.2 q.1) = true := by decide +kernel
theorem gm_272 (fx : List Value → mm_H → Option (List Value × mm_H)) : mm_GM mp_cl mp_TB mp_sr (mp_P fx) mp_yy mp_bb 272 := ⟨wd_8_160, by decide +kernel, ⟨by decide +kernel, by decide +kernel⟩, by decide +kernel, mq_all (mo_19 fx "read") rfl gc_272⟩
theorem gc_273 : mc_273.zipIdx.all (fun q => mq_b mt_19 mp_fi mp_aw mp_ra prog_14_method_57_code q.2 q.1) = true := by decide +kernel
theorem gm_273 (fx : List Value → mm_H → Option (List Value × mm_H)) : mm_GM mp_cl mp_TB mp_sr (mp_P fx) mp_yy mp_bb 273 := ⟨wd_8_164, by decide +kernel, ⟨by decide +kernel, by decide +kernel⟩, by decide +kernel, mq_all (mo_19 fx "looks") rfl gc_273⟩
theorem gc_274 : mc_274.zipIdx.all (fun q => mq_b mt_19 mp_fi mp_aw mp_ra prog_14_method_56_code q.2 q.1) = true := by decide +kernel
theorem gm_274 (fx : List Value → mm_H → Option (List Value × mm_H)) : mm_GM mp_cl mp_TB mp_sr (mp_P fx) mp_yy mp_bb 274 := ⟨wd_8_168, by decide +kernel, ⟨by decide +kernel, by decide +kernel⟩, by decide +kernel, mq_all (mo_19 fx "colourRead") rfl gc_274⟩
theorem gc_275 : mc_275.zipIdx.all (fun q => mq_b mt_19 mp_fi mp_aw mp_ra prog_14_method_74_code q.2 q.1) = true := by decide +kernel
theorem gm_275 (fx : List Value → mm_H → Option (List Value × mm_H)) : mm_GM mp_cl mp_TB mp_sr (mp_P fx) mp_yy mp_bb 275 := ⟨wd_8_172, by decide +kernel, ⟨by decide +kernel, by decide +kernel⟩, by decide +kernel, mq_all (mo_19 fx "tick") rfl gc_275⟩
theorem gc_276 : mc_276.zipIdx.all (fun q => mq_b mt_19 mp_fi mp_aw mp_ra prog_14_method_73_code q.2 q.1) = true := by decide +kernel
theorem gm_276 (fx : List Value → mm_H → Option (List Value × mm_H)) : mm_GM mp_cl mp_TB mp_sr (mp_P fx) mp_yy mp_bb 276 := ⟨wd_8_176, by decide +kernel, ⟨by decide +kernel, by decide +kernel⟩, by decide +kernel, mq_all (mo_19 fx "keeps") rfl gc_276⟩
theorem gc_277 : mc_277.zipIdx.all (fun q => mq_b mt_19 mp_fi mp_aw mp_ra prog_14_method_42_code q.2 q.1) = true := by decide +kernel
theorem gm_277 (fx : List Value → mm_H → Option (List Value × mm_H)) : mm_GM mp_cl mp_TB mp_sr (mp_P fx) mp_yy mp_bb 277 := ⟨wd_8_179, by decide +kernel, ⟨by decide +kernel, by decide +kernel⟩, by decide +kernel, mq_all (mo_19 fx "copies") rfl gc_277⟩
theorem gc_278 : mc_278.zipIdx.all (fun q => mq_b mt_19 mp_fi mp_aw mp_ra prog_14_method_70_code q.2 q.1) = true := by decide +kernel
theorem gm_278 (fx : List Value → mm_H → Option (List Value × mm_H)) : mm_GM mp_cl mp_TB mp_sr (mp_P fx) mp_yy mp_bb 278 := ⟨wd_8_183, by decide +kernel, ⟨by decide +kernel, by decide +kernel⟩, by decide +kernel, mq_all (mo_19 fx "passes") rfl gc_278⟩
theorem gc_279 : mc_279.zipIdx.all (fun q => mq_b mt_19 mp_fi mp_aw mp_ra prog_14_method_68_code q.2 q.1) = true := by decide +kernel
theorem gm_279 (fx : List Value → mm_H → Option (List Value × mm_H)) : mm_GM mp_cl mp_TB mp_sr (mp_P fx) mp_yy mp_bb 279 := ⟨wd_8_187, by decide +kernel, ⟨by decide +kernel, by decide +kernel⟩, by decide +kernel, mq_all (mo_19 fx "canMove") rfl gc_279⟩
theorem gc_280 : mc_280.zipIdx.all (fun q => mq_b mt_19 mp_fi mp_aw mp_ra prog_14_method_67_code q.2 q.1) = true := by decide +kernel
theorem gm_280 (fx : List Value → mm_H → Option (List Value × mm_H)) : mm_GM mp_cl mp_TB mp_sr (mp_P fx) mp_yy mp_bb 280 := ⟨wd_8_190, by decide +kernel, ⟨by decide +kernel, by decide +kernel⟩, by decide +kernel, mq_all (mo_19 fx "stepped") rfl gc_280⟩
theorem gc_281 : mc_281.zipIdx.all (fun q => mq_b mt_19 mp_fi mp_aw mp_ra prog_14_method_62_code q.2 q.1) = true := by decide +kernel
theorem gm_281 (fx : List Value → mm_H → Option (List Value × mm_H)) : mm_GM mp_cl mp_TB mp_sr (mp_P fx) mp_yy mp_bb 281 := ⟨wd_8_194, by decide +kernel, ⟨by decide +kernel, by decide +kernel⟩, by decide +kernel, mq_all (mo_19 fx "saidNow") rfl gc_281⟩
theorem gc_282 : mc_282.zipIdx.all (fun q => mq_b mt_19 mp_fi mp_aw mp_ra prog_14_method_61_code q.2 q.1) = true := by decide +kernel
theorem gm_282 (fx : List Value → mm_H → Option (List Value × mm_H)) : mm_GM mp_cl mp_TB mp_sr (mp_P fx) mp_yy mp_bb 282 := ⟨wd_8_198, by decide +kernel, ⟨by decide +kernel, by decide +kernel⟩, by decide +kernel, mq_all (mo_19 fx "laysSentence") rfl gc_282⟩
theorem gc_283 : mc_283.zipIdx.all (fun q => mq_b mt_19 mp_fi mp_aw mp_ra prog_14_method_58_code q.2 q.1) = true := by decide +kernel
theorem gm_283 (fx : List Value → mm_H → Option (List Value × mm_H)) : mm_GM mp_cl mp_TB mp_sr (mp_P fx) mp_yy mp_bb 283 := ⟨wd_8_202, by decide +kernel, ⟨by decide +kernel, by decide +kernel⟩, by decide +kernel, mq_all (mo_19 fx "works") rfl gc_283⟩
theorem gc_284 : mc_284.zipIdx.all (fun q => mq_b mt_19 mp_fi mp_aw mp_ra prog_14_method_59_code q.2 q.1) = true := by decide +kernel
theorem gm_284 (fx : List Value → mm_H → Option (List Value × mm_H)) : mm_GM mp_cl mp_TB mp_sr (mp_P fx) mp_yy mp_bb 284 := ⟨wd_8_206, by decide +kernel, ⟨by decide +kernel, by decide +kernel⟩, by decide +kernel, mq_all (mo_19 fx "joins") rfl gc_284⟩
theorem gc_285 : mc_285.zipIdx.all (fun q => mq_b mt_19 mp_fi mp_aw mp_ra prog_14_method_60_code q.2 q.1) = true := by decide +kernel
theorem gm_285 (fx : List Value → mm_H → Option (List Value × mm_H)) : mm_GM mp_cl mp_TB mp_sr (mp_P fx) mp_yy mp_bb 285 := ⟨wd_8_210, by decide +kernel, ⟨by decide +kernel, by decide +kernel⟩, by decide +kernel, mq_all (mo_19 fx "waysOfAll") rfl gc_285⟩
theorem gc_286 : mc_286.zipIdx.all (fun q => mq_b mt_19 mp_fi mp_aw mp_ra prog_14_method_75_code q.2 q.1) = true := by decide +kernel
theorem gm_286 (fx : List Value → mm_H → Option (List Value × mm_H)) : mm_GM mp_cl mp_TB mp_sr (mp_P fx) mp_yy mp_bb 286 := ⟨wd_8_214, by decide +kernel, ⟨by decide +kernel, by decide +kernel⟩, by decide +kernel, mq_all (mo_19 fx "move") rfl gc_286⟩
theorem gc_287 : mc_287.zipIdx.all (fun q => mq_b mt_19 mp_fi mp_aw mp_ra prog_14_method_76_code q.2 q.1) = true := by decide +kernel
theorem gm_287 (fx : List Value → mm_H → Option (List Value × mm_H)) : mm_GM mp_cl mp_TB mp_sr (mp_P fx) mp_yy mp_bb 287 := ⟨wd_8_218, by decide +kernel, ⟨by decide +kernel, by decide +kernel⟩, by decide +kernel, mq_all (mo_19 fx "shut") rfl gc_287⟩
theorem gc_288 : mc_288.zipIdx.all (fun q => mq_b mt_19 mp_fi mp_aw mp_ra prog_14_method_77_code q.2 q.1) = true := by decide +kernel
theorem gm_288 (fx : List Value → mm_H → Option (List Value × mm_H)) : mm_GM mp_cl mp_TB mp_sr (mp_P fx) mp_yy mp_bb 288 := ⟨wd_8_222, by decide +kernel, ⟨by decide +kernel, by decide +kernel⟩, by decide +kernel, mq_all (mo_19 fx "open") rfl gc_288⟩
theorem gc_289 : mc_289.zipIdx.all (fun q => mq_b mt_19 mp_fi mp_aw mp_ra prog_14_method_78_code q.2 q.1) = true := by decide +kernel
theorem gm_289 (fx : List Value → mm_H → Option (List Value × mm_H)) : mm_GM mp_cl mp_TB mp_sr (mp_P fx) mp_yy mp_bb 289 := ⟨wd_8_226, by decide +kernel, ⟨by decide +kernel, by decide +kernel⟩, by decide +kernel, mq_all (mo_19 fx "undo") rfl gc_289⟩
theorem gc_290 : mc_290.zipIdx.all (fun q => mq_b mt_19 mp_fi mp_aw mp_ra prog_14_method_80_code q.2 q.1) = true := by decide +kernel
theorem gm_290 (fx : List Value → mm_H → Option (List Value × mm_H)) : mm_GM mp_cl mp_TB mp_sr (mp_P fx) mp_yy mp_bb 290 := ⟨wd_8_230, by decide +kernel, ⟨by decide +kernel, by decide +kernel⟩, by decide +kernel, mq_all (mo_19 fx "judged") rfl gc_290⟩
theorem gc_291 : mc_291.zipIdx.all (fun q => mq_b mt_19 mp_fi mp_aw mp_ra prog_14_method_79_code q.2 q.1) = true := by decide +kernel
theorem gm_291 (fx : List Value → mm_H → Option (List Value × mm_H)) : mm_GM mp_cl mp_TB mp_sr (mp_P fx) mp_yy mp_bb 291 := ⟨wd_8_234, by decide +kernel, ⟨by decide +kernel, by decide +kernel⟩, by decide +kernel, mq_all (mo_19 fx "isDone") rfl gc_291⟩
theorem gc_292 : mc_292.zipIdx.all (fun q => mq_b mt_19 mp_fi mp_aw mp_ra prog_14_method_81_code q.2 q.1) = true := by decide +kernel
theorem gm_292 (fx : List Value → mm_H → Option (List Value × mm_H)) : mm_GM mp_cl mp_TB mp_sr (mp_P fx) mp_yy mp_bb 292 := ⟨wd_8_238, by decide +kernel, ⟨by decide +kernel, by decide +kernel⟩, by decide +kernel, mq_all (mo_19 fx "said") rfl gc_292⟩
theorem gc_293 : mc_293.zipIdx.all (fun q => mq_b mt_19 mp_fi mp_aw mp_ra prog_14_method_83_code q.2 q.1) = true := by decide +kernel
theorem gm_293 (fx : List Value → mm_H → Option (List Value × mm_H)) : mm_GM mp_cl mp_TB mp_sr (mp_P fx) mp_yy mp_bb 293 := ⟨wd_9_2, by decide +kernel, ⟨by decide +kernel, by decide +kernel⟩, by decide +kernel, mq_all (mo_19 fx "ways") rfl gc_293⟩
theorem gc_294 : mc_294.zipIdx.all (fun q => mq_b mt_19 mp_fi mp_aw mp_ra prog_14_method_82_code q.2 q.1) = true := by decide +kernel
theorem gm_294 (fx : List Value → mm_H → Option (List Value × mm_H)) : mm_GM mp_cl mp_TB mp_sr (mp_P fx) mp_yy mp_bb 294 := ⟨wd_9_6, by decide +kernel, ⟨by decide +kernel, by decide +kernel⟩, by decide +kernel, mq_all (mo_19 fx "isSentence") rfl gc_294⟩
theorem gc_295 : mc_295.zipIdx.all (fun q => mq_b mt_19 mp_fi mp_aw mp_ra prog_14_method_84_code q.2 q.1) = true := by decide +kernel
theorem gm_295 (fx : List Value → mm_H → Option (List Value × mm_H)) : mm_GM mp_cl mp_TB mp_sr (mp_P fx) mp_yy mp_bb 295 := ⟨wd_9_10, by decide +kernel, ⟨by decide +kernel, by decide +kernel⟩, by decide +kernel, mq_all (mo_19 fx "sorts") rfl gc_295⟩
theorem gc_296 : mc_296.zipIdx.all (fun q => mq_b mt_19 mp_fi mp_aw mp_ra prog_14_method_85_code q.2 q.1) = true := by decide +kernel
theorem gm_296 (fx : List Value → mm_H → Option (List Value × mm_H)) : mm_GM mp_cl mp_TB mp_sr (mp_P fx) mp_yy mp_bb 296 := ⟨wd_9_14, by decide +kernel, ⟨by decide +kernel, by decide +kernel⟩, by decide +kernel, mq_all (mo_19 fx "depth") rfl gc_296⟩
theorem gc_297 : mc_297.zipIdx.all (fun q => mq_b mt_19 mp_fi mp_aw mp_ra prog_14_method_66_code q.2 q.1) = true := by decide +kernel
theorem gm_297 (fx : List Value → mm_H → Option (List Value × mm_H)) : mm_GM mp_cl mp_TB mp_sr (mp_P fx) mp_yy mp_bb 297 := ⟨wd_9_18, by decide +kernel, ⟨by decide +kernel, by decide +kernel⟩, by decide +kernel, mq_all (mo_19 fx "grows") rfl gc_297⟩
theorem gc_298 : mc_298.zipIdx.all (fun q => mq_b mt_19 mp_fi mp_aw mp_ra prog_14_method_63_code q.2 q.1) = true := by decide +kernel
theorem gm_298 (fx : List Value → mm_H → Option (List Value × mm_H)) : mm_GM mp_cl mp_TB mp_sr (mp_P fx) mp_yy mp_bb 298 := ⟨wd_9_22, by decide +kernel, ⟨by decide +kernel, by decide +kernel⟩, by decide +kernel, mq_all (mo_19 fx "cellOf") rfl gc_298⟩
theorem gc_299 : mc_299.zipIdx.all (fun q => mq_b mt_19 mp_fi mp_aw mp_ra prog_14_method_65_code q.2 q.1) = true := by decide +kernel
theorem gm_299 (fx : List Value → mm_H → Option (List Value × mm_H)) : mm_GM mp_cl mp_TB mp_sr (mp_P fx) mp_yy mp_bb 299 := ⟨wd_9_26, by decide +kernel, ⟨by decide +kernel, by decide +kernel⟩, by decide +kernel, mq_all (mo_19 fx "rowBy") rfl gc_299⟩
theorem gc_300 : mc_300.zipIdx.all (fun q => mq_b mt_19 mp_fi mp_aw mp_ra prog_14_method_64_code q.2 q.1) = true := by decide +kernel
theorem gm_300 (fx : List Value → mm_H → Option (List Value × mm_H)) : mm_GM mp_cl mp_TB mp_sr (mp_P fx) mp_yy mp_bb 300 := ⟨wd_9_29, by decide +kernel, ⟨by decide +kernel, by decide +kernel⟩, by decide +kernel, mq_all (mo_19 fx "shiftsBy") rfl gc_300⟩
theorem gc_301 : mc_301.zipIdx.all (fun q => mq_b mt_19 mp_fi mp_aw mp_ra prog_14_method_86_code q.2 q.1) = true := by decide +kernel
theorem gm_301 (fx : List Value → mm_H → Option (List Value × mm_H)) : mm_GM mp_cl mp_TB mp_sr (mp_P fx) mp_yy mp_bb 301 := ⟨wd_9_33, by decide +kernel, ⟨by decide +kernel, by decide +kernel⟩, by decide +kernel, mq_all (mo_19 fx "tree") rfl gc_301⟩
theorem gc_302 : mc_302.zipIdx.all (fun q => mq_b mt_19 mp_fi mp_aw mp_ra prog_14_method_87_code q.2 q.1) = true := by decide +kernel
theorem gm_302 (fx : List Value → mm_H → Option (List Value × mm_H)) : mm_GM mp_cl mp_TB mp_sr (mp_P fx) mp_yy mp_bb 302 := ⟨wd_9_37, by decide +kernel, ⟨by decide +kernel, by decide +kernel⟩, by decide +kernel, mq_all (mo_19 fx "keys") rfl gc_302⟩
theorem gc_303 : mc_303.zipIdx.all (fun q => mq_b mt_19 mp_fi mp_aw mp_ra prog_14_method_88_code q.2 q.1) = true := by decide +kernel
theorem gm_303 (fx : List Value → mm_H → Option (List Value × mm_H)) : mm_GM mp_cl mp_TB mp_sr (mp_P fx) mp_yy mp_bb 303 := ⟨wd_9_41, by decide +kernel, ⟨by decide +kernel, by decide +kernel⟩, by decide +kernel, mq_all (mo_19 fx "least") rfl gc_303⟩
theorem gc_304 : mc_304.zipIdx.all (fun q => mq_b mt_19 mp_fi mp_aw mp_ra prog_14_method_4_code q.2 q.1) = true := by decide +kernel
theorem gm_304 (fx : List Value → mm_H → Option (List Value × mm_H)) : mm_GM mp_cl mp_TB mp_sr (mp_P fx) mp_yy mp_bb 304 := ⟨wd_9_44, by decide +kernel, ⟨by decide +kernel, by decide +kernel⟩, by decide +kernel, mq_all (mo_19 fx "bits") rfl gc_304⟩
theorem gc_305 : mc_305.zipIdx.all (fun q => mq_b mt_19 mp_fi mp_aw mp_ra prog_14_method_89_code q.2 q.1) = true := by decide +kernel
theorem gm_305 (fx : List Value → mm_H → Option (List Value × mm_H)) : mm_GM mp_cl mp_TB mp_sr (mp_P fx) mp_yy mp_bb 305 := ⟨wd_9_48, by decide +kernel, ⟨by decide +kernel, by decide +kernel⟩, by decide +kernel, mq_all (mo_19 fx "later") rfl gc_305⟩
theorem gc_306 : mc_306.zipIdx.all (fun q => mq_b mt_19 mp_fi mp_aw mp_ra prog_14_method_90_code q.2 q.1) = true := by decide +kernel
theorem gm_306 (fx : List Value → mm_H → Option (List Value × mm_H)) : mm_GM mp_cl mp_TB mp_sr (mp_P fx) mp_yy mp_bb 306 := ⟨wd_9_52, by decide +kernel, ⟨by decide +kernel, by decide +kernel⟩, by decide +kernel, mq_all (mo_19 fx "when") rfl gc_306⟩
theorem gc_307 : mc_307.zipIdx.all (fun q => mq_b mt_19 mp_fi mp_aw mp_ra prog_14_method_91_code q.2 q.1) = true := by decide +kernel
theorem gm_307 (fx : List Value → mm_H → Option (List Value × mm_H)) : mm_GM mp_cl mp_TB mp_sr (mp_P fx) mp_yy mp_bb 307 := ⟨wd_9_56, by decide +kernel, ⟨by decide +kernel, by decide +kernel⟩, by decide +kernel, mq_all (mo_19 fx "most") rfl gc_307⟩
theorem gc_308 : mc_308.zipIdx.all (fun q => mq_b mt_19 mp_fi mp_aw mp_ra prog_14_method_92_code q.2 q.1) = true := by decide +kernel
theorem gm_308 (fx : List Value → mm_H → Option (List Value × mm_H)) : mm_GM mp_cl mp_TB mp_sr (mp_P fx) mp_yy mp_bb 308 := ⟨wd_9_60, by decide +kernel, ⟨by decide +kernel, by decide +kernel⟩, by decide +kernel, mq_all (mo_19 fx "talk") rfl gc_308⟩
theorem gc_309 : mc_309.zipIdx.all (fun q => mq_b mt_19 mp_fi mp_aw mp_ra prog_14_method_93_code q.2 q.1) = true := by decide +kernel
theorem gm_309 (fx : List Value → mm_H → Option (List Value × mm_H)) : mm_GM mp_cl mp_TB mp_sr (mp_P fx) mp_yy mp_bb 309 := ⟨wd_9_64, by decide +kernel, ⟨by decide +kernel, by decide +kernel⟩, by decide +kernel, mq_all (mo_19 fx "wished") rfl gc_309⟩
theorem gc_310 : mc_310.zipIdx.all (fun q => mq_b mt_19 mp_fi mp_aw mp_ra prog_14_method_96_code q.2 q.1) = true := by decide +kernel
theorem gm_310 (fx : List Value → mm_H → Option (List Value × mm_H)) : mm_GM mp_cl mp_TB mp_sr (mp_P fx) mp_yy mp_bb 310 := ⟨wd_9_68, by decide +kernel, ⟨by decide +kernel, by decide +kernel⟩, by decide +kernel, mq_all (mo_19 fx "steps") rfl gc_310⟩
theorem gc_311 : mc_311.zipIdx.all (fun q => mq_b mt_19 mp_fi mp_aw mp_ra prog_14_method_95_code q.2 q.1) = true := by decide +kernel
theorem gm_311 (fx : List Value → mm_H → Option (List Value × mm_H)) : mm_GM mp_cl mp_TB mp_sr (mp_P fx) mp_yy mp_bb 311 := ⟨wd_9_72, by decide +kernel, ⟨by decide +kernel, by decide +kernel⟩, by decide +kernel, mq_all (mo_19 fx "shows") rfl gc_311⟩
theorem gc_312 : mc_312.zipIdx.all (fun q => mq_b mt_19 mp_fi mp_aw mp_ra prog_14_method_94_code q.2 q.1) = true := by decide +kernel
theorem gm_312 (fx : List Value → mm_H → Option (List Value × mm_H)) : mm_GM mp_cl mp_TB mp_sr (mp_P fx) mp_yy mp_bb 312 := ⟨wd_9_76, by decide +kernel, ⟨by decide +kernel, by decide +kernel⟩, by decide +kernel, mq_all (mo_19 fx "stepsOf") rfl gc_312⟩
theorem gc_313 : mc_313.zipIdx.all (fun q => mq_b mt_19 mp_fi mp_aw mp_ra prog_14_method_97_code q.2 q.1) = true := by decide +kernel
theorem gm_313 (fx : List Value → mm_H → Option (List Value × mm_H)) : mm_GM mp_cl mp_TB mp_sr (mp_P fx) mp_yy mp_bb 313 := ⟨wd_9_82, by decide +kernel, ⟨by decide +kernel, by decide +kernel⟩, by decide +kernel, mq_all (mo_19 fx "colours") rfl gc_313⟩
theorem gc_314 : mc_314.zipIdx.all (fun q => mq_b mt_19 mp_fi mp_aw mp_ra prog_14_method_100_code q.2 q.1) = true := by decide +kernel
theorem gm_314 (fx : List Value → mm_H → Option (List Value × mm_H)) : mm_GM mp_cl mp_TB mp_sr (mp_P fx) mp_yy mp_bb 314 := ⟨wd_9_86, by decide +kernel, ⟨by decide +kernel, by decide +kernel⟩, by decide +kernel, mq_all (mo_19 fx "code") rfl gc_314⟩
theorem gc_315 : mc_315.zipIdx.all (fun q => mq_b mt_19 mp_fi mp_aw mp_ra prog_14_method_99_code q.2 q.1) = true := by decide +kernel
theorem gm_315 (fx : List Value → mm_H → Option (List Value × mm_H)) : mm_GM mp_cl mp_TB mp_sr (mp_P fx) mp_yy mp_bb 315 := ⟨wd_9_89, by decide +kernel, ⟨by decide +kernel, by decide +kernel⟩, by decide +kernel, mq_all (mo_19 fx "codeOf") rfl gc_315⟩
theorem gc_316 : mc_316.zipIdx.all (fun q => mq_b mt_19 mp_fi mp_aw mp_ra prog_14_method_98_code q.2 q.1) = true := by decide +kernel
theorem gm_316 (fx : List Value → mm_H → Option (List Value × mm_H)) : mm_GM mp_cl mp_TB mp_sr (mp_P fx) mp_yy mp_bb 316 := ⟨wd_9_92, by decide +kernel, ⟨by decide +kernel, by decide +kernel⟩, by decide +kernel, mq_all (mo_19 fx "wrongOf") rfl gc_316⟩
theorem gc_317 : mc_317.zipIdx.all (fun q => mq_b mt_19 mp_fi mp_aw mp_ra prog_14_method_101_code q.2 q.1) = true := by decide +kernel
theorem gm_317 (fx : List Value → mm_H → Option (List Value × mm_H)) : mm_GM mp_cl mp_TB mp_sr (mp_P fx) mp_yy mp_bb 317 := ⟨wd_9_96, by decide +kernel, ⟨by decide +kernel, by decide +kernel⟩, by decide +kernel, mq_all (mo_19 fx "amiss") rfl gc_317⟩
theorem gc_318 : mc_318.zipIdx.all (fun q => mq_b mt_19 mp_fi mp_aw mp_ra prog_14_method_102_code q.2 q.1) = true := by decide +kernel
theorem gm_318 (fx : List Value → mm_H → Option (List Value × mm_H)) : mm_GM mp_cl mp_TB mp_sr (mp_P fx) mp_yy mp_bb 318 := ⟨wd_9_100, by decide +kernel, ⟨by decide +kernel, by decide +kernel⟩, by decide +kernel, mq_all (mo_19 fx "blind") rfl gc_318⟩
theorem gc_319 : mc_319.zipIdx.all (fun q => mq_b mt_19 mp_fi mp_aw mp_ra prog_14_method_103_code q.2 q.1) = true := by decide +kernel
theorem gm_319 (fx : List Value → mm_H → Option (List Value × mm_H)) : mm_GM mp_cl mp_TB mp_sr (mp_P fx) mp_yy mp_bb 319 := ⟨wd_9_104, by decide +kernel, ⟨by decide +kernel, by decide +kernel⟩, by decide +kernel, mq_all (mo_19 fx "answer") rfl gc_319⟩
theorem gc_320 : mc_320.zipIdx.all (fun q => mq_b mt_19 mp_fi mp_aw mp_ra prog_14_method_105_code q.2 q.1) = true := by decide +kernel
theorem gm_320 (fx : List Value → mm_H → Option (List Value × mm_H)) : mm_GM mp_cl mp_TB mp_sr (mp_P fx) mp_yy mp_bb 320 := ⟨wd_9_108, by decide +kernel, ⟨by decide +kernel, by decide +kernel⟩, by decide +kernel, mq_all (mo_19 fx "see") rfl gc_320⟩
theorem gc_321 : mc_321.zipIdx.all (fun q => mq_b mt_19 mp_fi mp_aw mp_ra prog_14_method_107_code q.2 q.1) = true := by decide +kernel
theorem gm_321 (fx : List Value → mm_H → Option (List Value × mm_H)) : mm_GM mp_cl mp_TB mp_sr (mp_P fx) mp_yy mp_bb 321 := ⟨wd_9_112, by decide +kernel, ⟨by decide +kernel, by decide +kernel⟩, by decide +kernel, mq_all (mo_19 fx "who") rfl gc_321⟩
theorem gc_322 : mc_322.zipIdx.all (fun q => mq_b mt_19 mp_fi mp_aw mp_ra prog_14_method_104_code q.2 q.1) = true := by decide +kernel
theorem gm_322 (fx : List Value → mm_H → Option (List Value × mm_H)) : mm_GM mp_cl mp_TB mp_sr (mp_P fx) mp_yy mp_bb 322 := ⟨wd_9_116, by decide +kernel, ⟨by decide +kernel, by decide +kernel⟩, by decide +kernel, mq_all (mo_19 fx "laysPlaces") rfl gc_322⟩
theorem gc_323 : mc_323.zipIdx.all (fun q => mq_b mt_19 mp_fi mp_aw mp_ra prog_14_method_106_code q.2 q.1) = true := by decide +kernel
theorem gm_323 (fx : List Value → mm_H → Option (List Value × mm_H)) : mm_GM mp_cl mp_TB mp_sr (mp_P fx) mp_yy mp_bb 323 := ⟨wd_9_120, by decide +kernel, ⟨by decide +kernel, by decide +kernel⟩, by decide +kernel, mq_all (mo_19 fx "isAsSeen") rfl gc_323⟩
theorem gc_324 : mc_324.zipIdx.all (fun q => mq_b mt_19 mp_fi mp_aw mp_ra prog_14_method_108_code q.2 q.1) = true := by decide +kernel
theorem gm_324 (fx : List Value → mm_H → Option (List Value × mm_H)) : mm_GM mp_cl mp_TB mp_sr (mp_P fx) mp_yy mp_bb 324 := ⟨wd_9_124, by decide +kernel, ⟨by decide +kernel, by decide +kernel⟩, by decide +kernel, mq_all (mo_19 fx "ask") rfl gc_324⟩
theorem gc_325 : mc_325.zipIdx.all (fun q => mq_b mt_19 mp_fi mp_aw mp_ra prog_14_method_109_code q.2 q.1) = true := by decide +kernel
theorem gm_325 (fx : List Value → mm_H → Option (List Value × mm_H)) : mm_GM mp_cl mp_TB mp_sr (mp_P fx) mp_yy mp_bb 325 := ⟨wd_9_130, by decide +kernel, ⟨by decide +kernel, by decide +kernel⟩, by decide +kernel, mq_all (mo_19 fx "chance") rfl gc_325⟩
theorem gc_326 : mc_326.zipIdx.all (fun q => mq_b mt_19 mp_fi mp_aw mp_ra prog_14_method_111_code q.2 q.1) = true := by decide +kernel
theorem gm_326 (fx : List Value → mm_H → Option (List Value × mm_H)) : mm_GM mp_cl mp_TB mp_sr (mp_P fx) mp_yy mp_bb 326 := ⟨wd_9_134, by decide +kernel, ⟨by decide +kernel, by decide +kernel⟩, by decide +kernel, mq_all (mo_19 fx "rests") rfl gc_326⟩
theorem gc_327 : mc_327.zipIdx.all (fun q => mq_b mt_19 mp_fi mp_aw mp_ra prog_14_method_110_code q.2 q.1) = true := by decide +kernel
theorem gm_327 (fx : List Value → mm_H → Option (List Value × mm_H)) : mm_GM mp_cl mp_TB mp_sr (mp_P fx) mp_yy mp_bb 327 := ⟨wd_9_137, by decide +kernel, ⟨by decide +kernel, by decide +kernel⟩, by decide +kernel, mq_all (mo_19 fx "getsBy") rfl gc_327⟩
theorem gc_328 : mc_328.zipIdx.all (fun q => mq_b mt_19 mp_fi mp_aw mp_ra prog_14_method_114_code q.2 q.1) = true := by decide +kernel
theorem gm_328 (fx : List Value → mm_H → Option (List Value × mm_H)) : mm_GM mp_cl mp_TB mp_sr (mp_P fx) mp_yy mp_bb 328 := ⟨wd_9_141, by decide +kernel, ⟨by decide +kernel, by decide +kernel⟩, by decide +kernel, mq_all (mo_19 fx "days") rfl gc_328⟩
theorem gc_329 : mc_329.zipIdx.all (fun q => mq_b mt_19 mp_fi mp_aw mp_ra prog_14_method_113_code q.2 q.1) = true := by decide +kernel
theorem gm_329 (fx : List Value → mm_H → Option (List Value × mm_H)) : mm_GM mp_cl mp_TB mp_sr (mp_P fx) mp_yy mp_bb 329 := ⟨wd_9_145, by decide +kernel, ⟨by decide +kernel, by decide +kernel⟩, by decide +kernel, mq_all (mo_19 fx "livesTick") rfl gc_329⟩
theorem gc_330 : mc_330.zipIdx.all (fun q => mq_b mt_19 mp_fi mp_aw mp_ra prog_14_method_112_code q.2 q.1) = true := by decide +kernel
theorem gm_330 (fx : List Value → mm_H → Option (List Value × mm_H)) : mm_GM mp_cl mp_TB mp_sr (mp_P fx) mp_yy mp_bb 330 := ⟨wd_9_149, by decide +kernel, ⟨by decide +kernel, by decide +kernel⟩, by decide +kernel, mq_all (mo_19 fx "draws") rfl gc_330⟩
theorem gc_331 : mc_331.zipIdx.all (fun q => mq_b mt_19 mp_fi mp_aw mp_ra prog_14_method_115_code q.2 q.1) = true := by decide +kernel
theorem gm_331 (fx : List Value → mm_H → Option (List Value × mm_H)) : mm_GM mp_cl mp_TB mp_sr (mp_P fx) mp_yy mp_bb 331 := ⟨wd_9_157, by decide +kernel, ⟨by decide +kernel, by decide +kernel⟩, by decide +kernel, mq_all (mo_19 fx "mark") rfl gc_331⟩
theorem gc_332 : mc_332.zipIdx.all (fun q => mq_b mt_19 mp_fi mp_aw mp_ra prog_14_method_46_code q.2 q.1) = true := by decide +kernel
theorem gm_332 (fx : List Value → mm_H → Option (List Value × mm_H)) : mm_GM mp_cl mp_TB mp_sr (mp_P fx) mp_yy mp_bb 332 := ⟨wd_9_161, by decide +kernel, ⟨by decide +kernel, by decide +kernel⟩, by decide +kernel, mq_all (mo_19 fx "laysSeen") rfl gc_332⟩
theorem gc_333 : mc_333.zipIdx.all (fun q => mq_b mt_19 mp_fi mp_aw mp_ra prog_14_method_116_code q.2 q.1) = true := by decide +kernel
theorem gm_333 (fx : List Value → mm_H → Option (List Value × mm_H)) : mm_GM mp_cl mp_TB mp_sr (mp_P fx) mp_yy mp_bb 333 := ⟨wd_9_165, by decide +kernel, ⟨by decide +kernel, by decide +kernel⟩, by decide +kernel, mq_all (mo_19 fx "count") rfl gc_333⟩
theorem gc_5000 : mc_5000.zipIdx.all (fun q => mq_b mt_20 mp_fi mp_aw mp_ra code q.2 q.1) = true := by decide +kernel
theorem gi_5000 (fx : List Value → mm_H → Option (List Value × mm_H)) : ∀ pc, mm_G (mp_bb 5000) (mp_yy 5000).cls (mp_yy 5000).name mp_cl mp_TB mp_sr (mp_P fx) mp_yy pc ((mp_P fx).1 5000 pc) := mq_all (mo_20 fx "law") rfl gc_5000
