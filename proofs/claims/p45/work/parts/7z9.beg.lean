/-! the law begins: hOK of its heap, by program -/
def hz (f : Nat → Nat → Int32) : Prop := ∀ a k, aIn (f a k).toInt (gSeg (wd.2.1 a) k)
theorem gSeg0 : ∀ (r : List (Nat × aI)) (k : Nat), r.all (fun p => aLe [(0, 0, 1)] p.2) = true → aIn 0 (gSeg r k)
  | [], _, _ => aR1_in (lo := -2147483648) (hi := 2147483647) (by decide) (by decide)
  | p :: t, k, h => by
    simp only [List.all_cons, Bool.and_eq_true] at h
    unfold gSeg
    split
    · exact aLe_in h.1 (aR1_in (lo := 0) (hi := 0) (by decide) (by decide))
    · exact gSeg0 t k h.2
theorem hz_0 (a k : Nat) : aIn 0 (gSeg (wd.2.1 a) k) := by
  have hw : wG.all (fun r => r.all (fun p => aLe [(0, 0, 1)] p.2)) = true := by decide +kernel
  refine gSeg0 _ k ?_
  show (wG.getD a []).all (fun p => aLe [(0, 0, 1)] p.2) = true
  rw [List.getD_eq_getElem?_getD]
  cases e : wG[a]? with
  | none => rfl
  | some r => exact List.all_eq_true.mp hw r (List.mem_of_getElem? e)
theorem hz_row {f : Nat → Nat → Int32} {c : Nat} (h : hz f) : hz (zrow f c (fun _ => 0)) := by
  intro a k
  unfold zrow
  split
  · exact hz_0 a k
  · exact h a k
theorem hz_up {f : Nat → Nat → Int32} {c j : Nat} {v : Int32} (h : hz f) (hv : aIn v.toInt (gSeg (wd.2.1 c) j)) : hz (zup f c j v) := by
  intro a k
  unfold zup
  split
  · next e =>
    split
    · next e2 => rw [e, e2]; exact hv
    · exact h a k
  · exact h a k
theorem hy_0 : hz hh_0.2.1 := fun a k => hz_0 a k
theorem hy_1 : hz hh_1.2.1 := hz_row hy_0
theorem hy_2 : hz hh_2.2.1 := hz_row hy_1
theorem hy_4 : hz hh_4.2.1 := hz_up hy_2 (hz_0 _ _)
theorem hy_5 : hz hh_5.2.1 := hz_up hy_4 (hz_0 _ _)
theorem hy_6 : hz hh_6.2.1 := hz_row hy_5
theorem hy_7 : hz hh_7.2.1 := hz_row hy_6
theorem hy_9 : hz hh_9.2.1 := hz_row hy_7
theorem hy_11 : hz hh_11.2.1 := hz_row hy_9
theorem hy_13 : hz hh_13.2.1 := hz_row hy_11
theorem hy_15 : hz hh_15.2.1 := hz_row hy_13
theorem hy_17 : hz hh_17.2.1 := hz_row hy_15
theorem hy_19 : hz hh_19.2.1 := hz_row hy_17
theorem hy_21 : hz hh_21.2.1 := hz_row hy_19
theorem hy_23 : hz hh_23.2.1 := hz_row hy_21
theorem hy_25 : hz hh_25.2.1 := hz_row hy_23
theorem hy_27 : hz hh_27.2.1 := hz_row hy_25
theorem hy_29 : hz hh_29.2.1 := hz_row hy_27
theorem hy_31 : hz hh_31.2.1 := hz_row hy_29
theorem hy_33 : hz hh_33.2.1 := hz_row hy_31
theorem hy_35 : hz hh_35.2.1 := hz_row hy_33
theorem hy_37 : hz hh_37.2.1 := hz_row hy_35
theorem hy_39 : hz hh_39.2.1 := hz_row hy_37
theorem hy_41 : hz hh_41.2.1 := hz_row hy_39
theorem hy_43 : hz hh_43.2.1 := hz_row hy_41
theorem hy_45 : hz hh_45.2.1 := hz_row hy_43
theorem hy_47 : hz hh_47.2.1 := hz_row hy_45
theorem hy_49 : hz hh_49.2.1 := hz_row hy_47
theorem hy_51 : hz hh_51.2.1 := hz_row hy_49
theorem hy_53 : hz hh_53.2.1 := hz_row hy_51
theorem hy_55 : hz hh_55.2.1 := hz_row hy_53
theorem hy_57 : hz hh_57.2.1 := hz_row hy_55
theorem hy_59 : hz hh_59.2.1 := hz_row hy_57
theorem hy_61 : hz hh_61.2.1 := hz_row hy_59
theorem hy_63 : hz hh_63.2.1 := hz_row hy_61
theorem hy_65 : hz hh_65.2.1 := hz_row hy_63
theorem hy_67 : hz hh_67.2.1 := hz_row hy_65
theorem hy_69 : hz hh_69.2.1 := hz_row hy_67
theorem hy_71 : hz hh_71.2.1 := hz_row hy_69
theorem hy_73 : hz hh_73.2.1 := hz_row hy_71
theorem hy_75 : hz hh_75.2.1 := hz_row hy_73
theorem hy_77 : hz hh_77.2.1 := hz_row hy_75
theorem hy_79 : hz hh_79.2.1 := hz_row hy_77
theorem hy_81 : hz hh_81.2.1 := hz_row hy_79
theorem hy_83 : hz hh_83.2.1 := hz_row hy_81
theorem hy_86 : hz hh_86.2.1 := hz_row hy_83
theorem hy_87 : hz hh_87.2.1 := hz_row hy_86
theorem hy_89 : hz hh_89.2.1 := hz_row hy_87
theorem hy_91 : hz hh_91.2.1 := hz_row hy_89
theorem hy_93 : hz hh_93.2.1 := hz_row hy_91
theorem hy_95 : hz hh_95.2.1 := hz_row hy_93
theorem hy_97 : hz hh_97.2.1 := hz_row hy_95
theorem hy_99 : hz hh_99.2.1 := hz_row hy_97
theorem hy_101 : hz hh_101.2.1 := hz_row hy_99
theorem hy_103 : hz hh_103.2.1 := hz_row hy_101
theorem hy_105 : hz hh_105.2.1 := hz_row hy_103
theorem hy_107 : hz hh_107.2.1 := hz_row hy_105
theorem hy_109 : hz hh_109.2.1 := hz_row hy_107
theorem hy_111 : hz hh_111.2.1 := hz_row hy_109
theorem hy_113 : hz hh_113.2.1 := hz_row hy_111
theorem hy_115 : hz hh_115.2.1 := hz_row hy_113
theorem hy_117 : hz hh_117.2.1 := hz_row hy_115
theorem hy_119 : hz hh_119.2.1 := hz_row hy_117
theorem hy_121 : hz hh_121.2.1 := hz_row hy_119
theorem hy_123 : hz hh_123.2.1 := hz_row hy_121
theorem hy_125 : hz hh_125.2.1 := hz_row hy_123
theorem hy_127 : hz hh_127.2.1 := hz_row hy_125
theorem hy_129 : hz hh_129.2.1 := hz_row hy_127
theorem hy_131 : hz hh_131.2.1 := hz_row hy_129
theorem hy_133 : hz hh_133.2.1 := hz_row hy_131
theorem hy_135 : hz hh_135.2.1 := hz_row hy_133
theorem hy_137 : hz hh_137.2.1 := hz_row hy_135
theorem hy_139 : hz hh_139.2.1 := hz_row hy_137
theorem hy_141 : hz hh_141.2.1 := hz_row hy_139
theorem hy_143 : hz hh_143.2.1 := hz_row hy_141
theorem hy_145 : hz hh_145.2.1 := hz_row hy_143
theorem hy_147 : hz hh_147.2.1 := hz_row hy_145
theorem hy_149 : hz hh_149.2.1 := hz_row hy_147
theorem hy_151 : hz hh_151.2.1 := hz_row hy_149
theorem hy_153 : hz hh_153.2.1 := hz_row hy_151
theorem hy_155 : hz hh_155.2.1 := hz_row hy_153
theorem hy_157 : hz hh_157.2.1 := hz_row hy_155
theorem hy_159 : hz hh_159.2.1 := hz_row hy_157
theorem hy_161 : hz hh_161.2.1 := hz_row hy_159
theorem hy_163 : hz hh_163.2.1 := hz_row hy_161
theorem hy_166 : hz hh_166.2.1 := hz_row hy_163
theorem hy_167 : hz hh_167.2.1 := hz_up hy_166 (hz_0 _ _)
theorem hy_168 : hz hh_168.2.1 := hz_up hy_167 (hz_0 _ _)
theorem hy_169 : hz hh_169.2.1 := hz_up hy_168 (hz_0 _ _)
theorem hy_170 : hz hh_170.2.1 := hz_up hy_169 (hz_0 _ _)
theorem hy_171 : hz hh_171.2.1 := hz_up hy_170 (hz_0 _ _)
theorem hy_172 : hz hh_172.2.1 := hz_row hy_171
theorem hy_174 : hz hh_174.2.1 := hz_row hy_172
theorem hy_176 : hz hh_176.2.1 := hz_row hy_174
theorem hy_178 : hz hh_178.2.1 := hz_up hy_176 (hz_0 _ _)
theorem hy_179 : hz hh_179.2.1 := hz_up hy_178 (hz_0 _ _)
theorem hy_180 : hz hh_180.2.1 := hz_up hy_179 (aLe_in (A := [(-1, -1, 1)]) (by decide +kernel) (aR1_in (lo := -1) (hi := -1) (by decide) (by decide)))
theorem hy_184 : hz hh_184.2.1 := hz_row hy_180
theorem hy_185 : hz hh_185.2.1 := hz_up hy_184 (hz_0 _ _)
theorem hy_186 : hz hh_186.2.1 := hz_up hy_185 (hz_0 _ _)
theorem hy_187 : hz hh_187.2.1 := hz_row hy_186
theorem hy_189 : hz hh_189.2.1 := hz_row hy_187
theorem hy_191 : hz hh_191.2.1 := hz_row hy_189
theorem hy_193 : hz hh_193.2.1 := hz_row hy_191
theorem hy_195 : hz hh_195.2.1 := hz_row hy_193
theorem hy_198 : hz hh_198.2.1 := hz_row hy_195
theorem hy_199 : hz hh_199.2.1 := hz_up hy_198 (hz_0 _ _)
theorem hy_200 : hz hh_200.2.1 := hz_up hy_199 (hz_0 _ _)
theorem hy_201 : hz hh_201.2.1 := hz_up hy_200 (hz_0 _ _)
theorem hy_202 : hz hh_202.2.1 := hz_up hy_201 (aLe_in (A := [(-2, -2, 1)]) (by decide +kernel) (aR1_in (lo := -2) (hi := -2) (by decide) (by decide)))
theorem hy_203 : hz hh_203.2.1 := hz_row hy_202
theorem hy_207 : hz hh_207.2.1 := hz_row hy_203
theorem hy_208 : hz hh_208.2.1 := hz_row hy_207
theorem hy_210 : hz hh_210.2.1 := hz_up hy_208 (aLe_in (A := [(-2, -2, 1)]) (by decide +kernel) (aR1_in (lo := -2) (hi := -2) (by decide) (by decide)))
theorem hy_211 : hz hh_211.2.1 := hz_up hy_210 (hz_0 _ _)
theorem hy_212 : hz hh_212.2.1 := hz_up hy_211 (hz_0 _ _)
theorem hy_217 : hz hh_217.2.1 := hz_row hy_212
theorem hy_218 : hz hh_218.2.1 := hz_row hy_217
theorem hy_220 : hz hh_220.2.1 := hz_row hy_218
theorem hy_222 : hz hh_222.2.1 := hz_row hy_220
theorem hy_226 : hz hh_226.2.1 := hz_row hy_222
theorem hy_227 : hz hh_227.2.1 := hz_row hy_226
theorem hy_229 : hz hh_229.2.1 := hz_row hy_227
theorem hy_231 : hz hh_231.2.1 := hz_up hy_229 (hz_0 _ _)
theorem hy_232 : hz hh_232.2.1 := hz_up hy_231 (hz_0 _ _)
theorem hy_233 : hz hh_233.2.1 := hz_row hy_232
theorem hy_236 : hz hh_236.2.1 := hz_row hy_233
theorem hy_238 : hz hh_238.2.1 := hz_up hy_236 (hz_0 _ _)
theorem hy_239 : hz hh_239.2.1 := hz_up hy_238 (hz_0 _ _)
theorem hy_240 : hz hh_240.2.1 := hz_row hy_239
theorem hy_242 : hz hh_242.2.1 := hz_up hy_240 (hz_0 _ _)
theorem hy_243 : hz hh_243.2.1 := hz_row hy_242
theorem hy_244 : hz hh_244.2.1 := hz_up hy_243 (hz_0 _ _)
theorem hy_245 : hz hh_245.2.1 := hz_up hy_244 (hz_0 _ _)
theorem hy_246 : hz hh_246.2.1 := hz_row hy_245
theorem hy_248 : hz hh_248.2.1 := hz_row hy_246
theorem hy_250 : hz hh_250.2.1 := hz_row hy_248
theorem hy_252 : hz hh_252.2.1 := hz_row hy_250
theorem hy_254 : hz hh_254.2.1 := hz_row hy_252
theorem hy_257 : hz hh_257.2.1 := hz_row hy_254
theorem hy_258 : hz hh_258.2.1 := hz_up hy_257 (hz_0 _ _)
theorem hy_259 : hz hh_259.2.1 := hz_up hy_258 (hz_0 _ _)
theorem hy_260 : hz hh_260.2.1 := hz_row hy_259
theorem hy_262 : hz hh_262.2.1 := hz_row hy_260
theorem hy_264 : hz hh_264.2.1 := hz_row hy_262
theorem hy_266 : hz hh_266.2.1 := hz_row hy_264
theorem hy_268 : hz hh_268.2.1 := hz_row hy_266
theorem hy_271 : hz hh_271.2.1 := hz_row hy_268
theorem hy_272 : hz hh_272.2.1 := hz_up hy_271 (hz_0 _ _)
theorem hy_273 : hz hh_273.2.1 := hz_up hy_272 (hz_0 _ _)
theorem hy_274 : hz hh_274.2.1 := hz_row hy_273
theorem hy_276 : hz hh_276.2.1 := hz_row hy_274
theorem hy_278 : hz hh_278.2.1 := hz_row hy_276
theorem hy_280 : hz hh_280.2.1 := hz_row hy_278
theorem hy_282 : hz hh_282.2.1 := hz_row hy_280
theorem hy_285 : hz hh_285.2.1 := hz_row hy_282
theorem hy_286 : hz hh_286.2.1 := hz_up hy_285 (hz_0 _ _)
theorem hy_287 : hz hh_287.2.1 := hz_up hy_286 (hz_0 _ _)
theorem hy_288 : hz hh_288.2.1 := hz_row hy_287
theorem hy_290 : hz hh_290.2.1 := hz_row hy_288
theorem hy_292 : hz hh_292.2.1 := hz_row hy_290
theorem hy_294 : hz hh_294.2.1 := hz_row hy_292
theorem hy_296 : hz hh_296.2.1 := hz_row hy_294
theorem hy_299 : hz hh_299.2.1 := hz_row hy_296
theorem hy_300 : hz hh_300.2.1 := hz_up hy_299 (hz_0 _ _)
theorem hy_301 : hz hh_301.2.1 := hz_up hy_300 (hz_0 _ _)
theorem hy_302 : hz hh_302.2.1 := hz_row hy_301
theorem hy_304 : hz hh_304.2.1 := hz_row hy_302
theorem hy_306 : hz hh_306.2.1 := hz_row hy_304
theorem hy_308 : hz hh_308.2.1 := hz_row hy_306
theorem hy_310 : hz hh_310.2.1 := hz_row hy_308
theorem hy_313 : hz hh_313.2.1 := hz_row hy_310
theorem hy_314 : hz hh_314.2.1 := hz_up hy_313 (hz_0 _ _)
theorem hy_315 : hz hh_315.2.1 := hz_up hy_314 (hz_0 _ _)
theorem hy_316 : hz hh_316.2.1 := hz_row hy_315
theorem hy_318 : hz hh_318.2.1 := hz_row hy_316
theorem hy_320 : hz hh_320.2.1 := hz_row hy_318
theorem hy_322 : hz hh_322.2.1 := hz_row hy_320
theorem hy_324 : hz hh_324.2.1 := hz_row hy_322
theorem hy_327 : hz hh_327.2.1 := hz_row hy_324
theorem hy_328 : hz hh_328.2.1 := hz_up hy_327 (hz_0 _ _)
theorem hy_329 : hz hh_329.2.1 := hz_up hy_328 (hz_0 _ _)
theorem hy_330 : hz hh_330.2.1 := hz_row hy_329
theorem hy_332 : hz hh_332.2.1 := hz_row hy_330
theorem hy_334 : hz hh_334.2.1 := hz_row hy_332
theorem hy_336 : hz hh_336.2.1 := hz_row hy_334
theorem hy_338 : hz hh_338.2.1 := hz_row hy_336
theorem hy_341 : hz hh_341.2.1 := hz_row hy_338
theorem hy_342 : hz hh_342.2.1 := hz_up hy_341 (hz_0 _ _)
theorem hy_343 : hz hh_343.2.1 := hz_up hy_342 (hz_0 _ _)
theorem hy_344 : hz hh_344.2.1 := hz_row hy_343
theorem hy_346 : hz hh_346.2.1 := hz_row hy_344
theorem hy_348 : hz hh_348.2.1 := hz_row hy_346
theorem hy_350 : hz hh_350.2.1 := hz_row hy_348
theorem hy_352 : hz hh_352.2.1 := hz_row hy_350
theorem hy_355 : hz hh_355.2.1 := hz_row hy_352
theorem hy_356 : hz hh_356.2.1 := hz_up hy_355 (hz_0 _ _)
theorem hy_357 : hz hh_357.2.1 := hz_up hy_356 (hz_0 _ _)
theorem hy_358 : hz hh_358.2.1 := hz_row hy_357
theorem hy_360 : hz hh_360.2.1 := hz_row hy_358
theorem hy_362 : hz hh_362.2.1 := hz_row hy_360
theorem hy_364 : hz hh_364.2.1 := hz_row hy_362
theorem hy_366 : hz hh_366.2.1 := hz_row hy_364
theorem hy_369 : hz hh_369.2.1 := hz_row hy_366
theorem hy_370 : hz hh_370.2.1 := hz_up hy_369 (hz_0 _ _)
theorem hy_371 : hz hh_371.2.1 := hz_up hy_370 (hz_0 _ _)
theorem hy_372 : hz hh_372.2.1 := hz_row hy_371
theorem hy_374 : hz hh_374.2.1 := hz_row hy_372
theorem hy_376 : hz hh_376.2.1 := hz_row hy_374
theorem hy_378 : hz hh_378.2.1 := hz_row hy_376
theorem hy_380 : hz hh_380.2.1 := hz_row hy_378
theorem hy_383 : hz hh_383.2.1 := hz_row hy_380
theorem hy_384 : hz hh_384.2.1 := hz_up hy_383 (hz_0 _ _)
theorem hy_385 : hz hh_385.2.1 := hz_up hy_384 (hz_0 _ _)
theorem hy_386 : hz hh_386.2.1 := hz_row hy_385
theorem hy_388 : hz hh_388.2.1 := hz_row hy_386
theorem hy_390 : hz hh_390.2.1 := hz_row hy_388
theorem hy_392 : hz hh_392.2.1 := hz_row hy_390
theorem hy_394 : hz hh_394.2.1 := hz_row hy_392
theorem hy_397 : hz hh_397.2.1 := hz_row hy_394
theorem hy_398 : hz hh_398.2.1 := hz_up hy_397 (hz_0 _ _)
theorem hy_399 : hz hh_399.2.1 := hz_up hy_398 (hz_0 _ _)
theorem hy_400 : hz hh_400.2.1 := hz_row hy_399
theorem hy_402 : hz hh_402.2.1 := hz_row hy_400
theorem hy_404 : hz hh_404.2.1 := hz_row hy_402
theorem hy_406 : hz hh_406.2.1 := hz_row hy_404
theorem hy_408 : hz hh_408.2.1 := hz_row hy_406
theorem hy_411 : hz hh_411.2.1 := hz_row hy_408
theorem hy_412 : hz hh_412.2.1 := hz_up hy_411 (hz_0 _ _)
theorem hy_413 : hz hh_413.2.1 := hz_up hy_412 (hz_0 _ _)
theorem hy_414 : hz hh_414.2.1 := hz_row hy_413
theorem hy_416 : hz hh_416.2.1 := hz_row hy_414
theorem hy_418 : hz hh_418.2.1 := hz_row hy_416
theorem hy_420 : hz hh_420.2.1 := hz_row hy_418
theorem hy_422 : hz hh_422.2.1 := hz_row hy_420
theorem hy_425 : hz hh_425.2.1 := hz_row hy_422
theorem hy_426 : hz hh_426.2.1 := hz_up hy_425 (hz_0 _ _)
theorem hy_427 : hz hh_427.2.1 := hz_up hy_426 (hz_0 _ _)
theorem hy_428 : hz hh_428.2.1 := hz_row hy_427
theorem hy_430 : hz hh_430.2.1 := hz_row hy_428
theorem hy_432 : hz hh_432.2.1 := hz_row hy_430
theorem hy_434 : hz hh_434.2.1 := hz_row hy_432
theorem hy_436 : hz hh_436.2.1 := hz_row hy_434
theorem hy_439 : hz hh_439.2.1 := hz_row hy_436
theorem hy_440 : hz hh_440.2.1 := hz_up hy_439 (hz_0 _ _)
theorem hy_441 : hz hh_441.2.1 := hz_up hy_440 (hz_0 _ _)
theorem hy_442 : hz hh_442.2.1 := hz_row hy_441
theorem hy_444 : hz hh_444.2.1 := hz_row hy_442
theorem hy_446 : hz hh_446.2.1 := hz_row hy_444
theorem hy_448 : hz hh_448.2.1 := hz_row hy_446
theorem hy_450 : hz hh_450.2.1 := hz_row hy_448
theorem hy_453 : hz hh_453.2.1 := hz_row hy_450
theorem hy_454 : hz hh_454.2.1 := hz_row hy_453
theorem hy_456 : hz hh_456.2.1 := hz_up hy_454 (aLe_in (A := [(-1, -1, 1)]) (by decide +kernel) (aR1_in (lo := -1) (hi := -1) (by decide) (by decide)))
theorem hy_457 : hz hh_457.2.1 := hz_row hy_456
theorem hy_459 : hz hh_459.2.1 := hz_row hy_457
theorem hy_461 : hz hh_461.2.1 := hz_row hy_459
theorem hy_463 : hz hh_463.2.1 := hz_row hy_461
theorem hy_465 : hz hh_465.2.1 := hz_row hy_463
theorem hy_467 : hz hh_467.2.1 := hz_row hy_465
theorem hy_469 : hz hh_469.2.1 := hz_row hy_467
theorem hy_471 : hz hh_471.2.1 := hz_row hy_469
theorem hy_473 : hz hh_473.2.1 := hz_row hy_471
theorem hy_475 : hz hh_475.2.1 := hz_row hy_473
theorem hy_477 : hz hh_477.2.1 := hz_row hy_475
theorem hy_479 : hz hh_479.2.1 := hz_row hy_477
theorem hy_481 : hz hh_481.2.1 := hz_row hy_479
theorem hy_483 : hz hh_483.2.1 := hz_row hy_481
theorem hy_485 : hz hh_485.2.1 := hz_row hy_483
theorem hy_487 : hz hh_487.2.1 := hz_row hy_485
set_option maxRecDepth 100000 in
theorem hk_sh : (List.range 214).all (fun a => decide (zsh hh_487 a = wSh[a]?)) = true := by decide +kernel
set_option maxRecDepth 100000 in
theorem hk_ln : wSh.length = 214 := by decide +kernel
set_option maxRecDepth 100000 in
theorem hk_rf : (List.range wR.length).all (fun a => (List.range (wR.getD a []).length).all (fun k => match (wR.getD a []).getD k none with | some b => decide (hh_487.2.2.2.1 a k = some b) | none => true)) = true := by decide +kernel
set_option maxRecDepth 100000 in
theorem hk_im : wI.all (fun i => i.1.any (fun c => decide (hh_487.2.1 c.1.1 c.1.2 = 0) && c.2.all (fun p => ile 1 p.1 || ile p.2.1 (-1))) || (decide (hh_487.2.1 i.2.1.1 i.2.1.2 = 0) && aLe [(0, 0, 1)] i.2.2)) = true := by decide +kernel
theorem hOK_beg : hOK wd hh_487 := by
  refine ⟨fun a q hq => ?_, hy_487, fun a k b hb => ?_, fun i hi hc => ?_, zble rfl⟩
  · have hq : wSh[a]? = some q := hq
    have ha : a < 214 := by
      have := (List.getElem?_eq_some_iff.mp hq).1
      rw [hk_ln] at this
      exact this
    have := of_decide_eq_true (List.all_eq_true.mp hk_sh a (List.mem_range.mpr ha))
    rw [this]
    exact hq
  · have hb : (wR.getD a []).getD k none = some b := hb
    have hk : k < (wR.getD a []).length := by
      rcases Nat.lt_or_ge k (wR.getD a []).length with z | z
      · exact z
      · rw [List.getD_eq_getElem?_getD (l := wR.getD a []), List.getElem?_eq_none z] at hb
        cases hb
    have ha : a < wR.length := by
      rcases Nat.lt_or_ge a wR.length with z | z
      · exact z
      · rw [List.getD_eq_getElem?_getD (l := wR), List.getElem?_eq_none z] at hk
        exact absurd hk (Nat.not_lt_zero _)
    have := List.all_eq_true.mp (List.all_eq_true.mp hk_rf a (List.mem_range.mpr ha)) k (List.mem_range.mpr hk)
    rw [hb] at this
    exact of_decide_eq_true this
  · have hor := List.all_eq_true.mp hk_im i hi
    rw [Bool.or_eq_true] at hor
    rcases hor with hor | hor
    rotate_left
    · rw [Bool.and_eq_true] at hor
      rw [of_decide_eq_true hor.1]
      exact aLe_in hor.2 (aR1_in (lo := 0) (hi := 0) (by decide) (by decide))
    obtain ⟨c, hcm, hcc⟩ := List.any_eq_true.mp hor
    rw [Bool.and_eq_true] at hcc
    have h0 := of_decide_eq_true hcc.1
    obtain ⟨p, hp, a, b, -⟩ := hc c hcm
    rw [h0] at a b
    have a : p.1 ≤ 0 := a
    have b : 0 ≤ p.2.1 := b
    have := List.all_eq_true.mp hcc.2 p hp
    rw [Bool.or_eq_true, ile_iff, ile_iff] at this
    omega
theorem l_law {L : Nat} {xs : Nat → Int32} (hL : L ≤ 3072) : zEx (some (L, xs)) 1005 mL_law (0, [(0, .inr (.inr (some 1000000)))], [], hh_0) zQL := by
  refine k_law0 1001 ?_
  refine ex_iconst (v := nI 0) (pc' := 21) dL_law_20 (by decide) rfl ?_
  refine ex_istore (pc' := 23) dL_law_21 (by decide) rfl rfl ?_
  refine l_loop2 hL 520 0 0 hh_487 _ (by omega) (by omega) (by decide) ⟨hOK_beg, .inl ?_, ?_, Nat.le_refl _, rfl, ?_, ?_⟩ lZ_beg ⟨rfl, rfl, rfl, rfl, rfl⟩
  · intro q hq
    have hk : rv0.all (fun q => decide (hh_487.2.2.2.1 q.1.1 q.1.2 = some q.2)) = true := by decide +kernel
    exact of_decide_eq_true (List.all_eq_true.mp hk q hq)
  · decide +kernel
  · intro k hk
    have e : hh_487.2.1 196 2 = 0 := by decide +kernel
    rw [e] at hk
    have : (0 : Int32).toInt = 0 := by decide
    omega
  · refine ⟨⟨pA0, 2, ⟨pI_0, .inl rfl, by decide +kernel, ⟨by decide +kernel, by decide +kernel, by decide +kernel, by decide +kernel, by decide +kernel, by decide +kernel, fun i hi => absurd hi (Nat.not_lt_zero i), fun i hi => absurd hi (Nat.not_lt_zero i), fun i hi => absurd hi (Nat.not_lt_zero i), fun j hj => absurd rfl hj⟩, .inl ⟨by decide +kernel, rfl⟩⟩, tA_0⟩, by decide +kernel, ⟨?_, ?_⟩, by decide +kernel⟩
    · have e1 : hh_487.2.1 0 2 = 0 := by decide +kernel
      have e2 : hh_487.2.1 196 11 = 0 := by decide +kernel
      rw [e1, e2]
    · have e2 : hh_487.2.1 196 11 = 0 := by decide +kernel
      rw [e2]
      exact fun z => absurd z (by decide)
