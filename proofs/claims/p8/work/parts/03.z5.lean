set_option maxRecDepth 100000 in
def oJ3_checkIndex_8e157 : List dLf := [(0, .iload_n 0, 1), (1, .ifCond .lt 8, 3), (4, .iload_n 0, 1), (5, .iload_n 1, 1), (6, .if_icmp .lt 10, 3), (9, .aload_n 2, 1), (10, .iload_n 0, 1), (11, .iload_n 1, 1), (12, .invokestatic 95, 3), (15, .athrow, 1), (16, .iload_n 0, 1), (17, .ireturn, 1)]
set_option maxRecDepth 100000 in
theorem odJ3_checkIndex_8e157 : ∀ q ∈ oJ3_checkIndex_8e157, decode cJ3_checkIndex_8e157 q.1 = .ok (q.2.1, q.2.2) := by decide +kernel
set_option maxRecDepth 100000 in
def tJ3_checkIndex_8e157 : Lean.RArray dLf := .branch 10 (.branch 5 (.branch 1 (.leaf (0, .iload_n 0, 1)) (.branch 4 (.leaf (1, .ifCond .lt 8, 3)) (.leaf (4, .iload_n 0, 1)))) (.branch 6 (.leaf (5, .iload_n 1, 1)) (.branch 9 (.leaf (6, .if_icmp .lt 10, 3)) (.leaf (9, .aload_n 2, 1))))) (.branch 15 (.branch 11 (.leaf (10, .iload_n 0, 1)) (.branch 12 (.leaf (11, .iload_n 1, 1)) (.leaf (12, .invokestatic 95, 3)))) (.branch 16 (.leaf (15, .athrow, 1)) (.branch 17 (.leaf (16, .iload_n 0, 1)) (.leaf (17, .ireturn, 1)))))
set_option maxRecDepth 100000 in
theorem ofJ3_checkIndex_8e157 : dFl tJ3_checkIndex_8e157 = oJ3_checkIndex_8e157 := rfl
set_option maxRecDepth 100000 in
def oJ7_fill_53178 : List dLf := [(0, .iconst 0, 1), (1, .istore_n 2, 1), (2, .aload_n 0, 1), (3, .arraylength, 1), (4, .istore_n 3, 1), (5, .iload_n 2, 1), (6, .iload_n 3, 1), (7, .if_icmp .ge 13, 3), (10, .aload_n 0, 1), (11, .iload_n 2, 1), (12, .iload_n 1, 1), (13, .iastore, 1), (14, .iinc 2 1, 3), (17, .goto (-12), 3), (20, .return_, 1)]
set_option maxRecDepth 100000 in
theorem odJ7_fill_53178 : ∀ q ∈ oJ7_fill_53178, decode cJ7_fill_53178 q.1 = .ok (q.2.1, q.2.2) := by decide +kernel
set_option maxRecDepth 100000 in
def tJ7_fill_53178 : Lean.RArray dLf := .branch 7 (.branch 3 (.branch 1 (.leaf (0, .iconst 0, 1)) (.branch 2 (.leaf (1, .istore_n 2, 1)) (.leaf (2, .aload_n 0, 1)))) (.branch 5 (.branch 4 (.leaf (3, .arraylength, 1)) (.leaf (4, .istore_n 3, 1))) (.branch 6 (.leaf (5, .iload_n 2, 1)) (.leaf (6, .iload_n 3, 1))))) (.branch 13 (.branch 11 (.branch 10 (.leaf (7, .if_icmp .ge 13, 3)) (.leaf (10, .aload_n 0, 1))) (.branch 12 (.leaf (11, .iload_n 2, 1)) (.leaf (12, .iload_n 1, 1)))) (.branch 17 (.branch 14 (.leaf (13, .iastore, 1)) (.leaf (14, .iinc 2 1, 3))) (.branch 20 (.leaf (17, .goto (-12), 3)) (.leaf (20, .return_, 1)))))
set_option maxRecDepth 100000 in
theorem ofJ7_fill_53178 : dFl tJ7_fill_53178 = oJ7_fill_53178 := rfl
set_option maxRecDepth 100000 in
def oJ6_bitCount_0f7a4 : List dLf := [(0, .iload_n 0, 1), (1, .iload_n 0, 1), (2, .iconst 1, 1), (3, .iushr, 1), (4, .ldc_w 265, 3), (7, .iand, 1), (8, .isub, 1), (9, .istore_n 0, 1), (10, .iload_n 0, 1), (11, .ldc_w 266, 3), (14, .iand, 1), (15, .iload_n 0, 1), (16, .iconst 2, 1), (17, .iushr, 1), (18, .ldc_w 266, 3), (21, .iand, 1), (22, .iadd, 1), (23, .istore_n 0, 1), (24, .iload_n 0, 1), (25, .iload_n 0, 1), (26, .iconst 4, 1), (27, .iushr, 1), (28, .iadd, 1), (29, .ldc_w 267, 3), (32, .iand, 1), (33, .istore_n 0, 1), (34, .iload_n 0, 1), (35, .iload_n 0, 1), (36, .bipush 8, 2), (38, .iushr, 1), (39, .iadd, 1), (40, .istore_n 0, 1), (41, .iload_n 0, 1), (42, .iload_n 0, 1), (43, .bipush 16, 2), (45, .iushr, 1), (46, .iadd, 1), (47, .istore_n 0, 1), (48, .iload_n 0, 1), (49, .bipush 63, 2), (51, .iand, 1), (52, .ireturn, 1)]
set_option maxRecDepth 100000 in
theorem odJ6_bitCount_0f7a4 : ∀ q ∈ oJ6_bitCount_0f7a4, decode cJ6_bitCount_0f7a4 q.1 = .ok (q.2.1, q.2.2) := by decide +kernel
set_option maxRecDepth 100000 in
def tJ6_bitCount_0f7a4 : Lean.RArray dLf := .branch 27 (.branch 14 (.branch 7 (.branch 2 (.branch 1 (.leaf (0, .iload_n 0, 1)) (.leaf (1, .iload_n 0, 1))) (.branch 3 (.leaf (2, .iconst 1, 1)) (.branch 4 (.leaf (3, .iushr, 1)) (.leaf (4, .ldc_w 265, 3))))) (.branch 9 (.branch 8 (.leaf (7, .iand, 1)) (.leaf (8, .isub, 1))) (.branch 10 (.leaf (9, .istore_n 0, 1)) (.branch 11 (.leaf (10, .iload_n 0, 1)) (.leaf (11, .ldc_w 266, 3)))))) (.branch 21 (.branch 16 (.branch 15 (.leaf (14, .iand, 1)) (.leaf (15, .iload_n 0, 1))) (.branch 17 (.leaf (16, .iconst 2, 1)) (.branch 18 (.leaf (17, .iushr, 1)) (.leaf (18, .ldc_w 266, 3))))) (.branch 24 (.branch 22 (.leaf (21, .iand, 1)) (.branch 23 (.leaf (22, .iadd, 1)) (.leaf (23, .istore_n 0, 1)))) (.branch 25 (.leaf (24, .iload_n 0, 1)) (.branch 26 (.leaf (25, .iload_n 0, 1)) (.leaf (26, .iconst 4, 1))))))) (.branch 40 (.branch 34 (.branch 29 (.branch 28 (.leaf (27, .iushr, 1)) (.leaf (28, .iadd, 1))) (.branch 32 (.leaf (29, .ldc_w 267, 3)) (.branch 33 (.leaf (32, .iand, 1)) (.leaf (33, .istore_n 0, 1))))) (.branch 36 (.branch 35 (.leaf (34, .iload_n 0, 1)) (.leaf (35, .iload_n 0, 1))) (.branch 38 (.leaf (36, .bipush 8, 2)) (.branch 39 (.leaf (38, .iushr, 1)) (.leaf (39, .iadd, 1)))))) (.branch 46 (.branch 42 (.branch 41 (.leaf (40, .istore_n 0, 1)) (.leaf (41, .iload_n 0, 1))) (.branch 43 (.leaf (42, .iload_n 0, 1)) (.branch 45 (.leaf (43, .bipush 16, 2)) (.leaf (45, .iushr, 1))))) (.branch 49 (.branch 47 (.leaf (46, .iadd, 1)) (.branch 48 (.leaf (47, .istore_n 0, 1)) (.leaf (48, .iload_n 0, 1)))) (.branch 51 (.leaf (49, .bipush 63, 2)) (.branch 52 (.leaf (51, .iand, 1)) (.leaf (52, .ireturn, 1)))))))
set_option maxRecDepth 100000 in
theorem ofJ6_bitCount_0f7a4 : dFl tJ6_bitCount_0f7a4 = oJ6_bitCount_0f7a4 := rfl
theorem dL_law_0 : decode cL_law 0 = .ok (.new 8, 3) := by decide +kernel
theorem dL_law_3 : decode cL_law 3 = .ok (.dup, 1) := by decide +kernel
theorem dL_law_4 : decode cL_law 4 = .ok (.invokespecial 15, 3) := by decide +kernel
theorem dL_law_7 : decode cL_law 7 = .ok (.astore_n 1, 1) := by decide +kernel
theorem dL_law_8 : decode cL_law 8 = .ok (.new 16, 3) := by decide +kernel
theorem dL_law_11 : decode cL_law 11 = .ok (.dup, 1) := by decide +kernel
theorem dL_law_12 : decode cL_law 12 = .ok (.invokespecial 18, 3) := by decide +kernel
theorem dL_law_15 : decode cL_law 15 = .ok (.astore_n 2, 1) := by decide +kernel
theorem dL_law_16 : decode cL_law 16 = .ok (.iconst 1, 1) := by decide +kernel
theorem dL_law_17 : decode cL_law 17 = .ok (.newarray .long, 2) := by decide +kernel
theorem dL_law_19 : decode cL_law 19 = .ok (.astore_n 3, 1) := by decide +kernel
theorem dL_law_20 : decode cL_law 20 = .ok (.iconst 0, 1) := by decide +kernel
theorem dL_law_21 : decode cL_law 21 = .ok (.istore 4, 2) := by decide +kernel
theorem dL_law_23 : decode cL_law 23 = .ok (.iload 4, 2) := by decide +kernel
theorem dL_law_25 : decode cL_law 25 = .ok (.aload_n 0, 1) := by decide +kernel
theorem dL_law_26 : decode cL_law 26 = .ok (.arraylength, 1) := by decide +kernel
theorem dL_law_27 : decode cL_law 27 = .ok (.bipush 6, 2) := by decide +kernel
theorem dL_law_29 : decode cL_law 29 = .ok (.isub, 1) := by decide +kernel
theorem dL_law_30 : decode cL_law 30 = .ok (.if_icmp .gt 1781, 3) := by decide +kernel
theorem dL_law_33 : decode cL_law 33 = .ok (.aload_n 0, 1) := by decide +kernel
theorem dL_law_34 : decode cL_law 34 = .ok (.iload 4, 2) := by decide +kernel
theorem dL_law_36 : decode cL_law 36 = .ok (.iaload, 1) := by decide +kernel
theorem dL_law_37 : decode cL_law 37 = .ok (.bipush 63, 2) := by decide +kernel
theorem dL_law_39 : decode cL_law 39 = .ok (.iand, 1) := by decide +kernel
theorem dL_law_40 : decode cL_law 40 = .ok (.tableswitch 1765 0 49 #[216, 289, 314, 327, 340, 377, 414, 439, 476, 513, 538, 575, 600, 649, 674, 711, 724, 737, 774, 811, 836, 861, 898, 923, 984, 1021, 1046, 1071, 1108, 1161, 1174, 1187, 1212, 1273, 1286, 1323, 1348, 1385, 1410, 1447, 1484, 1521, 1570, 1595, 1648, 1661, 1674, 1699, 1727, 1752], 216) := by decide +kernel
theorem dL_law_256 : decode cL_law 256 = .ok (.aload_n 1, 1) := by decide +kernel
theorem dL_law_257 : decode cL_law 257 = .ok (.aload_n 0, 1) := by decide +kernel
theorem dL_law_258 : decode cL_law 258 = .ok (.iload 4, 2) := by decide +kernel
theorem dL_law_260 : decode cL_law 260 = .ok (.iconst 1, 1) := by decide +kernel
theorem dL_law_261 : decode cL_law 261 = .ok (.iadd, 1) := by decide +kernel
theorem dL_law_262 : decode cL_law 262 = .ok (.iaload, 1) := by decide +kernel
theorem dL_law_263 : decode cL_law 263 = .ok (.aload_n 0, 1) := by decide +kernel
theorem dL_law_264 : decode cL_law 264 = .ok (.iload 4, 2) := by decide +kernel
theorem dL_law_266 : decode cL_law 266 = .ok (.iconst 2, 1) := by decide +kernel
theorem dL_law_267 : decode cL_law 267 = .ok (.iadd, 1) := by decide +kernel
theorem dL_law_268 : decode cL_law 268 = .ok (.iaload, 1) := by decide +kernel
theorem dL_law_269 : decode cL_law 269 = .ok (.aload_n 0, 1) := by decide +kernel
theorem dL_law_270 : decode cL_law 270 = .ok (.iload 4, 2) := by decide +kernel
theorem dL_law_272 : decode cL_law 272 = .ok (.iconst 3, 1) := by decide +kernel
theorem dL_law_273 : decode cL_law 273 = .ok (.iadd, 1) := by decide +kernel
theorem dL_law_274 : decode cL_law 274 = .ok (.iaload, 1) := by decide +kernel
theorem dL_law_275 : decode cL_law 275 = .ok (.aload_n 0, 1) := by decide +kernel
theorem dL_law_276 : decode cL_law 276 = .ok (.iload 4, 2) := by decide +kernel
theorem dL_law_278 : decode cL_law 278 = .ok (.iconst 4, 1) := by decide +kernel
theorem dL_law_279 : decode cL_law 279 = .ok (.iadd, 1) := by decide +kernel
theorem dL_law_280 : decode cL_law 280 = .ok (.iaload, 1) := by decide +kernel
theorem dL_law_281 : decode cL_law 281 = .ok (.aload_n 0, 1) := by decide +kernel
theorem dL_law_282 : decode cL_law 282 = .ok (.iload 4, 2) := by decide +kernel
theorem dL_law_284 : decode cL_law 284 = .ok (.iconst 5, 1) := by decide +kernel
theorem dL_law_285 : decode cL_law 285 = .ok (.iadd, 1) := by decide +kernel
theorem dL_law_286 : decode cL_law 286 = .ok (.iaload, 1) := by decide +kernel
theorem dL_law_287 : decode cL_law 287 = .ok (.invokevirtual 19, 3) := by decide +kernel
theorem dL_law_290 : decode cL_law 290 = .ok (.pop, 1) := by decide +kernel
theorem dL_law_291 : decode cL_law 291 = .ok (.aload_n 2, 1) := by decide +kernel
theorem dL_law_292 : decode cL_law 292 = .ok (.aload_n 0, 1) := by decide +kernel
theorem dL_law_293 : decode cL_law 293 = .ok (.iload 4, 2) := by decide +kernel
theorem dL_law_295 : decode cL_law 295 = .ok (.iconst 1, 1) := by decide +kernel
theorem dL_law_296 : decode cL_law 296 = .ok (.iadd, 1) := by decide +kernel
theorem dL_law_297 : decode cL_law 297 = .ok (.iaload, 1) := by decide +kernel
theorem dL_law_298 : decode cL_law 298 = .ok (.aload_n 0, 1) := by decide +kernel
theorem dL_law_299 : decode cL_law 299 = .ok (.iload 4, 2) := by decide +kernel
theorem dL_law_301 : decode cL_law 301 = .ok (.iconst 2, 1) := by decide +kernel
theorem dL_law_302 : decode cL_law 302 = .ok (.iadd, 1) := by decide +kernel
theorem dL_law_303 : decode cL_law 303 = .ok (.iaload, 1) := by decide +kernel
theorem dL_law_304 : decode cL_law 304 = .ok (.aload_n 0, 1) := by decide +kernel
theorem dL_law_305 : decode cL_law 305 = .ok (.iload 4, 2) := by decide +kernel
theorem dL_law_307 : decode cL_law 307 = .ok (.iconst 3, 1) := by decide +kernel
theorem dL_law_308 : decode cL_law 308 = .ok (.iadd, 1) := by decide +kernel
theorem dL_law_309 : decode cL_law 309 = .ok (.iaload, 1) := by decide +kernel
theorem dL_law_310 : decode cL_law 310 = .ok (.aload_n 0, 1) := by decide +kernel
theorem dL_law_311 : decode cL_law 311 = .ok (.iload 4, 2) := by decide +kernel
theorem dL_law_313 : decode cL_law 313 = .ok (.iconst 4, 1) := by decide +kernel
theorem dL_law_314 : decode cL_law 314 = .ok (.iadd, 1) := by decide +kernel
theorem dL_law_315 : decode cL_law 315 = .ok (.iaload, 1) := by decide +kernel
theorem dL_law_316 : decode cL_law 316 = .ok (.aload_n 0, 1) := by decide +kernel
theorem dL_law_317 : decode cL_law 317 = .ok (.iload 4, 2) := by decide +kernel
theorem dL_law_319 : decode cL_law 319 = .ok (.iconst 5, 1) := by decide +kernel
theorem dL_law_320 : decode cL_law 320 = .ok (.iadd, 1) := by decide +kernel
theorem dL_law_321 : decode cL_law 321 = .ok (.iaload, 1) := by decide +kernel
theorem dL_law_322 : decode cL_law 322 = .ok (.invokevirtual 23, 3) := by decide +kernel
theorem dL_law_325 : decode cL_law 325 = .ok (.pop, 1) := by decide +kernel
theorem dL_law_326 : decode cL_law 326 = .ok (.goto 1479, 3) := by decide +kernel
theorem dL_law_329 : decode cL_law 329 = .ok (.aload_n 1, 1) := by decide +kernel
theorem dL_law_330 : decode cL_law 330 = .ok (.aload_n 0, 1) := by decide +kernel
theorem dL_law_331 : decode cL_law 331 = .ok (.iload 4, 2) := by decide +kernel
theorem dL_law_333 : decode cL_law 333 = .ok (.iconst 1, 1) := by decide +kernel
theorem dL_law_334 : decode cL_law 334 = .ok (.iadd, 1) := by decide +kernel
theorem dL_law_335 : decode cL_law 335 = .ok (.iaload, 1) := by decide +kernel
theorem dL_law_336 : decode cL_law 336 = .ok (.invokevirtual 24, 3) := by decide +kernel
theorem dL_law_339 : decode cL_law 339 = .ok (.pop, 1) := by decide +kernel
theorem dL_law_340 : decode cL_law 340 = .ok (.aload_n 2, 1) := by decide +kernel
theorem dL_law_341 : decode cL_law 341 = .ok (.aload_n 0, 1) := by decide +kernel
theorem dL_law_342 : decode cL_law 342 = .ok (.iload 4, 2) := by decide +kernel
theorem dL_law_344 : decode cL_law 344 = .ok (.iconst 1, 1) := by decide +kernel
theorem dL_law_345 : decode cL_law 345 = .ok (.iadd, 1) := by decide +kernel
theorem dL_law_346 : decode cL_law 346 = .ok (.iaload, 1) := by decide +kernel
theorem dL_law_347 : decode cL_law 347 = .ok (.invokevirtual 27, 3) := by decide +kernel
theorem dL_law_350 : decode cL_law 350 = .ok (.pop, 1) := by decide +kernel
theorem dL_law_351 : decode cL_law 351 = .ok (.goto 1454, 3) := by decide +kernel
theorem dL_law_354 : decode cL_law 354 = .ok (.aload_n 1, 1) := by decide +kernel
theorem dL_law_355 : decode cL_law 355 = .ok (.invokevirtual 28, 3) := by decide +kernel
theorem dL_law_358 : decode cL_law 358 = .ok (.pop, 1) := by decide +kernel
theorem dL_law_359 : decode cL_law 359 = .ok (.aload_n 2, 1) := by decide +kernel
theorem dL_law_360 : decode cL_law 360 = .ok (.invokevirtual 32, 3) := by decide +kernel
theorem dL_law_363 : decode cL_law 363 = .ok (.pop, 1) := by decide +kernel
theorem dL_law_364 : decode cL_law 364 = .ok (.goto 1441, 3) := by decide +kernel
theorem dL_law_367 : decode cL_law 367 = .ok (.aload_n 1, 1) := by decide +kernel
theorem dL_law_368 : decode cL_law 368 = .ok (.invokevirtual 33, 3) := by decide +kernel
theorem dL_law_371 : decode cL_law 371 = .ok (.pop, 1) := by decide +kernel
theorem dL_law_372 : decode cL_law 372 = .ok (.aload_n 2, 1) := by decide +kernel
theorem dL_law_373 : decode cL_law 373 = .ok (.invokevirtual 36, 3) := by decide +kernel
theorem dL_law_376 : decode cL_law 376 = .ok (.pop, 1) := by decide +kernel
theorem dL_law_377 : decode cL_law 377 = .ok (.goto 1428, 3) := by decide +kernel
theorem dL_law_380 : decode cL_law 380 = .ok (.aload_n 1, 1) := by decide +kernel
theorem dL_law_381 : decode cL_law 381 = .ok (.aload_n 0, 1) := by decide +kernel
theorem dL_law_382 : decode cL_law 382 = .ok (.iload 4, 2) := by decide +kernel
theorem dL_law_384 : decode cL_law 384 = .ok (.iconst 1, 1) := by decide +kernel
theorem dL_law_385 : decode cL_law 385 = .ok (.iadd, 1) := by decide +kernel
theorem dL_law_386 : decode cL_law 386 = .ok (.iaload, 1) := by decide +kernel
theorem dL_law_387 : decode cL_law 387 = .ok (.aload_n 0, 1) := by decide +kernel
theorem dL_law_388 : decode cL_law 388 = .ok (.iload 4, 2) := by decide +kernel
theorem dL_law_390 : decode cL_law 390 = .ok (.iconst 2, 1) := by decide +kernel
theorem dL_law_391 : decode cL_law 391 = .ok (.iadd, 1) := by decide +kernel
theorem dL_law_392 : decode cL_law 392 = .ok (.iaload, 1) := by decide +kernel
theorem dL_law_393 : decode cL_law 393 = .ok (.invokevirtual 37, 3) := by decide +kernel
theorem dL_law_396 : decode cL_law 396 = .ok (.pop, 1) := by decide +kernel
theorem dL_law_397 : decode cL_law 397 = .ok (.aload_n 2, 1) := by decide +kernel
theorem dL_law_398 : decode cL_law 398 = .ok (.aload_n 0, 1) := by decide +kernel
theorem dL_law_399 : decode cL_law 399 = .ok (.iload 4, 2) := by decide +kernel
theorem dL_law_401 : decode cL_law 401 = .ok (.iconst 1, 1) := by decide +kernel
theorem dL_law_402 : decode cL_law 402 = .ok (.iadd, 1) := by decide +kernel
theorem dL_law_403 : decode cL_law 403 = .ok (.iaload, 1) := by decide +kernel
theorem dL_law_404 : decode cL_law 404 = .ok (.aload_n 0, 1) := by decide +kernel
theorem dL_law_405 : decode cL_law 405 = .ok (.iload 4, 2) := by decide +kernel
theorem dL_law_407 : decode cL_law 407 = .ok (.iconst 2, 1) := by decide +kernel
theorem dL_law_408 : decode cL_law 408 = .ok (.iadd, 1) := by decide +kernel
theorem dL_law_409 : decode cL_law 409 = .ok (.iaload, 1) := by decide +kernel
theorem dL_law_410 : decode cL_law 410 = .ok (.invokevirtual 41, 3) := by decide +kernel
theorem dL_law_413 : decode cL_law 413 = .ok (.pop, 1) := by decide +kernel
theorem dL_law_414 : decode cL_law 414 = .ok (.goto 1391, 3) := by decide +kernel
theorem dL_law_417 : decode cL_law 417 = .ok (.aload_n 1, 1) := by decide +kernel
theorem dL_law_418 : decode cL_law 418 = .ok (.aload_n 0, 1) := by decide +kernel
theorem dL_law_419 : decode cL_law 419 = .ok (.iload 4, 2) := by decide +kernel
theorem dL_law_421 : decode cL_law 421 = .ok (.iconst 1, 1) := by decide +kernel
theorem dL_law_422 : decode cL_law 422 = .ok (.iadd, 1) := by decide +kernel
theorem dL_law_423 : decode cL_law 423 = .ok (.iaload, 1) := by decide +kernel
theorem dL_law_424 : decode cL_law 424 = .ok (.aload_n 0, 1) := by decide +kernel
theorem dL_law_425 : decode cL_law 425 = .ok (.iload 4, 2) := by decide +kernel
theorem dL_law_427 : decode cL_law 427 = .ok (.iconst 2, 1) := by decide +kernel
theorem dL_law_428 : decode cL_law 428 = .ok (.iadd, 1) := by decide +kernel
theorem dL_law_429 : decode cL_law 429 = .ok (.iaload, 1) := by decide +kernel
theorem dL_law_430 : decode cL_law 430 = .ok (.invokevirtual 42, 3) := by decide +kernel
theorem dL_law_433 : decode cL_law 433 = .ok (.pop, 1) := by decide +kernel
theorem dL_law_434 : decode cL_law 434 = .ok (.aload_n 2, 1) := by decide +kernel
theorem dL_law_435 : decode cL_law 435 = .ok (.aload_n 0, 1) := by decide +kernel
theorem dL_law_436 : decode cL_law 436 = .ok (.iload 4, 2) := by decide +kernel
theorem dL_law_438 : decode cL_law 438 = .ok (.iconst 1, 1) := by decide +kernel
theorem dL_law_439 : decode cL_law 439 = .ok (.iadd, 1) := by decide +kernel
theorem dL_law_440 : decode cL_law 440 = .ok (.iaload, 1) := by decide +kernel
theorem dL_law_441 : decode cL_law 441 = .ok (.aload_n 0, 1) := by decide +kernel
theorem dL_law_442 : decode cL_law 442 = .ok (.iload 4, 2) := by decide +kernel
theorem dL_law_444 : decode cL_law 444 = .ok (.iconst 2, 1) := by decide +kernel
theorem dL_law_445 : decode cL_law 445 = .ok (.iadd, 1) := by decide +kernel
theorem dL_law_446 : decode cL_law 446 = .ok (.iaload, 1) := by decide +kernel
theorem dL_law_447 : decode cL_law 447 = .ok (.invokevirtual 45, 3) := by decide +kernel
theorem dL_law_450 : decode cL_law 450 = .ok (.pop, 1) := by decide +kernel
theorem dL_law_451 : decode cL_law 451 = .ok (.goto 1354, 3) := by decide +kernel
theorem dL_law_454 : decode cL_law 454 = .ok (.aload_n 1, 1) := by decide +kernel
theorem dL_law_455 : decode cL_law 455 = .ok (.aload_n 0, 1) := by decide +kernel
theorem dL_law_456 : decode cL_law 456 = .ok (.iload 4, 2) := by decide +kernel
theorem dL_law_458 : decode cL_law 458 = .ok (.iconst 1, 1) := by decide +kernel
theorem dL_law_459 : decode cL_law 459 = .ok (.iadd, 1) := by decide +kernel
theorem dL_law_460 : decode cL_law 460 = .ok (.iaload, 1) := by decide +kernel
theorem dL_law_461 : decode cL_law 461 = .ok (.invokevirtual 46, 3) := by decide +kernel
theorem dL_law_464 : decode cL_law 464 = .ok (.aload_n 2, 1) := by decide +kernel
theorem dL_law_465 : decode cL_law 465 = .ok (.aload_n 0, 1) := by decide +kernel
theorem dL_law_466 : decode cL_law 466 = .ok (.iload 4, 2) := by decide +kernel
theorem dL_law_468 : decode cL_law 468 = .ok (.iconst 1, 1) := by decide +kernel
theorem dL_law_469 : decode cL_law 469 = .ok (.iadd, 1) := by decide +kernel
theorem dL_law_470 : decode cL_law 470 = .ok (.iaload, 1) := by decide +kernel
theorem dL_law_471 : decode cL_law 471 = .ok (.invokevirtual 49, 3) := by decide +kernel
theorem dL_law_474 : decode cL_law 474 = .ok (.if_icmp .eq 1331, 3) := by decide +kernel
theorem dL_law_479 : decode cL_law 479 = .ok (.aload_n 1, 1) := by decide +kernel
theorem dL_law_480 : decode cL_law 480 = .ok (.aload_n 0, 1) := by decide +kernel
theorem dL_law_481 : decode cL_law 481 = .ok (.iload 4, 2) := by decide +kernel
theorem dL_law_483 : decode cL_law 483 = .ok (.iconst 1, 1) := by decide +kernel
theorem dL_law_484 : decode cL_law 484 = .ok (.iadd, 1) := by decide +kernel
theorem dL_law_485 : decode cL_law 485 = .ok (.iaload, 1) := by decide +kernel
theorem dL_law_486 : decode cL_law 486 = .ok (.aload_n 0, 1) := by decide +kernel
theorem dL_law_487 : decode cL_law 487 = .ok (.iload 4, 2) := by decide +kernel
theorem dL_law_489 : decode cL_law 489 = .ok (.iconst 2, 1) := by decide +kernel
theorem dL_law_490 : decode cL_law 490 = .ok (.iadd, 1) := by decide +kernel
theorem dL_law_491 : decode cL_law 491 = .ok (.iaload, 1) := by decide +kernel
theorem dL_law_492 : decode cL_law 492 = .ok (.invokevirtual 50, 3) := by decide +kernel
theorem dL_law_495 : decode cL_law 495 = .ok (.pop, 1) := by decide +kernel
theorem dL_law_496 : decode cL_law 496 = .ok (.aload_n 2, 1) := by decide +kernel
theorem dL_law_497 : decode cL_law 497 = .ok (.aload_n 0, 1) := by decide +kernel
theorem dL_law_498 : decode cL_law 498 = .ok (.iload 4, 2) := by decide +kernel
theorem dL_law_500 : decode cL_law 500 = .ok (.iconst 1, 1) := by decide +kernel
theorem dL_law_501 : decode cL_law 501 = .ok (.iadd, 1) := by decide +kernel
theorem dL_law_502 : decode cL_law 502 = .ok (.iaload, 1) := by decide +kernel
theorem dL_law_503 : decode cL_law 503 = .ok (.aload_n 0, 1) := by decide +kernel
theorem dL_law_504 : decode cL_law 504 = .ok (.iload 4, 2) := by decide +kernel
theorem dL_law_506 : decode cL_law 506 = .ok (.iconst 2, 1) := by decide +kernel
theorem dL_law_507 : decode cL_law 507 = .ok (.iadd, 1) := by decide +kernel
theorem dL_law_508 : decode cL_law 508 = .ok (.iaload, 1) := by decide +kernel
theorem dL_law_509 : decode cL_law 509 = .ok (.invokevirtual 53, 3) := by decide +kernel
theorem dL_law_512 : decode cL_law 512 = .ok (.pop, 1) := by decide +kernel
theorem dL_law_513 : decode cL_law 513 = .ok (.goto 1292, 3) := by decide +kernel
theorem dL_law_516 : decode cL_law 516 = .ok (.aload_n 1, 1) := by decide +kernel
theorem dL_law_517 : decode cL_law 517 = .ok (.aload_n 0, 1) := by decide +kernel
theorem dL_law_518 : decode cL_law 518 = .ok (.iload 4, 2) := by decide +kernel
theorem dL_law_520 : decode cL_law 520 = .ok (.iconst 1, 1) := by decide +kernel
theorem dL_law_521 : decode cL_law 521 = .ok (.iadd, 1) := by decide +kernel
theorem dL_law_522 : decode cL_law 522 = .ok (.iaload, 1) := by decide +kernel
theorem dL_law_523 : decode cL_law 523 = .ok (.aload_n 0, 1) := by decide +kernel
theorem dL_law_524 : decode cL_law 524 = .ok (.iload 4, 2) := by decide +kernel
theorem dL_law_526 : decode cL_law 526 = .ok (.iconst 2, 1) := by decide +kernel
theorem dL_law_527 : decode cL_law 527 = .ok (.iadd, 1) := by decide +kernel
theorem dL_law_528 : decode cL_law 528 = .ok (.iaload, 1) := by decide +kernel
theorem dL_law_529 : decode cL_law 529 = .ok (.invokevirtual 54, 3) := by decide +kernel
theorem dL_law_532 : decode cL_law 532 = .ok (.pop, 1) := by decide +kernel
theorem dL_law_533 : decode cL_law 533 = .ok (.aload_n 2, 1) := by decide +kernel
theorem dL_law_534 : decode cL_law 534 = .ok (.aload_n 0, 1) := by decide +kernel
theorem dL_law_535 : decode cL_law 535 = .ok (.iload 4, 2) := by decide +kernel
theorem dL_law_537 : decode cL_law 537 = .ok (.iconst 1, 1) := by decide +kernel
theorem dL_law_538 : decode cL_law 538 = .ok (.iadd, 1) := by decide +kernel
theorem dL_law_539 : decode cL_law 539 = .ok (.iaload, 1) := by decide +kernel
theorem dL_law_540 : decode cL_law 540 = .ok (.aload_n 0, 1) := by decide +kernel
theorem dL_law_541 : decode cL_law 541 = .ok (.iload 4, 2) := by decide +kernel
theorem dL_law_543 : decode cL_law 543 = .ok (.iconst 2, 1) := by decide +kernel
theorem dL_law_544 : decode cL_law 544 = .ok (.iadd, 1) := by decide +kernel
theorem dL_law_545 : decode cL_law 545 = .ok (.iaload, 1) := by decide +kernel
theorem dL_law_546 : decode cL_law 546 = .ok (.invokevirtual 57, 3) := by decide +kernel
theorem dL_law_549 : decode cL_law 549 = .ok (.pop, 1) := by decide +kernel
theorem dL_law_550 : decode cL_law 550 = .ok (.goto 1255, 3) := by decide +kernel
theorem dL_law_553 : decode cL_law 553 = .ok (.aload_n 1, 1) := by decide +kernel
theorem dL_law_554 : decode cL_law 554 = .ok (.aload_n 0, 1) := by decide +kernel
theorem dL_law_555 : decode cL_law 555 = .ok (.iload 4, 2) := by decide +kernel
theorem dL_law_557 : decode cL_law 557 = .ok (.iconst 1, 1) := by decide +kernel
theorem dL_law_558 : decode cL_law 558 = .ok (.iadd, 1) := by decide +kernel
theorem dL_law_559 : decode cL_law 559 = .ok (.iaload, 1) := by decide +kernel
theorem dL_law_560 : decode cL_law 560 = .ok (.invokevirtual 58, 3) := by decide +kernel
theorem dL_law_563 : decode cL_law 563 = .ok (.pop, 1) := by decide +kernel
theorem dL_law_564 : decode cL_law 564 = .ok (.aload_n 2, 1) := by decide +kernel
theorem dL_law_565 : decode cL_law 565 = .ok (.aload_n 0, 1) := by decide +kernel
theorem dL_law_566 : decode cL_law 566 = .ok (.iload 4, 2) := by decide +kernel
theorem dL_law_568 : decode cL_law 568 = .ok (.iconst 1, 1) := by decide +kernel
theorem dL_law_569 : decode cL_law 569 = .ok (.iadd, 1) := by decide +kernel
theorem dL_law_570 : decode cL_law 570 = .ok (.iaload, 1) := by decide +kernel
theorem dL_law_571 : decode cL_law 571 = .ok (.invokevirtual 61, 3) := by decide +kernel
theorem dL_law_574 : decode cL_law 574 = .ok (.pop, 1) := by decide +kernel
theorem dL_law_575 : decode cL_law 575 = .ok (.goto 1230, 3) := by decide +kernel
theorem dL_law_578 : decode cL_law 578 = .ok (.aload_n 1, 1) := by decide +kernel
theorem dL_law_579 : decode cL_law 579 = .ok (.aload_n 0, 1) := by decide +kernel
theorem dL_law_580 : decode cL_law 580 = .ok (.iload 4, 2) := by decide +kernel
theorem dL_law_582 : decode cL_law 582 = .ok (.iconst 1, 1) := by decide +kernel
theorem dL_law_583 : decode cL_law 583 = .ok (.iadd, 1) := by decide +kernel
theorem dL_law_584 : decode cL_law 584 = .ok (.iaload, 1) := by decide +kernel
theorem dL_law_585 : decode cL_law 585 = .ok (.aload_n 0, 1) := by decide +kernel
theorem dL_law_586 : decode cL_law 586 = .ok (.iload 4, 2) := by decide +kernel
theorem dL_law_588 : decode cL_law 588 = .ok (.iconst 2, 1) := by decide +kernel
theorem dL_law_589 : decode cL_law 589 = .ok (.iadd, 1) := by decide +kernel
theorem dL_law_590 : decode cL_law 590 = .ok (.iaload, 1) := by decide +kernel
theorem dL_law_591 : decode cL_law 591 = .ok (.invokevirtual 62, 3) := by decide +kernel
theorem dL_law_594 : decode cL_law 594 = .ok (.pop, 1) := by decide +kernel
theorem dL_law_595 : decode cL_law 595 = .ok (.aload_n 2, 1) := by decide +kernel
theorem dL_law_596 : decode cL_law 596 = .ok (.aload_n 0, 1) := by decide +kernel
theorem dL_law_597 : decode cL_law 597 = .ok (.iload 4, 2) := by decide +kernel
theorem dL_law_599 : decode cL_law 599 = .ok (.iconst 1, 1) := by decide +kernel
theorem dL_law_600 : decode cL_law 600 = .ok (.iadd, 1) := by decide +kernel
theorem dL_law_601 : decode cL_law 601 = .ok (.iaload, 1) := by decide +kernel
theorem dL_law_602 : decode cL_law 602 = .ok (.aload_n 0, 1) := by decide +kernel
theorem dL_law_603 : decode cL_law 603 = .ok (.iload 4, 2) := by decide +kernel
theorem dL_law_605 : decode cL_law 605 = .ok (.iconst 2, 1) := by decide +kernel
theorem dL_law_606 : decode cL_law 606 = .ok (.iadd, 1) := by decide +kernel
theorem dL_law_607 : decode cL_law 607 = .ok (.iaload, 1) := by decide +kernel
theorem dL_law_608 : decode cL_law 608 = .ok (.invokevirtual 65, 3) := by decide +kernel
theorem dL_law_611 : decode cL_law 611 = .ok (.pop, 1) := by decide +kernel
theorem dL_law_612 : decode cL_law 612 = .ok (.goto 1193, 3) := by decide +kernel
theorem dL_law_615 : decode cL_law 615 = .ok (.aload_n 1, 1) := by decide +kernel
theorem dL_law_616 : decode cL_law 616 = .ok (.aload_n 0, 1) := by decide +kernel
theorem dL_law_617 : decode cL_law 617 = .ok (.iload 4, 2) := by decide +kernel
theorem dL_law_619 : decode cL_law 619 = .ok (.iconst 1, 1) := by decide +kernel
theorem dL_law_620 : decode cL_law 620 = .ok (.iadd, 1) := by decide +kernel
theorem dL_law_621 : decode cL_law 621 = .ok (.iaload, 1) := by decide +kernel
theorem dL_law_622 : decode cL_law 622 = .ok (.invokevirtual 66, 3) := by decide +kernel
theorem dL_law_625 : decode cL_law 625 = .ok (.pop, 1) := by decide +kernel
theorem dL_law_626 : decode cL_law 626 = .ok (.aload_n 2, 1) := by decide +kernel
theorem dL_law_627 : decode cL_law 627 = .ok (.aload_n 0, 1) := by decide +kernel
theorem dL_law_628 : decode cL_law 628 = .ok (.iload 4, 2) := by decide +kernel
theorem dL_law_630 : decode cL_law 630 = .ok (.iconst 1, 1) := by decide +kernel
theorem dL_law_631 : decode cL_law 631 = .ok (.iadd, 1) := by decide +kernel
theorem dL_law_632 : decode cL_law 632 = .ok (.iaload, 1) := by decide +kernel
theorem dL_law_633 : decode cL_law 633 = .ok (.invokevirtual 69, 3) := by decide +kernel
theorem dL_law_636 : decode cL_law 636 = .ok (.pop, 1) := by decide +kernel
theorem dL_law_637 : decode cL_law 637 = .ok (.goto 1168, 3) := by decide +kernel
theorem dL_law_640 : decode cL_law 640 = .ok (.aload_n 1, 1) := by decide +kernel
theorem dL_law_641 : decode cL_law 641 = .ok (.aload_n 0, 1) := by decide +kernel
theorem dL_law_642 : decode cL_law 642 = .ok (.iload 4, 2) := by decide +kernel
theorem dL_law_644 : decode cL_law 644 = .ok (.iconst 1, 1) := by decide +kernel
theorem dL_law_645 : decode cL_law 645 = .ok (.iadd, 1) := by decide +kernel
theorem dL_law_646 : decode cL_law 646 = .ok (.iaload, 1) := by decide +kernel
theorem dL_law_647 : decode cL_law 647 = .ok (.aload_n 0, 1) := by decide +kernel
theorem dL_law_648 : decode cL_law 648 = .ok (.iload 4, 2) := by decide +kernel
theorem dL_law_650 : decode cL_law 650 = .ok (.iconst 2, 1) := by decide +kernel
theorem dL_law_651 : decode cL_law 651 = .ok (.iadd, 1) := by decide +kernel
theorem dL_law_652 : decode cL_law 652 = .ok (.iaload, 1) := by decide +kernel
theorem dL_law_653 : decode cL_law 653 = .ok (.aload_n 0, 1) := by decide +kernel
theorem dL_law_654 : decode cL_law 654 = .ok (.iload 4, 2) := by decide +kernel
theorem dL_law_656 : decode cL_law 656 = .ok (.iconst 3, 1) := by decide +kernel
theorem dL_law_657 : decode cL_law 657 = .ok (.iadd, 1) := by decide +kernel
theorem dL_law_658 : decode cL_law 658 = .ok (.iaload, 1) := by decide +kernel
theorem dL_law_659 : decode cL_law 659 = .ok (.invokevirtual 70, 3) := by decide +kernel
theorem dL_law_662 : decode cL_law 662 = .ok (.pop, 1) := by decide +kernel
theorem dL_law_663 : decode cL_law 663 = .ok (.aload_n 2, 1) := by decide +kernel
theorem dL_law_664 : decode cL_law 664 = .ok (.aload_n 0, 1) := by decide +kernel
theorem dL_law_665 : decode cL_law 665 = .ok (.iload 4, 2) := by decide +kernel
theorem dL_law_667 : decode cL_law 667 = .ok (.iconst 1, 1) := by decide +kernel
theorem dL_law_668 : decode cL_law 668 = .ok (.iadd, 1) := by decide +kernel
theorem dL_law_669 : decode cL_law 669 = .ok (.iaload, 1) := by decide +kernel
theorem dL_law_670 : decode cL_law 670 = .ok (.aload_n 0, 1) := by decide +kernel
theorem dL_law_671 : decode cL_law 671 = .ok (.iload 4, 2) := by decide +kernel
theorem dL_law_673 : decode cL_law 673 = .ok (.iconst 2, 1) := by decide +kernel
theorem dL_law_674 : decode cL_law 674 = .ok (.iadd, 1) := by decide +kernel
theorem dL_law_675 : decode cL_law 675 = .ok (.iaload, 1) := by decide +kernel
theorem dL_law_676 : decode cL_law 676 = .ok (.aload_n 0, 1) := by decide +kernel
theorem dL_law_677 : decode cL_law 677 = .ok (.iload 4, 2) := by decide +kernel
theorem dL_law_679 : decode cL_law 679 = .ok (.iconst 3, 1) := by decide +kernel
theorem dL_law_680 : decode cL_law 680 = .ok (.iadd, 1) := by decide +kernel
theorem dL_law_681 : decode cL_law 681 = .ok (.iaload, 1) := by decide +kernel
theorem dL_law_682 : decode cL_law 682 = .ok (.invokevirtual 74, 3) := by decide +kernel
theorem dL_law_685 : decode cL_law 685 = .ok (.pop, 1) := by decide +kernel
theorem dL_law_686 : decode cL_law 686 = .ok (.goto 1119, 3) := by decide +kernel
theorem dL_law_689 : decode cL_law 689 = .ok (.aload_n 1, 1) := by decide +kernel
theorem dL_law_690 : decode cL_law 690 = .ok (.aload_n 0, 1) := by decide +kernel
theorem dL_law_691 : decode cL_law 691 = .ok (.iload 4, 2) := by decide +kernel
theorem dL_law_693 : decode cL_law 693 = .ok (.iconst 1, 1) := by decide +kernel
theorem dL_law_694 : decode cL_law 694 = .ok (.iadd, 1) := by decide +kernel
theorem dL_law_695 : decode cL_law 695 = .ok (.iaload, 1) := by decide +kernel
theorem dL_law_696 : decode cL_law 696 = .ok (.invokevirtual 75, 3) := by decide +kernel
theorem dL_law_699 : decode cL_law 699 = .ok (.pop, 1) := by decide +kernel
theorem dL_law_700 : decode cL_law 700 = .ok (.aload_n 2, 1) := by decide +kernel
theorem dL_law_701 : decode cL_law 701 = .ok (.aload_n 0, 1) := by decide +kernel
theorem dL_law_702 : decode cL_law 702 = .ok (.iload 4, 2) := by decide +kernel
theorem dL_law_704 : decode cL_law 704 = .ok (.iconst 1, 1) := by decide +kernel
theorem dL_law_705 : decode cL_law 705 = .ok (.iadd, 1) := by decide +kernel
theorem dL_law_706 : decode cL_law 706 = .ok (.iaload, 1) := by decide +kernel
theorem dL_law_707 : decode cL_law 707 = .ok (.invokevirtual 78, 3) := by decide +kernel
theorem dL_law_710 : decode cL_law 710 = .ok (.pop, 1) := by decide +kernel
theorem dL_law_711 : decode cL_law 711 = .ok (.goto 1094, 3) := by decide +kernel
theorem dL_law_714 : decode cL_law 714 = .ok (.aload_n 1, 1) := by decide +kernel
theorem dL_law_715 : decode cL_law 715 = .ok (.aload_n 0, 1) := by decide +kernel
theorem dL_law_716 : decode cL_law 716 = .ok (.iload 4, 2) := by decide +kernel
theorem dL_law_718 : decode cL_law 718 = .ok (.iconst 1, 1) := by decide +kernel
theorem dL_law_719 : decode cL_law 719 = .ok (.iadd, 1) := by decide +kernel
theorem dL_law_720 : decode cL_law 720 = .ok (.iaload, 1) := by decide +kernel
theorem dL_law_721 : decode cL_law 721 = .ok (.aload_n 0, 1) := by decide +kernel
theorem dL_law_722 : decode cL_law 722 = .ok (.iload 4, 2) := by decide +kernel
theorem dL_law_724 : decode cL_law 724 = .ok (.iconst 2, 1) := by decide +kernel
theorem dL_law_725 : decode cL_law 725 = .ok (.iadd, 1) := by decide +kernel
theorem dL_law_726 : decode cL_law 726 = .ok (.iaload, 1) := by decide +kernel
theorem dL_law_727 : decode cL_law 727 = .ok (.invokevirtual 79, 3) := by decide +kernel
theorem dL_law_730 : decode cL_law 730 = .ok (.pop, 1) := by decide +kernel
theorem dL_law_731 : decode cL_law 731 = .ok (.aload_n 2, 1) := by decide +kernel
theorem dL_law_732 : decode cL_law 732 = .ok (.aload_n 0, 1) := by decide +kernel
theorem dL_law_733 : decode cL_law 733 = .ok (.iload 4, 2) := by decide +kernel
theorem dL_law_735 : decode cL_law 735 = .ok (.iconst 1, 1) := by decide +kernel
theorem dL_law_736 : decode cL_law 736 = .ok (.iadd, 1) := by decide +kernel
theorem dL_law_737 : decode cL_law 737 = .ok (.iaload, 1) := by decide +kernel
theorem dL_law_738 : decode cL_law 738 = .ok (.aload_n 0, 1) := by decide +kernel
theorem dL_law_739 : decode cL_law 739 = .ok (.iload 4, 2) := by decide +kernel
theorem dL_law_741 : decode cL_law 741 = .ok (.iconst 2, 1) := by decide +kernel
theorem dL_law_742 : decode cL_law 742 = .ok (.iadd, 1) := by decide +kernel
theorem dL_law_743 : decode cL_law 743 = .ok (.iaload, 1) := by decide +kernel
theorem dL_law_744 : decode cL_law 744 = .ok (.invokevirtual 82, 3) := by decide +kernel
theorem dL_law_747 : decode cL_law 747 = .ok (.pop, 1) := by decide +kernel
theorem dL_law_748 : decode cL_law 748 = .ok (.goto 1057, 3) := by decide +kernel
theorem dL_law_751 : decode cL_law 751 = .ok (.aload_n 1, 1) := by decide +kernel
theorem dL_law_752 : decode cL_law 752 = .ok (.invokevirtual 83, 3) := by decide +kernel
theorem dL_law_755 : decode cL_law 755 = .ok (.pop, 1) := by decide +kernel
theorem dL_law_756 : decode cL_law 756 = .ok (.aload_n 2, 1) := by decide +kernel
theorem dL_law_757 : decode cL_law 757 = .ok (.invokevirtual 86, 3) := by decide +kernel
theorem dL_law_760 : decode cL_law 760 = .ok (.pop, 1) := by decide +kernel
theorem dL_law_761 : decode cL_law 761 = .ok (.goto 1044, 3) := by decide +kernel
theorem dL_law_764 : decode cL_law 764 = .ok (.aload_n 1, 1) := by decide +kernel
theorem dL_law_765 : decode cL_law 765 = .ok (.invokevirtual 87, 3) := by decide +kernel
theorem dL_law_768 : decode cL_law 768 = .ok (.pop, 1) := by decide +kernel
theorem dL_law_769 : decode cL_law 769 = .ok (.aload_n 2, 1) := by decide +kernel
theorem dL_law_770 : decode cL_law 770 = .ok (.invokevirtual 90, 3) := by decide +kernel
theorem dL_law_773 : decode cL_law 773 = .ok (.pop, 1) := by decide +kernel
theorem dL_law_774 : decode cL_law 774 = .ok (.goto 1031, 3) := by decide +kernel
theorem dL_law_777 : decode cL_law 777 = .ok (.aload_n 1, 1) := by decide +kernel
theorem dL_law_778 : decode cL_law 778 = .ok (.aload_n 0, 1) := by decide +kernel
theorem dL_law_779 : decode cL_law 779 = .ok (.iload 4, 2) := by decide +kernel
theorem dL_law_781 : decode cL_law 781 = .ok (.iconst 1, 1) := by decide +kernel
theorem dL_law_782 : decode cL_law 782 = .ok (.iadd, 1) := by decide +kernel
theorem dL_law_783 : decode cL_law 783 = .ok (.iaload, 1) := by decide +kernel
theorem dL_law_784 : decode cL_law 784 = .ok (.aload_n 0, 1) := by decide +kernel
theorem dL_law_785 : decode cL_law 785 = .ok (.iload 4, 2) := by decide +kernel
theorem dL_law_787 : decode cL_law 787 = .ok (.iconst 2, 1) := by decide +kernel
theorem dL_law_788 : decode cL_law 788 = .ok (.iadd, 1) := by decide +kernel
theorem dL_law_789 : decode cL_law 789 = .ok (.iaload, 1) := by decide +kernel
theorem dL_law_790 : decode cL_law 790 = .ok (.invokevirtual 91, 3) := by decide +kernel
theorem dL_law_793 : decode cL_law 793 = .ok (.pop, 1) := by decide +kernel
theorem dL_law_794 : decode cL_law 794 = .ok (.aload_n 2, 1) := by decide +kernel
theorem dL_law_795 : decode cL_law 795 = .ok (.aload_n 0, 1) := by decide +kernel
theorem dL_law_796 : decode cL_law 796 = .ok (.iload 4, 2) := by decide +kernel
theorem dL_law_798 : decode cL_law 798 = .ok (.iconst 1, 1) := by decide +kernel
theorem dL_law_799 : decode cL_law 799 = .ok (.iadd, 1) := by decide +kernel
theorem dL_law_800 : decode cL_law 800 = .ok (.iaload, 1) := by decide +kernel
theorem dL_law_801 : decode cL_law 801 = .ok (.aload_n 0, 1) := by decide +kernel
theorem dL_law_802 : decode cL_law 802 = .ok (.iload 4, 2) := by decide +kernel
theorem dL_law_804 : decode cL_law 804 = .ok (.iconst 2, 1) := by decide +kernel
theorem dL_law_805 : decode cL_law 805 = .ok (.iadd, 1) := by decide +kernel
theorem dL_law_806 : decode cL_law 806 = .ok (.iaload, 1) := by decide +kernel
theorem dL_law_807 : decode cL_law 807 = .ok (.invokevirtual 94, 3) := by decide +kernel
theorem dL_law_810 : decode cL_law 810 = .ok (.pop, 1) := by decide +kernel
theorem dL_law_811 : decode cL_law 811 = .ok (.goto 994, 3) := by decide +kernel
theorem dL_law_814 : decode cL_law 814 = .ok (.aload_n 1, 1) := by decide +kernel
theorem dL_law_815 : decode cL_law 815 = .ok (.aload_n 0, 1) := by decide +kernel
theorem dL_law_816 : decode cL_law 816 = .ok (.iload 4, 2) := by decide +kernel
theorem dL_law_818 : decode cL_law 818 = .ok (.iconst 1, 1) := by decide +kernel
theorem dL_law_819 : decode cL_law 819 = .ok (.iadd, 1) := by decide +kernel
theorem dL_law_820 : decode cL_law 820 = .ok (.iaload, 1) := by decide +kernel
theorem dL_law_821 : decode cL_law 821 = .ok (.aload_n 0, 1) := by decide +kernel
theorem dL_law_822 : decode cL_law 822 = .ok (.iload 4, 2) := by decide +kernel
theorem dL_law_824 : decode cL_law 824 = .ok (.iconst 2, 1) := by decide +kernel
theorem dL_law_825 : decode cL_law 825 = .ok (.iadd, 1) := by decide +kernel
theorem dL_law_826 : decode cL_law 826 = .ok (.iaload, 1) := by decide +kernel
theorem dL_law_827 : decode cL_law 827 = .ok (.invokevirtual 95, 3) := by decide +kernel
theorem dL_law_830 : decode cL_law 830 = .ok (.pop, 1) := by decide +kernel
theorem dL_law_831 : decode cL_law 831 = .ok (.aload_n 2, 1) := by decide +kernel
theorem dL_law_832 : decode cL_law 832 = .ok (.aload_n 0, 1) := by decide +kernel
theorem dL_law_833 : decode cL_law 833 = .ok (.iload 4, 2) := by decide +kernel
theorem dL_law_835 : decode cL_law 835 = .ok (.iconst 1, 1) := by decide +kernel
theorem dL_law_836 : decode cL_law 836 = .ok (.iadd, 1) := by decide +kernel
theorem dL_law_837 : decode cL_law 837 = .ok (.iaload, 1) := by decide +kernel
theorem dL_law_838 : decode cL_law 838 = .ok (.aload_n 0, 1) := by decide +kernel
theorem dL_law_839 : decode cL_law 839 = .ok (.iload 4, 2) := by decide +kernel
theorem dL_law_841 : decode cL_law 841 = .ok (.iconst 2, 1) := by decide +kernel
theorem dL_law_842 : decode cL_law 842 = .ok (.iadd, 1) := by decide +kernel
theorem dL_law_843 : decode cL_law 843 = .ok (.iaload, 1) := by decide +kernel
theorem dL_law_844 : decode cL_law 844 = .ok (.invokevirtual 98, 3) := by decide +kernel
theorem dL_law_847 : decode cL_law 847 = .ok (.pop, 1) := by decide +kernel
theorem dL_law_848 : decode cL_law 848 = .ok (.goto 957, 3) := by decide +kernel
theorem dL_law_851 : decode cL_law 851 = .ok (.aload_n 1, 1) := by decide +kernel
theorem dL_law_852 : decode cL_law 852 = .ok (.aload_n 0, 1) := by decide +kernel
theorem dL_law_853 : decode cL_law 853 = .ok (.iload 4, 2) := by decide +kernel
theorem dL_law_855 : decode cL_law 855 = .ok (.iconst 1, 1) := by decide +kernel
theorem dL_law_856 : decode cL_law 856 = .ok (.iadd, 1) := by decide +kernel
theorem dL_law_857 : decode cL_law 857 = .ok (.iaload, 1) := by decide +kernel
theorem dL_law_858 : decode cL_law 858 = .ok (.invokevirtual 99, 3) := by decide +kernel
theorem dL_law_861 : decode cL_law 861 = .ok (.pop, 1) := by decide +kernel
theorem dL_law_862 : decode cL_law 862 = .ok (.aload_n 2, 1) := by decide +kernel
theorem dL_law_863 : decode cL_law 863 = .ok (.aload_n 0, 1) := by decide +kernel
theorem dL_law_864 : decode cL_law 864 = .ok (.iload 4, 2) := by decide +kernel
theorem dL_law_866 : decode cL_law 866 = .ok (.iconst 1, 1) := by decide +kernel
theorem dL_law_867 : decode cL_law 867 = .ok (.iadd, 1) := by decide +kernel
theorem dL_law_868 : decode cL_law 868 = .ok (.iaload, 1) := by decide +kernel
theorem dL_law_869 : decode cL_law 869 = .ok (.invokevirtual 102, 3) := by decide +kernel
theorem dL_law_872 : decode cL_law 872 = .ok (.pop, 1) := by decide +kernel
theorem dL_law_873 : decode cL_law 873 = .ok (.goto 932, 3) := by decide +kernel
theorem dL_law_876 : decode cL_law 876 = .ok (.aload_n 1, 1) := by decide +kernel
theorem dL_law_877 : decode cL_law 877 = .ok (.aload_n 0, 1) := by decide +kernel
theorem dL_law_878 : decode cL_law 878 = .ok (.iload 4, 2) := by decide +kernel
theorem dL_law_880 : decode cL_law 880 = .ok (.iconst 1, 1) := by decide +kernel
theorem dL_law_881 : decode cL_law 881 = .ok (.iadd, 1) := by decide +kernel
theorem dL_law_882 : decode cL_law 882 = .ok (.iaload, 1) := by decide +kernel
theorem dL_law_883 : decode cL_law 883 = .ok (.invokevirtual 103, 3) := by decide +kernel
theorem dL_law_886 : decode cL_law 886 = .ok (.pop, 1) := by decide +kernel
theorem dL_law_887 : decode cL_law 887 = .ok (.aload_n 2, 1) := by decide +kernel
theorem dL_law_888 : decode cL_law 888 = .ok (.aload_n 0, 1) := by decide +kernel
theorem dL_law_889 : decode cL_law 889 = .ok (.iload 4, 2) := by decide +kernel
theorem dL_law_891 : decode cL_law 891 = .ok (.iconst 1, 1) := by decide +kernel
theorem dL_law_892 : decode cL_law 892 = .ok (.iadd, 1) := by decide +kernel
theorem dL_law_893 : decode cL_law 893 = .ok (.iaload, 1) := by decide +kernel
theorem dL_law_894 : decode cL_law 894 = .ok (.invokevirtual 106, 3) := by decide +kernel
theorem dL_law_897 : decode cL_law 897 = .ok (.pop, 1) := by decide +kernel
theorem dL_law_898 : decode cL_law 898 = .ok (.goto 907, 3) := by decide +kernel
theorem dL_law_901 : decode cL_law 901 = .ok (.aload_n 1, 1) := by decide +kernel
theorem dL_law_902 : decode cL_law 902 = .ok (.aload_n 0, 1) := by decide +kernel
theorem dL_law_903 : decode cL_law 903 = .ok (.iload 4, 2) := by decide +kernel
theorem dL_law_905 : decode cL_law 905 = .ok (.iconst 1, 1) := by decide +kernel
theorem dL_law_906 : decode cL_law 906 = .ok (.iadd, 1) := by decide +kernel
theorem dL_law_907 : decode cL_law 907 = .ok (.iaload, 1) := by decide +kernel
theorem dL_law_908 : decode cL_law 908 = .ok (.aload_n 0, 1) := by decide +kernel
theorem dL_law_909 : decode cL_law 909 = .ok (.iload 4, 2) := by decide +kernel
theorem dL_law_911 : decode cL_law 911 = .ok (.iconst 2, 1) := by decide +kernel
theorem dL_law_912 : decode cL_law 912 = .ok (.iadd, 1) := by decide +kernel
theorem dL_law_913 : decode cL_law 913 = .ok (.iaload, 1) := by decide +kernel
theorem dL_law_914 : decode cL_law 914 = .ok (.invokevirtual 107, 3) := by decide +kernel
theorem dL_law_917 : decode cL_law 917 = .ok (.pop, 1) := by decide +kernel
theorem dL_law_918 : decode cL_law 918 = .ok (.aload_n 2, 1) := by decide +kernel
theorem dL_law_919 : decode cL_law 919 = .ok (.aload_n 0, 1) := by decide +kernel
theorem dL_law_920 : decode cL_law 920 = .ok (.iload 4, 2) := by decide +kernel
theorem dL_law_922 : decode cL_law 922 = .ok (.iconst 1, 1) := by decide +kernel
theorem dL_law_923 : decode cL_law 923 = .ok (.iadd, 1) := by decide +kernel
theorem dL_law_924 : decode cL_law 924 = .ok (.iaload, 1) := by decide +kernel
theorem dL_law_925 : decode cL_law 925 = .ok (.aload_n 0, 1) := by decide +kernel
theorem dL_law_926 : decode cL_law 926 = .ok (.iload 4, 2) := by decide +kernel
theorem dL_law_928 : decode cL_law 928 = .ok (.iconst 2, 1) := by decide +kernel
theorem dL_law_929 : decode cL_law 929 = .ok (.iadd, 1) := by decide +kernel
theorem dL_law_930 : decode cL_law 930 = .ok (.iaload, 1) := by decide +kernel
theorem dL_law_931 : decode cL_law 931 = .ok (.invokevirtual 110, 3) := by decide +kernel
theorem dL_law_934 : decode cL_law 934 = .ok (.pop, 1) := by decide +kernel
theorem dL_law_935 : decode cL_law 935 = .ok (.goto 870, 3) := by decide +kernel
theorem dL_law_938 : decode cL_law 938 = .ok (.aload_n 1, 1) := by decide +kernel
theorem dL_law_939 : decode cL_law 939 = .ok (.aload_n 0, 1) := by decide +kernel
theorem dL_law_940 : decode cL_law 940 = .ok (.iload 4, 2) := by decide +kernel
theorem dL_law_942 : decode cL_law 942 = .ok (.iconst 1, 1) := by decide +kernel
theorem dL_law_943 : decode cL_law 943 = .ok (.iadd, 1) := by decide +kernel
theorem dL_law_944 : decode cL_law 944 = .ok (.iaload, 1) := by decide +kernel
theorem dL_law_945 : decode cL_law 945 = .ok (.invokevirtual 111, 3) := by decide +kernel
theorem dL_law_948 : decode cL_law 948 = .ok (.pop, 1) := by decide +kernel
theorem dL_law_949 : decode cL_law 949 = .ok (.aload_n 2, 1) := by decide +kernel
theorem dL_law_950 : decode cL_law 950 = .ok (.aload_n 0, 1) := by decide +kernel
theorem dL_law_951 : decode cL_law 951 = .ok (.iload 4, 2) := by decide +kernel
theorem dL_law_953 : decode cL_law 953 = .ok (.iconst 1, 1) := by decide +kernel
theorem dL_law_954 : decode cL_law 954 = .ok (.iadd, 1) := by decide +kernel
theorem dL_law_955 : decode cL_law 955 = .ok (.iaload, 1) := by decide +kernel
theorem dL_law_956 : decode cL_law 956 = .ok (.invokevirtual 114, 3) := by decide +kernel
theorem dL_law_959 : decode cL_law 959 = .ok (.pop, 1) := by decide +kernel
theorem dL_law_960 : decode cL_law 960 = .ok (.goto 845, 3) := by decide +kernel
theorem dL_law_963 : decode cL_law 963 = .ok (.aload_n 1, 1) := by decide +kernel
theorem dL_law_964 : decode cL_law 964 = .ok (.aload_n 0, 1) := by decide +kernel
theorem dL_law_965 : decode cL_law 965 = .ok (.iload 4, 2) := by decide +kernel
theorem dL_law_967 : decode cL_law 967 = .ok (.iconst 1, 1) := by decide +kernel
theorem dL_law_968 : decode cL_law 968 = .ok (.iadd, 1) := by decide +kernel
theorem dL_law_969 : decode cL_law 969 = .ok (.iaload, 1) := by decide +kernel
theorem dL_law_970 : decode cL_law 970 = .ok (.aload_n 0, 1) := by decide +kernel
theorem dL_law_971 : decode cL_law 971 = .ok (.iload 4, 2) := by decide +kernel
theorem dL_law_973 : decode cL_law 973 = .ok (.iconst 2, 1) := by decide +kernel
theorem dL_law_974 : decode cL_law 974 = .ok (.iadd, 1) := by decide +kernel
theorem dL_law_975 : decode cL_law 975 = .ok (.iaload, 1) := by decide +kernel
theorem dL_law_976 : decode cL_law 976 = .ok (.aload_n 0, 1) := by decide +kernel
theorem dL_law_977 : decode cL_law 977 = .ok (.iload 4, 2) := by decide +kernel
theorem dL_law_979 : decode cL_law 979 = .ok (.iconst 3, 1) := by decide +kernel
theorem dL_law_980 : decode cL_law 980 = .ok (.iadd, 1) := by decide +kernel
theorem dL_law_981 : decode cL_law 981 = .ok (.iaload, 1) := by decide +kernel
theorem dL_law_982 : decode cL_law 982 = .ok (.aload_n 0, 1) := by decide +kernel
theorem dL_law_983 : decode cL_law 983 = .ok (.iload 4, 2) := by decide +kernel
theorem dL_law_985 : decode cL_law 985 = .ok (.iconst 4, 1) := by decide +kernel
theorem dL_law_986 : decode cL_law 986 = .ok (.iadd, 1) := by decide +kernel
theorem dL_law_987 : decode cL_law 987 = .ok (.iaload, 1) := by decide +kernel
theorem dL_law_988 : decode cL_law 988 = .ok (.invokevirtual 115, 3) := by decide +kernel
theorem dL_law_991 : decode cL_law 991 = .ok (.pop, 1) := by decide +kernel
theorem dL_law_992 : decode cL_law 992 = .ok (.aload_n 2, 1) := by decide +kernel
theorem dL_law_993 : decode cL_law 993 = .ok (.aload_n 0, 1) := by decide +kernel
theorem dL_law_994 : decode cL_law 994 = .ok (.iload 4, 2) := by decide +kernel
theorem dL_law_996 : decode cL_law 996 = .ok (.iconst 1, 1) := by decide +kernel
theorem dL_law_997 : decode cL_law 997 = .ok (.iadd, 1) := by decide +kernel
theorem dL_law_998 : decode cL_law 998 = .ok (.iaload, 1) := by decide +kernel
theorem dL_law_999 : decode cL_law 999 = .ok (.aload_n 0, 1) := by decide +kernel
theorem dL_law_1000 : decode cL_law 1000 = .ok (.iload 4, 2) := by decide +kernel
theorem dL_law_1002 : decode cL_law 1002 = .ok (.iconst 2, 1) := by decide +kernel
theorem dL_law_1003 : decode cL_law 1003 = .ok (.iadd, 1) := by decide +kernel
theorem dL_law_1004 : decode cL_law 1004 = .ok (.iaload, 1) := by decide +kernel
theorem dL_law_1005 : decode cL_law 1005 = .ok (.aload_n 0, 1) := by decide +kernel
theorem dL_law_1006 : decode cL_law 1006 = .ok (.iload 4, 2) := by decide +kernel
theorem dL_law_1008 : decode cL_law 1008 = .ok (.iconst 3, 1) := by decide +kernel
theorem dL_law_1009 : decode cL_law 1009 = .ok (.iadd, 1) := by decide +kernel
theorem dL_law_1010 : decode cL_law 1010 = .ok (.iaload, 1) := by decide +kernel
theorem dL_law_1011 : decode cL_law 1011 = .ok (.aload_n 0, 1) := by decide +kernel
theorem dL_law_1012 : decode cL_law 1012 = .ok (.iload 4, 2) := by decide +kernel
theorem dL_law_1014 : decode cL_law 1014 = .ok (.iconst 4, 1) := by decide +kernel
theorem dL_law_1015 : decode cL_law 1015 = .ok (.iadd, 1) := by decide +kernel
theorem dL_law_1016 : decode cL_law 1016 = .ok (.iaload, 1) := by decide +kernel
theorem dL_law_1017 : decode cL_law 1017 = .ok (.invokevirtual 119, 3) := by decide +kernel
theorem dL_law_1020 : decode cL_law 1020 = .ok (.pop, 1) := by decide +kernel
theorem dL_law_1021 : decode cL_law 1021 = .ok (.goto 784, 3) := by decide +kernel
theorem dL_law_1024 : decode cL_law 1024 = .ok (.aload_n 1, 1) := by decide +kernel
theorem dL_law_1025 : decode cL_law 1025 = .ok (.aload_n 0, 1) := by decide +kernel
theorem dL_law_1026 : decode cL_law 1026 = .ok (.iload 4, 2) := by decide +kernel
theorem dL_law_1028 : decode cL_law 1028 = .ok (.iconst 1, 1) := by decide +kernel
theorem dL_law_1029 : decode cL_law 1029 = .ok (.iadd, 1) := by decide +kernel
theorem dL_law_1030 : decode cL_law 1030 = .ok (.iaload, 1) := by decide +kernel
theorem dL_law_1031 : decode cL_law 1031 = .ok (.aload_n 0, 1) := by decide +kernel
theorem dL_law_1032 : decode cL_law 1032 = .ok (.iload 4, 2) := by decide +kernel
theorem dL_law_1034 : decode cL_law 1034 = .ok (.iconst 2, 1) := by decide +kernel
theorem dL_law_1035 : decode cL_law 1035 = .ok (.iadd, 1) := by decide +kernel
theorem dL_law_1036 : decode cL_law 1036 = .ok (.iaload, 1) := by decide +kernel
theorem dL_law_1037 : decode cL_law 1037 = .ok (.invokevirtual 120, 3) := by decide +kernel
theorem dL_law_1040 : decode cL_law 1040 = .ok (.pop, 1) := by decide +kernel
theorem dL_law_1041 : decode cL_law 1041 = .ok (.aload_n 2, 1) := by decide +kernel
theorem dL_law_1042 : decode cL_law 1042 = .ok (.aload_n 0, 1) := by decide +kernel
theorem dL_law_1043 : decode cL_law 1043 = .ok (.iload 4, 2) := by decide +kernel
theorem dL_law_1045 : decode cL_law 1045 = .ok (.iconst 1, 1) := by decide +kernel
theorem dL_law_1046 : decode cL_law 1046 = .ok (.iadd, 1) := by decide +kernel
theorem dL_law_1047 : decode cL_law 1047 = .ok (.iaload, 1) := by decide +kernel
theorem dL_law_1048 : decode cL_law 1048 = .ok (.aload_n 0, 1) := by decide +kernel
theorem dL_law_1049 : decode cL_law 1049 = .ok (.iload 4, 2) := by decide +kernel
theorem dL_law_1051 : decode cL_law 1051 = .ok (.iconst 2, 1) := by decide +kernel
theorem dL_law_1052 : decode cL_law 1052 = .ok (.iadd, 1) := by decide +kernel
theorem dL_law_1053 : decode cL_law 1053 = .ok (.iaload, 1) := by decide +kernel
theorem dL_law_1054 : decode cL_law 1054 = .ok (.invokevirtual 123, 3) := by decide +kernel
theorem dL_law_1057 : decode cL_law 1057 = .ok (.pop, 1) := by decide +kernel
theorem dL_law_1058 : decode cL_law 1058 = .ok (.goto 747, 3) := by decide +kernel
theorem dL_law_1061 : decode cL_law 1061 = .ok (.aload_n 1, 1) := by decide +kernel
theorem dL_law_1062 : decode cL_law 1062 = .ok (.aload_n 0, 1) := by decide +kernel
theorem dL_law_1063 : decode cL_law 1063 = .ok (.iload 4, 2) := by decide +kernel
theorem dL_law_1065 : decode cL_law 1065 = .ok (.iconst 1, 1) := by decide +kernel
theorem dL_law_1066 : decode cL_law 1066 = .ok (.iadd, 1) := by decide +kernel
theorem dL_law_1067 : decode cL_law 1067 = .ok (.iaload, 1) := by decide +kernel
theorem dL_law_1068 : decode cL_law 1068 = .ok (.invokevirtual 124, 3) := by decide +kernel
theorem dL_law_1071 : decode cL_law 1071 = .ok (.pop, 1) := by decide +kernel
theorem dL_law_1072 : decode cL_law 1072 = .ok (.aload_n 2, 1) := by decide +kernel
theorem dL_law_1073 : decode cL_law 1073 = .ok (.aload_n 0, 1) := by decide +kernel
theorem dL_law_1074 : decode cL_law 1074 = .ok (.iload 4, 2) := by decide +kernel
theorem dL_law_1076 : decode cL_law 1076 = .ok (.iconst 1, 1) := by decide +kernel
theorem dL_law_1077 : decode cL_law 1077 = .ok (.iadd, 1) := by decide +kernel
theorem dL_law_1078 : decode cL_law 1078 = .ok (.iaload, 1) := by decide +kernel
theorem dL_law_1079 : decode cL_law 1079 = .ok (.invokevirtual 127, 3) := by decide +kernel
theorem dL_law_1082 : decode cL_law 1082 = .ok (.pop, 1) := by decide +kernel
theorem dL_law_1083 : decode cL_law 1083 = .ok (.goto 722, 3) := by decide +kernel
theorem dL_law_1086 : decode cL_law 1086 = .ok (.aload_n 1, 1) := by decide +kernel
theorem dL_law_1087 : decode cL_law 1087 = .ok (.aload_n 0, 1) := by decide +kernel
theorem dL_law_1088 : decode cL_law 1088 = .ok (.iload 4, 2) := by decide +kernel
theorem dL_law_1090 : decode cL_law 1090 = .ok (.iconst 1, 1) := by decide +kernel
theorem dL_law_1091 : decode cL_law 1091 = .ok (.iadd, 1) := by decide +kernel
theorem dL_law_1092 : decode cL_law 1092 = .ok (.iaload, 1) := by decide +kernel
theorem dL_law_1093 : decode cL_law 1093 = .ok (.invokevirtual 128, 3) := by decide +kernel
theorem dL_law_1096 : decode cL_law 1096 = .ok (.pop, 1) := by decide +kernel
theorem dL_law_1097 : decode cL_law 1097 = .ok (.aload_n 2, 1) := by decide +kernel
theorem dL_law_1098 : decode cL_law 1098 = .ok (.aload_n 0, 1) := by decide +kernel
theorem dL_law_1099 : decode cL_law 1099 = .ok (.iload 4, 2) := by decide +kernel
theorem dL_law_1101 : decode cL_law 1101 = .ok (.iconst 1, 1) := by decide +kernel
theorem dL_law_1102 : decode cL_law 1102 = .ok (.iadd, 1) := by decide +kernel
theorem dL_law_1103 : decode cL_law 1103 = .ok (.iaload, 1) := by decide +kernel
theorem dL_law_1104 : decode cL_law 1104 = .ok (.invokevirtual 131, 3) := by decide +kernel
theorem dL_law_1107 : decode cL_law 1107 = .ok (.pop, 1) := by decide +kernel
theorem dL_law_1108 : decode cL_law 1108 = .ok (.goto 697, 3) := by decide +kernel
theorem dL_law_1111 : decode cL_law 1111 = .ok (.aload_n 1, 1) := by decide +kernel
theorem dL_law_1112 : decode cL_law 1112 = .ok (.aload_n 0, 1) := by decide +kernel
theorem dL_law_1113 : decode cL_law 1113 = .ok (.iload 4, 2) := by decide +kernel
theorem dL_law_1115 : decode cL_law 1115 = .ok (.iconst 1, 1) := by decide +kernel
theorem dL_law_1116 : decode cL_law 1116 = .ok (.iadd, 1) := by decide +kernel
theorem dL_law_1117 : decode cL_law 1117 = .ok (.iaload, 1) := by decide +kernel
theorem dL_law_1118 : decode cL_law 1118 = .ok (.aload_n 0, 1) := by decide +kernel
theorem dL_law_1119 : decode cL_law 1119 = .ok (.iload 4, 2) := by decide +kernel
theorem dL_law_1121 : decode cL_law 1121 = .ok (.iconst 2, 1) := by decide +kernel
theorem dL_law_1122 : decode cL_law 1122 = .ok (.iadd, 1) := by decide +kernel
theorem dL_law_1123 : decode cL_law 1123 = .ok (.iaload, 1) := by decide +kernel
theorem dL_law_1124 : decode cL_law 1124 = .ok (.invokevirtual 132, 3) := by decide +kernel
theorem dL_law_1127 : decode cL_law 1127 = .ok (.pop, 1) := by decide +kernel
theorem dL_law_1128 : decode cL_law 1128 = .ok (.aload_n 2, 1) := by decide +kernel
theorem dL_law_1129 : decode cL_law 1129 = .ok (.aload_n 0, 1) := by decide +kernel
theorem dL_law_1130 : decode cL_law 1130 = .ok (.iload 4, 2) := by decide +kernel
theorem dL_law_1132 : decode cL_law 1132 = .ok (.iconst 1, 1) := by decide +kernel
theorem dL_law_1133 : decode cL_law 1133 = .ok (.iadd, 1) := by decide +kernel
theorem dL_law_1134 : decode cL_law 1134 = .ok (.iaload, 1) := by decide +kernel
theorem dL_law_1135 : decode cL_law 1135 = .ok (.aload_n 0, 1) := by decide +kernel
theorem dL_law_1136 : decode cL_law 1136 = .ok (.iload 4, 2) := by decide +kernel
theorem dL_law_1138 : decode cL_law 1138 = .ok (.iconst 2, 1) := by decide +kernel
theorem dL_law_1139 : decode cL_law 1139 = .ok (.iadd, 1) := by decide +kernel
theorem dL_law_1140 : decode cL_law 1140 = .ok (.iaload, 1) := by decide +kernel
theorem dL_law_1141 : decode cL_law 1141 = .ok (.invokevirtual 135, 3) := by decide +kernel
theorem dL_law_1144 : decode cL_law 1144 = .ok (.pop, 1) := by decide +kernel
theorem dL_law_1145 : decode cL_law 1145 = .ok (.goto 660, 3) := by decide +kernel
theorem dL_law_1148 : decode cL_law 1148 = .ok (.aload_n 1, 1) := by decide +kernel
theorem dL_law_1149 : decode cL_law 1149 = .ok (.aload_n 0, 1) := by decide +kernel
theorem dL_law_1150 : decode cL_law 1150 = .ok (.iload 4, 2) := by decide +kernel
theorem dL_law_1152 : decode cL_law 1152 = .ok (.iconst 1, 1) := by decide +kernel
theorem dL_law_1153 : decode cL_law 1153 = .ok (.iadd, 1) := by decide +kernel
theorem dL_law_1154 : decode cL_law 1154 = .ok (.iaload, 1) := by decide +kernel
theorem dL_law_1155 : decode cL_law 1155 = .ok (.aload_n 0, 1) := by decide +kernel
theorem dL_law_1156 : decode cL_law 1156 = .ok (.iload 4, 2) := by decide +kernel
theorem dL_law_1158 : decode cL_law 1158 = .ok (.iconst 2, 1) := by decide +kernel
theorem dL_law_1159 : decode cL_law 1159 = .ok (.iadd, 1) := by decide +kernel
theorem dL_law_1160 : decode cL_law 1160 = .ok (.iaload, 1) := by decide +kernel
theorem dL_law_1161 : decode cL_law 1161 = .ok (.ifCond .eq 7, 3) := by decide +kernel
theorem dL_law_1164 : decode cL_law 1164 = .ok (.iconst 1, 1) := by decide +kernel
theorem dL_law_1165 : decode cL_law 1165 = .ok (.goto 4, 3) := by decide +kernel
theorem dL_law_1168 : decode cL_law 1168 = .ok (.iconst 0, 1) := by decide +kernel
theorem dL_law_1169 : decode cL_law 1169 = .ok (.invokevirtual 136, 3) := by decide +kernel
theorem dL_law_1172 : decode cL_law 1172 = .ok (.pop2, 1) := by decide +kernel
theorem dL_law_1173 : decode cL_law 1173 = .ok (.aload_n 2, 1) := by decide +kernel
theorem dL_law_1174 : decode cL_law 1174 = .ok (.aload_n 0, 1) := by decide +kernel
theorem dL_law_1175 : decode cL_law 1175 = .ok (.iload 4, 2) := by decide +kernel
theorem dL_law_1177 : decode cL_law 1177 = .ok (.iconst 1, 1) := by decide +kernel
theorem dL_law_1178 : decode cL_law 1178 = .ok (.iadd, 1) := by decide +kernel
theorem dL_law_1179 : decode cL_law 1179 = .ok (.iaload, 1) := by decide +kernel
theorem dL_law_1180 : decode cL_law 1180 = .ok (.aload_n 0, 1) := by decide +kernel
theorem dL_law_1181 : decode cL_law 1181 = .ok (.iload 4, 2) := by decide +kernel
theorem dL_law_1183 : decode cL_law 1183 = .ok (.iconst 2, 1) := by decide +kernel
theorem dL_law_1184 : decode cL_law 1184 = .ok (.iadd, 1) := by decide +kernel
theorem dL_law_1185 : decode cL_law 1185 = .ok (.iaload, 1) := by decide +kernel
theorem dL_law_1186 : decode cL_law 1186 = .ok (.ifCond .eq 7, 3) := by decide +kernel
theorem dL_law_1189 : decode cL_law 1189 = .ok (.iconst 1, 1) := by decide +kernel
theorem dL_law_1190 : decode cL_law 1190 = .ok (.goto 4, 3) := by decide +kernel
theorem dL_law_1193 : decode cL_law 1193 = .ok (.iconst 0, 1) := by decide +kernel
theorem dL_law_1194 : decode cL_law 1194 = .ok (.invokevirtual 140, 3) := by decide +kernel
theorem dL_law_1197 : decode cL_law 1197 = .ok (.pop2, 1) := by decide +kernel
theorem dL_law_1198 : decode cL_law 1198 = .ok (.goto 607, 3) := by decide +kernel
theorem dL_law_1201 : decode cL_law 1201 = .ok (.aload_n 1, 1) := by decide +kernel
theorem dL_law_1202 : decode cL_law 1202 = .ok (.invokevirtual 141, 3) := by decide +kernel
theorem dL_law_1205 : decode cL_law 1205 = .ok (.pop, 1) := by decide +kernel
theorem dL_law_1206 : decode cL_law 1206 = .ok (.aload_n 2, 1) := by decide +kernel
theorem dL_law_1207 : decode cL_law 1207 = .ok (.invokevirtual 144, 3) := by decide +kernel
theorem dL_law_1210 : decode cL_law 1210 = .ok (.pop, 1) := by decide +kernel
theorem dL_law_1211 : decode cL_law 1211 = .ok (.goto 594, 3) := by decide +kernel
theorem dL_law_1214 : decode cL_law 1214 = .ok (.aload_n 1, 1) := by decide +kernel
theorem dL_law_1215 : decode cL_law 1215 = .ok (.invokevirtual 145, 3) := by decide +kernel
theorem dL_law_1218 : decode cL_law 1218 = .ok (.pop, 1) := by decide +kernel
theorem dL_law_1219 : decode cL_law 1219 = .ok (.aload_n 2, 1) := by decide +kernel
theorem dL_law_1220 : decode cL_law 1220 = .ok (.invokevirtual 148, 3) := by decide +kernel
theorem dL_law_1223 : decode cL_law 1223 = .ok (.pop, 1) := by decide +kernel
theorem dL_law_1224 : decode cL_law 1224 = .ok (.goto 581, 3) := by decide +kernel
theorem dL_law_1227 : decode cL_law 1227 = .ok (.aload_n 1, 1) := by decide +kernel
theorem dL_law_1228 : decode cL_law 1228 = .ok (.aload_n 0, 1) := by decide +kernel
theorem dL_law_1229 : decode cL_law 1229 = .ok (.iload 4, 2) := by decide +kernel
theorem dL_law_1231 : decode cL_law 1231 = .ok (.iconst 1, 1) := by decide +kernel
theorem dL_law_1232 : decode cL_law 1232 = .ok (.iadd, 1) := by decide +kernel
theorem dL_law_1233 : decode cL_law 1233 = .ok (.iaload, 1) := by decide +kernel
theorem dL_law_1234 : decode cL_law 1234 = .ok (.invokevirtual 149, 3) := by decide +kernel
theorem dL_law_1237 : decode cL_law 1237 = .ok (.pop, 1) := by decide +kernel
theorem dL_law_1238 : decode cL_law 1238 = .ok (.aload_n 2, 1) := by decide +kernel
theorem dL_law_1239 : decode cL_law 1239 = .ok (.aload_n 0, 1) := by decide +kernel
theorem dL_law_1240 : decode cL_law 1240 = .ok (.iload 4, 2) := by decide +kernel
theorem dL_law_1242 : decode cL_law 1242 = .ok (.iconst 1, 1) := by decide +kernel
theorem dL_law_1243 : decode cL_law 1243 = .ok (.iadd, 1) := by decide +kernel
theorem dL_law_1244 : decode cL_law 1244 = .ok (.iaload, 1) := by decide +kernel
theorem dL_law_1245 : decode cL_law 1245 = .ok (.invokevirtual 152, 3) := by decide +kernel
theorem dL_law_1248 : decode cL_law 1248 = .ok (.pop, 1) := by decide +kernel
theorem dL_law_1249 : decode cL_law 1249 = .ok (.goto 556, 3) := by decide +kernel
theorem dL_law_1252 : decode cL_law 1252 = .ok (.aload_n 1, 1) := by decide +kernel
theorem dL_law_1253 : decode cL_law 1253 = .ok (.aload_n 0, 1) := by decide +kernel
theorem dL_law_1254 : decode cL_law 1254 = .ok (.iload 4, 2) := by decide +kernel
theorem dL_law_1256 : decode cL_law 1256 = .ok (.iconst 1, 1) := by decide +kernel
theorem dL_law_1257 : decode cL_law 1257 = .ok (.iadd, 1) := by decide +kernel
theorem dL_law_1258 : decode cL_law 1258 = .ok (.iaload, 1) := by decide +kernel
theorem dL_law_1259 : decode cL_law 1259 = .ok (.aload_n 0, 1) := by decide +kernel
theorem dL_law_1260 : decode cL_law 1260 = .ok (.iload 4, 2) := by decide +kernel
theorem dL_law_1262 : decode cL_law 1262 = .ok (.iconst 2, 1) := by decide +kernel
theorem dL_law_1263 : decode cL_law 1263 = .ok (.iadd, 1) := by decide +kernel
theorem dL_law_1264 : decode cL_law 1264 = .ok (.iaload, 1) := by decide +kernel
theorem dL_law_1265 : decode cL_law 1265 = .ok (.aload_n 0, 1) := by decide +kernel
theorem dL_law_1266 : decode cL_law 1266 = .ok (.iload 4, 2) := by decide +kernel
theorem dL_law_1268 : decode cL_law 1268 = .ok (.iconst 3, 1) := by decide +kernel
theorem dL_law_1269 : decode cL_law 1269 = .ok (.iadd, 1) := by decide +kernel
theorem dL_law_1270 : decode cL_law 1270 = .ok (.iaload, 1) := by decide +kernel
theorem dL_law_1271 : decode cL_law 1271 = .ok (.aload_n 0, 1) := by decide +kernel
theorem dL_law_1272 : decode cL_law 1272 = .ok (.iload 4, 2) := by decide +kernel
theorem dL_law_1274 : decode cL_law 1274 = .ok (.iconst 4, 1) := by decide +kernel
theorem dL_law_1275 : decode cL_law 1275 = .ok (.iadd, 1) := by decide +kernel
theorem dL_law_1276 : decode cL_law 1276 = .ok (.iaload, 1) := by decide +kernel
theorem dL_law_1277 : decode cL_law 1277 = .ok (.invokevirtual 153, 3) := by decide +kernel
theorem dL_law_1280 : decode cL_law 1280 = .ok (.pop, 1) := by decide +kernel
theorem dL_law_1281 : decode cL_law 1281 = .ok (.aload_n 2, 1) := by decide +kernel
theorem dL_law_1282 : decode cL_law 1282 = .ok (.aload_n 0, 1) := by decide +kernel
theorem dL_law_1283 : decode cL_law 1283 = .ok (.iload 4, 2) := by decide +kernel
theorem dL_law_1285 : decode cL_law 1285 = .ok (.iconst 1, 1) := by decide +kernel
theorem dL_law_1286 : decode cL_law 1286 = .ok (.iadd, 1) := by decide +kernel
theorem dL_law_1287 : decode cL_law 1287 = .ok (.iaload, 1) := by decide +kernel
theorem dL_law_1288 : decode cL_law 1288 = .ok (.aload_n 0, 1) := by decide +kernel
theorem dL_law_1289 : decode cL_law 1289 = .ok (.iload 4, 2) := by decide +kernel
theorem dL_law_1291 : decode cL_law 1291 = .ok (.iconst 2, 1) := by decide +kernel
theorem dL_law_1292 : decode cL_law 1292 = .ok (.iadd, 1) := by decide +kernel
theorem dL_law_1293 : decode cL_law 1293 = .ok (.iaload, 1) := by decide +kernel
theorem dL_law_1294 : decode cL_law 1294 = .ok (.aload_n 0, 1) := by decide +kernel
theorem dL_law_1295 : decode cL_law 1295 = .ok (.iload 4, 2) := by decide +kernel
theorem dL_law_1297 : decode cL_law 1297 = .ok (.iconst 3, 1) := by decide +kernel
theorem dL_law_1298 : decode cL_law 1298 = .ok (.iadd, 1) := by decide +kernel
theorem dL_law_1299 : decode cL_law 1299 = .ok (.iaload, 1) := by decide +kernel
theorem dL_law_1300 : decode cL_law 1300 = .ok (.aload_n 0, 1) := by decide +kernel
theorem dL_law_1301 : decode cL_law 1301 = .ok (.iload 4, 2) := by decide +kernel
theorem dL_law_1303 : decode cL_law 1303 = .ok (.iconst 4, 1) := by decide +kernel
theorem dL_law_1304 : decode cL_law 1304 = .ok (.iadd, 1) := by decide +kernel
theorem dL_law_1305 : decode cL_law 1305 = .ok (.iaload, 1) := by decide +kernel
theorem dL_law_1306 : decode cL_law 1306 = .ok (.invokevirtual 156, 3) := by decide +kernel
theorem dL_law_1309 : decode cL_law 1309 = .ok (.pop, 1) := by decide +kernel
theorem dL_law_1310 : decode cL_law 1310 = .ok (.goto 495, 3) := by decide +kernel
theorem dL_law_1313 : decode cL_law 1313 = .ok (.aload_n 1, 1) := by decide +kernel
theorem dL_law_1314 : decode cL_law 1314 = .ok (.invokevirtual 157, 3) := by decide +kernel
theorem dL_law_1317 : decode cL_law 1317 = .ok (.pop, 1) := by decide +kernel
theorem dL_law_1318 : decode cL_law 1318 = .ok (.aload_n 2, 1) := by decide +kernel
theorem dL_law_1319 : decode cL_law 1319 = .ok (.invokevirtual 160, 3) := by decide +kernel
theorem dL_law_1322 : decode cL_law 1322 = .ok (.pop, 1) := by decide +kernel
theorem dL_law_1323 : decode cL_law 1323 = .ok (.goto 482, 3) := by decide +kernel
theorem dL_law_1326 : decode cL_law 1326 = .ok (.aload_n 1, 1) := by decide +kernel
theorem dL_law_1327 : decode cL_law 1327 = .ok (.aload_n 0, 1) := by decide +kernel
theorem dL_law_1328 : decode cL_law 1328 = .ok (.iload 4, 2) := by decide +kernel
theorem dL_law_1330 : decode cL_law 1330 = .ok (.iconst 1, 1) := by decide +kernel
theorem dL_law_1331 : decode cL_law 1331 = .ok (.iadd, 1) := by decide +kernel
theorem dL_law_1332 : decode cL_law 1332 = .ok (.iaload, 1) := by decide +kernel
theorem dL_law_1333 : decode cL_law 1333 = .ok (.aload_n 0, 1) := by decide +kernel
theorem dL_law_1334 : decode cL_law 1334 = .ok (.iload 4, 2) := by decide +kernel
theorem dL_law_1336 : decode cL_law 1336 = .ok (.iconst 2, 1) := by decide +kernel
theorem dL_law_1337 : decode cL_law 1337 = .ok (.iadd, 1) := by decide +kernel
theorem dL_law_1338 : decode cL_law 1338 = .ok (.iaload, 1) := by decide +kernel
theorem dL_law_1339 : decode cL_law 1339 = .ok (.invokevirtual 161, 3) := by decide +kernel
theorem dL_law_1342 : decode cL_law 1342 = .ok (.pop, 1) := by decide +kernel
theorem dL_law_1343 : decode cL_law 1343 = .ok (.aload_n 2, 1) := by decide +kernel
theorem dL_law_1344 : decode cL_law 1344 = .ok (.aload_n 0, 1) := by decide +kernel
theorem dL_law_1345 : decode cL_law 1345 = .ok (.iload 4, 2) := by decide +kernel
theorem dL_law_1347 : decode cL_law 1347 = .ok (.iconst 1, 1) := by decide +kernel
theorem dL_law_1348 : decode cL_law 1348 = .ok (.iadd, 1) := by decide +kernel
theorem dL_law_1349 : decode cL_law 1349 = .ok (.iaload, 1) := by decide +kernel
theorem dL_law_1350 : decode cL_law 1350 = .ok (.aload_n 0, 1) := by decide +kernel
theorem dL_law_1351 : decode cL_law 1351 = .ok (.iload 4, 2) := by decide +kernel
theorem dL_law_1353 : decode cL_law 1353 = .ok (.iconst 2, 1) := by decide +kernel
theorem dL_law_1354 : decode cL_law 1354 = .ok (.iadd, 1) := by decide +kernel
theorem dL_law_1355 : decode cL_law 1355 = .ok (.iaload, 1) := by decide +kernel
theorem dL_law_1356 : decode cL_law 1356 = .ok (.invokevirtual 164, 3) := by decide +kernel
theorem dL_law_1359 : decode cL_law 1359 = .ok (.pop, 1) := by decide +kernel
theorem dL_law_1360 : decode cL_law 1360 = .ok (.goto 445, 3) := by decide +kernel
theorem dL_law_1363 : decode cL_law 1363 = .ok (.aload_n 1, 1) := by decide +kernel
theorem dL_law_1364 : decode cL_law 1364 = .ok (.aload_n 0, 1) := by decide +kernel
theorem dL_law_1365 : decode cL_law 1365 = .ok (.iload 4, 2) := by decide +kernel
theorem dL_law_1367 : decode cL_law 1367 = .ok (.iconst 1, 1) := by decide +kernel
theorem dL_law_1368 : decode cL_law 1368 = .ok (.iadd, 1) := by decide +kernel
theorem dL_law_1369 : decode cL_law 1369 = .ok (.iaload, 1) := by decide +kernel
theorem dL_law_1370 : decode cL_law 1370 = .ok (.invokevirtual 165, 3) := by decide +kernel
theorem dL_law_1373 : decode cL_law 1373 = .ok (.pop, 1) := by decide +kernel
theorem dL_law_1374 : decode cL_law 1374 = .ok (.aload_n 2, 1) := by decide +kernel
theorem dL_law_1375 : decode cL_law 1375 = .ok (.aload_n 0, 1) := by decide +kernel
theorem dL_law_1376 : decode cL_law 1376 = .ok (.iload 4, 2) := by decide +kernel
theorem dL_law_1378 : decode cL_law 1378 = .ok (.iconst 1, 1) := by decide +kernel
theorem dL_law_1379 : decode cL_law 1379 = .ok (.iadd, 1) := by decide +kernel
theorem dL_law_1380 : decode cL_law 1380 = .ok (.iaload, 1) := by decide +kernel
theorem dL_law_1381 : decode cL_law 1381 = .ok (.invokevirtual 168, 3) := by decide +kernel
theorem dL_law_1384 : decode cL_law 1384 = .ok (.pop, 1) := by decide +kernel
theorem dL_law_1385 : decode cL_law 1385 = .ok (.goto 420, 3) := by decide +kernel
theorem dL_law_1388 : decode cL_law 1388 = .ok (.aload_n 1, 1) := by decide +kernel
theorem dL_law_1389 : decode cL_law 1389 = .ok (.aload_n 0, 1) := by decide +kernel
theorem dL_law_1390 : decode cL_law 1390 = .ok (.iload 4, 2) := by decide +kernel
theorem dL_law_1392 : decode cL_law 1392 = .ok (.iconst 1, 1) := by decide +kernel
theorem dL_law_1393 : decode cL_law 1393 = .ok (.iadd, 1) := by decide +kernel
theorem dL_law_1394 : decode cL_law 1394 = .ok (.iaload, 1) := by decide +kernel
theorem dL_law_1395 : decode cL_law 1395 = .ok (.aload_n 0, 1) := by decide +kernel
theorem dL_law_1396 : decode cL_law 1396 = .ok (.iload 4, 2) := by decide +kernel
theorem dL_law_1398 : decode cL_law 1398 = .ok (.iconst 2, 1) := by decide +kernel
theorem dL_law_1399 : decode cL_law 1399 = .ok (.iadd, 1) := by decide +kernel
theorem dL_law_1400 : decode cL_law 1400 = .ok (.iaload, 1) := by decide +kernel
theorem dL_law_1401 : decode cL_law 1401 = .ok (.invokevirtual 169, 3) := by decide +kernel
theorem dL_law_1404 : decode cL_law 1404 = .ok (.pop, 1) := by decide +kernel
theorem dL_law_1405 : decode cL_law 1405 = .ok (.aload_n 2, 1) := by decide +kernel
theorem dL_law_1406 : decode cL_law 1406 = .ok (.aload_n 0, 1) := by decide +kernel
theorem dL_law_1407 : decode cL_law 1407 = .ok (.iload 4, 2) := by decide +kernel
theorem dL_law_1409 : decode cL_law 1409 = .ok (.iconst 1, 1) := by decide +kernel
theorem dL_law_1410 : decode cL_law 1410 = .ok (.iadd, 1) := by decide +kernel
theorem dL_law_1411 : decode cL_law 1411 = .ok (.iaload, 1) := by decide +kernel
theorem dL_law_1412 : decode cL_law 1412 = .ok (.aload_n 0, 1) := by decide +kernel
theorem dL_law_1413 : decode cL_law 1413 = .ok (.iload 4, 2) := by decide +kernel
theorem dL_law_1415 : decode cL_law 1415 = .ok (.iconst 2, 1) := by decide +kernel
theorem dL_law_1416 : decode cL_law 1416 = .ok (.iadd, 1) := by decide +kernel
theorem dL_law_1417 : decode cL_law 1417 = .ok (.iaload, 1) := by decide +kernel
theorem dL_law_1418 : decode cL_law 1418 = .ok (.invokevirtual 172, 3) := by decide +kernel
theorem dL_law_1421 : decode cL_law 1421 = .ok (.pop, 1) := by decide +kernel
theorem dL_law_1422 : decode cL_law 1422 = .ok (.goto 383, 3) := by decide +kernel
theorem dL_law_1425 : decode cL_law 1425 = .ok (.aload_n 1, 1) := by decide +kernel
theorem dL_law_1426 : decode cL_law 1426 = .ok (.aload_n 0, 1) := by decide +kernel
theorem dL_law_1427 : decode cL_law 1427 = .ok (.iload 4, 2) := by decide +kernel
theorem dL_law_1429 : decode cL_law 1429 = .ok (.iconst 1, 1) := by decide +kernel
theorem dL_law_1430 : decode cL_law 1430 = .ok (.iadd, 1) := by decide +kernel
theorem dL_law_1431 : decode cL_law 1431 = .ok (.iaload, 1) := by decide +kernel
theorem dL_law_1432 : decode cL_law 1432 = .ok (.invokevirtual 173, 3) := by decide +kernel
theorem dL_law_1435 : decode cL_law 1435 = .ok (.pop, 1) := by decide +kernel
theorem dL_law_1436 : decode cL_law 1436 = .ok (.aload_n 2, 1) := by decide +kernel
theorem dL_law_1437 : decode cL_law 1437 = .ok (.aload_n 0, 1) := by decide +kernel
theorem dL_law_1438 : decode cL_law 1438 = .ok (.iload 4, 2) := by decide +kernel
theorem dL_law_1440 : decode cL_law 1440 = .ok (.iconst 1, 1) := by decide +kernel
theorem dL_law_1441 : decode cL_law 1441 = .ok (.iadd, 1) := by decide +kernel
theorem dL_law_1442 : decode cL_law 1442 = .ok (.iaload, 1) := by decide +kernel
theorem dL_law_1443 : decode cL_law 1443 = .ok (.invokevirtual 176, 3) := by decide +kernel
theorem dL_law_1446 : decode cL_law 1446 = .ok (.pop, 1) := by decide +kernel
theorem dL_law_1447 : decode cL_law 1447 = .ok (.goto 358, 3) := by decide +kernel
theorem dL_law_1450 : decode cL_law 1450 = .ok (.aload_n 1, 1) := by decide +kernel
theorem dL_law_1451 : decode cL_law 1451 = .ok (.aload_n 0, 1) := by decide +kernel
theorem dL_law_1452 : decode cL_law 1452 = .ok (.iload 4, 2) := by decide +kernel
theorem dL_law_1454 : decode cL_law 1454 = .ok (.iconst 1, 1) := by decide +kernel
theorem dL_law_1455 : decode cL_law 1455 = .ok (.iadd, 1) := by decide +kernel
theorem dL_law_1456 : decode cL_law 1456 = .ok (.iaload, 1) := by decide +kernel
theorem dL_law_1457 : decode cL_law 1457 = .ok (.aload_n 0, 1) := by decide +kernel
theorem dL_law_1458 : decode cL_law 1458 = .ok (.iload 4, 2) := by decide +kernel
theorem dL_law_1460 : decode cL_law 1460 = .ok (.iconst 2, 1) := by decide +kernel
theorem dL_law_1461 : decode cL_law 1461 = .ok (.iadd, 1) := by decide +kernel
theorem dL_law_1462 : decode cL_law 1462 = .ok (.iaload, 1) := by decide +kernel
theorem dL_law_1463 : decode cL_law 1463 = .ok (.invokevirtual 177, 3) := by decide +kernel
theorem dL_law_1466 : decode cL_law 1466 = .ok (.pop, 1) := by decide +kernel
theorem dL_law_1467 : decode cL_law 1467 = .ok (.aload_n 2, 1) := by decide +kernel
theorem dL_law_1468 : decode cL_law 1468 = .ok (.aload_n 0, 1) := by decide +kernel
theorem dL_law_1469 : decode cL_law 1469 = .ok (.iload 4, 2) := by decide +kernel
theorem dL_law_1471 : decode cL_law 1471 = .ok (.iconst 1, 1) := by decide +kernel
theorem dL_law_1472 : decode cL_law 1472 = .ok (.iadd, 1) := by decide +kernel
theorem dL_law_1473 : decode cL_law 1473 = .ok (.iaload, 1) := by decide +kernel
theorem dL_law_1474 : decode cL_law 1474 = .ok (.aload_n 0, 1) := by decide +kernel
theorem dL_law_1475 : decode cL_law 1475 = .ok (.iload 4, 2) := by decide +kernel
theorem dL_law_1477 : decode cL_law 1477 = .ok (.iconst 2, 1) := by decide +kernel
theorem dL_law_1478 : decode cL_law 1478 = .ok (.iadd, 1) := by decide +kernel
theorem dL_law_1479 : decode cL_law 1479 = .ok (.iaload, 1) := by decide +kernel
theorem dL_law_1480 : decode cL_law 1480 = .ok (.invokevirtual 180, 3) := by decide +kernel
theorem dL_law_1483 : decode cL_law 1483 = .ok (.pop, 1) := by decide +kernel
theorem dL_law_1484 : decode cL_law 1484 = .ok (.goto 321, 3) := by decide +kernel
theorem dL_law_1487 : decode cL_law 1487 = .ok (.aload_n 1, 1) := by decide +kernel
theorem dL_law_1488 : decode cL_law 1488 = .ok (.aload_n 0, 1) := by decide +kernel
theorem dL_law_1489 : decode cL_law 1489 = .ok (.iload 4, 2) := by decide +kernel
theorem dL_law_1491 : decode cL_law 1491 = .ok (.iconst 1, 1) := by decide +kernel
theorem dL_law_1492 : decode cL_law 1492 = .ok (.iadd, 1) := by decide +kernel
theorem dL_law_1493 : decode cL_law 1493 = .ok (.iaload, 1) := by decide +kernel
theorem dL_law_1494 : decode cL_law 1494 = .ok (.aload_n 0, 1) := by decide +kernel
theorem dL_law_1495 : decode cL_law 1495 = .ok (.iload 4, 2) := by decide +kernel
theorem dL_law_1497 : decode cL_law 1497 = .ok (.iconst 2, 1) := by decide +kernel
theorem dL_law_1498 : decode cL_law 1498 = .ok (.iadd, 1) := by decide +kernel
theorem dL_law_1499 : decode cL_law 1499 = .ok (.iaload, 1) := by decide +kernel
theorem dL_law_1500 : decode cL_law 1500 = .ok (.invokevirtual 181, 3) := by decide +kernel
theorem dL_law_1503 : decode cL_law 1503 = .ok (.pop, 1) := by decide +kernel
theorem dL_law_1504 : decode cL_law 1504 = .ok (.aload_n 2, 1) := by decide +kernel
theorem dL_law_1505 : decode cL_law 1505 = .ok (.aload_n 0, 1) := by decide +kernel
theorem dL_law_1506 : decode cL_law 1506 = .ok (.iload 4, 2) := by decide +kernel
theorem dL_law_1508 : decode cL_law 1508 = .ok (.iconst 1, 1) := by decide +kernel
theorem dL_law_1509 : decode cL_law 1509 = .ok (.iadd, 1) := by decide +kernel
theorem dL_law_1510 : decode cL_law 1510 = .ok (.iaload, 1) := by decide +kernel
theorem dL_law_1511 : decode cL_law 1511 = .ok (.aload_n 0, 1) := by decide +kernel
theorem dL_law_1512 : decode cL_law 1512 = .ok (.iload 4, 2) := by decide +kernel
theorem dL_law_1514 : decode cL_law 1514 = .ok (.iconst 2, 1) := by decide +kernel
theorem dL_law_1515 : decode cL_law 1515 = .ok (.iadd, 1) := by decide +kernel
theorem dL_law_1516 : decode cL_law 1516 = .ok (.iaload, 1) := by decide +kernel
theorem dL_law_1517 : decode cL_law 1517 = .ok (.invokevirtual 184, 3) := by decide +kernel
theorem dL_law_1520 : decode cL_law 1520 = .ok (.pop, 1) := by decide +kernel
theorem dL_law_1521 : decode cL_law 1521 = .ok (.goto 284, 3) := by decide +kernel
theorem dL_law_1524 : decode cL_law 1524 = .ok (.aload_n 1, 1) := by decide +kernel
theorem dL_law_1525 : decode cL_law 1525 = .ok (.aload_n 0, 1) := by decide +kernel
theorem dL_law_1526 : decode cL_law 1526 = .ok (.iload 4, 2) := by decide +kernel
theorem dL_law_1528 : decode cL_law 1528 = .ok (.iconst 1, 1) := by decide +kernel
theorem dL_law_1529 : decode cL_law 1529 = .ok (.iadd, 1) := by decide +kernel
theorem dL_law_1530 : decode cL_law 1530 = .ok (.iaload, 1) := by decide +kernel
theorem dL_law_1531 : decode cL_law 1531 = .ok (.aload_n 0, 1) := by decide +kernel
theorem dL_law_1532 : decode cL_law 1532 = .ok (.iload 4, 2) := by decide +kernel
theorem dL_law_1534 : decode cL_law 1534 = .ok (.iconst 2, 1) := by decide +kernel
theorem dL_law_1535 : decode cL_law 1535 = .ok (.iadd, 1) := by decide +kernel
theorem dL_law_1536 : decode cL_law 1536 = .ok (.iaload, 1) := by decide +kernel
theorem dL_law_1537 : decode cL_law 1537 = .ok (.invokevirtual 185, 3) := by decide +kernel
theorem dL_law_1540 : decode cL_law 1540 = .ok (.pop, 1) := by decide +kernel
theorem dL_law_1541 : decode cL_law 1541 = .ok (.aload_n 2, 1) := by decide +kernel
theorem dL_law_1542 : decode cL_law 1542 = .ok (.aload_n 0, 1) := by decide +kernel
theorem dL_law_1543 : decode cL_law 1543 = .ok (.iload 4, 2) := by decide +kernel
theorem dL_law_1545 : decode cL_law 1545 = .ok (.iconst 1, 1) := by decide +kernel
theorem dL_law_1546 : decode cL_law 1546 = .ok (.iadd, 1) := by decide +kernel
theorem dL_law_1547 : decode cL_law 1547 = .ok (.iaload, 1) := by decide +kernel
theorem dL_law_1548 : decode cL_law 1548 = .ok (.aload_n 0, 1) := by decide +kernel
theorem dL_law_1549 : decode cL_law 1549 = .ok (.iload 4, 2) := by decide +kernel
theorem dL_law_1551 : decode cL_law 1551 = .ok (.iconst 2, 1) := by decide +kernel
theorem dL_law_1552 : decode cL_law 1552 = .ok (.iadd, 1) := by decide +kernel
theorem dL_law_1553 : decode cL_law 1553 = .ok (.iaload, 1) := by decide +kernel
theorem dL_law_1554 : decode cL_law 1554 = .ok (.invokevirtual 188, 3) := by decide +kernel
theorem dL_law_1557 : decode cL_law 1557 = .ok (.pop, 1) := by decide +kernel
theorem dL_law_1558 : decode cL_law 1558 = .ok (.goto 247, 3) := by decide +kernel
theorem dL_law_1561 : decode cL_law 1561 = .ok (.aload_n 1, 1) := by decide +kernel
theorem dL_law_1562 : decode cL_law 1562 = .ok (.aload_n 0, 1) := by decide +kernel
theorem dL_law_1563 : decode cL_law 1563 = .ok (.iload 4, 2) := by decide +kernel
theorem dL_law_1565 : decode cL_law 1565 = .ok (.iconst 1, 1) := by decide +kernel
theorem dL_law_1566 : decode cL_law 1566 = .ok (.iadd, 1) := by decide +kernel
theorem dL_law_1567 : decode cL_law 1567 = .ok (.iaload, 1) := by decide +kernel
theorem dL_law_1568 : decode cL_law 1568 = .ok (.aload_n 0, 1) := by decide +kernel
theorem dL_law_1569 : decode cL_law 1569 = .ok (.iload 4, 2) := by decide +kernel
theorem dL_law_1571 : decode cL_law 1571 = .ok (.iconst 2, 1) := by decide +kernel
theorem dL_law_1572 : decode cL_law 1572 = .ok (.iadd, 1) := by decide +kernel
theorem dL_law_1573 : decode cL_law 1573 = .ok (.iaload, 1) := by decide +kernel
theorem dL_law_1574 : decode cL_law 1574 = .ok (.aload_n 0, 1) := by decide +kernel
theorem dL_law_1575 : decode cL_law 1575 = .ok (.iload 4, 2) := by decide +kernel
theorem dL_law_1577 : decode cL_law 1577 = .ok (.iconst 3, 1) := by decide +kernel
theorem dL_law_1578 : decode cL_law 1578 = .ok (.iadd, 1) := by decide +kernel
theorem dL_law_1579 : decode cL_law 1579 = .ok (.iaload, 1) := by decide +kernel
theorem dL_law_1580 : decode cL_law 1580 = .ok (.invokevirtual 189, 3) := by decide +kernel
theorem dL_law_1583 : decode cL_law 1583 = .ok (.pop, 1) := by decide +kernel
theorem dL_law_1584 : decode cL_law 1584 = .ok (.aload_n 2, 1) := by decide +kernel
theorem dL_law_1585 : decode cL_law 1585 = .ok (.aload_n 0, 1) := by decide +kernel
theorem dL_law_1586 : decode cL_law 1586 = .ok (.iload 4, 2) := by decide +kernel
theorem dL_law_1588 : decode cL_law 1588 = .ok (.iconst 1, 1) := by decide +kernel
theorem dL_law_1589 : decode cL_law 1589 = .ok (.iadd, 1) := by decide +kernel
theorem dL_law_1590 : decode cL_law 1590 = .ok (.iaload, 1) := by decide +kernel
theorem dL_law_1591 : decode cL_law 1591 = .ok (.aload_n 0, 1) := by decide +kernel
theorem dL_law_1592 : decode cL_law 1592 = .ok (.iload 4, 2) := by decide +kernel
theorem dL_law_1594 : decode cL_law 1594 = .ok (.iconst 2, 1) := by decide +kernel
theorem dL_law_1595 : decode cL_law 1595 = .ok (.iadd, 1) := by decide +kernel
theorem dL_law_1596 : decode cL_law 1596 = .ok (.iaload, 1) := by decide +kernel
theorem dL_law_1597 : decode cL_law 1597 = .ok (.aload_n 0, 1) := by decide +kernel
theorem dL_law_1598 : decode cL_law 1598 = .ok (.iload 4, 2) := by decide +kernel
theorem dL_law_1600 : decode cL_law 1600 = .ok (.iconst 3, 1) := by decide +kernel
theorem dL_law_1601 : decode cL_law 1601 = .ok (.iadd, 1) := by decide +kernel
theorem dL_law_1602 : decode cL_law 1602 = .ok (.iaload, 1) := by decide +kernel
theorem dL_law_1603 : decode cL_law 1603 = .ok (.invokevirtual 193, 3) := by decide +kernel
theorem dL_law_1606 : decode cL_law 1606 = .ok (.pop, 1) := by decide +kernel
theorem dL_law_1607 : decode cL_law 1607 = .ok (.goto 198, 3) := by decide +kernel
theorem dL_law_1610 : decode cL_law 1610 = .ok (.aload_n 1, 1) := by decide +kernel
theorem dL_law_1611 : decode cL_law 1611 = .ok (.aload_n 0, 1) := by decide +kernel
theorem dL_law_1612 : decode cL_law 1612 = .ok (.iload 4, 2) := by decide +kernel
theorem dL_law_1614 : decode cL_law 1614 = .ok (.iconst 1, 1) := by decide +kernel
theorem dL_law_1615 : decode cL_law 1615 = .ok (.iadd, 1) := by decide +kernel
theorem dL_law_1616 : decode cL_law 1616 = .ok (.iaload, 1) := by decide +kernel
theorem dL_law_1617 : decode cL_law 1617 = .ok (.invokevirtual 194, 3) := by decide +kernel
theorem dL_law_1620 : decode cL_law 1620 = .ok (.pop, 1) := by decide +kernel
theorem dL_law_1621 : decode cL_law 1621 = .ok (.aload_n 2, 1) := by decide +kernel
theorem dL_law_1622 : decode cL_law 1622 = .ok (.aload_n 0, 1) := by decide +kernel
theorem dL_law_1623 : decode cL_law 1623 = .ok (.iload 4, 2) := by decide +kernel
theorem dL_law_1625 : decode cL_law 1625 = .ok (.iconst 1, 1) := by decide +kernel
theorem dL_law_1626 : decode cL_law 1626 = .ok (.iadd, 1) := by decide +kernel
theorem dL_law_1627 : decode cL_law 1627 = .ok (.iaload, 1) := by decide +kernel
theorem dL_law_1628 : decode cL_law 1628 = .ok (.invokevirtual 197, 3) := by decide +kernel
theorem dL_law_1631 : decode cL_law 1631 = .ok (.pop, 1) := by decide +kernel
theorem dL_law_1632 : decode cL_law 1632 = .ok (.goto 173, 3) := by decide +kernel
theorem dL_law_1635 : decode cL_law 1635 = .ok (.aload_n 1, 1) := by decide +kernel
theorem dL_law_1636 : decode cL_law 1636 = .ok (.aload_n 0, 1) := by decide +kernel
theorem dL_law_1637 : decode cL_law 1637 = .ok (.iload 4, 2) := by decide +kernel
theorem dL_law_1639 : decode cL_law 1639 = .ok (.iconst 1, 1) := by decide +kernel
theorem dL_law_1640 : decode cL_law 1640 = .ok (.iadd, 1) := by decide +kernel
theorem dL_law_1641 : decode cL_law 1641 = .ok (.iaload, 1) := by decide +kernel
theorem dL_law_1642 : decode cL_law 1642 = .ok (.aload_n 0, 1) := by decide +kernel
theorem dL_law_1643 : decode cL_law 1643 = .ok (.iload 4, 2) := by decide +kernel
theorem dL_law_1645 : decode cL_law 1645 = .ok (.iconst 2, 1) := by decide +kernel
theorem dL_law_1646 : decode cL_law 1646 = .ok (.iadd, 1) := by decide +kernel
theorem dL_law_1647 : decode cL_law 1647 = .ok (.iaload, 1) := by decide +kernel
theorem dL_law_1648 : decode cL_law 1648 = .ok (.ifCond .eq 7, 3) := by decide +kernel
theorem dL_law_1651 : decode cL_law 1651 = .ok (.iconst 1, 1) := by decide +kernel
theorem dL_law_1652 : decode cL_law 1652 = .ok (.goto 4, 3) := by decide +kernel
theorem dL_law_1655 : decode cL_law 1655 = .ok (.iconst 0, 1) := by decide +kernel
theorem dL_law_1656 : decode cL_law 1656 = .ok (.invokevirtual 198, 3) := by decide +kernel
theorem dL_law_1659 : decode cL_law 1659 = .ok (.pop, 1) := by decide +kernel
theorem dL_law_1660 : decode cL_law 1660 = .ok (.aload_n 2, 1) := by decide +kernel
theorem dL_law_1661 : decode cL_law 1661 = .ok (.aload_n 0, 1) := by decide +kernel
theorem dL_law_1662 : decode cL_law 1662 = .ok (.iload 4, 2) := by decide +kernel
theorem dL_law_1664 : decode cL_law 1664 = .ok (.iconst 1, 1) := by decide +kernel
theorem dL_law_1665 : decode cL_law 1665 = .ok (.iadd, 1) := by decide +kernel
theorem dL_law_1666 : decode cL_law 1666 = .ok (.iaload, 1) := by decide +kernel
theorem dL_law_1667 : decode cL_law 1667 = .ok (.aload_n 0, 1) := by decide +kernel
theorem dL_law_1668 : decode cL_law 1668 = .ok (.iload 4, 2) := by decide +kernel
theorem dL_law_1670 : decode cL_law 1670 = .ok (.iconst 2, 1) := by decide +kernel
theorem dL_law_1671 : decode cL_law 1671 = .ok (.iadd, 1) := by decide +kernel
theorem dL_law_1672 : decode cL_law 1672 = .ok (.iaload, 1) := by decide +kernel
theorem dL_law_1673 : decode cL_law 1673 = .ok (.ifCond .eq 7, 3) := by decide +kernel
theorem dL_law_1676 : decode cL_law 1676 = .ok (.iconst 1, 1) := by decide +kernel
theorem dL_law_1677 : decode cL_law 1677 = .ok (.goto 4, 3) := by decide +kernel
theorem dL_law_1680 : decode cL_law 1680 = .ok (.iconst 0, 1) := by decide +kernel
theorem dL_law_1681 : decode cL_law 1681 = .ok (.invokevirtual 202, 3) := by decide +kernel
theorem dL_law_1684 : decode cL_law 1684 = .ok (.pop, 1) := by decide +kernel
theorem dL_law_1685 : decode cL_law 1685 = .ok (.goto 120, 3) := by decide +kernel
theorem dL_law_1688 : decode cL_law 1688 = .ok (.aload_n 1, 1) := by decide +kernel
theorem dL_law_1689 : decode cL_law 1689 = .ok (.invokevirtual 203, 3) := by decide +kernel
theorem dL_law_1692 : decode cL_law 1692 = .ok (.pop, 1) := by decide +kernel
theorem dL_law_1693 : decode cL_law 1693 = .ok (.aload_n 2, 1) := by decide +kernel
theorem dL_law_1694 : decode cL_law 1694 = .ok (.invokevirtual 207, 3) := by decide +kernel
theorem dL_law_1697 : decode cL_law 1697 = .ok (.pop, 1) := by decide +kernel
theorem dL_law_1698 : decode cL_law 1698 = .ok (.goto 107, 3) := by decide +kernel
theorem dL_law_1701 : decode cL_law 1701 = .ok (.aload_n 1, 1) := by decide +kernel
theorem dL_law_1702 : decode cL_law 1702 = .ok (.invokevirtual 208, 3) := by decide +kernel
theorem dL_law_1705 : decode cL_law 1705 = .ok (.pop, 1) := by decide +kernel
theorem dL_law_1706 : decode cL_law 1706 = .ok (.aload_n 2, 1) := by decide +kernel
theorem dL_law_1707 : decode cL_law 1707 = .ok (.invokevirtual 211, 3) := by decide +kernel
theorem dL_law_1710 : decode cL_law 1710 = .ok (.pop, 1) := by decide +kernel
theorem dL_law_1711 : decode cL_law 1711 = .ok (.goto 94, 3) := by decide +kernel
theorem dL_law_1714 : decode cL_law 1714 = .ok (.aload_n 1, 1) := by decide +kernel
theorem dL_law_1715 : decode cL_law 1715 = .ok (.aload_n 0, 1) := by decide +kernel
theorem dL_law_1716 : decode cL_law 1716 = .ok (.iload 4, 2) := by decide +kernel
theorem dL_law_1718 : decode cL_law 1718 = .ok (.iconst 1, 1) := by decide +kernel
theorem dL_law_1719 : decode cL_law 1719 = .ok (.iadd, 1) := by decide +kernel
theorem dL_law_1720 : decode cL_law 1720 = .ok (.iaload, 1) := by decide +kernel
theorem dL_law_1721 : decode cL_law 1721 = .ok (.invokevirtual 212, 3) := by decide +kernel
theorem dL_law_1724 : decode cL_law 1724 = .ok (.pop, 1) := by decide +kernel
theorem dL_law_1725 : decode cL_law 1725 = .ok (.aload_n 2, 1) := by decide +kernel
theorem dL_law_1726 : decode cL_law 1726 = .ok (.aload_n 0, 1) := by decide +kernel
theorem dL_law_1727 : decode cL_law 1727 = .ok (.iload 4, 2) := by decide +kernel
theorem dL_law_1729 : decode cL_law 1729 = .ok (.iconst 1, 1) := by decide +kernel
theorem dL_law_1730 : decode cL_law 1730 = .ok (.iadd, 1) := by decide +kernel
theorem dL_law_1731 : decode cL_law 1731 = .ok (.iaload, 1) := by decide +kernel
theorem dL_law_1732 : decode cL_law 1732 = .ok (.invokevirtual 216, 3) := by decide +kernel
theorem dL_law_1735 : decode cL_law 1735 = .ok (.pop, 1) := by decide +kernel
theorem dL_law_1736 : decode cL_law 1736 = .ok (.goto 69, 3) := by decide +kernel
theorem dL_law_1739 : decode cL_law 1739 = .ok (.aload_n 1, 1) := by decide +kernel
theorem dL_law_1740 : decode cL_law 1740 = .ok (.aload_n 0, 1) := by decide +kernel
theorem dL_law_1741 : decode cL_law 1741 = .ok (.iload 4, 2) := by decide +kernel
theorem dL_law_1743 : decode cL_law 1743 = .ok (.iconst 1, 1) := by decide +kernel
theorem dL_law_1744 : decode cL_law 1744 = .ok (.iadd, 1) := by decide +kernel
theorem dL_law_1745 : decode cL_law 1745 = .ok (.iaload, 1) := by decide +kernel
theorem dL_law_1746 : decode cL_law 1746 = .ok (.aload_n 3, 1) := by decide +kernel
theorem dL_law_1747 : decode cL_law 1747 = .ok (.invokestatic 217, 3) := by decide +kernel
theorem dL_law_1750 : decode cL_law 1750 = .ok (.istore 5, 2) := by decide +kernel
theorem dL_law_1752 : decode cL_law 1752 = .ok (.aload_n 2, 1) := by decide +kernel
theorem dL_law_1753 : decode cL_law 1753 = .ok (.aload_n 0, 1) := by decide +kernel
theorem dL_law_1754 : decode cL_law 1754 = .ok (.iload 4, 2) := by decide +kernel
theorem dL_law_1756 : decode cL_law 1756 = .ok (.iconst 1, 1) := by decide +kernel
theorem dL_law_1757 : decode cL_law 1757 = .ok (.iadd, 1) := by decide +kernel
theorem dL_law_1758 : decode cL_law 1758 = .ok (.iaload, 1) := by decide +kernel
theorem dL_law_1759 : decode cL_law 1759 = .ok (.invokevirtual 222, 3) := by decide +kernel
theorem dL_law_1762 : decode cL_law 1762 = .ok (.istore 6, 2) := by decide +kernel
theorem dL_law_1764 : decode cL_law 1764 = .ok (.goto 41, 3) := by decide +kernel
theorem dL_law_1767 : decode cL_law 1767 = .ok (.aload_n 1, 1) := by decide +kernel
theorem dL_law_1768 : decode cL_law 1768 = .ok (.aload_n 0, 1) := by decide +kernel
theorem dL_law_1769 : decode cL_law 1769 = .ok (.iload 4, 2) := by decide +kernel
theorem dL_law_1771 : decode cL_law 1771 = .ok (.iconst 1, 1) := by decide +kernel
theorem dL_law_1772 : decode cL_law 1772 = .ok (.iadd, 1) := by decide +kernel
theorem dL_law_1773 : decode cL_law 1773 = .ok (.iaload, 1) := by decide +kernel
theorem dL_law_1774 : decode cL_law 1774 = .ok (.invokevirtual 223, 3) := by decide +kernel
theorem dL_law_1777 : decode cL_law 1777 = .ok (.pop, 1) := by decide +kernel
theorem dL_law_1778 : decode cL_law 1778 = .ok (.aload_n 2, 1) := by decide +kernel
theorem dL_law_1779 : decode cL_law 1779 = .ok (.aload_n 0, 1) := by decide +kernel
theorem dL_law_1780 : decode cL_law 1780 = .ok (.iload 4, 2) := by decide +kernel
theorem dL_law_1782 : decode cL_law 1782 = .ok (.iconst 1, 1) := by decide +kernel
theorem dL_law_1783 : decode cL_law 1783 = .ok (.iadd, 1) := by decide +kernel
theorem dL_law_1784 : decode cL_law 1784 = .ok (.iaload, 1) := by decide +kernel
theorem dL_law_1785 : decode cL_law 1785 = .ok (.invokevirtual 226, 3) := by decide +kernel
theorem dL_law_1788 : decode cL_law 1788 = .ok (.pop, 1) := by decide +kernel
theorem dL_law_1789 : decode cL_law 1789 = .ok (.goto 16, 3) := by decide +kernel
theorem dL_law_1792 : decode cL_law 1792 = .ok (.aload_n 1, 1) := by decide +kernel
theorem dL_law_1793 : decode cL_law 1793 = .ok (.invokevirtual 227, 3) := by decide +kernel
theorem dL_law_1796 : decode cL_law 1796 = .ok (.pop, 1) := by decide +kernel
theorem dL_law_1797 : decode cL_law 1797 = .ok (.aload_n 2, 1) := by decide +kernel
theorem dL_law_1798 : decode cL_law 1798 = .ok (.invokevirtual 230, 3) := by decide +kernel
theorem dL_law_1801 : decode cL_law 1801 = .ok (.pop, 1) := by decide +kernel
theorem dL_law_1802 : decode cL_law 1802 = .ok (.goto 3, 3) := by decide +kernel
theorem dL_law_1805 : decode cL_law 1805 = .ok (.iinc 4 6, 3) := by decide +kernel
theorem dL_law_1808 : decode cL_law 1808 = .ok (.goto (-1785), 3) := by decide +kernel
theorem dL_law_1811 : decode cL_law 1811 = .ok (.iconst 1, 1) := by decide +kernel
theorem dL_law_1812 : decode cL_law 1812 = .ok (.ireturn, 1) := by decide +kernel
set_option maxRecDepth 100000 in
def oL_led : List dLf := [(0, .aload_n 2, 1), (1, .iconst 0, 1), (2, .aload_n 0, 1), (3, .iload_n 1, 1), (4, .invokevirtual 7, 3), (7, .i2l, 1), (8, .lastore, 1), (9, .goto 6, 3), (12, .astore_n 3, 1), (13, .iconst 1, 1), (14, .ireturn, 1), (15, .iconst 0, 1), (16, .ireturn, 1)]
set_option maxRecDepth 100000 in
theorem odL_led : ∀ q ∈ oL_led, decode cL_led q.1 = .ok (q.2.1, q.2.2) := by decide +kernel
set_option maxRecDepth 100000 in
def tL_led : Lean.RArray dLf := .branch 8 (.branch 3 (.branch 1 (.leaf (0, .aload_n 2, 1)) (.branch 2 (.leaf (1, .iconst 0, 1)) (.leaf (2, .aload_n 0, 1)))) (.branch 4 (.leaf (3, .iload_n 1, 1)) (.branch 7 (.leaf (4, .invokevirtual 7, 3)) (.leaf (7, .i2l, 1))))) (.branch 13 (.branch 9 (.leaf (8, .lastore, 1)) (.branch 12 (.leaf (9, .goto 6, 3)) (.leaf (12, .astore_n 3, 1)))) (.branch 15 (.branch 14 (.leaf (13, .iconst 1, 1)) (.leaf (14, .ireturn, 1))) (.branch 16 (.leaf (15, .iconst 0, 1)) (.leaf (16, .ireturn, 1)))))
set_option maxRecDepth 100000 in
theorem ofL_led : dFl tL_led = oL_led := rfl
theorem dL_led_0 : decode cL_led 0 = .ok (.aload_n 2, 1) := d_by (d_at odL_led ofL_led 0) rfl
theorem dL_led_1 : decode cL_led 1 = .ok (.iconst 0, 1) := d_by (d_at odL_led ofL_led 1) rfl
theorem dL_led_2 : decode cL_led 2 = .ok (.aload_n 0, 1) := d_by (d_at odL_led ofL_led 2) rfl
theorem dL_led_3 : decode cL_led 3 = .ok (.iload_n 1, 1) := d_by (d_at odL_led ofL_led 3) rfl
theorem dL_led_4 : decode cL_led 4 = .ok (.invokevirtual 7, 3) := d_by (d_at odL_led ofL_led 4) rfl
theorem dL_led_7 : decode cL_led 7 = .ok (.i2l, 1) := d_by (d_at odL_led ofL_led 7) rfl
theorem dL_led_8 : decode cL_led 8 = .ok (.lastore, 1) := d_by (d_at odL_led ofL_led 8) rfl
theorem dL_led_9 : decode cL_led 9 = .ok (.goto 6, 3) := d_by (d_at odL_led ofL_led 9) rfl
theorem dL_led_12 : decode cL_led 12 = .ok (.astore_n 3, 1) := d_by (d_at odL_led ofL_led 12) rfl
theorem dL_led_13 : decode cL_led 13 = .ok (.iconst 1, 1) := d_by (d_at odL_led ofL_led 13) rfl
theorem dL_led_14 : decode cL_led 14 = .ok (.ireturn, 1) := d_by (d_at odL_led ofL_led 14) rfl
theorem dL_led_15 : decode cL_led 15 = .ok (.iconst 0, 1) := d_by (d_at odL_led ofL_led 15) rfl
theorem dL_led_16 : decode cL_led 16 = .ok (.ireturn, 1) := d_by (d_at odL_led ofL_led 16) rfl
