section Pk0
/-! the cases of the law, by program -/
theorem lc_0 {t i L : Nat} {h : zH} {xs : Nat → Int32} {ls : zL} {A : pA} {c : Nat} {s : nS} {H J : List nS} (hL : L ≤ 3072) (hiL : i + 6 ≤ L) (hl : lLoc ls i) (hi : lInv t h) (hz : lZ A c s H J h) (hx : lX A c s H J h) (K : ∀ ls' h', lLoc ls' i → lInv (t + 1) h' → lZs h' → zEx (some (L, xs)) 1005 mL_law (1805, ls', [], h') zQL) : zEx (some (L, xs)) 1005 mL_law (256, ls, [], h) zQL := by
  obtain ⟨sz, hs, e1, e2⟩ := l_sz hi
  have no : zsh h 1000000 = none := hi.sh (by decide +kernel)
  refine ex_aload_n (pc' := 257) dL_law_256 hl.2.1 rfl ?_
  refine ex_aload_n (pc' := 258) dL_law_257 hl.1 rfl ?_
  refine ex_iload (pc' := 260) dL_law_258 hl.2.2.2.2 rfl ?_
  refine ex_iconst (v := nI 1) (pc' := 261) dL_law_260 (by decide) rfl ?_
  refine ex_iadd (pc' := 262) (v := nI (i + 1)) dL_law_261 (nI_add _ _) rfl ?_
  refine ex_sald (pc' := 263) (n := L) (xs := xs) (v := xs (i + 1)) dL_law_262 no rfl (sin hL (by omega)) (sxs hL (by omega)) rfl ?_
  refine ex_aload_n (pc' := 264) dL_law_263 hl.1 rfl ?_
  refine ex_iload (pc' := 266) dL_law_264 hl.2.2.2.2 rfl ?_
  refine ex_iconst (v := nI 2) (pc' := 267) dL_law_266 (by decide) rfl ?_
  refine ex_iadd (pc' := 268) (v := nI (i + 2)) dL_law_267 (nI_add _ _) rfl ?_
  refine ex_sald (pc' := 269) (n := L) (xs := xs) (v := xs (i + 2)) dL_law_268 no rfl (sin hL (by omega)) (sxs hL (by omega)) rfl ?_
  refine ex_aload_n (pc' := 270) dL_law_269 hl.1 rfl ?_
  refine ex_iload (pc' := 272) dL_law_270 hl.2.2.2.2 rfl ?_
  refine ex_iconst (v := nI 3) (pc' := 273) dL_law_272 (by decide) rfl ?_
  refine ex_iadd (pc' := 274) (v := nI (i + 3)) dL_law_273 (nI_add _ _) rfl ?_
  refine ex_sald (pc' := 275) (n := L) (xs := xs) (v := xs (i + 3)) dL_law_274 no rfl (sin hL (by omega)) (sxs hL (by omega)) rfl ?_
  refine ex_aload_n (pc' := 276) dL_law_275 hl.1 rfl ?_
  refine ex_iload (pc' := 278) dL_law_276 hl.2.2.2.2 rfl ?_
  refine ex_iconst (v := nI 4) (pc' := 279) dL_law_278 (by decide) rfl ?_
  refine ex_iadd (pc' := 280) (v := nI (i + 4)) dL_law_279 (nI_add _ _) rfl ?_
  refine ex_sald (pc' := 281) (n := L) (xs := xs) (v := xs (i + 4)) dL_law_280 no rfl (sin hL (by omega)) (sxs hL (by omega)) rfl ?_
  refine ex_aload_n (pc' := 282) dL_law_281 hl.1 rfl ?_
  refine ex_iload (pc' := 284) dL_law_282 hl.2.2.2.2 rfl ?_
  refine ex_iconst (v := nI 5) (pc' := 285) dL_law_284 (by decide) rfl ?_
  refine ex_iadd (pc' := 286) (v := nI (i + 5)) dL_law_285 (nI_add _ _) rfl ?_
  refine ex_sald (pc' := 287) (n := L) (xs := xs) (v := xs (i + 5)) dL_law_286 no rfl (sin hL (by omega)) (sxs hL (by omega)) rfl ?_
  refine ex_callvI (pc' := 290) (vs := [.inl (xs (i + 1)), .inl (xs (i + 2)), .inl (xs (i + 3)), .inl (xs (i + 4)), .inl (xs (i + 5))]) (rest := []) (n := 16) dL_law_287 ml_13_19 ⟨zble rfl, zble rfl⟩ rfl rfl (hi.sh (by decide +kernel)) (by decide) (zble rfl) rfl (zCi.pl (l_feed11 hi hs e1 e2) (n_feed11 hi)) (fun x1 h1 hi1 => ?_)
  obtain ⟨⟨hi1, f2, f3, f4, f5, f6⟩, fz⟩ := hi1
  have no : zsh h1 1000000 = none := hi1.sh (by decide +kernel)
  refine ex_pop (pc' := 291) dL_law_290 rfl rfl ?_
  refine ex_aload_n (pc' := 292) dL_law_291 hl.2.2.1 rfl ?_
  refine ex_aload_n (pc' := 293) dL_law_292 hl.1 rfl ?_
  refine ex_iload (pc' := 295) dL_law_293 hl.2.2.2.2 rfl ?_
  refine ex_iconst (v := nI 1) (pc' := 296) dL_law_295 (by decide) rfl ?_
  refine ex_iadd (pc' := 297) (v := nI (i + 1)) dL_law_296 (nI_add _ _) rfl ?_
  refine ex_sald (pc' := 298) (n := L) (xs := xs) (v := xs (i + 1)) dL_law_297 no rfl (sin hL (by omega)) (sxs hL (by omega)) rfl ?_
  refine ex_aload_n (pc' := 299) dL_law_298 hl.1 rfl ?_
  refine ex_iload (pc' := 301) dL_law_299 hl.2.2.2.2 rfl ?_
  refine ex_iconst (v := nI 2) (pc' := 302) dL_law_301 (by decide) rfl ?_
  refine ex_iadd (pc' := 303) (v := nI (i + 2)) dL_law_302 (nI_add _ _) rfl ?_
  refine ex_sald (pc' := 304) (n := L) (xs := xs) (v := xs (i + 2)) dL_law_303 no rfl (sin hL (by omega)) (sxs hL (by omega)) rfl ?_
  refine ex_aload_n (pc' := 305) dL_law_304 hl.1 rfl ?_
  refine ex_iload (pc' := 307) dL_law_305 hl.2.2.2.2 rfl ?_
  refine ex_iconst (v := nI 3) (pc' := 308) dL_law_307 (by decide) rfl ?_
  refine ex_iadd (pc' := 309) (v := nI (i + 3)) dL_law_308 (nI_add _ _) rfl ?_
  refine ex_sald (pc' := 310) (n := L) (xs := xs) (v := xs (i + 3)) dL_law_309 no rfl (sin hL (by omega)) (sxs hL (by omega)) rfl ?_
  refine ex_aload_n (pc' := 311) dL_law_310 hl.1 rfl ?_
  refine ex_iload (pc' := 313) dL_law_311 hl.2.2.2.2 rfl ?_
  refine ex_iconst (v := nI 4) (pc' := 314) dL_law_313 (by decide) rfl ?_
  refine ex_iadd (pc' := 315) (v := nI (i + 4)) dL_law_314 (nI_add _ _) rfl ?_
  refine ex_sald (pc' := 316) (n := L) (xs := xs) (v := xs (i + 4)) dL_law_315 no rfl (sin hL (by omega)) (sxs hL (by omega)) rfl ?_
  refine ex_aload_n (pc' := 317) dL_law_316 hl.1 rfl ?_
  refine ex_iload (pc' := 319) dL_law_317 hl.2.2.2.2 rfl ?_
  refine ex_iconst (v := nI 5) (pc' := 320) dL_law_319 (by decide) rfl ?_
  refine ex_iadd (pc' := 321) (v := nI (i + 5)) dL_law_320 (nI_add _ _) rfl ?_
  refine ex_sald (pc' := 322) (n := L) (xs := xs) (v := xs (i + 5)) dL_law_321 no rfl (sin hL (by omega)) (sxs hL (by omega)) rfl ?_
  refine ex_callvI (pc' := 325) (vs := [.inl (xs (i + 1)), .inl (xs (i + 2)), .inl (xs (i + 3)), .inl (xs (i + 4)), .inl (xs (i + 5))]) (rest := []) (n := 39) dL_law_322 ml_13_23 ⟨zble rfl, zble rfl⟩ rfl rfl (hi1.sh (by decide +kernel)) (by decide) (zble rfl) rfl (zCi.pl (l_feed12 hi1 hs f2) (n_feed12 hi1)) (fun x2 h2 hi2 => ?_)
  obtain ⟨⟨hi2, g2, g3, g4, g5, g6⟩, gz⟩ := hi2
  have no : zsh h2 1000000 = none := hi2.sh (by decide +kernel)
  refine ex_pop (pc' := 326) dL_law_325 rfl rfl ?_
  refine ex_goto (pc' := 1805) dL_law_326 (by decide) ?_
  exact K _ _ hl (lIn0.inv hi2 (by rw [g2, f3, g3]) (lT_fed hs hi.tp e2 f5 (fun k => f6.1 197 k (by decide)) g5 (fun k => g6.1 1 k (.inl (by decide))) g3) (lY_fed hi.ys f6 g6)).up ⟨_, _, _, _, _, hz.feed f6 fz gz, hx.feed hz f6 gz⟩
theorem lc_1 {t i L : Nat} {h : zH} {xs : Nat → Int32} {ls : zL} {A : pA} {c : Nat} {s : nS} {H J : List nS} (hL : L ≤ 3072) (hiL : i + 6 ≤ L) (hl : lLoc ls i) (hi : lInv t h) (hz : lZ A c s H J h) (hx : lX A c s H J h) (K : ∀ ls' h', lLoc ls' i → lInv (t + 1) h' → lZs h' → zEx (some (L, xs)) 1005 mL_law (1805, ls', [], h') zQL) : zEx (some (L, xs)) 1005 mL_law (329, ls, [], h) zQL := by
  obtain ⟨sz, hs, e1, e2⟩ := l_sz hi
  have no : zsh h 1000000 = none := hi.sh (by decide +kernel)
  refine ex_aload_n (pc' := 330) dL_law_329 hl.2.1 rfl ?_
  refine ex_aload_n (pc' := 331) dL_law_330 hl.1 rfl ?_
  refine ex_iload (pc' := 333) dL_law_331 hl.2.2.2.2 rfl ?_
  refine ex_iconst (v := nI 1) (pc' := 334) dL_law_333 (by decide) rfl ?_
  refine ex_iadd (pc' := 335) (v := nI (i + 1)) dL_law_334 (nI_add _ _) rfl ?_
  refine ex_sald (pc' := 336) (n := L) (xs := xs) (v := xs (i + 1)) dL_law_335 no rfl (sin hL (by omega)) (sxs hL (by omega)) rfl ?_
  refine ex_callvI (pc' := 339) (vs := [.inl (xs (i + 1))]) (rest := []) (n := 16) dL_law_336 ml_13_24 ⟨zble rfl, zble rfl⟩ rfl rfl (hi.sh (by decide +kernel)) (by decide) (zble rfl) rfl (zCi.pl (l_post11 hi hs e1 e2) (n_post11 hi hs e1)) (fun x1 h1 hi1 => ?_)
  obtain ⟨⟨hi1, f2, f3, f4⟩, fz⟩ := hi1
  have no : zsh h1 1000000 = none := hi1.sh (by decide +kernel)
  refine ex_pop (pc' := 340) dL_law_339 rfl rfl ?_
  refine ex_aload_n (pc' := 341) dL_law_340 hl.2.2.1 rfl ?_
  refine ex_aload_n (pc' := 342) dL_law_341 hl.1 rfl ?_
  refine ex_iload (pc' := 344) dL_law_342 hl.2.2.2.2 rfl ?_
  refine ex_iconst (v := nI 1) (pc' := 345) dL_law_344 (by decide) rfl ?_
  refine ex_iadd (pc' := 346) (v := nI (i + 1)) dL_law_345 (nI_add _ _) rfl ?_
  refine ex_sald (pc' := 347) (n := L) (xs := xs) (v := xs (i + 1)) dL_law_346 no rfl (sin hL (by omega)) (sxs hL (by omega)) rfl ?_
  refine ex_callvI (pc' := 350) (vs := [.inl (xs (i + 1))]) (rest := []) (n := 39) dL_law_347 ml_13_27 ⟨zble rfl, zble rfl⟩ rfl rfl (hi1.sh (by decide +kernel)) (by decide) (zble rfl) rfl (zCi.pl (l_post12 (y := h.2.1 1) hi1 hs f2 (fun k hk => by rw [f4.1 197 k (by decide)]; exact hi.tp k (by rw [e2]; exact hk))) (n_post12 (y := h.2.1 1) hi1 hs f2 (fun k hk => by rw [f4.1 197 k (by decide)]; exact hi.tp k (by rw [e2]; exact hk)))) (fun x2 h2 hi2 => ?_)
  obtain ⟨⟨hi2, g2, g3, g4⟩, gz⟩ := hi2
  have no : zsh h2 1000000 = none := hi2.sh (by decide +kernel)
  refine ex_pop (pc' := 351) dL_law_350 rfl rfl ?_
  refine ex_goto (pc' := 1805) dL_law_351 (by decide) ?_
  exact K _ _ hl (lIn0.inv hi2 (by rw [g2, f3, g3]) (lT_post hi.tp e2 f4 g4 g3) (lY_post hi.ys hi2.1 f4 g4)).up (lZ_post hz hx hi2.1 f4 fz g4 gz)
theorem lc_2 {t i L : Nat} {h : zH} {xs : Nat → Int32} {ls : zL} {A : pA} {c : Nat} {s : nS} {H J : List nS} (hL : L ≤ 3072) (hiL : i + 6 ≤ L) (hl : lLoc ls i) (hi : lInv t h) (hz : lZ A c s H J h) (hx : lX A c s H J h) (K : ∀ ls' h', lLoc ls' i → lInv (t + 1) h' → lZs h' → zEx (some (L, xs)) 1005 mL_law (1805, ls', [], h') zQL) : zEx (some (L, xs)) 1005 mL_law (354, ls, [], h) zQL := by
  have no : zsh h 1000000 = none := hi.sh (by decide +kernel)
  refine ex_aload_n (pc' := 355) dL_law_354 hl.2.1 rfl ?_
  refine ex_callvI (pc' := 358) (vs := []) (rest := []) (n := 16) dL_law_355 ml_13_28 ⟨zble rfl, zble rfl⟩ rfl rfl (hi.sh (by decide +kernel)) (by decide) (zble rfl) rfl (zCi.pl (l_cls (k := true) S_60 S_310 (by decide +kernel) (by decide +kernel) rfl rfl ⟨⟨0, List.mem_cons_self, rfl⟩, trivial⟩ rfl hi) (n_cls S_60 S_310 (by decide +kernel) rfl rfl ⟨⟨0, List.mem_cons_self, rfl⟩, trivial⟩ rfl hi)) (fun x1 h1 hi1 => ?_)
  obtain ⟨hi1, fz⟩ := hi1
  have z1 := hz.cls hi1 fz
  have no : zsh h1 1000000 = none := hi1.sh (by decide +kernel)
  refine ex_pop (pc' := 359) dL_law_358 rfl rfl ?_
  refine ex_aload_n (pc' := 360) dL_law_359 hl.2.2.1 rfl ?_
  refine ex_callvI (pc' := 363) (vs := []) (rest := []) (n := 39) dL_law_360 ml_13_32 ⟨zble rfl, zble rfl⟩ rfl rfl (hi1.sh (by decide +kernel)) (by decide) (zble rfl) rfl (zCi.pl (l_modM S_901 (by decide +kernel) ⟨⟨196, List.mem_cons_self, rfl⟩, trivial⟩ hi1) (n_mod S_901 (by decide +kernel) ⟨⟨196, List.mem_cons_self, rfl⟩, trivial⟩ hi1.2.1)) (fun x2 h2 hi2 => ?_)
  obtain ⟨hi2, gz⟩ := hi2
  have z2 := And.intro (z1.ref hz gz) (hx.na hz hi1 gz)
  have no : zsh h2 1000000 = none := hi2.sh (by decide +kernel)
  refine ex_pop (pc' := 364) dL_law_363 rfl rfl ?_
  refine ex_goto (pc' := 1805) dL_law_364 (by decide) ?_
  exact K _ _ hl (hi2.up) ⟨_, _, _, _, _, z2⟩
theorem lc_3 {t i L : Nat} {h : zH} {xs : Nat → Int32} {ls : zL} {A : pA} {c : Nat} {s : nS} {H J : List nS} (hL : L ≤ 3072) (hiL : i + 6 ≤ L) (hl : lLoc ls i) (hi : lInv t h) (hz : lZ A c s H J h) (hx : lX A c s H J h) (K : ∀ ls' h', lLoc ls' i → lInv (t + 1) h' → lZs h' → zEx (some (L, xs)) 1005 mL_law (1805, ls', [], h') zQL) : zEx (some (L, xs)) 1005 mL_law (367, ls, [], h) zQL := by
  have no : zsh h 1000000 = none := hi.sh (by decide +kernel)
  refine ex_aload_n (pc' := 368) dL_law_367 hl.2.1 rfl ?_
  refine ex_callvI (pc' := 371) (vs := []) (rest := []) (n := 16) dL_law_368 ml_13_33 ⟨zble rfl, zble rfl⟩ rfl rfl (hi.sh (by decide +kernel)) (by decide) (zble rfl) rfl (zCi.pl (l_cls (k := true) S_61 S_311 (by decide +kernel) (by decide +kernel) rfl rfl ⟨⟨0, List.mem_cons_self, rfl⟩, trivial⟩ rfl hi) (n_cls S_61 S_311 (by decide +kernel) rfl rfl ⟨⟨0, List.mem_cons_self, rfl⟩, trivial⟩ rfl hi)) (fun x1 h1 hi1 => ?_)
  obtain ⟨hi1, fz⟩ := hi1
  have z1 := hz.cls hi1 fz
  have no : zsh h1 1000000 = none := hi1.sh (by decide +kernel)
  refine ex_pop (pc' := 372) dL_law_371 rfl rfl ?_
  refine ex_aload_n (pc' := 373) dL_law_372 hl.2.2.1 rfl ?_
  refine ex_callvI (pc' := 376) (vs := []) (rest := []) (n := 39) dL_law_373 ml_13_36 ⟨zble rfl, zble rfl⟩ rfl rfl (hi1.sh (by decide +kernel)) (by decide) (zble rfl) rfl (zCi.pl (l_modM S_902 (by decide +kernel) ⟨⟨196, List.mem_cons_self, rfl⟩, trivial⟩ hi1) (n_mod S_902 (by decide +kernel) ⟨⟨196, List.mem_cons_self, rfl⟩, trivial⟩ hi1.2.1)) (fun x2 h2 hi2 => ?_)
  obtain ⟨hi2, gz⟩ := hi2
  have z2 := And.intro (z1.ref hz gz) (hx.na hz hi1 gz)
  have no : zsh h2 1000000 = none := hi2.sh (by decide +kernel)
  refine ex_pop (pc' := 377) dL_law_376 rfl rfl ?_
  refine ex_goto (pc' := 1805) dL_law_377 (by decide) ?_
  exact K _ _ hl (hi2.up) ⟨_, _, _, _, _, z2⟩
theorem lc_4 {t i L : Nat} {h : zH} {xs : Nat → Int32} {ls : zL} {A : pA} {c : Nat} {s : nS} {H J : List nS} (hL : L ≤ 3072) (hiL : i + 6 ≤ L) (hl : lLoc ls i) (hi : lInv t h) (hz : lZ A c s H J h) (hx : lX A c s H J h) (K : ∀ ls' h', lLoc ls' i → lInv (t + 1) h' → lZs h' → zEx (some (L, xs)) 1005 mL_law (1805, ls', [], h') zQL) : zEx (some (L, xs)) 1005 mL_law (380, ls, [], h) zQL := by
  have no : zsh h 1000000 = none := hi.sh (by decide +kernel)
  refine ex_aload_n (pc' := 381) dL_law_380 hl.2.1 rfl ?_
  refine ex_aload_n (pc' := 382) dL_law_381 hl.1 rfl ?_
  refine ex_iload (pc' := 384) dL_law_382 hl.2.2.2.2 rfl ?_
  refine ex_iconst (v := nI 1) (pc' := 385) dL_law_384 (by decide) rfl ?_
  refine ex_iadd (pc' := 386) (v := nI (i + 1)) dL_law_385 (nI_add _ _) rfl ?_
  refine ex_sald (pc' := 387) (n := L) (xs := xs) (v := xs (i + 1)) dL_law_386 no rfl (sin hL (by omega)) (sxs hL (by omega)) rfl ?_
  refine ex_aload_n (pc' := 388) dL_law_387 hl.1 rfl ?_
  refine ex_iload (pc' := 390) dL_law_388 hl.2.2.2.2 rfl ?_
  refine ex_iconst (v := nI 2) (pc' := 391) dL_law_390 (by decide) rfl ?_
  refine ex_iadd (pc' := 392) (v := nI (i + 2)) dL_law_391 (nI_add _ _) rfl ?_
  refine ex_sald (pc' := 393) (n := L) (xs := xs) (v := xs (i + 2)) dL_law_392 no rfl (sin hL (by omega)) (sxs hL (by omega)) rfl ?_
  refine ex_callvI (pc' := 396) (vs := [.inl (xs (i + 1)), .inl (xs (i + 2))]) (rest := []) (n := 16) dL_law_393 ml_13_37 ⟨zble rfl, zble rfl⟩ rfl rfl (hi.sh (by decide +kernel)) (by decide) (zble rfl) rfl (zCi.pl (l_cls (k := false) S_64 S_313 (by decide +kernel) (by decide +kernel) rfl rfl ⟨⟨0, List.mem_cons_self, rfl⟩, ⟨_, rfl, aIn_top _⟩, ⟨_, rfl, aIn_top _⟩, trivial⟩ rfl hi) (n_cls S_64 S_313 (by decide +kernel) rfl rfl ⟨⟨0, List.mem_cons_self, rfl⟩, ⟨_, rfl, aIn_top _⟩, ⟨_, rfl, aIn_top _⟩, trivial⟩ rfl hi)) (fun x1 h1 hi1 => ?_)
  obtain ⟨hi1, fz⟩ := hi1
  have z1 := hz.cls hi1 fz
  have no : zsh h1 1000000 = none := hi1.sh (by decide +kernel)
  refine ex_pop (pc' := 397) dL_law_396 rfl rfl ?_
  refine ex_aload_n (pc' := 398) dL_law_397 hl.2.2.1 rfl ?_
  refine ex_aload_n (pc' := 399) dL_law_398 hl.1 rfl ?_
  refine ex_iload (pc' := 401) dL_law_399 hl.2.2.2.2 rfl ?_
  refine ex_iconst (v := nI 1) (pc' := 402) dL_law_401 (by decide) rfl ?_
  refine ex_iadd (pc' := 403) (v := nI (i + 1)) dL_law_402 (nI_add _ _) rfl ?_
  refine ex_sald (pc' := 404) (n := L) (xs := xs) (v := xs (i + 1)) dL_law_403 no rfl (sin hL (by omega)) (sxs hL (by omega)) rfl ?_
  refine ex_aload_n (pc' := 405) dL_law_404 hl.1 rfl ?_
  refine ex_iload (pc' := 407) dL_law_405 hl.2.2.2.2 rfl ?_
  refine ex_iconst (v := nI 2) (pc' := 408) dL_law_407 (by decide) rfl ?_
  refine ex_iadd (pc' := 409) (v := nI (i + 2)) dL_law_408 (nI_add _ _) rfl ?_
  refine ex_sald (pc' := 410) (n := L) (xs := xs) (v := xs (i + 2)) dL_law_409 no rfl (sin hL (by omega)) (sxs hL (by omega)) rfl ?_
  refine ex_callvI (pc' := 413) (vs := [.inl (xs (i + 1)), .inl (xs (i + 2))]) (rest := []) (n := 39) dL_law_410 ml_13_41 ⟨zble rfl, zble rfl⟩ rfl rfl (hi1.sh (by decide +kernel)) (by decide) (zble rfl) rfl (zCi.pl (l_modM S_909 (by decide +kernel) ⟨⟨196, List.mem_cons_self, rfl⟩, ⟨_, rfl, aIn_top _⟩, ⟨_, rfl, aIn_top _⟩, trivial⟩ hi1) (n_mod S_909 (by decide +kernel) ⟨⟨196, List.mem_cons_self, rfl⟩, ⟨_, rfl, aIn_top _⟩, ⟨_, rfl, aIn_top _⟩, trivial⟩ hi1.2.1)) (fun x2 h2 hi2 => ?_)
  obtain ⟨hi2, gz⟩ := hi2
  have z2 := And.intro (z1.ref hz gz) (hx.na hz hi1 gz)
  have no : zsh h2 1000000 = none := hi2.sh (by decide +kernel)
  refine ex_pop (pc' := 414) dL_law_413 rfl rfl ?_
  refine ex_goto (pc' := 1805) dL_law_414 (by decide) ?_
  exact K _ _ hl (hi2.up) ⟨_, _, _, _, _, z2⟩
theorem lc_5 {t i L : Nat} {h : zH} {xs : Nat → Int32} {ls : zL} {A : pA} {c : Nat} {s : nS} {H J : List nS} (hL : L ≤ 3072) (hiL : i + 6 ≤ L) (hl : lLoc ls i) (hi : lInv t h) (hz : lZ A c s H J h) (hx : lX A c s H J h) (K : ∀ ls' h', lLoc ls' i → lInv (t + 1) h' → lZs h' → zEx (some (L, xs)) 1005 mL_law (1805, ls', [], h') zQL) : zEx (some (L, xs)) 1005 mL_law (417, ls, [], h) zQL := by
  have no : zsh h 1000000 = none := hi.sh (by decide +kernel)
  refine ex_aload_n (pc' := 418) dL_law_417 hl.2.1 rfl ?_
  refine ex_aload_n (pc' := 419) dL_law_418 hl.1 rfl ?_
  refine ex_iload (pc' := 421) dL_law_419 hl.2.2.2.2 rfl ?_
  refine ex_iconst (v := nI 1) (pc' := 422) dL_law_421 (by decide) rfl ?_
  refine ex_iadd (pc' := 423) (v := nI (i + 1)) dL_law_422 (nI_add _ _) rfl ?_
  refine ex_sald (pc' := 424) (n := L) (xs := xs) (v := xs (i + 1)) dL_law_423 no rfl (sin hL (by omega)) (sxs hL (by omega)) rfl ?_
  refine ex_aload_n (pc' := 425) dL_law_424 hl.1 rfl ?_
  refine ex_iload (pc' := 427) dL_law_425 hl.2.2.2.2 rfl ?_
  refine ex_iconst (v := nI 2) (pc' := 428) dL_law_427 (by decide) rfl ?_
  refine ex_iadd (pc' := 429) (v := nI (i + 2)) dL_law_428 (nI_add _ _) rfl ?_
  refine ex_sald (pc' := 430) (n := L) (xs := xs) (v := xs (i + 2)) dL_law_429 no rfl (sin hL (by omega)) (sxs hL (by omega)) rfl ?_
  refine ex_callvI (pc' := 433) (vs := [.inl (xs (i + 1)), .inl (xs (i + 2))]) (rest := []) (n := 16) dL_law_430 ml_13_42 ⟨zble rfl, zble rfl⟩ rfl rfl (hi.sh (by decide +kernel)) (by decide) (zble rfl) rfl (zCi.pl (l_cls (k := false) S_66 S_315 (by decide +kernel) (by decide +kernel) rfl rfl ⟨⟨0, List.mem_cons_self, rfl⟩, ⟨_, rfl, aIn_top _⟩, ⟨_, rfl, aIn_top _⟩, trivial⟩ rfl hi) (n_cls S_66 S_315 (by decide +kernel) rfl rfl ⟨⟨0, List.mem_cons_self, rfl⟩, ⟨_, rfl, aIn_top _⟩, ⟨_, rfl, aIn_top _⟩, trivial⟩ rfl hi)) (fun x1 h1 hi1 => ?_)
  obtain ⟨hi1, fz⟩ := hi1
  have z1 := hz.cls hi1 fz
  have no : zsh h1 1000000 = none := hi1.sh (by decide +kernel)
  refine ex_pop (pc' := 434) dL_law_433 rfl rfl ?_
  refine ex_aload_n (pc' := 435) dL_law_434 hl.2.2.1 rfl ?_
  refine ex_aload_n (pc' := 436) dL_law_435 hl.1 rfl ?_
  refine ex_iload (pc' := 438) dL_law_436 hl.2.2.2.2 rfl ?_
  refine ex_iconst (v := nI 1) (pc' := 439) dL_law_438 (by decide) rfl ?_
  refine ex_iadd (pc' := 440) (v := nI (i + 1)) dL_law_439 (nI_add _ _) rfl ?_
  refine ex_sald (pc' := 441) (n := L) (xs := xs) (v := xs (i + 1)) dL_law_440 no rfl (sin hL (by omega)) (sxs hL (by omega)) rfl ?_
  refine ex_aload_n (pc' := 442) dL_law_441 hl.1 rfl ?_
  refine ex_iload (pc' := 444) dL_law_442 hl.2.2.2.2 rfl ?_
  refine ex_iconst (v := nI 2) (pc' := 445) dL_law_444 (by decide) rfl ?_
  refine ex_iadd (pc' := 446) (v := nI (i + 2)) dL_law_445 (nI_add _ _) rfl ?_
  refine ex_sald (pc' := 447) (n := L) (xs := xs) (v := xs (i + 2)) dL_law_446 no rfl (sin hL (by omega)) (sxs hL (by omega)) rfl ?_
  refine ex_callvI (pc' := 450) (vs := [.inl (xs (i + 1)), .inl (xs (i + 2))]) (rest := []) (n := 39) dL_law_447 ml_13_45 ⟨zble rfl, zble rfl⟩ rfl rfl (hi1.sh (by decide +kernel)) (by decide) (zble rfl) rfl (zCi.pl (l_modM S_914 (by decide +kernel) ⟨⟨196, List.mem_cons_self, rfl⟩, ⟨_, rfl, aIn_top _⟩, ⟨_, rfl, aIn_top _⟩, trivial⟩ hi1) (n_mod S_914 (by decide +kernel) ⟨⟨196, List.mem_cons_self, rfl⟩, ⟨_, rfl, aIn_top _⟩, ⟨_, rfl, aIn_top _⟩, trivial⟩ hi1.2.1)) (fun x2 h2 hi2 => ?_)
  obtain ⟨hi2, gz⟩ := hi2
  have z2 := And.intro (z1.ref hz gz) (hx.na hz hi1 gz)
  have no : zsh h2 1000000 = none := hi2.sh (by decide +kernel)
  refine ex_pop (pc' := 451) dL_law_450 rfl rfl ?_
  refine ex_goto (pc' := 1805) dL_law_451 (by decide) ?_
  exact K _ _ hl (hi2.up) ⟨_, _, _, _, _, z2⟩
theorem lc_6 {t i L : Nat} {h : zH} {xs : Nat → Int32} {ls : zL} {A : pA} {c : Nat} {s : nS} {H J : List nS} (hL : L ≤ 3072) (hiL : i + 6 ≤ L) (hl : lLoc ls i) (hi : lInv t h) (hz : lZ A c s H J h) (hx : lX A c s H J h) (K : ∀ ls' h', lLoc ls' i → lInv (t + 1) h' → lZs h' → zEx (some (L, xs)) 1005 mL_law (1805, ls', [], h') zQL) : zEx (some (L, xs)) 1005 mL_law (454, ls, [], h) zQL := by
  have no : zsh h 1000000 = none := hi.sh (by decide +kernel)
  refine ex_aload_n (pc' := 455) dL_law_454 hl.2.1 rfl ?_
  refine ex_aload_n (pc' := 456) dL_law_455 hl.1 rfl ?_
  refine ex_iload (pc' := 458) dL_law_456 hl.2.2.2.2 rfl ?_
  refine ex_iconst (v := nI 1) (pc' := 459) dL_law_458 (by decide) rfl ?_
  refine ex_iadd (pc' := 460) (v := nI (i + 1)) dL_law_459 (nI_add _ _) rfl ?_
  refine ex_sald (pc' := 461) (n := L) (xs := xs) (v := xs (i + 1)) dL_law_460 no rfl (sin hL (by omega)) (sxs hL (by omega)) rfl ?_
  refine ex_callvI (pc' := 464) (vs := [.inl (xs (i + 1))]) (rest := []) (n := 16) dL_law_461 ml_13_46 ⟨zble rfl, zble rfl⟩ rfl rfl (hi.sh (by decide +kernel)) (by decide) (zble rfl) rfl (zCi.pl (l_cls (k := false) S_68 S_317 (by decide +kernel) (by decide +kernel) rfl rfl ⟨⟨0, List.mem_cons_self, rfl⟩, ⟨_, rfl, aIn_top _⟩, trivial⟩ rfl hi) (n_cls S_68 S_317 (by decide +kernel) rfl rfl ⟨⟨0, List.mem_cons_self, rfl⟩, ⟨_, rfl, aIn_top _⟩, trivial⟩ rfl hi)) (fun x1 h1 hi1 => ?_)
  obtain ⟨hi1, fz⟩ := hi1
  have z1 := hz.cls hi1 fz
  have no : zsh h1 1000000 = none := hi1.sh (by decide +kernel)
  refine ex_pop (pc' := 465) dL_law_464 rfl rfl ?_
  refine ex_aload_n (pc' := 466) dL_law_465 hl.2.2.1 rfl ?_
  refine ex_aload_n (pc' := 467) dL_law_466 hl.1 rfl ?_
  refine ex_iload (pc' := 469) dL_law_467 hl.2.2.2.2 rfl ?_
  refine ex_iconst (v := nI 1) (pc' := 470) dL_law_469 (by decide) rfl ?_
  refine ex_iadd (pc' := 471) (v := nI (i + 1)) dL_law_470 (nI_add _ _) rfl ?_
  refine ex_sald (pc' := 472) (n := L) (xs := xs) (v := xs (i + 1)) dL_law_471 no rfl (sin hL (by omega)) (sxs hL (by omega)) rfl ?_
  refine ex_callvI (pc' := 475) (vs := [.inl (xs (i + 1))]) (rest := []) (n := 39) dL_law_472 ml_13_49 ⟨zble rfl, zble rfl⟩ rfl rfl (hi1.sh (by decide +kernel)) (by decide) (zble rfl) rfl (zCi.pl (l_modM S_918 (by decide +kernel) ⟨⟨196, List.mem_cons_self, rfl⟩, ⟨_, rfl, aIn_top _⟩, trivial⟩ hi1) (n_mod S_918 (by decide +kernel) ⟨⟨196, List.mem_cons_self, rfl⟩, ⟨_, rfl, aIn_top _⟩, trivial⟩ hi1.2.1)) (fun x2 h2 hi2 => ?_)
  obtain ⟨hi2, gz⟩ := hi2
  have z2 := And.intro (z1.ref hz gz) (hx.na hz hi1 gz)
  have no : zsh h2 1000000 = none := hi2.sh (by decide +kernel)
  refine ex_pop (pc' := 476) dL_law_475 rfl rfl ?_
  refine ex_goto (pc' := 1805) dL_law_476 (by decide) ?_
  exact K _ _ hl (hi2.up) ⟨_, _, _, _, _, z2⟩
theorem lc_7 {t i L : Nat} {h : zH} {xs : Nat → Int32} {ls : zL} {A : pA} {c : Nat} {s : nS} {H J : List nS} (hL : L ≤ 3072) (hiL : i + 6 ≤ L) (hl : lLoc ls i) (hi : lInv t h) (hz : lZ A c s H J h) (hx : lX A c s H J h) (K : ∀ ls' h', lLoc ls' i → lInv (t + 1) h' → lZs h' → zEx (some (L, xs)) 1005 mL_law (1805, ls', [], h') zQL) : zEx (some (L, xs)) 1005 mL_law (479, ls, [], h) zQL := by
  have no : zsh h 1000000 = none := hi.sh (by decide +kernel)
  refine ex_aload_n (pc' := 480) dL_law_479 hl.2.1 rfl ?_
  refine ex_aload_n (pc' := 481) dL_law_480 hl.1 rfl ?_
  refine ex_iload (pc' := 483) dL_law_481 hl.2.2.2.2 rfl ?_
  refine ex_iconst (v := nI 1) (pc' := 484) dL_law_483 (by decide) rfl ?_
  refine ex_iadd (pc' := 485) (v := nI (i + 1)) dL_law_484 (nI_add _ _) rfl ?_
  refine ex_sald (pc' := 486) (n := L) (xs := xs) (v := xs (i + 1)) dL_law_485 no rfl (sin hL (by omega)) (sxs hL (by omega)) rfl ?_
  refine ex_aload_n (pc' := 487) dL_law_486 hl.1 rfl ?_
  refine ex_iload (pc' := 489) dL_law_487 hl.2.2.2.2 rfl ?_
  refine ex_iconst (v := nI 2) (pc' := 490) dL_law_489 (by decide) rfl ?_
  refine ex_iadd (pc' := 491) (v := nI (i + 2)) dL_law_490 (nI_add _ _) rfl ?_
  refine ex_sald (pc' := 492) (n := L) (xs := xs) (v := xs (i + 2)) dL_law_491 no rfl (sin hL (by omega)) (sxs hL (by omega)) rfl ?_
  refine ex_callvI (pc' := 495) (vs := [.inl (xs (i + 1)), .inl (xs (i + 2))]) (rest := []) (n := 16) dL_law_492 ml_13_50 ⟨zble rfl, zble rfl⟩ rfl rfl (hi.sh (by decide +kernel)) (by decide) (zble rfl) rfl (zCi.pl (l_cls (k := false) S_75 S_322 (by decide +kernel) (by decide +kernel) rfl rfl ⟨⟨0, List.mem_cons_self, rfl⟩, ⟨_, rfl, aIn_top _⟩, ⟨_, rfl, aIn_top _⟩, trivial⟩ rfl hi) (n_cls S_75 S_322 (by decide +kernel) rfl rfl ⟨⟨0, List.mem_cons_self, rfl⟩, ⟨_, rfl, aIn_top _⟩, ⟨_, rfl, aIn_top _⟩, trivial⟩ rfl hi)) (fun x1 h1 hi1 => ?_)
  obtain ⟨hi1, fz⟩ := hi1
  have z1 := hz.cls hi1 fz
  have no : zsh h1 1000000 = none := hi1.sh (by decide +kernel)
  refine ex_pop (pc' := 496) dL_law_495 rfl rfl ?_
  refine ex_aload_n (pc' := 497) dL_law_496 hl.2.2.1 rfl ?_
  refine ex_aload_n (pc' := 498) dL_law_497 hl.1 rfl ?_
  refine ex_iload (pc' := 500) dL_law_498 hl.2.2.2.2 rfl ?_
  refine ex_iconst (v := nI 1) (pc' := 501) dL_law_500 (by decide) rfl ?_
  refine ex_iadd (pc' := 502) (v := nI (i + 1)) dL_law_501 (nI_add _ _) rfl ?_
  refine ex_sald (pc' := 503) (n := L) (xs := xs) (v := xs (i + 1)) dL_law_502 no rfl (sin hL (by omega)) (sxs hL (by omega)) rfl ?_
  refine ex_aload_n (pc' := 504) dL_law_503 hl.1 rfl ?_
  refine ex_iload (pc' := 506) dL_law_504 hl.2.2.2.2 rfl ?_
  refine ex_iconst (v := nI 2) (pc' := 507) dL_law_506 (by decide) rfl ?_
  refine ex_iadd (pc' := 508) (v := nI (i + 2)) dL_law_507 (nI_add _ _) rfl ?_
  refine ex_sald (pc' := 509) (n := L) (xs := xs) (v := xs (i + 2)) dL_law_508 no rfl (sin hL (by omega)) (sxs hL (by omega)) rfl ?_
  refine ex_callvI (pc' := 512) (vs := [.inl (xs (i + 1)), .inl (xs (i + 2))]) (rest := []) (n := 39) dL_law_509 ml_13_53 ⟨zble rfl, zble rfl⟩ rfl rfl (hi1.sh (by decide +kernel)) (by decide) (zble rfl) rfl (zCi.pl (l_modM S_921 (by decide +kernel) ⟨⟨196, List.mem_cons_self, rfl⟩, ⟨_, rfl, aIn_top _⟩, ⟨_, rfl, aIn_top _⟩, trivial⟩ hi1) (n_mod S_921 (by decide +kernel) ⟨⟨196, List.mem_cons_self, rfl⟩, ⟨_, rfl, aIn_top _⟩, ⟨_, rfl, aIn_top _⟩, trivial⟩ hi1.2.1)) (fun x2 h2 hi2 => ?_)
  obtain ⟨hi2, gz⟩ := hi2
  have z2 := And.intro (z1.ref hz gz) (hx.na hz hi1 gz)
  have no : zsh h2 1000000 = none := hi2.sh (by decide +kernel)
  refine ex_pop (pc' := 513) dL_law_512 rfl rfl ?_
  refine ex_goto (pc' := 1805) dL_law_513 (by decide) ?_
  exact K _ _ hl (hi2.up) ⟨_, _, _, _, _, z2⟩
theorem lc_8 {t i L : Nat} {h : zH} {xs : Nat → Int32} {ls : zL} {A : pA} {c : Nat} {s : nS} {H J : List nS} (hL : L ≤ 3072) (hiL : i + 6 ≤ L) (hl : lLoc ls i) (hi : lInv t h) (hz : lZ A c s H J h) (hx : lX A c s H J h) (K : ∀ ls' h', lLoc ls' i → lInv (t + 1) h' → lZs h' → zEx (some (L, xs)) 1005 mL_law (1805, ls', [], h') zQL) : zEx (some (L, xs)) 1005 mL_law (516, ls, [], h) zQL := by
  have no : zsh h 1000000 = none := hi.sh (by decide +kernel)
  refine ex_aload_n (pc' := 517) dL_law_516 hl.2.1 rfl ?_
  refine ex_aload_n (pc' := 518) dL_law_517 hl.1 rfl ?_
  refine ex_iload (pc' := 520) dL_law_518 hl.2.2.2.2 rfl ?_
  refine ex_iconst (v := nI 1) (pc' := 521) dL_law_520 (by decide) rfl ?_
  refine ex_iadd (pc' := 522) (v := nI (i + 1)) dL_law_521 (nI_add _ _) rfl ?_
  refine ex_sald (pc' := 523) (n := L) (xs := xs) (v := xs (i + 1)) dL_law_522 no rfl (sin hL (by omega)) (sxs hL (by omega)) rfl ?_
  refine ex_aload_n (pc' := 524) dL_law_523 hl.1 rfl ?_
  refine ex_iload (pc' := 526) dL_law_524 hl.2.2.2.2 rfl ?_
  refine ex_iconst (v := nI 2) (pc' := 527) dL_law_526 (by decide) rfl ?_
  refine ex_iadd (pc' := 528) (v := nI (i + 2)) dL_law_527 (nI_add _ _) rfl ?_
  refine ex_sald (pc' := 529) (n := L) (xs := xs) (v := xs (i + 2)) dL_law_528 no rfl (sin hL (by omega)) (sxs hL (by omega)) rfl ?_
  refine ex_callvI (pc' := 532) (vs := [.inl (xs (i + 1)), .inl (xs (i + 2))]) (rest := []) (n := 16) dL_law_529 ml_13_54 ⟨zble rfl, zble rfl⟩ rfl rfl (hi.sh (by decide +kernel)) (by decide) (zble rfl) rfl (zCi.pl (l_cls (k := false) S_78 S_325 (by decide +kernel) (by decide +kernel) rfl rfl ⟨⟨0, List.mem_cons_self, rfl⟩, ⟨_, rfl, aIn_top _⟩, ⟨_, rfl, aIn_top _⟩, trivial⟩ rfl hi) (n_cls S_78 S_325 (by decide +kernel) rfl rfl ⟨⟨0, List.mem_cons_self, rfl⟩, ⟨_, rfl, aIn_top _⟩, ⟨_, rfl, aIn_top _⟩, trivial⟩ rfl hi)) (fun x1 h1 hi1 => ?_)
  obtain ⟨hi1, fz⟩ := hi1
  have z1 := hz.cls hi1 fz
  have no : zsh h1 1000000 = none := hi1.sh (by decide +kernel)
  refine ex_pop (pc' := 533) dL_law_532 rfl rfl ?_
  refine ex_aload_n (pc' := 534) dL_law_533 hl.2.2.1 rfl ?_
  refine ex_aload_n (pc' := 535) dL_law_534 hl.1 rfl ?_
  refine ex_iload (pc' := 537) dL_law_535 hl.2.2.2.2 rfl ?_
  refine ex_iconst (v := nI 1) (pc' := 538) dL_law_537 (by decide) rfl ?_
  refine ex_iadd (pc' := 539) (v := nI (i + 1)) dL_law_538 (nI_add _ _) rfl ?_
  refine ex_sald (pc' := 540) (n := L) (xs := xs) (v := xs (i + 1)) dL_law_539 no rfl (sin hL (by omega)) (sxs hL (by omega)) rfl ?_
  refine ex_aload_n (pc' := 541) dL_law_540 hl.1 rfl ?_
  refine ex_iload (pc' := 543) dL_law_541 hl.2.2.2.2 rfl ?_
  refine ex_iconst (v := nI 2) (pc' := 544) dL_law_543 (by decide) rfl ?_
  refine ex_iadd (pc' := 545) (v := nI (i + 2)) dL_law_544 (nI_add _ _) rfl ?_
  refine ex_sald (pc' := 546) (n := L) (xs := xs) (v := xs (i + 2)) dL_law_545 no rfl (sin hL (by omega)) (sxs hL (by omega)) rfl ?_
  refine ex_callvI (pc' := 549) (vs := [.inl (xs (i + 1)), .inl (xs (i + 2))]) (rest := []) (n := 39) dL_law_546 ml_13_57 ⟨zble rfl, zble rfl⟩ rfl rfl (hi1.sh (by decide +kernel)) (by decide) (zble rfl) rfl (zCi.pl (l_modM S_924 (by decide +kernel) ⟨⟨196, List.mem_cons_self, rfl⟩, ⟨_, rfl, aIn_top _⟩, ⟨_, rfl, aIn_top _⟩, trivial⟩ hi1) (n_mod S_924 (by decide +kernel) ⟨⟨196, List.mem_cons_self, rfl⟩, ⟨_, rfl, aIn_top _⟩, ⟨_, rfl, aIn_top _⟩, trivial⟩ hi1.2.1)) (fun x2 h2 hi2 => ?_)
  obtain ⟨hi2, gz⟩ := hi2
  have z2 := And.intro (z1.ref hz gz) (hx.na hz hi1 gz)
  have no : zsh h2 1000000 = none := hi2.sh (by decide +kernel)
  refine ex_pop (pc' := 550) dL_law_549 rfl rfl ?_
  refine ex_goto (pc' := 1805) dL_law_550 (by decide) ?_
  exact K _ _ hl (hi2.up) ⟨_, _, _, _, _, z2⟩
theorem lc_9 {t i L : Nat} {h : zH} {xs : Nat → Int32} {ls : zL} {A : pA} {c : Nat} {s : nS} {H J : List nS} (hL : L ≤ 3072) (hiL : i + 6 ≤ L) (hl : lLoc ls i) (hi : lInv t h) (hz : lZ A c s H J h) (hx : lX A c s H J h) (K : ∀ ls' h', lLoc ls' i → lInv (t + 1) h' → lZs h' → zEx (some (L, xs)) 1005 mL_law (1805, ls', [], h') zQL) : zEx (some (L, xs)) 1005 mL_law (553, ls, [], h) zQL := by
  have no : zsh h 1000000 = none := hi.sh (by decide +kernel)
  refine ex_aload_n (pc' := 554) dL_law_553 hl.2.1 rfl ?_
  refine ex_aload_n (pc' := 555) dL_law_554 hl.1 rfl ?_
  refine ex_iload (pc' := 557) dL_law_555 hl.2.2.2.2 rfl ?_
  refine ex_iconst (v := nI 1) (pc' := 558) dL_law_557 (by decide) rfl ?_
  refine ex_iadd (pc' := 559) (v := nI (i + 1)) dL_law_558 (nI_add _ _) rfl ?_
  refine ex_sald (pc' := 560) (n := L) (xs := xs) (v := xs (i + 1)) dL_law_559 no rfl (sin hL (by omega)) (sxs hL (by omega)) rfl ?_
  refine ex_callvI (pc' := 563) (vs := [.inl (xs (i + 1))]) (rest := []) (n := 16) dL_law_560 ml_13_58 ⟨zble rfl, zble rfl⟩ rfl rfl (hi.sh (by decide +kernel)) (by decide) (zble rfl) rfl (zCi.pl (l_cls (k := false) S_85 S_330 (by decide +kernel) (by decide +kernel) rfl rfl ⟨⟨0, List.mem_cons_self, rfl⟩, ⟨_, rfl, aIn_top _⟩, trivial⟩ rfl hi) (n_cls S_85 S_330 (by decide +kernel) rfl rfl ⟨⟨0, List.mem_cons_self, rfl⟩, ⟨_, rfl, aIn_top _⟩, trivial⟩ rfl hi)) (fun x1 h1 hi1 => ?_)
  obtain ⟨hi1, fz⟩ := hi1
  have z1 := hz.cls hi1 fz
  have no : zsh h1 1000000 = none := hi1.sh (by decide +kernel)
  refine ex_pop (pc' := 564) dL_law_563 rfl rfl ?_
  refine ex_aload_n (pc' := 565) dL_law_564 hl.2.2.1 rfl ?_
  refine ex_aload_n (pc' := 566) dL_law_565 hl.1 rfl ?_
  refine ex_iload (pc' := 568) dL_law_566 hl.2.2.2.2 rfl ?_
  refine ex_iconst (v := nI 1) (pc' := 569) dL_law_568 (by decide) rfl ?_
  refine ex_iadd (pc' := 570) (v := nI (i + 1)) dL_law_569 (nI_add _ _) rfl ?_
  refine ex_sald (pc' := 571) (n := L) (xs := xs) (v := xs (i + 1)) dL_law_570 no rfl (sin hL (by omega)) (sxs hL (by omega)) rfl ?_
  refine ex_callvI (pc' := 574) (vs := [.inl (xs (i + 1))]) (rest := []) (n := 39) dL_law_571 ml_13_61 ⟨zble rfl, zble rfl⟩ rfl rfl (hi1.sh (by decide +kernel)) (by decide) (zble rfl) rfl (zCi.pl (l_modM S_932 (by decide +kernel) ⟨⟨196, List.mem_cons_self, rfl⟩, ⟨_, rfl, aIn_top _⟩, trivial⟩ hi1) (n_mod S_932 (by decide +kernel) ⟨⟨196, List.mem_cons_self, rfl⟩, ⟨_, rfl, aIn_top _⟩, trivial⟩ hi1.2.1)) (fun x2 h2 hi2 => ?_)
  obtain ⟨hi2, gz⟩ := hi2
  have z2 := And.intro (z1.ref hz gz) (hx.na hz hi1 gz)
  have no : zsh h2 1000000 = none := hi2.sh (by decide +kernel)
  refine ex_pop (pc' := 575) dL_law_574 rfl rfl ?_
  refine ex_goto (pc' := 1805) dL_law_575 (by decide) ?_
  exact K _ _ hl (hi2.up) ⟨_, _, _, _, _, z2⟩
theorem lc_10 {t i L : Nat} {h : zH} {xs : Nat → Int32} {ls : zL} {A : pA} {c : Nat} {s : nS} {H J : List nS} (hL : L ≤ 3072) (hiL : i + 6 ≤ L) (hl : lLoc ls i) (hi : lInv t h) (hz : lZ A c s H J h) (hx : lX A c s H J h) (K : ∀ ls' h', lLoc ls' i → lInv (t + 1) h' → lZs h' → zEx (some (L, xs)) 1005 mL_law (1805, ls', [], h') zQL) : zEx (some (L, xs)) 1005 mL_law (578, ls, [], h) zQL := by
  have no : zsh h 1000000 = none := hi.sh (by decide +kernel)
  refine ex_aload_n (pc' := 579) dL_law_578 hl.2.1 rfl ?_
  refine ex_aload_n (pc' := 580) dL_law_579 hl.1 rfl ?_
  refine ex_iload (pc' := 582) dL_law_580 hl.2.2.2.2 rfl ?_
  refine ex_iconst (v := nI 1) (pc' := 583) dL_law_582 (by decide) rfl ?_
  refine ex_iadd (pc' := 584) (v := nI (i + 1)) dL_law_583 (nI_add _ _) rfl ?_
  refine ex_sald (pc' := 585) (n := L) (xs := xs) (v := xs (i + 1)) dL_law_584 no rfl (sin hL (by omega)) (sxs hL (by omega)) rfl ?_
  refine ex_aload_n (pc' := 586) dL_law_585 hl.1 rfl ?_
  refine ex_iload (pc' := 588) dL_law_586 hl.2.2.2.2 rfl ?_
  refine ex_iconst (v := nI 2) (pc' := 589) dL_law_588 (by decide) rfl ?_
  refine ex_iadd (pc' := 590) (v := nI (i + 2)) dL_law_589 (nI_add _ _) rfl ?_
  refine ex_sald (pc' := 591) (n := L) (xs := xs) (v := xs (i + 2)) dL_law_590 no rfl (sin hL (by omega)) (sxs hL (by omega)) rfl ?_
  refine ex_callvI (pc' := 594) (vs := [.inl (xs (i + 1)), .inl (xs (i + 2))]) (rest := []) (n := 16) dL_law_591 ml_13_62 ⟨zble rfl, zble rfl⟩ rfl rfl (hi.sh (by decide +kernel)) (by decide) (zble rfl) rfl (zCi.pl (l_cls (k := false) S_90 S_334 (by decide +kernel) (by decide +kernel) rfl rfl ⟨⟨0, List.mem_cons_self, rfl⟩, ⟨_, rfl, aIn_top _⟩, ⟨_, rfl, aIn_top _⟩, trivial⟩ rfl hi) (n_cls S_90 S_334 (by decide +kernel) rfl rfl ⟨⟨0, List.mem_cons_self, rfl⟩, ⟨_, rfl, aIn_top _⟩, ⟨_, rfl, aIn_top _⟩, trivial⟩ rfl hi)) (fun x1 h1 hi1 => ?_)
  obtain ⟨hi1, fz⟩ := hi1
  have z1 := hz.cls hi1 fz
  have no : zsh h1 1000000 = none := hi1.sh (by decide +kernel)
  refine ex_pop (pc' := 595) dL_law_594 rfl rfl ?_
  refine ex_aload_n (pc' := 596) dL_law_595 hl.2.2.1 rfl ?_
  refine ex_aload_n (pc' := 597) dL_law_596 hl.1 rfl ?_
  refine ex_iload (pc' := 599) dL_law_597 hl.2.2.2.2 rfl ?_
  refine ex_iconst (v := nI 1) (pc' := 600) dL_law_599 (by decide) rfl ?_
  refine ex_iadd (pc' := 601) (v := nI (i + 1)) dL_law_600 (nI_add _ _) rfl ?_
  refine ex_sald (pc' := 602) (n := L) (xs := xs) (v := xs (i + 1)) dL_law_601 no rfl (sin hL (by omega)) (sxs hL (by omega)) rfl ?_
  refine ex_aload_n (pc' := 603) dL_law_602 hl.1 rfl ?_
  refine ex_iload (pc' := 605) dL_law_603 hl.2.2.2.2 rfl ?_
  refine ex_iconst (v := nI 2) (pc' := 606) dL_law_605 (by decide) rfl ?_
  refine ex_iadd (pc' := 607) (v := nI (i + 2)) dL_law_606 (nI_add _ _) rfl ?_
  refine ex_sald (pc' := 608) (n := L) (xs := xs) (v := xs (i + 2)) dL_law_607 no rfl (sin hL (by omega)) (sxs hL (by omega)) rfl ?_
  refine ex_callvI (pc' := 611) (vs := [.inl (xs (i + 1)), .inl (xs (i + 2))]) (rest := []) (n := 39) dL_law_608 ml_13_65 ⟨zble rfl, zble rfl⟩ rfl rfl (hi1.sh (by decide +kernel)) (by decide) (zble rfl) rfl (zCi.pl (l_modM S_938 (by decide +kernel) ⟨⟨196, List.mem_cons_self, rfl⟩, ⟨_, rfl, aIn_top _⟩, ⟨_, rfl, aIn_top _⟩, trivial⟩ hi1) (n_mod S_938 (by decide +kernel) ⟨⟨196, List.mem_cons_self, rfl⟩, ⟨_, rfl, aIn_top _⟩, ⟨_, rfl, aIn_top _⟩, trivial⟩ hi1.2.1)) (fun x2 h2 hi2 => ?_)
  obtain ⟨hi2, gz⟩ := hi2
  have z2 := And.intro (z1.ref hz gz) (hx.na hz hi1 gz)
  have no : zsh h2 1000000 = none := hi2.sh (by decide +kernel)
  refine ex_pop (pc' := 612) dL_law_611 rfl rfl ?_
  refine ex_goto (pc' := 1805) dL_law_612 (by decide) ?_
  exact K _ _ hl (hi2.up) ⟨_, _, _, _, _, z2⟩
theorem lc_11 {t i L : Nat} {h : zH} {xs : Nat → Int32} {ls : zL} {A : pA} {c : Nat} {s : nS} {H J : List nS} (hL : L ≤ 3072) (hiL : i + 6 ≤ L) (hl : lLoc ls i) (hi : lInv t h) (hz : lZ A c s H J h) (hx : lX A c s H J h) (K : ∀ ls' h', lLoc ls' i → lInv (t + 1) h' → lZs h' → zEx (some (L, xs)) 1005 mL_law (1805, ls', [], h') zQL) : zEx (some (L, xs)) 1005 mL_law (615, ls, [], h) zQL := by
  have no : zsh h 1000000 = none := hi.sh (by decide +kernel)
  refine ex_aload_n (pc' := 616) dL_law_615 hl.2.1 rfl ?_
  refine ex_aload_n (pc' := 617) dL_law_616 hl.1 rfl ?_
  refine ex_iload (pc' := 619) dL_law_617 hl.2.2.2.2 rfl ?_
  refine ex_iconst (v := nI 1) (pc' := 620) dL_law_619 (by decide) rfl ?_
  refine ex_iadd (pc' := 621) (v := nI (i + 1)) dL_law_620 (nI_add _ _) rfl ?_
  refine ex_sald (pc' := 622) (n := L) (xs := xs) (v := xs (i + 1)) dL_law_621 no rfl (sin hL (by omega)) (sxs hL (by omega)) rfl ?_
  refine ex_callvI (pc' := 625) (vs := [.inl (xs (i + 1))]) (rest := []) (n := 16) dL_law_622 ml_13_66 ⟨zble rfl, zble rfl⟩ rfl rfl (hi.sh (by decide +kernel)) (by decide) (zble rfl) rfl (zCi.pl (l_cls (k := false) S_93 S_336 (by decide +kernel) (by decide +kernel) rfl rfl ⟨⟨0, List.mem_cons_self, rfl⟩, ⟨_, rfl, aIn_top _⟩, trivial⟩ rfl hi) (n_cls S_93 S_336 (by decide +kernel) rfl rfl ⟨⟨0, List.mem_cons_self, rfl⟩, ⟨_, rfl, aIn_top _⟩, trivial⟩ rfl hi)) (fun x1 h1 hi1 => ?_)
  obtain ⟨hi1, fz⟩ := hi1
  have z1 := hz.cls hi1 fz
  have no : zsh h1 1000000 = none := hi1.sh (by decide +kernel)
  refine ex_pop (pc' := 626) dL_law_625 rfl rfl ?_
  refine ex_aload_n (pc' := 627) dL_law_626 hl.2.2.1 rfl ?_
  refine ex_aload_n (pc' := 628) dL_law_627 hl.1 rfl ?_
  refine ex_iload (pc' := 630) dL_law_628 hl.2.2.2.2 rfl ?_
  refine ex_iconst (v := nI 1) (pc' := 631) dL_law_630 (by decide) rfl ?_
  refine ex_iadd (pc' := 632) (v := nI (i + 1)) dL_law_631 (nI_add _ _) rfl ?_
  refine ex_sald (pc' := 633) (n := L) (xs := xs) (v := xs (i + 1)) dL_law_632 no rfl (sin hL (by omega)) (sxs hL (by omega)) rfl ?_
  refine ex_callvI (pc' := 636) (vs := [.inl (xs (i + 1))]) (rest := []) (n := 39) dL_law_633 ml_13_69 ⟨zble rfl, zble rfl⟩ rfl rfl (hi1.sh (by decide +kernel)) (by decide) (zble rfl) rfl (zCi.pl (l_modM S_941 (by decide +kernel) ⟨⟨196, List.mem_cons_self, rfl⟩, ⟨_, rfl, aIn_top _⟩, trivial⟩ hi1) (n_mod S_941 (by decide +kernel) ⟨⟨196, List.mem_cons_self, rfl⟩, ⟨_, rfl, aIn_top _⟩, trivial⟩ hi1.2.1)) (fun x2 h2 hi2 => ?_)
  obtain ⟨hi2, gz⟩ := hi2
  have z2 := And.intro (z1.ref hz gz) (hx.na hz hi1 gz)
  have no : zsh h2 1000000 = none := hi2.sh (by decide +kernel)
  refine ex_pop (pc' := 637) dL_law_636 rfl rfl ?_
  refine ex_goto (pc' := 1805) dL_law_637 (by decide) ?_
  exact K _ _ hl (hi2.up) ⟨_, _, _, _, _, z2⟩
theorem lc_12 {t i L : Nat} {h : zH} {xs : Nat → Int32} {ls : zL} {A : pA} {c : Nat} {s : nS} {H J : List nS} (hL : L ≤ 3072) (hiL : i + 6 ≤ L) (hl : lLoc ls i) (hi : lInv t h) (hz : lZ A c s H J h) (hx : lX A c s H J h) (K : ∀ ls' h', lLoc ls' i → lInv (t + 1) h' → lZs h' → zEx (some (L, xs)) 1005 mL_law (1805, ls', [], h') zQL) : zEx (some (L, xs)) 1005 mL_law (640, ls, [], h) zQL := by
  have no : zsh h 1000000 = none := hi.sh (by decide +kernel)
  refine ex_aload_n (pc' := 641) dL_law_640 hl.2.1 rfl ?_
  refine ex_aload_n (pc' := 642) dL_law_641 hl.1 rfl ?_
  refine ex_iload (pc' := 644) dL_law_642 hl.2.2.2.2 rfl ?_
  refine ex_iconst (v := nI 1) (pc' := 645) dL_law_644 (by decide) rfl ?_
  refine ex_iadd (pc' := 646) (v := nI (i + 1)) dL_law_645 (nI_add _ _) rfl ?_
  refine ex_sald (pc' := 647) (n := L) (xs := xs) (v := xs (i + 1)) dL_law_646 no rfl (sin hL (by omega)) (sxs hL (by omega)) rfl ?_
  refine ex_aload_n (pc' := 648) dL_law_647 hl.1 rfl ?_
  refine ex_iload (pc' := 650) dL_law_648 hl.2.2.2.2 rfl ?_
  refine ex_iconst (v := nI 2) (pc' := 651) dL_law_650 (by decide) rfl ?_
  refine ex_iadd (pc' := 652) (v := nI (i + 2)) dL_law_651 (nI_add _ _) rfl ?_
  refine ex_sald (pc' := 653) (n := L) (xs := xs) (v := xs (i + 2)) dL_law_652 no rfl (sin hL (by omega)) (sxs hL (by omega)) rfl ?_
  refine ex_aload_n (pc' := 654) dL_law_653 hl.1 rfl ?_
  refine ex_iload (pc' := 656) dL_law_654 hl.2.2.2.2 rfl ?_
  refine ex_iconst (v := nI 3) (pc' := 657) dL_law_656 (by decide) rfl ?_
  refine ex_iadd (pc' := 658) (v := nI (i + 3)) dL_law_657 (nI_add _ _) rfl ?_
  refine ex_sald (pc' := 659) (n := L) (xs := xs) (v := xs (i + 3)) dL_law_658 no rfl (sin hL (by omega)) (sxs hL (by omega)) rfl ?_
  refine ex_callvI (pc' := 662) (vs := [.inl (xs (i + 1)), .inl (xs (i + 2)), .inl (xs (i + 3))]) (rest := []) (n := 16) dL_law_659 ml_13_70 ⟨zble rfl, zble rfl⟩ rfl rfl (hi.sh (by decide +kernel)) (by decide) (zble rfl) rfl (zCi.pl (l_cls (k := false) S_97 S_338 (by decide +kernel) (by decide +kernel) rfl rfl ⟨⟨0, List.mem_cons_self, rfl⟩, ⟨_, rfl, aIn_top _⟩, ⟨_, rfl, aIn_top _⟩, ⟨_, rfl, aIn_top _⟩, trivial⟩ rfl hi) (n_cls S_97 S_338 (by decide +kernel) rfl rfl ⟨⟨0, List.mem_cons_self, rfl⟩, ⟨_, rfl, aIn_top _⟩, ⟨_, rfl, aIn_top _⟩, ⟨_, rfl, aIn_top _⟩, trivial⟩ rfl hi)) (fun x1 h1 hi1 => ?_)
  obtain ⟨hi1, fz⟩ := hi1
  have z1 := hz.cls hi1 fz
  have no : zsh h1 1000000 = none := hi1.sh (by decide +kernel)
  refine ex_pop (pc' := 663) dL_law_662 rfl rfl ?_
  refine ex_aload_n (pc' := 664) dL_law_663 hl.2.2.1 rfl ?_
  refine ex_aload_n (pc' := 665) dL_law_664 hl.1 rfl ?_
  refine ex_iload (pc' := 667) dL_law_665 hl.2.2.2.2 rfl ?_
  refine ex_iconst (v := nI 1) (pc' := 668) dL_law_667 (by decide) rfl ?_
  refine ex_iadd (pc' := 669) (v := nI (i + 1)) dL_law_668 (nI_add _ _) rfl ?_
  refine ex_sald (pc' := 670) (n := L) (xs := xs) (v := xs (i + 1)) dL_law_669 no rfl (sin hL (by omega)) (sxs hL (by omega)) rfl ?_
  refine ex_aload_n (pc' := 671) dL_law_670 hl.1 rfl ?_
  refine ex_iload (pc' := 673) dL_law_671 hl.2.2.2.2 rfl ?_
  refine ex_iconst (v := nI 2) (pc' := 674) dL_law_673 (by decide) rfl ?_
  refine ex_iadd (pc' := 675) (v := nI (i + 2)) dL_law_674 (nI_add _ _) rfl ?_
  refine ex_sald (pc' := 676) (n := L) (xs := xs) (v := xs (i + 2)) dL_law_675 no rfl (sin hL (by omega)) (sxs hL (by omega)) rfl ?_
  refine ex_aload_n (pc' := 677) dL_law_676 hl.1 rfl ?_
  refine ex_iload (pc' := 679) dL_law_677 hl.2.2.2.2 rfl ?_
  refine ex_iconst (v := nI 3) (pc' := 680) dL_law_679 (by decide) rfl ?_
  refine ex_iadd (pc' := 681) (v := nI (i + 3)) dL_law_680 (nI_add _ _) rfl ?_
  refine ex_sald (pc' := 682) (n := L) (xs := xs) (v := xs (i + 3)) dL_law_681 no rfl (sin hL (by omega)) (sxs hL (by omega)) rfl ?_
  refine ex_callvI (pc' := 685) (vs := [.inl (xs (i + 1)), .inl (xs (i + 2)), .inl (xs (i + 3))]) (rest := []) (n := 39) dL_law_682 ml_13_74 ⟨zble rfl, zble rfl⟩ rfl rfl (hi1.sh (by decide +kernel)) (by decide) (zble rfl) rfl (zCi.pl (l_modM S_964 (by decide +kernel) ⟨⟨196, List.mem_cons_self, rfl⟩, ⟨_, rfl, aIn_top _⟩, ⟨_, rfl, aIn_top _⟩, ⟨_, rfl, aIn_top _⟩, trivial⟩ hi1) (n_mod S_964 (by decide +kernel) ⟨⟨196, List.mem_cons_self, rfl⟩, ⟨_, rfl, aIn_top _⟩, ⟨_, rfl, aIn_top _⟩, ⟨_, rfl, aIn_top _⟩, trivial⟩ hi1.2.1)) (fun x2 h2 hi2 => ?_)
  obtain ⟨hi2, gz⟩ := hi2
  have z2 := And.intro (z1.ref hz gz) (hx.na hz hi1 gz)
  have no : zsh h2 1000000 = none := hi2.sh (by decide +kernel)
  refine ex_pop (pc' := 686) dL_law_685 rfl rfl ?_
  refine ex_goto (pc' := 1805) dL_law_686 (by decide) ?_
  exact K _ _ hl (hi2.up) ⟨_, _, _, _, _, z2⟩
theorem lc_13 {t i L : Nat} {h : zH} {xs : Nat → Int32} {ls : zL} {A : pA} {c : Nat} {s : nS} {H J : List nS} (hL : L ≤ 3072) (hiL : i + 6 ≤ L) (hl : lLoc ls i) (hi : lInv t h) (hz : lZ A c s H J h) (hx : lX A c s H J h) (K : ∀ ls' h', lLoc ls' i → lInv (t + 1) h' → lZs h' → zEx (some (L, xs)) 1005 mL_law (1805, ls', [], h') zQL) : zEx (some (L, xs)) 1005 mL_law (689, ls, [], h) zQL := by
  have no : zsh h 1000000 = none := hi.sh (by decide +kernel)
  refine ex_aload_n (pc' := 690) dL_law_689 hl.2.1 rfl ?_
  refine ex_aload_n (pc' := 691) dL_law_690 hl.1 rfl ?_
  refine ex_iload (pc' := 693) dL_law_691 hl.2.2.2.2 rfl ?_
  refine ex_iconst (v := nI 1) (pc' := 694) dL_law_693 (by decide) rfl ?_
  refine ex_iadd (pc' := 695) (v := nI (i + 1)) dL_law_694 (nI_add _ _) rfl ?_
  refine ex_sald (pc' := 696) (n := L) (xs := xs) (v := xs (i + 1)) dL_law_695 no rfl (sin hL (by omega)) (sxs hL (by omega)) rfl ?_
  refine ex_callvI (pc' := 699) (vs := [.inl (xs (i + 1))]) (rest := []) (n := 16) dL_law_696 ml_13_75 ⟨zble rfl, zble rfl⟩ rfl rfl (hi.sh (by decide +kernel)) (by decide) (zble rfl) rfl (zCi.an (zCi.pl (l_cls (k := false) S_100 S_340 (by decide +kernel) (by decide +kernel) rfl rfl ⟨⟨0, List.mem_cons_self, rfl⟩, ⟨_, rfl, aIn_top _⟩, trivial⟩ rfl hi) (n_cls S_100 S_340 (by decide +kernel) rfl rfl ⟨⟨0, List.mem_cons_self, rfl⟩, ⟨_, rfl, aIn_top _⟩, trivial⟩ rfl hi)) (N_sent11 hz hi)) (fun x1 h1 hi1 => ?_)
  obtain ⟨⟨hi1, fz⟩, fe⟩ := hi1
  have z1 := hz.cls hi1 fz
  have no : zsh h1 1000000 = none := hi1.sh (by decide +kernel)
  refine ex_aload_n (pc' := 700) dL_law_699 hl.2.2.1 rfl ?_
  refine ex_aload_n (pc' := 701) dL_law_700 hl.1 rfl ?_
  refine ex_iload (pc' := 703) dL_law_701 hl.2.2.2.2 rfl ?_
  refine ex_iconst (v := nI 1) (pc' := 704) dL_law_703 (by decide) rfl ?_
  refine ex_iadd (pc' := 705) (v := nI (i + 1)) dL_law_704 (nI_add _ _) rfl ?_
  refine ex_sald (pc' := 706) (n := L) (xs := xs) (v := xs (i + 1)) dL_law_705 no rfl (sin hL (by omega)) (sxs hL (by omega)) rfl ?_
  refine ex_callvI (pc' := 709) (vs := [.inl (xs (i + 1))]) (rest := [.inl x1]) (n := 39) dL_law_706 ml_13_78 ⟨zble rfl, zble rfl⟩ rfl rfl (hi1.sh (by decide +kernel)) (by decide) (zble rfl) rfl (zCi.an (zCi.pl (l_modM S_966 (by decide +kernel) ⟨⟨196, List.mem_cons_self, rfl⟩, ⟨_, rfl, aIn_top _⟩, trivial⟩ hi1) (n_mod S_966 (by decide +kernel) ⟨⟨196, List.mem_cons_self, rfl⟩, ⟨_, rfl, aIn_top _⟩, trivial⟩ hi1.2.1)) (N_sent12 hz hi1)) (fun x2 h2 hi2 => ?_)
  obtain ⟨⟨hi2, gz⟩, ge⟩ := hi2
  have z2 := And.intro (z1.ref hz gz) (hx.na hz hi1 gz)
  have no : zsh h2 1000000 = none := hi2.sh (by decide +kernel)
  refine ex_icmp_t (pc' := 1805) dL_law_709 (by rw [fe, ge]; simp [zcond]) (by decide) ?_
  exact K _ _ hl (hi2.up) ⟨_, _, _, _, _, z2⟩
theorem lc_14 {t i L : Nat} {h : zH} {xs : Nat → Int32} {ls : zL} {A : pA} {c : Nat} {s : nS} {H J : List nS} (hL : L ≤ 3072) (hiL : i + 6 ≤ L) (hl : lLoc ls i) (hi : lInv t h) (hz : lZ A c s H J h) (hx : lX A c s H J h) (K : ∀ ls' h', lLoc ls' i → lInv (t + 1) h' → lZs h' → zEx (some (L, xs)) 1005 mL_law (1805, ls', [], h') zQL) : zEx (some (L, xs)) 1005 mL_law (714, ls, [], h) zQL := by
  have no : zsh h 1000000 = none := hi.sh (by decide +kernel)
  refine ex_aload_n (pc' := 715) dL_law_714 hl.2.1 rfl ?_
  refine ex_aload_n (pc' := 716) dL_law_715 hl.1 rfl ?_
  refine ex_iload (pc' := 718) dL_law_716 hl.2.2.2.2 rfl ?_
  refine ex_iconst (v := nI 1) (pc' := 719) dL_law_718 (by decide) rfl ?_
  refine ex_iadd (pc' := 720) (v := nI (i + 1)) dL_law_719 (nI_add _ _) rfl ?_
  refine ex_sald (pc' := 721) (n := L) (xs := xs) (v := xs (i + 1)) dL_law_720 no rfl (sin hL (by omega)) (sxs hL (by omega)) rfl ?_
  refine ex_aload_n (pc' := 722) dL_law_721 hl.1 rfl ?_
  refine ex_iload (pc' := 724) dL_law_722 hl.2.2.2.2 rfl ?_
  refine ex_iconst (v := nI 2) (pc' := 725) dL_law_724 (by decide) rfl ?_
  refine ex_iadd (pc' := 726) (v := nI (i + 2)) dL_law_725 (nI_add _ _) rfl ?_
  refine ex_sald (pc' := 727) (n := L) (xs := xs) (v := xs (i + 2)) dL_law_726 no rfl (sin hL (by omega)) (sxs hL (by omega)) rfl ?_
  refine ex_callvI (pc' := 730) (vs := [.inl (xs (i + 1)), .inl (xs (i + 2))]) (rest := []) (n := 16) dL_law_727 ml_13_79 ⟨zble rfl, zble rfl⟩ rfl rfl (hi.sh (by decide +kernel)) (by decide) (zble rfl) rfl (zCi.pl (l_cls (k := false) S_102 S_342 (by decide +kernel) (by decide +kernel) rfl rfl ⟨⟨0, List.mem_cons_self, rfl⟩, ⟨_, rfl, aIn_top _⟩, ⟨_, rfl, aIn_top _⟩, trivial⟩ rfl hi) (n_cls S_102 S_342 (by decide +kernel) rfl rfl ⟨⟨0, List.mem_cons_self, rfl⟩, ⟨_, rfl, aIn_top _⟩, ⟨_, rfl, aIn_top _⟩, trivial⟩ rfl hi)) (fun x1 h1 hi1 => ?_)
  obtain ⟨hi1, fz⟩ := hi1
  have z1 := hz.cls hi1 fz
  have no : zsh h1 1000000 = none := hi1.sh (by decide +kernel)
  refine ex_pop (pc' := 731) dL_law_730 rfl rfl ?_
  refine ex_aload_n (pc' := 732) dL_law_731 hl.2.2.1 rfl ?_
  refine ex_aload_n (pc' := 733) dL_law_732 hl.1 rfl ?_
  refine ex_iload (pc' := 735) dL_law_733 hl.2.2.2.2 rfl ?_
  refine ex_iconst (v := nI 1) (pc' := 736) dL_law_735 (by decide) rfl ?_
  refine ex_iadd (pc' := 737) (v := nI (i + 1)) dL_law_736 (nI_add _ _) rfl ?_
  refine ex_sald (pc' := 738) (n := L) (xs := xs) (v := xs (i + 1)) dL_law_737 no rfl (sin hL (by omega)) (sxs hL (by omega)) rfl ?_
  refine ex_aload_n (pc' := 739) dL_law_738 hl.1 rfl ?_
  refine ex_iload (pc' := 741) dL_law_739 hl.2.2.2.2 rfl ?_
  refine ex_iconst (v := nI 2) (pc' := 742) dL_law_741 (by decide) rfl ?_
  refine ex_iadd (pc' := 743) (v := nI (i + 2)) dL_law_742 (nI_add _ _) rfl ?_
  refine ex_sald (pc' := 744) (n := L) (xs := xs) (v := xs (i + 2)) dL_law_743 no rfl (sin hL (by omega)) (sxs hL (by omega)) rfl ?_
  refine ex_callvI (pc' := 747) (vs := [.inl (xs (i + 1)), .inl (xs (i + 2))]) (rest := []) (n := 39) dL_law_744 ml_13_82 ⟨zble rfl, zble rfl⟩ rfl rfl (hi1.sh (by decide +kernel)) (by decide) (zble rfl) rfl (zCi.pl (l_modM S_968 (by decide +kernel) ⟨⟨196, List.mem_cons_self, rfl⟩, ⟨_, rfl, aIn_top _⟩, ⟨_, rfl, aIn_top _⟩, trivial⟩ hi1) (n_mod S_968 (by decide +kernel) ⟨⟨196, List.mem_cons_self, rfl⟩, ⟨_, rfl, aIn_top _⟩, ⟨_, rfl, aIn_top _⟩, trivial⟩ hi1.2.1)) (fun x2 h2 hi2 => ?_)
  obtain ⟨hi2, gz⟩ := hi2
  have z2 := And.intro (z1.ref hz gz) (hx.na hz hi1 gz)
  have no : zsh h2 1000000 = none := hi2.sh (by decide +kernel)
  refine ex_pop (pc' := 748) dL_law_747 rfl rfl ?_
  refine ex_goto (pc' := 1805) dL_law_748 (by decide) ?_
  exact K _ _ hl (hi2.up) ⟨_, _, _, _, _, z2⟩
theorem lc_15 {t i L : Nat} {h : zH} {xs : Nat → Int32} {ls : zL} {A : pA} {c : Nat} {s : nS} {H J : List nS} (hL : L ≤ 3072) (hiL : i + 6 ≤ L) (hl : lLoc ls i) (hi : lInv t h) (hz : lZ A c s H J h) (hx : lX A c s H J h) (K : ∀ ls' h', lLoc ls' i → lInv (t + 1) h' → lZs h' → zEx (some (L, xs)) 1005 mL_law (1805, ls', [], h') zQL) : zEx (some (L, xs)) 1005 mL_law (751, ls, [], h) zQL := by
  have no : zsh h 1000000 = none := hi.sh (by decide +kernel)
  refine ex_aload_n (pc' := 752) dL_law_751 hl.2.1 rfl ?_
  refine ex_callvI (pc' := 755) (vs := []) (rest := []) (n := 16) dL_law_752 ml_13_83 ⟨zble rfl, zble rfl⟩ rfl rfl (hi.sh (by decide +kernel)) (by decide) (zble rfl) rfl (zCi.pl (l_cls (k := false) S_105 S_345 (by decide +kernel) (by decide +kernel) rfl rfl ⟨⟨0, List.mem_cons_self, rfl⟩, trivial⟩ rfl hi) (n_cls S_105 S_345 (by decide +kernel) rfl rfl ⟨⟨0, List.mem_cons_self, rfl⟩, trivial⟩ rfl hi)) (fun x1 h1 hi1 => ?_)
  obtain ⟨hi1, fz⟩ := hi1
  have z1 := hz.cls hi1 fz
  have no : zsh h1 1000000 = none := hi1.sh (by decide +kernel)
  refine ex_pop (pc' := 756) dL_law_755 rfl rfl ?_
  refine ex_aload_n (pc' := 757) dL_law_756 hl.2.2.1 rfl ?_
  refine ex_callvI (pc' := 760) (vs := []) (rest := []) (n := 39) dL_law_757 ml_13_86 ⟨zble rfl, zble rfl⟩ rfl rfl (hi1.sh (by decide +kernel)) (by decide) (zble rfl) rfl (zCi.pl (l_modM S_970 (by decide +kernel) ⟨⟨196, List.mem_cons_self, rfl⟩, trivial⟩ hi1) (n_mod S_970 (by decide +kernel) ⟨⟨196, List.mem_cons_self, rfl⟩, trivial⟩ hi1.2.1)) (fun x2 h2 hi2 => ?_)
  obtain ⟨hi2, gz⟩ := hi2
  have z2 := And.intro (z1.ref hz gz) (hx.na hz hi1 gz)
  have no : zsh h2 1000000 = none := hi2.sh (by decide +kernel)
  refine ex_pop (pc' := 761) dL_law_760 rfl rfl ?_
  refine ex_goto (pc' := 1805) dL_law_761 (by decide) ?_
  exact K _ _ hl (hi2.up) ⟨_, _, _, _, _, z2⟩
theorem lc_16 {t i L : Nat} {h : zH} {xs : Nat → Int32} {ls : zL} {A : pA} {c : Nat} {s : nS} {H J : List nS} (hL : L ≤ 3072) (hiL : i + 6 ≤ L) (hl : lLoc ls i) (hi : lInv t h) (hz : lZ A c s H J h) (hx : lX A c s H J h) (K : ∀ ls' h', lLoc ls' i → lInv (t + 1) h' → lZs h' → zEx (some (L, xs)) 1005 mL_law (1805, ls', [], h') zQL) : zEx (some (L, xs)) 1005 mL_law (764, ls, [], h) zQL := by
  have no : zsh h 1000000 = none := hi.sh (by decide +kernel)
  refine ex_aload_n (pc' := 765) dL_law_764 hl.2.1 rfl ?_
  refine ex_callvI (pc' := 768) (vs := []) (rest := []) (n := 16) dL_law_765 ml_13_87 ⟨zble rfl, zble rfl⟩ rfl rfl (hi.sh (by decide +kernel)) (by decide) (zble rfl) rfl (zCi.pl (l_cls (k := false) S_107 S_347 (by decide +kernel) (by decide +kernel) rfl rfl ⟨⟨0, List.mem_cons_self, rfl⟩, trivial⟩ rfl hi) (n_cls S_107 S_347 (by decide +kernel) rfl rfl ⟨⟨0, List.mem_cons_self, rfl⟩, trivial⟩ rfl hi)) (fun x1 h1 hi1 => ?_)
  obtain ⟨hi1, fz⟩ := hi1
  have z1 := hz.cls hi1 fz
  have no : zsh h1 1000000 = none := hi1.sh (by decide +kernel)
  refine ex_pop (pc' := 769) dL_law_768 rfl rfl ?_
  refine ex_aload_n (pc' := 770) dL_law_769 hl.2.2.1 rfl ?_
  refine ex_callvI (pc' := 773) (vs := []) (rest := []) (n := 39) dL_law_770 ml_13_90 ⟨zble rfl, zble rfl⟩ rfl rfl (hi1.sh (by decide +kernel)) (by decide) (zble rfl) rfl (zCi.pl (l_modM S_971 (by decide +kernel) ⟨⟨196, List.mem_cons_self, rfl⟩, trivial⟩ hi1) (n_mod S_971 (by decide +kernel) ⟨⟨196, List.mem_cons_self, rfl⟩, trivial⟩ hi1.2.1)) (fun x2 h2 hi2 => ?_)
  obtain ⟨hi2, gz⟩ := hi2
  have z2 := And.intro (z1.ref hz gz) (hx.na hz hi1 gz)
  have no : zsh h2 1000000 = none := hi2.sh (by decide +kernel)
  refine ex_pop (pc' := 774) dL_law_773 rfl rfl ?_
  refine ex_goto (pc' := 1805) dL_law_774 (by decide) ?_
  exact K _ _ hl (hi2.up) ⟨_, _, _, _, _, z2⟩
theorem lc_17 {t i L : Nat} {h : zH} {xs : Nat → Int32} {ls : zL} {A : pA} {c : Nat} {s : nS} {H J : List nS} (hL : L ≤ 3072) (hiL : i + 6 ≤ L) (hl : lLoc ls i) (hi : lInv t h) (hz : lZ A c s H J h) (hx : lX A c s H J h) (K : ∀ ls' h', lLoc ls' i → lInv (t + 1) h' → lZs h' → zEx (some (L, xs)) 1005 mL_law (1805, ls', [], h') zQL) : zEx (some (L, xs)) 1005 mL_law (777, ls, [], h) zQL := by
  have no : zsh h 1000000 = none := hi.sh (by decide +kernel)
  refine ex_aload_n (pc' := 778) dL_law_777 hl.2.1 rfl ?_
  refine ex_aload_n (pc' := 779) dL_law_778 hl.1 rfl ?_
  refine ex_iload (pc' := 781) dL_law_779 hl.2.2.2.2 rfl ?_
  refine ex_iconst (v := nI 1) (pc' := 782) dL_law_781 (by decide) rfl ?_
  refine ex_iadd (pc' := 783) (v := nI (i + 1)) dL_law_782 (nI_add _ _) rfl ?_
  refine ex_sald (pc' := 784) (n := L) (xs := xs) (v := xs (i + 1)) dL_law_783 no rfl (sin hL (by omega)) (sxs hL (by omega)) rfl ?_
  refine ex_aload_n (pc' := 785) dL_law_784 hl.1 rfl ?_
  refine ex_iload (pc' := 787) dL_law_785 hl.2.2.2.2 rfl ?_
  refine ex_iconst (v := nI 2) (pc' := 788) dL_law_787 (by decide) rfl ?_
  refine ex_iadd (pc' := 789) (v := nI (i + 2)) dL_law_788 (nI_add _ _) rfl ?_
  refine ex_sald (pc' := 790) (n := L) (xs := xs) (v := xs (i + 2)) dL_law_789 no rfl (sin hL (by omega)) (sxs hL (by omega)) rfl ?_
  refine ex_callvI (pc' := 793) (vs := [.inl (xs (i + 1)), .inl (xs (i + 2))]) (rest := []) (n := 16) dL_law_790 ml_13_91 ⟨zble rfl, zble rfl⟩ rfl rfl (hi.sh (by decide +kernel)) (by decide) (zble rfl) rfl (zCi.pl (l_cls (k := false) S_137 S_359 (by decide +kernel) (by decide +kernel) rfl rfl ⟨⟨0, List.mem_cons_self, rfl⟩, ⟨_, rfl, aIn_top _⟩, ⟨_, rfl, aIn_top _⟩, trivial⟩ rfl hi) (n_cls S_137 S_359 (by decide +kernel) rfl rfl ⟨⟨0, List.mem_cons_self, rfl⟩, ⟨_, rfl, aIn_top _⟩, ⟨_, rfl, aIn_top _⟩, trivial⟩ rfl hi)) (fun x1 h1 hi1 => ?_)
  obtain ⟨hi1, fz⟩ := hi1
  have z1 := hz.cls hi1 fz
  have no : zsh h1 1000000 = none := hi1.sh (by decide +kernel)
  refine ex_pop (pc' := 794) dL_law_793 rfl rfl ?_
  refine ex_aload_n (pc' := 795) dL_law_794 hl.2.2.1 rfl ?_
  refine ex_aload_n (pc' := 796) dL_law_795 hl.1 rfl ?_
  refine ex_iload (pc' := 798) dL_law_796 hl.2.2.2.2 rfl ?_
  refine ex_iconst (v := nI 1) (pc' := 799) dL_law_798 (by decide) rfl ?_
  refine ex_iadd (pc' := 800) (v := nI (i + 1)) dL_law_799 (nI_add _ _) rfl ?_
  refine ex_sald (pc' := 801) (n := L) (xs := xs) (v := xs (i + 1)) dL_law_800 no rfl (sin hL (by omega)) (sxs hL (by omega)) rfl ?_
  refine ex_aload_n (pc' := 802) dL_law_801 hl.1 rfl ?_
  refine ex_iload (pc' := 804) dL_law_802 hl.2.2.2.2 rfl ?_
  refine ex_iconst (v := nI 2) (pc' := 805) dL_law_804 (by decide) rfl ?_
  refine ex_iadd (pc' := 806) (v := nI (i + 2)) dL_law_805 (nI_add _ _) rfl ?_
  refine ex_sald (pc' := 807) (n := L) (xs := xs) (v := xs (i + 2)) dL_law_806 no rfl (sin hL (by omega)) (sxs hL (by omega)) rfl ?_
  refine ex_callvI (pc' := 810) (vs := [.inl (xs (i + 1)), .inl (xs (i + 2))]) (rest := []) (n := 39) dL_law_807 ml_13_94 ⟨zble rfl, zble rfl⟩ rfl rfl (hi1.sh (by decide +kernel)) (by decide) (zble rfl) rfl (zCi.pl (l_modM S_987 (by decide +kernel) ⟨⟨196, List.mem_cons_self, rfl⟩, ⟨_, rfl, aIn_top _⟩, ⟨_, rfl, aIn_top _⟩, trivial⟩ hi1) (n_mod S_987 (by decide +kernel) ⟨⟨196, List.mem_cons_self, rfl⟩, ⟨_, rfl, aIn_top _⟩, ⟨_, rfl, aIn_top _⟩, trivial⟩ hi1.2.1)) (fun x2 h2 hi2 => ?_)
  obtain ⟨hi2, gz⟩ := hi2
  have z2 := And.intro (z1.ref hz gz) (hx.na hz hi1 gz)
  have no : zsh h2 1000000 = none := hi2.sh (by decide +kernel)
  refine ex_pop (pc' := 811) dL_law_810 rfl rfl ?_
  refine ex_goto (pc' := 1805) dL_law_811 (by decide) ?_
  exact K _ _ hl (hi2.up) ⟨_, _, _, _, _, z2⟩
theorem lc_18 {t i L : Nat} {h : zH} {xs : Nat → Int32} {ls : zL} {A : pA} {c : Nat} {s : nS} {H J : List nS} (hL : L ≤ 3072) (hiL : i + 6 ≤ L) (hl : lLoc ls i) (hi : lInv t h) (hz : lZ A c s H J h) (hx : lX A c s H J h) (K : ∀ ls' h', lLoc ls' i → lInv (t + 1) h' → lZs h' → zEx (some (L, xs)) 1005 mL_law (1805, ls', [], h') zQL) : zEx (some (L, xs)) 1005 mL_law (814, ls, [], h) zQL := by
  have no : zsh h 1000000 = none := hi.sh (by decide +kernel)
  refine ex_aload_n (pc' := 815) dL_law_814 hl.2.1 rfl ?_
  refine ex_aload_n (pc' := 816) dL_law_815 hl.1 rfl ?_
  refine ex_iload (pc' := 818) dL_law_816 hl.2.2.2.2 rfl ?_
  refine ex_iconst (v := nI 1) (pc' := 819) dL_law_818 (by decide) rfl ?_
  refine ex_iadd (pc' := 820) (v := nI (i + 1)) dL_law_819 (nI_add _ _) rfl ?_
  refine ex_sald (pc' := 821) (n := L) (xs := xs) (v := xs (i + 1)) dL_law_820 no rfl (sin hL (by omega)) (sxs hL (by omega)) rfl ?_
  refine ex_aload_n (pc' := 822) dL_law_821 hl.1 rfl ?_
  refine ex_iload (pc' := 824) dL_law_822 hl.2.2.2.2 rfl ?_
  refine ex_iconst (v := nI 2) (pc' := 825) dL_law_824 (by decide) rfl ?_
  refine ex_iadd (pc' := 826) (v := nI (i + 2)) dL_law_825 (nI_add _ _) rfl ?_
  refine ex_sald (pc' := 827) (n := L) (xs := xs) (v := xs (i + 2)) dL_law_826 no rfl (sin hL (by omega)) (sxs hL (by omega)) rfl ?_
  refine ex_callvI (pc' := 830) (vs := [.inl (xs (i + 1)), .inl (xs (i + 2))]) (rest := []) (n := 16) dL_law_827 ml_13_95 ⟨zble rfl, zble rfl⟩ rfl rfl (hi.sh (by decide +kernel)) (by decide) (zble rfl) rfl (zCi.pl (l_cls (k := false) S_147 S_361 (by decide +kernel) (by decide +kernel) rfl rfl ⟨⟨0, List.mem_cons_self, rfl⟩, ⟨_, rfl, aIn_top _⟩, ⟨_, rfl, aIn_top _⟩, trivial⟩ rfl hi) (n_cls S_147 S_361 (by decide +kernel) rfl rfl ⟨⟨0, List.mem_cons_self, rfl⟩, ⟨_, rfl, aIn_top _⟩, ⟨_, rfl, aIn_top _⟩, trivial⟩ rfl hi)) (fun x1 h1 hi1 => ?_)
  obtain ⟨hi1, fz⟩ := hi1
  have z1 := hz.cls hi1 fz
  have no : zsh h1 1000000 = none := hi1.sh (by decide +kernel)
  refine ex_pop (pc' := 831) dL_law_830 rfl rfl ?_
  refine ex_aload_n (pc' := 832) dL_law_831 hl.2.2.1 rfl ?_
  refine ex_aload_n (pc' := 833) dL_law_832 hl.1 rfl ?_
  refine ex_iload (pc' := 835) dL_law_833 hl.2.2.2.2 rfl ?_
  refine ex_iconst (v := nI 1) (pc' := 836) dL_law_835 (by decide) rfl ?_
  refine ex_iadd (pc' := 837) (v := nI (i + 1)) dL_law_836 (nI_add _ _) rfl ?_
  refine ex_sald (pc' := 838) (n := L) (xs := xs) (v := xs (i + 1)) dL_law_837 no rfl (sin hL (by omega)) (sxs hL (by omega)) rfl ?_
  refine ex_aload_n (pc' := 839) dL_law_838 hl.1 rfl ?_
  refine ex_iload (pc' := 841) dL_law_839 hl.2.2.2.2 rfl ?_
  refine ex_iconst (v := nI 2) (pc' := 842) dL_law_841 (by decide) rfl ?_
  refine ex_iadd (pc' := 843) (v := nI (i + 2)) dL_law_842 (nI_add _ _) rfl ?_
  refine ex_sald (pc' := 844) (n := L) (xs := xs) (v := xs (i + 2)) dL_law_843 no rfl (sin hL (by omega)) (sxs hL (by omega)) rfl ?_
  refine ex_callvI (pc' := 847) (vs := [.inl (xs (i + 1)), .inl (xs (i + 2))]) (rest := []) (n := 39) dL_law_844 ml_13_98 ⟨zble rfl, zble rfl⟩ rfl rfl (hi1.sh (by decide +kernel)) (by decide) (zble rfl) rfl (zCi.pl (l_modM S_992 (by decide +kernel) ⟨⟨196, List.mem_cons_self, rfl⟩, ⟨_, rfl, aIn_top _⟩, ⟨_, rfl, aIn_top _⟩, trivial⟩ hi1) (n_mod S_992 (by decide +kernel) ⟨⟨196, List.mem_cons_self, rfl⟩, ⟨_, rfl, aIn_top _⟩, ⟨_, rfl, aIn_top _⟩, trivial⟩ hi1.2.1)) (fun x2 h2 hi2 => ?_)
  obtain ⟨hi2, gz⟩ := hi2
  have z2 := And.intro (z1.ref hz gz) (hx.na hz hi1 gz)
  have no : zsh h2 1000000 = none := hi2.sh (by decide +kernel)
  refine ex_pop (pc' := 848) dL_law_847 rfl rfl ?_
  refine ex_goto (pc' := 1805) dL_law_848 (by decide) ?_
  exact K _ _ hl (hi2.up) ⟨_, _, _, _, _, z2⟩
theorem lc_19 {t i L : Nat} {h : zH} {xs : Nat → Int32} {ls : zL} {A : pA} {c : Nat} {s : nS} {H J : List nS} (hL : L ≤ 3072) (hiL : i + 6 ≤ L) (hl : lLoc ls i) (hi : lInv t h) (hz : lZ A c s H J h) (hx : lX A c s H J h) (K : ∀ ls' h', lLoc ls' i → lInv (t + 1) h' → lZs h' → zEx (some (L, xs)) 1005 mL_law (1805, ls', [], h') zQL) : zEx (some (L, xs)) 1005 mL_law (851, ls, [], h) zQL := by
  have no : zsh h 1000000 = none := hi.sh (by decide +kernel)
  refine ex_aload_n (pc' := 852) dL_law_851 hl.2.1 rfl ?_
  refine ex_aload_n (pc' := 853) dL_law_852 hl.1 rfl ?_
  refine ex_iload (pc' := 855) dL_law_853 hl.2.2.2.2 rfl ?_
  refine ex_iconst (v := nI 1) (pc' := 856) dL_law_855 (by decide) rfl ?_
  refine ex_iadd (pc' := 857) (v := nI (i + 1)) dL_law_856 (nI_add _ _) rfl ?_
  refine ex_sald (pc' := 858) (n := L) (xs := xs) (v := xs (i + 1)) dL_law_857 no rfl (sin hL (by omega)) (sxs hL (by omega)) rfl ?_
  refine ex_callvI (pc' := 861) (vs := [.inl (xs (i + 1))]) (rest := []) (n := 16) dL_law_858 ml_13_99 ⟨zble rfl, zble rfl⟩ rfl rfl (hi.sh (by decide +kernel)) (by decide) (zble rfl) rfl (zCi.pl (l_cls (k := false) S_148 S_362 (by decide +kernel) (by decide +kernel) rfl rfl ⟨⟨0, List.mem_cons_self, rfl⟩, ⟨_, rfl, aIn_top _⟩, trivial⟩ rfl hi) (n_cls S_148 S_362 (by decide +kernel) rfl rfl ⟨⟨0, List.mem_cons_self, rfl⟩, ⟨_, rfl, aIn_top _⟩, trivial⟩ rfl hi)) (fun x1 h1 hi1 => ?_)
  obtain ⟨hi1, fz⟩ := hi1
  have z1 := hz.cls hi1 fz
  have no : zsh h1 1000000 = none := hi1.sh (by decide +kernel)
  refine ex_pop (pc' := 862) dL_law_861 rfl rfl ?_
  refine ex_aload_n (pc' := 863) dL_law_862 hl.2.2.1 rfl ?_
  refine ex_aload_n (pc' := 864) dL_law_863 hl.1 rfl ?_
  refine ex_iload (pc' := 866) dL_law_864 hl.2.2.2.2 rfl ?_
  refine ex_iconst (v := nI 1) (pc' := 867) dL_law_866 (by decide) rfl ?_
  refine ex_iadd (pc' := 868) (v := nI (i + 1)) dL_law_867 (nI_add _ _) rfl ?_
  refine ex_sald (pc' := 869) (n := L) (xs := xs) (v := xs (i + 1)) dL_law_868 no rfl (sin hL (by omega)) (sxs hL (by omega)) rfl ?_
  refine ex_callvI (pc' := 872) (vs := [.inl (xs (i + 1))]) (rest := []) (n := 39) dL_law_869 ml_13_102 ⟨zble rfl, zble rfl⟩ rfl rfl (hi1.sh (by decide +kernel)) (by decide) (zble rfl) rfl (zCi.pl (l_modM S_994 (by decide +kernel) ⟨⟨196, List.mem_cons_self, rfl⟩, ⟨_, rfl, aIn_top _⟩, trivial⟩ hi1) (n_mod S_994 (by decide +kernel) ⟨⟨196, List.mem_cons_self, rfl⟩, ⟨_, rfl, aIn_top _⟩, trivial⟩ hi1.2.1)) (fun x2 h2 hi2 => ?_)
  obtain ⟨hi2, gz⟩ := hi2
  have z2 := And.intro (z1.ref hz gz) (hx.na hz hi1 gz)
  have no : zsh h2 1000000 = none := hi2.sh (by decide +kernel)
  refine ex_pop (pc' := 873) dL_law_872 rfl rfl ?_
  refine ex_goto (pc' := 1805) dL_law_873 (by decide) ?_
  exact K _ _ hl (hi2.up) ⟨_, _, _, _, _, z2⟩
theorem lc_20 {t i L : Nat} {h : zH} {xs : Nat → Int32} {ls : zL} {A : pA} {c : Nat} {s : nS} {H J : List nS} (hL : L ≤ 3072) (hiL : i + 6 ≤ L) (hl : lLoc ls i) (hi : lInv t h) (hz : lZ A c s H J h) (hx : lX A c s H J h) (K : ∀ ls' h', lLoc ls' i → lInv (t + 1) h' → lZs h' → zEx (some (L, xs)) 1005 mL_law (1805, ls', [], h') zQL) : zEx (some (L, xs)) 1005 mL_law (876, ls, [], h) zQL := by
  have no : zsh h 1000000 = none := hi.sh (by decide +kernel)
  refine ex_aload_n (pc' := 877) dL_law_876 hl.2.1 rfl ?_
  refine ex_aload_n (pc' := 878) dL_law_877 hl.1 rfl ?_
  refine ex_iload (pc' := 880) dL_law_878 hl.2.2.2.2 rfl ?_
  refine ex_iconst (v := nI 1) (pc' := 881) dL_law_880 (by decide) rfl ?_
  refine ex_iadd (pc' := 882) (v := nI (i + 1)) dL_law_881 (nI_add _ _) rfl ?_
  refine ex_sald (pc' := 883) (n := L) (xs := xs) (v := xs (i + 1)) dL_law_882 no rfl (sin hL (by omega)) (sxs hL (by omega)) rfl ?_
  refine ex_callvI (pc' := 886) (vs := [.inl (xs (i + 1))]) (rest := []) (n := 16) dL_law_883 ml_13_103 ⟨zble rfl, zble rfl⟩ rfl rfl (hi.sh (by decide +kernel)) (by decide) (zble rfl) rfl (zCi.pl (l_cls (k := false) S_149 S_363 (by decide +kernel) (by decide +kernel) rfl rfl ⟨⟨0, List.mem_cons_self, rfl⟩, ⟨_, rfl, aIn_top _⟩, trivial⟩ rfl hi) (n_cls S_149 S_363 (by decide +kernel) rfl rfl ⟨⟨0, List.mem_cons_self, rfl⟩, ⟨_, rfl, aIn_top _⟩, trivial⟩ rfl hi)) (fun x1 h1 hi1 => ?_)
  obtain ⟨hi1, fz⟩ := hi1
  have z1 := hz.cls hi1 fz
  have no : zsh h1 1000000 = none := hi1.sh (by decide +kernel)
  refine ex_pop (pc' := 887) dL_law_886 rfl rfl ?_
  refine ex_aload_n (pc' := 888) dL_law_887 hl.2.2.1 rfl ?_
  refine ex_aload_n (pc' := 889) dL_law_888 hl.1 rfl ?_
  refine ex_iload (pc' := 891) dL_law_889 hl.2.2.2.2 rfl ?_
  refine ex_iconst (v := nI 1) (pc' := 892) dL_law_891 (by decide) rfl ?_
  refine ex_iadd (pc' := 893) (v := nI (i + 1)) dL_law_892 (nI_add _ _) rfl ?_
  refine ex_sald (pc' := 894) (n := L) (xs := xs) (v := xs (i + 1)) dL_law_893 no rfl (sin hL (by omega)) (sxs hL (by omega)) rfl ?_
  refine ex_callvI (pc' := 897) (vs := [.inl (xs (i + 1))]) (rest := []) (n := 39) dL_law_894 ml_13_106 ⟨zble rfl, zble rfl⟩ rfl rfl (hi1.sh (by decide +kernel)) (by decide) (zble rfl) rfl (zCi.pl (l_modM S_996 (by decide +kernel) ⟨⟨196, List.mem_cons_self, rfl⟩, ⟨_, rfl, aIn_top _⟩, trivial⟩ hi1) (n_mod S_996 (by decide +kernel) ⟨⟨196, List.mem_cons_self, rfl⟩, ⟨_, rfl, aIn_top _⟩, trivial⟩ hi1.2.1)) (fun x2 h2 hi2 => ?_)
  obtain ⟨hi2, gz⟩ := hi2
  have z2 := And.intro (z1.ref hz gz) (hx.na hz hi1 gz)
  have no : zsh h2 1000000 = none := hi2.sh (by decide +kernel)
  refine ex_pop (pc' := 898) dL_law_897 rfl rfl ?_
  refine ex_goto (pc' := 1805) dL_law_898 (by decide) ?_
  exact K _ _ hl (hi2.up) ⟨_, _, _, _, _, z2⟩
theorem lc_21 {t i L : Nat} {h : zH} {xs : Nat → Int32} {ls : zL} {A : pA} {c : Nat} {s : nS} {H J : List nS} (hL : L ≤ 3072) (hiL : i + 6 ≤ L) (hl : lLoc ls i) (hi : lInv t h) (hz : lZ A c s H J h) (hx : lX A c s H J h) (K : ∀ ls' h', lLoc ls' i → lInv (t + 1) h' → lZs h' → zEx (some (L, xs)) 1005 mL_law (1805, ls', [], h') zQL) : zEx (some (L, xs)) 1005 mL_law (901, ls, [], h) zQL := by
  have no : zsh h 1000000 = none := hi.sh (by decide +kernel)
  refine ex_aload_n (pc' := 902) dL_law_901 hl.2.1 rfl ?_
  refine ex_aload_n (pc' := 903) dL_law_902 hl.1 rfl ?_
  refine ex_iload (pc' := 905) dL_law_903 hl.2.2.2.2 rfl ?_
  refine ex_iconst (v := nI 1) (pc' := 906) dL_law_905 (by decide) rfl ?_
  refine ex_iadd (pc' := 907) (v := nI (i + 1)) dL_law_906 (nI_add _ _) rfl ?_
  refine ex_sald (pc' := 908) (n := L) (xs := xs) (v := xs (i + 1)) dL_law_907 no rfl (sin hL (by omega)) (sxs hL (by omega)) rfl ?_
  refine ex_aload_n (pc' := 909) dL_law_908 hl.1 rfl ?_
  refine ex_iload (pc' := 911) dL_law_909 hl.2.2.2.2 rfl ?_
  refine ex_iconst (v := nI 2) (pc' := 912) dL_law_911 (by decide) rfl ?_
  refine ex_iadd (pc' := 913) (v := nI (i + 2)) dL_law_912 (nI_add _ _) rfl ?_
  refine ex_sald (pc' := 914) (n := L) (xs := xs) (v := xs (i + 2)) dL_law_913 no rfl (sin hL (by omega)) (sxs hL (by omega)) rfl ?_
  refine ex_callvI (pc' := 917) (vs := [.inl (xs (i + 1)), .inl (xs (i + 2))]) (rest := []) (n := 16) dL_law_914 ml_13_107 ⟨zble rfl, zble rfl⟩ rfl rfl (hi.sh (by decide +kernel)) (by decide) (zble rfl) rfl (zCi.pl (l_cls (k := false) S_154 S_367 (by decide +kernel) (by decide +kernel) rfl rfl ⟨⟨0, List.mem_cons_self, rfl⟩, ⟨_, rfl, aIn_top _⟩, ⟨_, rfl, aIn_top _⟩, trivial⟩ rfl hi) (n_cls S_154 S_367 (by decide +kernel) rfl rfl ⟨⟨0, List.mem_cons_self, rfl⟩, ⟨_, rfl, aIn_top _⟩, ⟨_, rfl, aIn_top _⟩, trivial⟩ rfl hi)) (fun x1 h1 hi1 => ?_)
  obtain ⟨hi1, fz⟩ := hi1
  have z1 := hz.cls hi1 fz
  have no : zsh h1 1000000 = none := hi1.sh (by decide +kernel)
  refine ex_pop (pc' := 918) dL_law_917 rfl rfl ?_
  refine ex_aload_n (pc' := 919) dL_law_918 hl.2.2.1 rfl ?_
  refine ex_aload_n (pc' := 920) dL_law_919 hl.1 rfl ?_
  refine ex_iload (pc' := 922) dL_law_920 hl.2.2.2.2 rfl ?_
  refine ex_iconst (v := nI 1) (pc' := 923) dL_law_922 (by decide) rfl ?_
  refine ex_iadd (pc' := 924) (v := nI (i + 1)) dL_law_923 (nI_add _ _) rfl ?_
  refine ex_sald (pc' := 925) (n := L) (xs := xs) (v := xs (i + 1)) dL_law_924 no rfl (sin hL (by omega)) (sxs hL (by omega)) rfl ?_
  refine ex_aload_n (pc' := 926) dL_law_925 hl.1 rfl ?_
  refine ex_iload (pc' := 928) dL_law_926 hl.2.2.2.2 rfl ?_
  refine ex_iconst (v := nI 2) (pc' := 929) dL_law_928 (by decide) rfl ?_
  refine ex_iadd (pc' := 930) (v := nI (i + 2)) dL_law_929 (nI_add _ _) rfl ?_
  refine ex_sald (pc' := 931) (n := L) (xs := xs) (v := xs (i + 2)) dL_law_930 no rfl (sin hL (by omega)) (sxs hL (by omega)) rfl ?_
  refine ex_callvI (pc' := 934) (vs := [.inl (xs (i + 1)), .inl (xs (i + 2))]) (rest := []) (n := 39) dL_law_931 ml_13_110 ⟨zble rfl, zble rfl⟩ rfl rfl (hi1.sh (by decide +kernel)) (by decide) (zble rfl) rfl (zCi.pl (l_modM S_997 (by decide +kernel) ⟨⟨196, List.mem_cons_self, rfl⟩, ⟨_, rfl, aIn_top _⟩, ⟨_, rfl, aIn_top _⟩, trivial⟩ hi1) (n_mod S_997 (by decide +kernel) ⟨⟨196, List.mem_cons_self, rfl⟩, ⟨_, rfl, aIn_top _⟩, ⟨_, rfl, aIn_top _⟩, trivial⟩ hi1.2.1)) (fun x2 h2 hi2 => ?_)
  obtain ⟨hi2, gz⟩ := hi2
  have z2 := And.intro (z1.ref hz gz) (hx.na hz hi1 gz)
  have no : zsh h2 1000000 = none := hi2.sh (by decide +kernel)
  refine ex_pop (pc' := 935) dL_law_934 rfl rfl ?_
  refine ex_goto (pc' := 1805) dL_law_935 (by decide) ?_
  exact K _ _ hl (hi2.up) ⟨_, _, _, _, _, z2⟩
theorem lc_22 {t i L : Nat} {h : zH} {xs : Nat → Int32} {ls : zL} {A : pA} {c : Nat} {s : nS} {H J : List nS} (hL : L ≤ 3072) (hiL : i + 6 ≤ L) (hl : lLoc ls i) (hi : lInv t h) (hz : lZ A c s H J h) (hx : lX A c s H J h) (K : ∀ ls' h', lLoc ls' i → lInv (t + 1) h' → lZs h' → zEx (some (L, xs)) 1005 mL_law (1805, ls', [], h') zQL) : zEx (some (L, xs)) 1005 mL_law (938, ls, [], h) zQL := by
  have no : zsh h 1000000 = none := hi.sh (by decide +kernel)
  refine ex_aload_n (pc' := 939) dL_law_938 hl.2.1 rfl ?_
  refine ex_aload_n (pc' := 940) dL_law_939 hl.1 rfl ?_
  refine ex_iload (pc' := 942) dL_law_940 hl.2.2.2.2 rfl ?_
  refine ex_iconst (v := nI 1) (pc' := 943) dL_law_942 (by decide) rfl ?_
  refine ex_iadd (pc' := 944) (v := nI (i + 1)) dL_law_943 (nI_add _ _) rfl ?_
  refine ex_sald (pc' := 945) (n := L) (xs := xs) (v := xs (i + 1)) dL_law_944 no rfl (sin hL (by omega)) (sxs hL (by omega)) rfl ?_
  refine ex_callvI (pc' := 948) (vs := [.inl (xs (i + 1))]) (rest := []) (n := 16) dL_law_945 ml_13_111 ⟨zble rfl, zble rfl⟩ rfl rfl (hi.sh (by decide +kernel)) (by decide) (zble rfl) rfl (zCi.pl (l_cls (k := false) S_156 S_369 (by decide +kernel) (by decide +kernel) rfl rfl ⟨⟨0, List.mem_cons_self, rfl⟩, ⟨_, rfl, aIn_top _⟩, trivial⟩ rfl hi) (n_cls S_156 S_369 (by decide +kernel) rfl rfl ⟨⟨0, List.mem_cons_self, rfl⟩, ⟨_, rfl, aIn_top _⟩, trivial⟩ rfl hi)) (fun x1 h1 hi1 => ?_)
  obtain ⟨hi1, fz⟩ := hi1
  have z1 := hz.cls hi1 fz
  have no : zsh h1 1000000 = none := hi1.sh (by decide +kernel)
  refine ex_pop (pc' := 949) dL_law_948 rfl rfl ?_
  refine ex_aload_n (pc' := 950) dL_law_949 hl.2.2.1 rfl ?_
  refine ex_aload_n (pc' := 951) dL_law_950 hl.1 rfl ?_
  refine ex_iload (pc' := 953) dL_law_951 hl.2.2.2.2 rfl ?_
  refine ex_iconst (v := nI 1) (pc' := 954) dL_law_953 (by decide) rfl ?_
  refine ex_iadd (pc' := 955) (v := nI (i + 1)) dL_law_954 (nI_add _ _) rfl ?_
  refine ex_sald (pc' := 956) (n := L) (xs := xs) (v := xs (i + 1)) dL_law_955 no rfl (sin hL (by omega)) (sxs hL (by omega)) rfl ?_
  refine ex_callvI (pc' := 959) (vs := [.inl (xs (i + 1))]) (rest := []) (n := 39) dL_law_956 ml_13_114 ⟨zble rfl, zble rfl⟩ rfl rfl (hi1.sh (by decide +kernel)) (by decide) (zble rfl) rfl (zCi.pl (l_modM S_999 (by decide +kernel) ⟨⟨196, List.mem_cons_self, rfl⟩, ⟨_, rfl, aIn_top _⟩, trivial⟩ hi1) (n_mod S_999 (by decide +kernel) ⟨⟨196, List.mem_cons_self, rfl⟩, ⟨_, rfl, aIn_top _⟩, trivial⟩ hi1.2.1)) (fun x2 h2 hi2 => ?_)
  obtain ⟨hi2, gz⟩ := hi2
  have z2 := And.intro (z1.ref hz gz) (hx.na hz hi1 gz)
  have no : zsh h2 1000000 = none := hi2.sh (by decide +kernel)
  refine ex_pop (pc' := 960) dL_law_959 rfl rfl ?_
  refine ex_goto (pc' := 1805) dL_law_960 (by decide) ?_
  exact K _ _ hl (hi2.up) ⟨_, _, _, _, _, z2⟩
theorem lc_23 {t i L : Nat} {h : zH} {xs : Nat → Int32} {ls : zL} {A : pA} {c : Nat} {s : nS} {H J : List nS} (hL : L ≤ 3072) (hiL : i + 6 ≤ L) (hl : lLoc ls i) (hi : lInv t h) (hz : lZ A c s H J h) (hx : lX A c s H J h) (K : ∀ ls' h', lLoc ls' i → lInv (t + 1) h' → lZs h' → zEx (some (L, xs)) 1005 mL_law (1805, ls', [], h') zQL) : zEx (some (L, xs)) 1005 mL_law (963, ls, [], h) zQL := by
  have no : zsh h 1000000 = none := hi.sh (by decide +kernel)
  refine ex_aload_n (pc' := 964) dL_law_963 hl.2.1 rfl ?_
  refine ex_aload_n (pc' := 965) dL_law_964 hl.1 rfl ?_
  refine ex_iload (pc' := 967) dL_law_965 hl.2.2.2.2 rfl ?_
  refine ex_iconst (v := nI 1) (pc' := 968) dL_law_967 (by decide) rfl ?_
  refine ex_iadd (pc' := 969) (v := nI (i + 1)) dL_law_968 (nI_add _ _) rfl ?_
  refine ex_sald (pc' := 970) (n := L) (xs := xs) (v := xs (i + 1)) dL_law_969 no rfl (sin hL (by omega)) (sxs hL (by omega)) rfl ?_
  refine ex_aload_n (pc' := 971) dL_law_970 hl.1 rfl ?_
  refine ex_iload (pc' := 973) dL_law_971 hl.2.2.2.2 rfl ?_
  refine ex_iconst (v := nI 2) (pc' := 974) dL_law_973 (by decide) rfl ?_
  refine ex_iadd (pc' := 975) (v := nI (i + 2)) dL_law_974 (nI_add _ _) rfl ?_
  refine ex_sald (pc' := 976) (n := L) (xs := xs) (v := xs (i + 2)) dL_law_975 no rfl (sin hL (by omega)) (sxs hL (by omega)) rfl ?_
  refine ex_aload_n (pc' := 977) dL_law_976 hl.1 rfl ?_
  refine ex_iload (pc' := 979) dL_law_977 hl.2.2.2.2 rfl ?_
  refine ex_iconst (v := nI 3) (pc' := 980) dL_law_979 (by decide) rfl ?_
  refine ex_iadd (pc' := 981) (v := nI (i + 3)) dL_law_980 (nI_add _ _) rfl ?_
  refine ex_sald (pc' := 982) (n := L) (xs := xs) (v := xs (i + 3)) dL_law_981 no rfl (sin hL (by omega)) (sxs hL (by omega)) rfl ?_
  refine ex_aload_n (pc' := 983) dL_law_982 hl.1 rfl ?_
  refine ex_iload (pc' := 985) dL_law_983 hl.2.2.2.2 rfl ?_
  refine ex_iconst (v := nI 4) (pc' := 986) dL_law_985 (by decide) rfl ?_
  refine ex_iadd (pc' := 987) (v := nI (i + 4)) dL_law_986 (nI_add _ _) rfl ?_
  refine ex_sald (pc' := 988) (n := L) (xs := xs) (v := xs (i + 4)) dL_law_987 no rfl (sin hL (by omega)) (sxs hL (by omega)) rfl ?_
  refine ex_callvI (pc' := 991) (vs := [.inl (xs (i + 1)), .inl (xs (i + 2)), .inl (xs (i + 3)), .inl (xs (i + 4))]) (rest := []) (n := 16) dL_law_988 ml_13_115 ⟨zble rfl, zble rfl⟩ rfl rfl (hi.sh (by decide +kernel)) (by decide) (zble rfl) rfl (zCi.pl (l_cls (k := false) S_165 S_374 (by decide +kernel) (by decide +kernel) rfl rfl ⟨⟨0, List.mem_cons_self, rfl⟩, ⟨_, rfl, aIn_top _⟩, ⟨_, rfl, aIn_top _⟩, ⟨_, rfl, aIn_top _⟩, ⟨_, rfl, aIn_top _⟩, trivial⟩ rfl hi) (n_cls S_165 S_374 (by decide +kernel) rfl rfl ⟨⟨0, List.mem_cons_self, rfl⟩, ⟨_, rfl, aIn_top _⟩, ⟨_, rfl, aIn_top _⟩, ⟨_, rfl, aIn_top _⟩, ⟨_, rfl, aIn_top _⟩, trivial⟩ rfl hi)) (fun x1 h1 hi1 => ?_)
  obtain ⟨hi1, fz⟩ := hi1
  have z1 := hz.cls hi1 fz
  have no : zsh h1 1000000 = none := hi1.sh (by decide +kernel)
  refine ex_pop (pc' := 992) dL_law_991 rfl rfl ?_
  refine ex_aload_n (pc' := 993) dL_law_992 hl.2.2.1 rfl ?_
  refine ex_aload_n (pc' := 994) dL_law_993 hl.1 rfl ?_
  refine ex_iload (pc' := 996) dL_law_994 hl.2.2.2.2 rfl ?_
  refine ex_iconst (v := nI 1) (pc' := 997) dL_law_996 (by decide) rfl ?_
  refine ex_iadd (pc' := 998) (v := nI (i + 1)) dL_law_997 (nI_add _ _) rfl ?_
  refine ex_sald (pc' := 999) (n := L) (xs := xs) (v := xs (i + 1)) dL_law_998 no rfl (sin hL (by omega)) (sxs hL (by omega)) rfl ?_
  refine ex_aload_n (pc' := 1000) dL_law_999 hl.1 rfl ?_
  refine ex_iload (pc' := 1002) dL_law_1000 hl.2.2.2.2 rfl ?_
  refine ex_iconst (v := nI 2) (pc' := 1003) dL_law_1002 (by decide) rfl ?_
  refine ex_iadd (pc' := 1004) (v := nI (i + 2)) dL_law_1003 (nI_add _ _) rfl ?_
  refine ex_sald (pc' := 1005) (n := L) (xs := xs) (v := xs (i + 2)) dL_law_1004 no rfl (sin hL (by omega)) (sxs hL (by omega)) rfl ?_
  refine ex_aload_n (pc' := 1006) dL_law_1005 hl.1 rfl ?_
  refine ex_iload (pc' := 1008) dL_law_1006 hl.2.2.2.2 rfl ?_
  refine ex_iconst (v := nI 3) (pc' := 1009) dL_law_1008 (by decide) rfl ?_
  refine ex_iadd (pc' := 1010) (v := nI (i + 3)) dL_law_1009 (nI_add _ _) rfl ?_
  refine ex_sald (pc' := 1011) (n := L) (xs := xs) (v := xs (i + 3)) dL_law_1010 no rfl (sin hL (by omega)) (sxs hL (by omega)) rfl ?_
  refine ex_aload_n (pc' := 1012) dL_law_1011 hl.1 rfl ?_
  refine ex_iload (pc' := 1014) dL_law_1012 hl.2.2.2.2 rfl ?_
  refine ex_iconst (v := nI 4) (pc' := 1015) dL_law_1014 (by decide) rfl ?_
  refine ex_iadd (pc' := 1016) (v := nI (i + 4)) dL_law_1015 (nI_add _ _) rfl ?_
  refine ex_sald (pc' := 1017) (n := L) (xs := xs) (v := xs (i + 4)) dL_law_1016 no rfl (sin hL (by omega)) (sxs hL (by omega)) rfl ?_
  refine ex_callvI (pc' := 1020) (vs := [.inl (xs (i + 1)), .inl (xs (i + 2)), .inl (xs (i + 3)), .inl (xs (i + 4))]) (rest := []) (n := 39) dL_law_1017 ml_13_119 ⟨zble rfl, zble rfl⟩ rfl rfl (hi1.sh (by decide +kernel)) (by decide) (zble rfl) rfl (zCi.pl (l_modM S_1027 (by decide +kernel) ⟨⟨196, List.mem_cons_self, rfl⟩, ⟨_, rfl, aIn_top _⟩, ⟨_, rfl, aIn_top _⟩, ⟨_, rfl, aIn_top _⟩, ⟨_, rfl, aIn_top _⟩, trivial⟩ hi1) (n_mod S_1027 (by decide +kernel) ⟨⟨196, List.mem_cons_self, rfl⟩, ⟨_, rfl, aIn_top _⟩, ⟨_, rfl, aIn_top _⟩, ⟨_, rfl, aIn_top _⟩, ⟨_, rfl, aIn_top _⟩, trivial⟩ hi1.2.1)) (fun x2 h2 hi2 => ?_)
  obtain ⟨hi2, gz⟩ := hi2
  have z2 := And.intro (z1.ref hz gz) (hx.na hz hi1 gz)
  have no : zsh h2 1000000 = none := hi2.sh (by decide +kernel)
  refine ex_pop (pc' := 1021) dL_law_1020 rfl rfl ?_
  refine ex_goto (pc' := 1805) dL_law_1021 (by decide) ?_
  exact K _ _ hl (hi2.up) ⟨_, _, _, _, _, z2⟩
theorem lc_24 {t i L : Nat} {h : zH} {xs : Nat → Int32} {ls : zL} {A : pA} {c : Nat} {s : nS} {H J : List nS} (hL : L ≤ 3072) (hiL : i + 6 ≤ L) (hl : lLoc ls i) (hi : lInv t h) (hz : lZ A c s H J h) (hx : lX A c s H J h) (K : ∀ ls' h', lLoc ls' i → lInv (t + 1) h' → lZs h' → zEx (some (L, xs)) 1005 mL_law (1805, ls', [], h') zQL) : zEx (some (L, xs)) 1005 mL_law (1024, ls, [], h) zQL := by
  have no : zsh h 1000000 = none := hi.sh (by decide +kernel)
  refine ex_aload_n (pc' := 1025) dL_law_1024 hl.2.1 rfl ?_
  refine ex_aload_n (pc' := 1026) dL_law_1025 hl.1 rfl ?_
  refine ex_iload (pc' := 1028) dL_law_1026 hl.2.2.2.2 rfl ?_
  refine ex_iconst (v := nI 1) (pc' := 1029) dL_law_1028 (by decide) rfl ?_
  refine ex_iadd (pc' := 1030) (v := nI (i + 1)) dL_law_1029 (nI_add _ _) rfl ?_
  refine ex_sald (pc' := 1031) (n := L) (xs := xs) (v := xs (i + 1)) dL_law_1030 no rfl (sin hL (by omega)) (sxs hL (by omega)) rfl ?_
  refine ex_aload_n (pc' := 1032) dL_law_1031 hl.1 rfl ?_
  refine ex_iload (pc' := 1034) dL_law_1032 hl.2.2.2.2 rfl ?_
  refine ex_iconst (v := nI 2) (pc' := 1035) dL_law_1034 (by decide) rfl ?_
  refine ex_iadd (pc' := 1036) (v := nI (i + 2)) dL_law_1035 (nI_add _ _) rfl ?_
  refine ex_sald (pc' := 1037) (n := L) (xs := xs) (v := xs (i + 2)) dL_law_1036 no rfl (sin hL (by omega)) (sxs hL (by omega)) rfl ?_
  refine ex_callvI (pc' := 1040) (vs := [.inl (xs (i + 1)), .inl (xs (i + 2))]) (rest := []) (n := 16) dL_law_1037 ml_13_120 ⟨zble rfl, zble rfl⟩ rfl rfl (hi.sh (by decide +kernel)) (by decide) (zble rfl) rfl (zCi.pl (l_cls (k := false) S_172 S_381 (by decide +kernel) (by decide +kernel) rfl rfl ⟨⟨0, List.mem_cons_self, rfl⟩, ⟨_, rfl, aIn_top _⟩, ⟨_, rfl, aIn_top _⟩, trivial⟩ rfl hi) (n_cls S_172 S_381 (by decide +kernel) rfl rfl ⟨⟨0, List.mem_cons_self, rfl⟩, ⟨_, rfl, aIn_top _⟩, ⟨_, rfl, aIn_top _⟩, trivial⟩ rfl hi)) (fun x1 h1 hi1 => ?_)
  obtain ⟨hi1, fz⟩ := hi1
  have z1 := hz.cls hi1 fz
  have no : zsh h1 1000000 = none := hi1.sh (by decide +kernel)
  refine ex_pop (pc' := 1041) dL_law_1040 rfl rfl ?_
  refine ex_aload_n (pc' := 1042) dL_law_1041 hl.2.2.1 rfl ?_
  refine ex_aload_n (pc' := 1043) dL_law_1042 hl.1 rfl ?_
  refine ex_iload (pc' := 1045) dL_law_1043 hl.2.2.2.2 rfl ?_
  refine ex_iconst (v := nI 1) (pc' := 1046) dL_law_1045 (by decide) rfl ?_
  refine ex_iadd (pc' := 1047) (v := nI (i + 1)) dL_law_1046 (nI_add _ _) rfl ?_
  refine ex_sald (pc' := 1048) (n := L) (xs := xs) (v := xs (i + 1)) dL_law_1047 no rfl (sin hL (by omega)) (sxs hL (by omega)) rfl ?_
  refine ex_aload_n (pc' := 1049) dL_law_1048 hl.1 rfl ?_
  refine ex_iload (pc' := 1051) dL_law_1049 hl.2.2.2.2 rfl ?_
  refine ex_iconst (v := nI 2) (pc' := 1052) dL_law_1051 (by decide) rfl ?_
  refine ex_iadd (pc' := 1053) (v := nI (i + 2)) dL_law_1052 (nI_add _ _) rfl ?_
  refine ex_sald (pc' := 1054) (n := L) (xs := xs) (v := xs (i + 2)) dL_law_1053 no rfl (sin hL (by omega)) (sxs hL (by omega)) rfl ?_
  refine ex_callvI (pc' := 1057) (vs := [.inl (xs (i + 1)), .inl (xs (i + 2))]) (rest := []) (n := 39) dL_law_1054 ml_13_123 ⟨zble rfl, zble rfl⟩ rfl rfl (hi1.sh (by decide +kernel)) (by decide) (zble rfl) rfl (zCi.pl (l_modM S_1038 (by decide +kernel) ⟨⟨196, List.mem_cons_self, rfl⟩, ⟨_, rfl, aIn_top _⟩, ⟨_, rfl, aIn_top _⟩, trivial⟩ hi1) (n_mod S_1038 (by decide +kernel) ⟨⟨196, List.mem_cons_self, rfl⟩, ⟨_, rfl, aIn_top _⟩, ⟨_, rfl, aIn_top _⟩, trivial⟩ hi1.2.1)) (fun x2 h2 hi2 => ?_)
  obtain ⟨hi2, gz⟩ := hi2
  have z2 := And.intro (z1.ref hz gz) (hx.na hz hi1 gz)
  have no : zsh h2 1000000 = none := hi2.sh (by decide +kernel)
  refine ex_pop (pc' := 1058) dL_law_1057 rfl rfl ?_
  refine ex_goto (pc' := 1805) dL_law_1058 (by decide) ?_
  exact K _ _ hl (hi2.up) ⟨_, _, _, _, _, z2⟩
theorem lc_25 {t i L : Nat} {h : zH} {xs : Nat → Int32} {ls : zL} {A : pA} {c : Nat} {s : nS} {H J : List nS} (hL : L ≤ 3072) (hiL : i + 6 ≤ L) (hl : lLoc ls i) (hi : lInv t h) (hz : lZ A c s H J h) (hx : lX A c s H J h) (K : ∀ ls' h', lLoc ls' i → lInv (t + 1) h' → lZs h' → zEx (some (L, xs)) 1005 mL_law (1805, ls', [], h') zQL) : zEx (some (L, xs)) 1005 mL_law (1061, ls, [], h) zQL := by
  have no : zsh h 1000000 = none := hi.sh (by decide +kernel)
  refine ex_aload_n (pc' := 1062) dL_law_1061 hl.2.1 rfl ?_
  refine ex_aload_n (pc' := 1063) dL_law_1062 hl.1 rfl ?_
  refine ex_iload (pc' := 1065) dL_law_1063 hl.2.2.2.2 rfl ?_
  refine ex_iconst (v := nI 1) (pc' := 1066) dL_law_1065 (by decide) rfl ?_
  refine ex_iadd (pc' := 1067) (v := nI (i + 1)) dL_law_1066 (nI_add _ _) rfl ?_
  refine ex_sald (pc' := 1068) (n := L) (xs := xs) (v := xs (i + 1)) dL_law_1067 no rfl (sin hL (by omega)) (sxs hL (by omega)) rfl ?_
  refine ex_callvI (pc' := 1071) (vs := [.inl (xs (i + 1))]) (rest := []) (n := 16) dL_law_1068 ml_13_124 ⟨zble rfl, zble rfl⟩ rfl rfl (hi.sh (by decide +kernel)) (by decide) (zble rfl) rfl (zCi.pl (l_cls (k := false) S_174 S_383 (by decide +kernel) (by decide +kernel) rfl rfl ⟨⟨0, List.mem_cons_self, rfl⟩, ⟨_, rfl, aIn_top _⟩, trivial⟩ rfl hi) (n_cls S_174 S_383 (by decide +kernel) rfl rfl ⟨⟨0, List.mem_cons_self, rfl⟩, ⟨_, rfl, aIn_top _⟩, trivial⟩ rfl hi)) (fun x1 h1 hi1 => ?_)
  obtain ⟨hi1, fz⟩ := hi1
  have z1 := hz.cls hi1 fz
  have no : zsh h1 1000000 = none := hi1.sh (by decide +kernel)
  refine ex_pop (pc' := 1072) dL_law_1071 rfl rfl ?_
  refine ex_aload_n (pc' := 1073) dL_law_1072 hl.2.2.1 rfl ?_
  refine ex_aload_n (pc' := 1074) dL_law_1073 hl.1 rfl ?_
  refine ex_iload (pc' := 1076) dL_law_1074 hl.2.2.2.2 rfl ?_
  refine ex_iconst (v := nI 1) (pc' := 1077) dL_law_1076 (by decide) rfl ?_
  refine ex_iadd (pc' := 1078) (v := nI (i + 1)) dL_law_1077 (nI_add _ _) rfl ?_
  refine ex_sald (pc' := 1079) (n := L) (xs := xs) (v := xs (i + 1)) dL_law_1078 no rfl (sin hL (by omega)) (sxs hL (by omega)) rfl ?_
  refine ex_callvI (pc' := 1082) (vs := [.inl (xs (i + 1))]) (rest := []) (n := 39) dL_law_1079 ml_13_127 ⟨zble rfl, zble rfl⟩ rfl rfl (hi1.sh (by decide +kernel)) (by decide) (zble rfl) rfl (zCi.pl (l_modM S_1039 (by decide +kernel) ⟨⟨196, List.mem_cons_self, rfl⟩, ⟨_, rfl, aIn_top _⟩, trivial⟩ hi1) (n_mod S_1039 (by decide +kernel) ⟨⟨196, List.mem_cons_self, rfl⟩, ⟨_, rfl, aIn_top _⟩, trivial⟩ hi1.2.1)) (fun x2 h2 hi2 => ?_)
  obtain ⟨hi2, gz⟩ := hi2
  have z2 := And.intro (z1.ref hz gz) (hx.na hz hi1 gz)
  have no : zsh h2 1000000 = none := hi2.sh (by decide +kernel)
  refine ex_pop (pc' := 1083) dL_law_1082 rfl rfl ?_
  refine ex_goto (pc' := 1805) dL_law_1083 (by decide) ?_
  exact K _ _ hl (hi2.up) ⟨_, _, _, _, _, z2⟩
theorem lc_26 {t i L : Nat} {h : zH} {xs : Nat → Int32} {ls : zL} {A : pA} {c : Nat} {s : nS} {H J : List nS} (hL : L ≤ 3072) (hiL : i + 6 ≤ L) (hl : lLoc ls i) (hi : lInv t h) (hz : lZ A c s H J h) (hx : lX A c s H J h) (K : ∀ ls' h', lLoc ls' i → lInv (t + 1) h' → lZs h' → zEx (some (L, xs)) 1005 mL_law (1805, ls', [], h') zQL) : zEx (some (L, xs)) 1005 mL_law (1086, ls, [], h) zQL := by
  have no : zsh h 1000000 = none := hi.sh (by decide +kernel)
  refine ex_aload_n (pc' := 1087) dL_law_1086 hl.2.1 rfl ?_
  refine ex_aload_n (pc' := 1088) dL_law_1087 hl.1 rfl ?_
  refine ex_iload (pc' := 1090) dL_law_1088 hl.2.2.2.2 rfl ?_
  refine ex_iconst (v := nI 1) (pc' := 1091) dL_law_1090 (by decide) rfl ?_
  refine ex_iadd (pc' := 1092) (v := nI (i + 1)) dL_law_1091 (nI_add _ _) rfl ?_
  refine ex_sald (pc' := 1093) (n := L) (xs := xs) (v := xs (i + 1)) dL_law_1092 no rfl (sin hL (by omega)) (sxs hL (by omega)) rfl ?_
  refine ex_callvI (pc' := 1096) (vs := [.inl (xs (i + 1))]) (rest := []) (n := 16) dL_law_1093 ml_13_128 ⟨zble rfl, zble rfl⟩ rfl rfl (hi.sh (by decide +kernel)) (by decide) (zble rfl) rfl (zCi.pl (l_cls (k := false) S_176 S_385 (by decide +kernel) (by decide +kernel) rfl rfl ⟨⟨0, List.mem_cons_self, rfl⟩, ⟨_, rfl, aIn_top _⟩, trivial⟩ rfl hi) (n_cls S_176 S_385 (by decide +kernel) rfl rfl ⟨⟨0, List.mem_cons_self, rfl⟩, ⟨_, rfl, aIn_top _⟩, trivial⟩ rfl hi)) (fun x1 h1 hi1 => ?_)
  obtain ⟨hi1, fz⟩ := hi1
  have z1 := hz.cls hi1 fz
  have no : zsh h1 1000000 = none := hi1.sh (by decide +kernel)
  refine ex_pop (pc' := 1097) dL_law_1096 rfl rfl ?_
  refine ex_aload_n (pc' := 1098) dL_law_1097 hl.2.2.1 rfl ?_
  refine ex_aload_n (pc' := 1099) dL_law_1098 hl.1 rfl ?_
  refine ex_iload (pc' := 1101) dL_law_1099 hl.2.2.2.2 rfl ?_
  refine ex_iconst (v := nI 1) (pc' := 1102) dL_law_1101 (by decide) rfl ?_
  refine ex_iadd (pc' := 1103) (v := nI (i + 1)) dL_law_1102 (nI_add _ _) rfl ?_
  refine ex_sald (pc' := 1104) (n := L) (xs := xs) (v := xs (i + 1)) dL_law_1103 no rfl (sin hL (by omega)) (sxs hL (by omega)) rfl ?_
  refine ex_callvI (pc' := 1107) (vs := [.inl (xs (i + 1))]) (rest := []) (n := 39) dL_law_1104 ml_13_131 ⟨zble rfl, zble rfl⟩ rfl rfl (hi1.sh (by decide +kernel)) (by decide) (zble rfl) rfl (zCi.pl (l_modM S_1042 (by decide +kernel) ⟨⟨196, List.mem_cons_self, rfl⟩, ⟨_, rfl, aIn_top _⟩, trivial⟩ hi1) (n_mod S_1042 (by decide +kernel) ⟨⟨196, List.mem_cons_self, rfl⟩, ⟨_, rfl, aIn_top _⟩, trivial⟩ hi1.2.1)) (fun x2 h2 hi2 => ?_)
  obtain ⟨hi2, gz⟩ := hi2
  have z2 := And.intro (z1.ref hz gz) (hx.na hz hi1 gz)
  have no : zsh h2 1000000 = none := hi2.sh (by decide +kernel)
  refine ex_pop (pc' := 1108) dL_law_1107 rfl rfl ?_
  refine ex_goto (pc' := 1805) dL_law_1108 (by decide) ?_
  exact K _ _ hl (hi2.up) ⟨_, _, _, _, _, z2⟩
theorem lc_27 {t i L : Nat} {h : zH} {xs : Nat → Int32} {ls : zL} {A : pA} {c : Nat} {s : nS} {H J : List nS} (hL : L ≤ 3072) (hiL : i + 6 ≤ L) (hl : lLoc ls i) (hi : lInv t h) (hz : lZ A c s H J h) (hx : lX A c s H J h) (K : ∀ ls' h', lLoc ls' i → lInv (t + 1) h' → lZs h' → zEx (some (L, xs)) 1005 mL_law (1805, ls', [], h') zQL) : zEx (some (L, xs)) 1005 mL_law (1111, ls, [], h) zQL := by
  have no : zsh h 1000000 = none := hi.sh (by decide +kernel)
  refine ex_aload_n (pc' := 1112) dL_law_1111 hl.2.1 rfl ?_
  refine ex_aload_n (pc' := 1113) dL_law_1112 hl.1 rfl ?_
  refine ex_iload (pc' := 1115) dL_law_1113 hl.2.2.2.2 rfl ?_
  refine ex_iconst (v := nI 1) (pc' := 1116) dL_law_1115 (by decide) rfl ?_
  refine ex_iadd (pc' := 1117) (v := nI (i + 1)) dL_law_1116 (nI_add _ _) rfl ?_
  refine ex_sald (pc' := 1118) (n := L) (xs := xs) (v := xs (i + 1)) dL_law_1117 no rfl (sin hL (by omega)) (sxs hL (by omega)) rfl ?_
  refine ex_aload_n (pc' := 1119) dL_law_1118 hl.1 rfl ?_
  refine ex_iload (pc' := 1121) dL_law_1119 hl.2.2.2.2 rfl ?_
  refine ex_iconst (v := nI 2) (pc' := 1122) dL_law_1121 (by decide) rfl ?_
  refine ex_iadd (pc' := 1123) (v := nI (i + 2)) dL_law_1122 (nI_add _ _) rfl ?_
  refine ex_sald (pc' := 1124) (n := L) (xs := xs) (v := xs (i + 2)) dL_law_1123 no rfl (sin hL (by omega)) (sxs hL (by omega)) rfl ?_
  refine ex_callvI (pc' := 1127) (vs := [.inl (xs (i + 1)), .inl (xs (i + 2))]) (rest := []) (n := 16) dL_law_1124 ml_13_132 ⟨zble rfl, zble rfl⟩ rfl rfl (hi.sh (by decide +kernel)) (by decide) (zble rfl) rfl (zCi.pl (l_cls (k := false) S_178 S_387 (by decide +kernel) (by decide +kernel) rfl rfl ⟨⟨0, List.mem_cons_self, rfl⟩, ⟨_, rfl, aIn_top _⟩, ⟨_, rfl, aIn_top _⟩, trivial⟩ rfl hi) (n_cls S_178 S_387 (by decide +kernel) rfl rfl ⟨⟨0, List.mem_cons_self, rfl⟩, ⟨_, rfl, aIn_top _⟩, ⟨_, rfl, aIn_top _⟩, trivial⟩ rfl hi)) (fun x1 h1 hi1 => ?_)
  obtain ⟨hi1, fz⟩ := hi1
  have z1 := hz.cls hi1 fz
  have no : zsh h1 1000000 = none := hi1.sh (by decide +kernel)
  refine ex_pop (pc' := 1128) dL_law_1127 rfl rfl ?_
  refine ex_aload_n (pc' := 1129) dL_law_1128 hl.2.2.1 rfl ?_
  refine ex_aload_n (pc' := 1130) dL_law_1129 hl.1 rfl ?_
  refine ex_iload (pc' := 1132) dL_law_1130 hl.2.2.2.2 rfl ?_
  refine ex_iconst (v := nI 1) (pc' := 1133) dL_law_1132 (by decide) rfl ?_
  refine ex_iadd (pc' := 1134) (v := nI (i + 1)) dL_law_1133 (nI_add _ _) rfl ?_
  refine ex_sald (pc' := 1135) (n := L) (xs := xs) (v := xs (i + 1)) dL_law_1134 no rfl (sin hL (by omega)) (sxs hL (by omega)) rfl ?_
  refine ex_aload_n (pc' := 1136) dL_law_1135 hl.1 rfl ?_
  refine ex_iload (pc' := 1138) dL_law_1136 hl.2.2.2.2 rfl ?_
  refine ex_iconst (v := nI 2) (pc' := 1139) dL_law_1138 (by decide) rfl ?_
  refine ex_iadd (pc' := 1140) (v := nI (i + 2)) dL_law_1139 (nI_add _ _) rfl ?_
  refine ex_sald (pc' := 1141) (n := L) (xs := xs) (v := xs (i + 2)) dL_law_1140 no rfl (sin hL (by omega)) (sxs hL (by omega)) rfl ?_
  refine ex_callvI (pc' := 1144) (vs := [.inl (xs (i + 1)), .inl (xs (i + 2))]) (rest := []) (n := 39) dL_law_1141 ml_13_135 ⟨zble rfl, zble rfl⟩ rfl rfl (hi1.sh (by decide +kernel)) (by decide) (zble rfl) rfl (zCi.pl (l_modM S_1045 (by decide +kernel) ⟨⟨196, List.mem_cons_self, rfl⟩, ⟨_, rfl, aIn_top _⟩, ⟨_, rfl, aIn_top _⟩, trivial⟩ hi1) (n_mod S_1045 (by decide +kernel) ⟨⟨196, List.mem_cons_self, rfl⟩, ⟨_, rfl, aIn_top _⟩, ⟨_, rfl, aIn_top _⟩, trivial⟩ hi1.2.1)) (fun x2 h2 hi2 => ?_)
  obtain ⟨hi2, gz⟩ := hi2
  have z2 := And.intro (z1.ref hz gz) (hx.na hz hi1 gz)
  have no : zsh h2 1000000 = none := hi2.sh (by decide +kernel)
  refine ex_pop (pc' := 1145) dL_law_1144 rfl rfl ?_
  refine ex_goto (pc' := 1805) dL_law_1145 (by decide) ?_
  exact K _ _ hl (hi2.up) ⟨_, _, _, _, _, z2⟩
theorem lc_28 {t i L : Nat} {h : zH} {xs : Nat → Int32} {ls : zL} {A : pA} {c : Nat} {s : nS} {H J : List nS} (hL : L ≤ 3072) (hiL : i + 6 ≤ L) (hl : lLoc ls i) (hi : lInv t h) (hz : lZ A c s H J h) (hx : lX A c s H J h) (K : ∀ ls' h', lLoc ls' i → lInv (t + 1) h' → lZs h' → zEx (some (L, xs)) 1005 mL_law (1805, ls', [], h') zQL) : zEx (some (L, xs)) 1005 mL_law (1148, ls, [], h) zQL := by
  have no : zsh h 1000000 = none := hi.sh (by decide +kernel)
  refine ex_aload_n (pc' := 1149) dL_law_1148 hl.2.1 rfl ?_
  refine ex_aload_n (pc' := 1150) dL_law_1149 hl.1 rfl ?_
  refine ex_iload (pc' := 1152) dL_law_1150 hl.2.2.2.2 rfl ?_
  refine ex_iconst (v := nI 1) (pc' := 1153) dL_law_1152 (by decide) rfl ?_
  refine ex_iadd (pc' := 1154) (v := nI (i + 1)) dL_law_1153 (nI_add _ _) rfl ?_
  refine ex_sald (pc' := 1155) (n := L) (xs := xs) (v := xs (i + 1)) dL_law_1154 no rfl (sin hL (by omega)) (sxs hL (by omega)) rfl ?_
  refine ex_aload_n (pc' := 1156) dL_law_1155 hl.1 rfl ?_
  refine ex_iload (pc' := 1158) dL_law_1156 hl.2.2.2.2 rfl ?_
  refine ex_iconst (v := nI 2) (pc' := 1159) dL_law_1158 (by decide) rfl ?_
  refine ex_iadd (pc' := 1160) (v := nI (i + 2)) dL_law_1159 (nI_add _ _) rfl ?_
  refine ex_sald (pc' := 1161) (n := L) (xs := xs) (v := xs (i + 2)) dL_law_1160 no rfl (sin hL (by omega)) (sxs hL (by omega)) rfl ?_
  refine ex_if (pc' := 1168) (pc2 := 1164) dL_law_1161 (by decide) rfl (fun qc0 => ?_) (fun qc0 => ?_)
  · refine ex_iconst (v := 0) (pc' := 1169) dL_law_1168 (by decide) rfl ?_
    refine ex_callvL (pc' := 1172) (vs := [.inl (xs (i + 1)), .inl (0)]) (rest := []) (n := 16) dL_law_1169 ml_13_136 ⟨zble rfl, zble rfl⟩ rfl rfl (hi.sh (by decide +kernel)) (by decide) (zble rfl) rfl (zCl.pl (l_clsL (k := false) S_182 S_388 (by decide +kernel) (by decide +kernel) rfl rfl ⟨⟨0, List.mem_cons_self, rfl⟩, ⟨_, rfl, aIn_top _⟩, ⟨0, rfl, aR1_in (lo := 0) (hi := 1) (by decide) (by decide)⟩, trivial⟩ rfl hi) (n_cls S_182 S_388 (by decide +kernel) rfl rfl ⟨⟨0, List.mem_cons_self, rfl⟩, ⟨_, rfl, aIn_top _⟩, ⟨0, rfl, aR1_in (lo := 0) (hi := 1) (by decide) (by decide)⟩, trivial⟩ rfl hi)) (fun x1 h1 hi1 => ?_)
    obtain ⟨hi1, fz⟩ := hi1
    have z1 := hz.cls hi1 fz
    have no : zsh h1 1000000 = none := hi1.sh (by decide +kernel)
    refine ex_pop2 (pc' := 1173) dL_law_1172 rfl rfl ?_
    refine ex_aload_n (pc' := 1174) dL_law_1173 hl.2.2.1 rfl ?_
    refine ex_aload_n (pc' := 1175) dL_law_1174 hl.1 rfl ?_
    refine ex_iload (pc' := 1177) dL_law_1175 hl.2.2.2.2 rfl ?_
    refine ex_iconst (v := nI 1) (pc' := 1178) dL_law_1177 (by decide) rfl ?_
    refine ex_iadd (pc' := 1179) (v := nI (i + 1)) dL_law_1178 (nI_add _ _) rfl ?_
    refine ex_sald (pc' := 1180) (n := L) (xs := xs) (v := xs (i + 1)) dL_law_1179 no rfl (sin hL (by omega)) (sxs hL (by omega)) rfl ?_
    refine ex_aload_n (pc' := 1181) dL_law_1180 hl.1 rfl ?_
    refine ex_iload (pc' := 1183) dL_law_1181 hl.2.2.2.2 rfl ?_
    refine ex_iconst (v := nI 2) (pc' := 1184) dL_law_1183 (by decide) rfl ?_
    refine ex_iadd (pc' := 1185) (v := nI (i + 2)) dL_law_1184 (nI_add _ _) rfl ?_
    refine ex_sald (pc' := 1186) (n := L) (xs := xs) (v := xs (i + 2)) dL_law_1185 no rfl (sin hL (by omega)) (sxs hL (by omega)) rfl ?_
    refine ex_if (pc' := 1193) (pc2 := 1189) dL_law_1186 (by decide) rfl (fun _ => ?_) (fun q => nomatch (qc0.symm.trans q))
    refine ex_iconst (v := 0) (pc' := 1194) dL_law_1193 (by decide) rfl ?_
    refine ex_callvL (pc' := 1197) (vs := [.inl (xs (i + 1)), .inl (0)]) (rest := []) (n := 39) dL_law_1194 ml_13_140 ⟨zble rfl, zble rfl⟩ rfl rfl (hi1.sh (by decide +kernel)) (by decide) (zble rfl) rfl (zCl.pl (l_modML S_1049 (by decide +kernel) ⟨⟨196, List.mem_cons_self, rfl⟩, ⟨_, rfl, aIn_top _⟩, ⟨0, rfl, aR1_in (lo := 0) (hi := 1) (by decide) (by decide)⟩, trivial⟩ hi1) (n_mod S_1049 (by decide +kernel) ⟨⟨196, List.mem_cons_self, rfl⟩, ⟨_, rfl, aIn_top _⟩, ⟨0, rfl, aR1_in (lo := 0) (hi := 1) (by decide) (by decide)⟩, trivial⟩ hi1.2.1)) (fun x2 h2 hi2 => ?_)
    obtain ⟨hi2, gz⟩ := hi2
    have z2 := And.intro (z1.ref hz gz) (hx.na hz hi1 gz)
    have no : zsh h2 1000000 = none := hi2.sh (by decide +kernel)
    refine ex_pop2 (pc' := 1198) dL_law_1197 rfl rfl ?_
    refine ex_goto (pc' := 1805) dL_law_1198 (by decide) ?_
    exact K _ _ hl (hi2.up) ⟨_, _, _, _, _, z2⟩
  · refine ex_iconst (v := 1) (pc' := 1165) dL_law_1164 (by decide) rfl ?_
    refine ex_goto (pc' := 1169) dL_law_1165 (by decide) ?_
    refine ex_callvL (pc' := 1172) (vs := [.inl (xs (i + 1)), .inl (1)]) (rest := []) (n := 16) dL_law_1169 ml_13_136 ⟨zble rfl, zble rfl⟩ rfl rfl (hi.sh (by decide +kernel)) (by decide) (zble rfl) rfl (zCl.pl (l_clsL (k := false) S_182 S_388 (by decide +kernel) (by decide +kernel) rfl rfl ⟨⟨0, List.mem_cons_self, rfl⟩, ⟨_, rfl, aIn_top _⟩, ⟨1, rfl, aR1_in (lo := 0) (hi := 1) (by decide) (by decide)⟩, trivial⟩ rfl hi) (n_cls S_182 S_388 (by decide +kernel) rfl rfl ⟨⟨0, List.mem_cons_self, rfl⟩, ⟨_, rfl, aIn_top _⟩, ⟨1, rfl, aR1_in (lo := 0) (hi := 1) (by decide) (by decide)⟩, trivial⟩ rfl hi)) (fun x1 h1 hi1 => ?_)
    obtain ⟨hi1, fz⟩ := hi1
    have z1 := hz.cls hi1 fz
    have no : zsh h1 1000000 = none := hi1.sh (by decide +kernel)
    refine ex_pop2 (pc' := 1173) dL_law_1172 rfl rfl ?_
    refine ex_aload_n (pc' := 1174) dL_law_1173 hl.2.2.1 rfl ?_
    refine ex_aload_n (pc' := 1175) dL_law_1174 hl.1 rfl ?_
    refine ex_iload (pc' := 1177) dL_law_1175 hl.2.2.2.2 rfl ?_
    refine ex_iconst (v := nI 1) (pc' := 1178) dL_law_1177 (by decide) rfl ?_
    refine ex_iadd (pc' := 1179) (v := nI (i + 1)) dL_law_1178 (nI_add _ _) rfl ?_
    refine ex_sald (pc' := 1180) (n := L) (xs := xs) (v := xs (i + 1)) dL_law_1179 no rfl (sin hL (by omega)) (sxs hL (by omega)) rfl ?_
    refine ex_aload_n (pc' := 1181) dL_law_1180 hl.1 rfl ?_
    refine ex_iload (pc' := 1183) dL_law_1181 hl.2.2.2.2 rfl ?_
    refine ex_iconst (v := nI 2) (pc' := 1184) dL_law_1183 (by decide) rfl ?_
    refine ex_iadd (pc' := 1185) (v := nI (i + 2)) dL_law_1184 (nI_add _ _) rfl ?_
    refine ex_sald (pc' := 1186) (n := L) (xs := xs) (v := xs (i + 2)) dL_law_1185 no rfl (sin hL (by omega)) (sxs hL (by omega)) rfl ?_
    refine ex_if (pc' := 1193) (pc2 := 1189) dL_law_1186 (by decide) rfl (fun q => nomatch (q.symm.trans qc0)) (fun _ => ?_)
    refine ex_iconst (v := 1) (pc' := 1190) dL_law_1189 (by decide) rfl ?_
    refine ex_goto (pc' := 1194) dL_law_1190 (by decide) ?_
    refine ex_callvL (pc' := 1197) (vs := [.inl (xs (i + 1)), .inl (1)]) (rest := []) (n := 39) dL_law_1194 ml_13_140 ⟨zble rfl, zble rfl⟩ rfl rfl (hi1.sh (by decide +kernel)) (by decide) (zble rfl) rfl (zCl.pl (l_modML S_1049 (by decide +kernel) ⟨⟨196, List.mem_cons_self, rfl⟩, ⟨_, rfl, aIn_top _⟩, ⟨1, rfl, aR1_in (lo := 0) (hi := 1) (by decide) (by decide)⟩, trivial⟩ hi1) (n_mod S_1049 (by decide +kernel) ⟨⟨196, List.mem_cons_self, rfl⟩, ⟨_, rfl, aIn_top _⟩, ⟨1, rfl, aR1_in (lo := 0) (hi := 1) (by decide) (by decide)⟩, trivial⟩ hi1.2.1)) (fun x2 h2 hi2 => ?_)
    obtain ⟨hi2, gz⟩ := hi2
    have z2 := And.intro (z1.ref hz gz) (hx.na hz hi1 gz)
    have no : zsh h2 1000000 = none := hi2.sh (by decide +kernel)
    refine ex_pop2 (pc' := 1198) dL_law_1197 rfl rfl ?_
    refine ex_goto (pc' := 1805) dL_law_1198 (by decide) ?_
    exact K _ _ hl (hi2.up) ⟨_, _, _, _, _, z2⟩
theorem lc_29 {t i L : Nat} {h : zH} {xs : Nat → Int32} {ls : zL} {A : pA} {c : Nat} {s : nS} {H J : List nS} (hL : L ≤ 3072) (hiL : i + 6 ≤ L) (hl : lLoc ls i) (hi : lInv t h) (hz : lZ A c s H J h) (hx : lX A c s H J h) (K : ∀ ls' h', lLoc ls' i → lInv (t + 1) h' → lZs h' → zEx (some (L, xs)) 1005 mL_law (1805, ls', [], h') zQL) : zEx (some (L, xs)) 1005 mL_law (1201, ls, [], h) zQL := by
  have no : zsh h 1000000 = none := hi.sh (by decide +kernel)
  refine ex_aload_n (pc' := 1202) dL_law_1201 hl.2.1 rfl ?_
  refine ex_callvI (pc' := 1205) (vs := []) (rest := []) (n := 16) dL_law_1202 ml_13_141 ⟨zble rfl, zble rfl⟩ rfl rfl (hi.sh (by decide +kernel)) (by decide) (zble rfl) rfl (zCi.pl (l_cls (k := false) S_210 S_390 (by decide +kernel) (by decide +kernel) rfl rfl ⟨⟨0, List.mem_cons_self, rfl⟩, trivial⟩ rfl hi) (n_cls S_210 S_390 (by decide +kernel) rfl rfl ⟨⟨0, List.mem_cons_self, rfl⟩, trivial⟩ rfl hi)) (fun x1 h1 hi1 => ?_)
  obtain ⟨hi1, fz⟩ := hi1
  have z1 := hz.cls hi1 fz
  have no : zsh h1 1000000 = none := hi1.sh (by decide +kernel)
  refine ex_pop (pc' := 1206) dL_law_1205 rfl rfl ?_
  refine ex_aload_n (pc' := 1207) dL_law_1206 hl.2.2.1 rfl ?_
  refine ex_callvI (pc' := 1210) (vs := []) (rest := []) (n := 39) dL_law_1207 ml_13_144 ⟨zble rfl, zble rfl⟩ rfl rfl (hi1.sh (by decide +kernel)) (by decide) (zble rfl) rfl (zCi.pl (l_modM S_1060 (by decide +kernel) ⟨⟨196, List.mem_cons_self, rfl⟩, trivial⟩ hi1) (n_mod S_1060 (by decide +kernel) ⟨⟨196, List.mem_cons_self, rfl⟩, trivial⟩ hi1.2.1)) (fun x2 h2 hi2 => ?_)
  obtain ⟨hi2, gz⟩ := hi2
  have z2 := And.intro (z1.ref hz gz) (hx.na hz hi1 gz)
  have no : zsh h2 1000000 = none := hi2.sh (by decide +kernel)
  refine ex_pop (pc' := 1211) dL_law_1210 rfl rfl ?_
  refine ex_goto (pc' := 1805) dL_law_1211 (by decide) ?_
  exact K _ _ hl (hi2.up) ⟨_, _, _, _, _, z2⟩
theorem lc_30 {t i L : Nat} {h : zH} {xs : Nat → Int32} {ls : zL} {A : pA} {c : Nat} {s : nS} {H J : List nS} (hL : L ≤ 3072) (hiL : i + 6 ≤ L) (hl : lLoc ls i) (hi : lInv t h) (hz : lZ A c s H J h) (hx : lX A c s H J h) (K : ∀ ls' h', lLoc ls' i → lInv (t + 1) h' → lZs h' → zEx (some (L, xs)) 1005 mL_law (1805, ls', [], h') zQL) : zEx (some (L, xs)) 1005 mL_law (1214, ls, [], h) zQL := by
  have no : zsh h 1000000 = none := hi.sh (by decide +kernel)
  refine ex_aload_n (pc' := 1215) dL_law_1214 hl.2.1 rfl ?_
  refine ex_callvI (pc' := 1218) (vs := []) (rest := []) (n := 16) dL_law_1215 ml_13_145 ⟨zble rfl, zble rfl⟩ rfl rfl (hi.sh (by decide +kernel)) (by decide) (zble rfl) rfl (zCi.pl (l_cls (k := false) S_211 S_391 (by decide +kernel) (by decide +kernel) rfl rfl ⟨⟨0, List.mem_cons_self, rfl⟩, trivial⟩ rfl hi) (n_cls S_211 S_391 (by decide +kernel) rfl rfl ⟨⟨0, List.mem_cons_self, rfl⟩, trivial⟩ rfl hi)) (fun x1 h1 hi1 => ?_)
  obtain ⟨hi1, fz⟩ := hi1
  have z1 := hz.cls hi1 fz
  have no : zsh h1 1000000 = none := hi1.sh (by decide +kernel)
  refine ex_pop (pc' := 1219) dL_law_1218 rfl rfl ?_
  refine ex_aload_n (pc' := 1220) dL_law_1219 hl.2.2.1 rfl ?_
  refine ex_callvI (pc' := 1223) (vs := []) (rest := []) (n := 39) dL_law_1220 ml_13_148 ⟨zble rfl, zble rfl⟩ rfl rfl (hi1.sh (by decide +kernel)) (by decide) (zble rfl) rfl (zCi.pl (l_modM S_1061 (by decide +kernel) ⟨⟨196, List.mem_cons_self, rfl⟩, trivial⟩ hi1) (n_mod S_1061 (by decide +kernel) ⟨⟨196, List.mem_cons_self, rfl⟩, trivial⟩ hi1.2.1)) (fun x2 h2 hi2 => ?_)
  obtain ⟨hi2, gz⟩ := hi2
  have z2 := And.intro (z1.ref hz gz) (hx.na hz hi1 gz)
  have no : zsh h2 1000000 = none := hi2.sh (by decide +kernel)
  refine ex_pop (pc' := 1224) dL_law_1223 rfl rfl ?_
  refine ex_goto (pc' := 1805) dL_law_1224 (by decide) ?_
  exact K _ _ hl (hi2.up) ⟨_, _, _, _, _, z2⟩
theorem lc_31 {t i L : Nat} {h : zH} {xs : Nat → Int32} {ls : zL} {A : pA} {c : Nat} {s : nS} {H J : List nS} (hL : L ≤ 3072) (hiL : i + 6 ≤ L) (hl : lLoc ls i) (hi : lInv t h) (hz : lZ A c s H J h) (hx : lX A c s H J h) (K : ∀ ls' h', lLoc ls' i → lInv (t + 1) h' → lZs h' → zEx (some (L, xs)) 1005 mL_law (1805, ls', [], h') zQL) : zEx (some (L, xs)) 1005 mL_law (1227, ls, [], h) zQL := by
  have no : zsh h 1000000 = none := hi.sh (by decide +kernel)
  refine ex_aload_n (pc' := 1228) dL_law_1227 hl.2.1 rfl ?_
  refine ex_aload_n (pc' := 1229) dL_law_1228 hl.1 rfl ?_
  refine ex_iload (pc' := 1231) dL_law_1229 hl.2.2.2.2 rfl ?_
  refine ex_iconst (v := nI 1) (pc' := 1232) dL_law_1231 (by decide) rfl ?_
  refine ex_iadd (pc' := 1233) (v := nI (i + 1)) dL_law_1232 (nI_add _ _) rfl ?_
  refine ex_sald (pc' := 1234) (n := L) (xs := xs) (v := xs (i + 1)) dL_law_1233 no rfl (sin hL (by omega)) (sxs hL (by omega)) rfl ?_
  refine ex_callvI (pc' := 1237) (vs := [.inl (xs (i + 1))]) (rest := []) (n := 16) dL_law_1234 ml_13_149 ⟨zble rfl, zble rfl⟩ rfl rfl (hi.sh (by decide +kernel)) (by decide) (zble rfl) rfl (zCi.pl (l_cls (k := false) S_213 S_393 (by decide +kernel) (by decide +kernel) rfl rfl ⟨⟨0, List.mem_cons_self, rfl⟩, ⟨_, rfl, aIn_top _⟩, trivial⟩ rfl hi) (n_cls S_213 S_393 (by decide +kernel) rfl rfl ⟨⟨0, List.mem_cons_self, rfl⟩, ⟨_, rfl, aIn_top _⟩, trivial⟩ rfl hi)) (fun x1 h1 hi1 => ?_)
  obtain ⟨hi1, fz⟩ := hi1
  have z1 := hz.cls hi1 fz
  have no : zsh h1 1000000 = none := hi1.sh (by decide +kernel)
  refine ex_pop (pc' := 1238) dL_law_1237 rfl rfl ?_
  refine ex_aload_n (pc' := 1239) dL_law_1238 hl.2.2.1 rfl ?_
  refine ex_aload_n (pc' := 1240) dL_law_1239 hl.1 rfl ?_
  refine ex_iload (pc' := 1242) dL_law_1240 hl.2.2.2.2 rfl ?_
  refine ex_iconst (v := nI 1) (pc' := 1243) dL_law_1242 (by decide) rfl ?_
  refine ex_iadd (pc' := 1244) (v := nI (i + 1)) dL_law_1243 (nI_add _ _) rfl ?_
  refine ex_sald (pc' := 1245) (n := L) (xs := xs) (v := xs (i + 1)) dL_law_1244 no rfl (sin hL (by omega)) (sxs hL (by omega)) rfl ?_
  refine ex_callvI (pc' := 1248) (vs := [.inl (xs (i + 1))]) (rest := []) (n := 39) dL_law_1245 ml_13_152 ⟨zble rfl, zble rfl⟩ rfl rfl (hi1.sh (by decide +kernel)) (by decide) (zble rfl) rfl (zCi.pl (l_modM S_1064 (by decide +kernel) ⟨⟨196, List.mem_cons_self, rfl⟩, ⟨_, rfl, aIn_top _⟩, trivial⟩ hi1) (n_mod S_1064 (by decide +kernel) ⟨⟨196, List.mem_cons_self, rfl⟩, ⟨_, rfl, aIn_top _⟩, trivial⟩ hi1.2.1)) (fun x2 h2 hi2 => ?_)
  obtain ⟨hi2, gz⟩ := hi2
  have z2 := And.intro (z1.ref hz gz) (hx.na hz hi1 gz)
  have no : zsh h2 1000000 = none := hi2.sh (by decide +kernel)
  refine ex_pop (pc' := 1249) dL_law_1248 rfl rfl ?_
  refine ex_goto (pc' := 1805) dL_law_1249 (by decide) ?_
  exact K _ _ hl (hi2.up) ⟨_, _, _, _, _, z2⟩
theorem lc_32 {t i L : Nat} {h : zH} {xs : Nat → Int32} {ls : zL} {A : pA} {c : Nat} {s : nS} {H J : List nS} (hL : L ≤ 3072) (hiL : i + 6 ≤ L) (hl : lLoc ls i) (hi : lInv t h) (hz : lZ A c s H J h) (hx : lX A c s H J h) (K : ∀ ls' h', lLoc ls' i → lInv (t + 1) h' → lZs h' → zEx (some (L, xs)) 1005 mL_law (1805, ls', [], h') zQL) : zEx (some (L, xs)) 1005 mL_law (1252, ls, [], h) zQL := by
  have no : zsh h 1000000 = none := hi.sh (by decide +kernel)
  refine ex_aload_n (pc' := 1253) dL_law_1252 hl.2.1 rfl ?_
  refine ex_aload_n (pc' := 1254) dL_law_1253 hl.1 rfl ?_
  refine ex_iload (pc' := 1256) dL_law_1254 hl.2.2.2.2 rfl ?_
  refine ex_iconst (v := nI 1) (pc' := 1257) dL_law_1256 (by decide) rfl ?_
  refine ex_iadd (pc' := 1258) (v := nI (i + 1)) dL_law_1257 (nI_add _ _) rfl ?_
  refine ex_sald (pc' := 1259) (n := L) (xs := xs) (v := xs (i + 1)) dL_law_1258 no rfl (sin hL (by omega)) (sxs hL (by omega)) rfl ?_
  refine ex_aload_n (pc' := 1260) dL_law_1259 hl.1 rfl ?_
  refine ex_iload (pc' := 1262) dL_law_1260 hl.2.2.2.2 rfl ?_
  refine ex_iconst (v := nI 2) (pc' := 1263) dL_law_1262 (by decide) rfl ?_
  refine ex_iadd (pc' := 1264) (v := nI (i + 2)) dL_law_1263 (nI_add _ _) rfl ?_
  refine ex_sald (pc' := 1265) (n := L) (xs := xs) (v := xs (i + 2)) dL_law_1264 no rfl (sin hL (by omega)) (sxs hL (by omega)) rfl ?_
  refine ex_aload_n (pc' := 1266) dL_law_1265 hl.1 rfl ?_
  refine ex_iload (pc' := 1268) dL_law_1266 hl.2.2.2.2 rfl ?_
  refine ex_iconst (v := nI 3) (pc' := 1269) dL_law_1268 (by decide) rfl ?_
  refine ex_iadd (pc' := 1270) (v := nI (i + 3)) dL_law_1269 (nI_add _ _) rfl ?_
  refine ex_sald (pc' := 1271) (n := L) (xs := xs) (v := xs (i + 3)) dL_law_1270 no rfl (sin hL (by omega)) (sxs hL (by omega)) rfl ?_
  refine ex_aload_n (pc' := 1272) dL_law_1271 hl.1 rfl ?_
  refine ex_iload (pc' := 1274) dL_law_1272 hl.2.2.2.2 rfl ?_
  refine ex_iconst (v := nI 4) (pc' := 1275) dL_law_1274 (by decide) rfl ?_
  refine ex_iadd (pc' := 1276) (v := nI (i + 4)) dL_law_1275 (nI_add _ _) rfl ?_
  refine ex_sald (pc' := 1277) (n := L) (xs := xs) (v := xs (i + 4)) dL_law_1276 no rfl (sin hL (by omega)) (sxs hL (by omega)) rfl ?_
  refine ex_callvI (pc' := 1280) (vs := [.inl (xs (i + 1)), .inl (xs (i + 2)), .inl (xs (i + 3)), .inl (xs (i + 4))]) (rest := []) (n := 16) dL_law_1277 ml_13_153 ⟨zble rfl, zble rfl⟩ rfl rfl (hi.sh (by decide +kernel)) (by decide) (zble rfl) rfl (zCi.pl (l_cls (k := false) S_224 S_404 (by decide +kernel) (by decide +kernel) rfl rfl ⟨⟨0, List.mem_cons_self, rfl⟩, ⟨_, rfl, aIn_top _⟩, ⟨_, rfl, aIn_top _⟩, ⟨_, rfl, aIn_top _⟩, ⟨_, rfl, aIn_top _⟩, trivial⟩ rfl hi) (n_cls S_224 S_404 (by decide +kernel) rfl rfl ⟨⟨0, List.mem_cons_self, rfl⟩, ⟨_, rfl, aIn_top _⟩, ⟨_, rfl, aIn_top _⟩, ⟨_, rfl, aIn_top _⟩, ⟨_, rfl, aIn_top _⟩, trivial⟩ rfl hi)) (fun x1 h1 hi1 => ?_)
  obtain ⟨hi1, fz⟩ := hi1
  have z1 := hz.cls hi1 fz
  have no : zsh h1 1000000 = none := hi1.sh (by decide +kernel)
  refine ex_pop (pc' := 1281) dL_law_1280 rfl rfl ?_
  refine ex_aload_n (pc' := 1282) dL_law_1281 hl.2.2.1 rfl ?_
  refine ex_aload_n (pc' := 1283) dL_law_1282 hl.1 rfl ?_
  refine ex_iload (pc' := 1285) dL_law_1283 hl.2.2.2.2 rfl ?_
  refine ex_iconst (v := nI 1) (pc' := 1286) dL_law_1285 (by decide) rfl ?_
  refine ex_iadd (pc' := 1287) (v := nI (i + 1)) dL_law_1286 (nI_add _ _) rfl ?_
  refine ex_sald (pc' := 1288) (n := L) (xs := xs) (v := xs (i + 1)) dL_law_1287 no rfl (sin hL (by omega)) (sxs hL (by omega)) rfl ?_
  refine ex_aload_n (pc' := 1289) dL_law_1288 hl.1 rfl ?_
  refine ex_iload (pc' := 1291) dL_law_1289 hl.2.2.2.2 rfl ?_
  refine ex_iconst (v := nI 2) (pc' := 1292) dL_law_1291 (by decide) rfl ?_
  refine ex_iadd (pc' := 1293) (v := nI (i + 2)) dL_law_1292 (nI_add _ _) rfl ?_
  refine ex_sald (pc' := 1294) (n := L) (xs := xs) (v := xs (i + 2)) dL_law_1293 no rfl (sin hL (by omega)) (sxs hL (by omega)) rfl ?_
  refine ex_aload_n (pc' := 1295) dL_law_1294 hl.1 rfl ?_
  refine ex_iload (pc' := 1297) dL_law_1295 hl.2.2.2.2 rfl ?_
  refine ex_iconst (v := nI 3) (pc' := 1298) dL_law_1297 (by decide) rfl ?_
  refine ex_iadd (pc' := 1299) (v := nI (i + 3)) dL_law_1298 (nI_add _ _) rfl ?_
  refine ex_sald (pc' := 1300) (n := L) (xs := xs) (v := xs (i + 3)) dL_law_1299 no rfl (sin hL (by omega)) (sxs hL (by omega)) rfl ?_
  refine ex_aload_n (pc' := 1301) dL_law_1300 hl.1 rfl ?_
  refine ex_iload (pc' := 1303) dL_law_1301 hl.2.2.2.2 rfl ?_
  refine ex_iconst (v := nI 4) (pc' := 1304) dL_law_1303 (by decide) rfl ?_
  refine ex_iadd (pc' := 1305) (v := nI (i + 4)) dL_law_1304 (nI_add _ _) rfl ?_
  refine ex_sald (pc' := 1306) (n := L) (xs := xs) (v := xs (i + 4)) dL_law_1305 no rfl (sin hL (by omega)) (sxs hL (by omega)) rfl ?_
  refine ex_callvI (pc' := 1309) (vs := [.inl (xs (i + 1)), .inl (xs (i + 2)), .inl (xs (i + 3)), .inl (xs (i + 4))]) (rest := []) (n := 39) dL_law_1306 ml_13_156 ⟨zble rfl, zble rfl⟩ rfl rfl (hi1.sh (by decide +kernel)) (by decide) (zble rfl) rfl (zCi.pl (l_modM S_1071 (by decide +kernel) ⟨⟨196, List.mem_cons_self, rfl⟩, ⟨_, rfl, aIn_top _⟩, ⟨_, rfl, aIn_top _⟩, ⟨_, rfl, aIn_top _⟩, ⟨_, rfl, aIn_top _⟩, trivial⟩ hi1) (n_mod S_1071 (by decide +kernel) ⟨⟨196, List.mem_cons_self, rfl⟩, ⟨_, rfl, aIn_top _⟩, ⟨_, rfl, aIn_top _⟩, ⟨_, rfl, aIn_top _⟩, ⟨_, rfl, aIn_top _⟩, trivial⟩ hi1.2.1)) (fun x2 h2 hi2 => ?_)
  obtain ⟨hi2, gz⟩ := hi2
  have z2 := And.intro (z1.ref hz gz) (hx.na hz hi1 gz)
  have no : zsh h2 1000000 = none := hi2.sh (by decide +kernel)
  refine ex_pop (pc' := 1310) dL_law_1309 rfl rfl ?_
  refine ex_goto (pc' := 1805) dL_law_1310 (by decide) ?_
  exact K _ _ hl (hi2.up) ⟨_, _, _, _, _, z2⟩
theorem lc_33 {t i L : Nat} {h : zH} {xs : Nat → Int32} {ls : zL} {A : pA} {c : Nat} {s : nS} {H J : List nS} (hL : L ≤ 3072) (hiL : i + 6 ≤ L) (hl : lLoc ls i) (hi : lInv t h) (hz : lZ A c s H J h) (hx : lX A c s H J h) (K : ∀ ls' h', lLoc ls' i → lInv (t + 1) h' → lZs h' → zEx (some (L, xs)) 1005 mL_law (1805, ls', [], h') zQL) : zEx (some (L, xs)) 1005 mL_law (1313, ls, [], h) zQL := by
  have no : zsh h 1000000 = none := hi.sh (by decide +kernel)
  refine ex_aload_n (pc' := 1314) dL_law_1313 hl.2.1 rfl ?_
  refine ex_callvI (pc' := 1317) (vs := []) (rest := []) (n := 16) dL_law_1314 ml_13_157 ⟨zble rfl, zble rfl⟩ rfl rfl (hi.sh (by decide +kernel)) (by decide) (zble rfl) rfl (zCi.pl (l_cls (k := false) S_227 S_407 (by decide +kernel) (by decide +kernel) rfl rfl ⟨⟨0, List.mem_cons_self, rfl⟩, trivial⟩ rfl hi) (n_cls S_227 S_407 (by decide +kernel) rfl rfl ⟨⟨0, List.mem_cons_self, rfl⟩, trivial⟩ rfl hi)) (fun x1 h1 hi1 => ?_)
  obtain ⟨hi1, fz⟩ := hi1
  have z1 := hz.cls hi1 fz
  have no : zsh h1 1000000 = none := hi1.sh (by decide +kernel)
  refine ex_pop (pc' := 1318) dL_law_1317 rfl rfl ?_
  refine ex_aload_n (pc' := 1319) dL_law_1318 hl.2.2.1 rfl ?_
  refine ex_callvI (pc' := 1322) (vs := []) (rest := []) (n := 39) dL_law_1319 ml_13_160 ⟨zble rfl, zble rfl⟩ rfl rfl (hi1.sh (by decide +kernel)) (by decide) (zble rfl) rfl (zCi.pl (l_modM S_1077 (by decide +kernel) ⟨⟨196, List.mem_cons_self, rfl⟩, trivial⟩ hi1) (n_mod S_1077 (by decide +kernel) ⟨⟨196, List.mem_cons_self, rfl⟩, trivial⟩ hi1.2.1)) (fun x2 h2 hi2 => ?_)
  obtain ⟨hi2, gz⟩ := hi2
  have z2 := And.intro (z1.ref hz gz) (hx.na hz hi1 gz)
  have no : zsh h2 1000000 = none := hi2.sh (by decide +kernel)
  refine ex_pop (pc' := 1323) dL_law_1322 rfl rfl ?_
  refine ex_goto (pc' := 1805) dL_law_1323 (by decide) ?_
  exact K _ _ hl (hi2.up) ⟨_, _, _, _, _, z2⟩
theorem lc_34 {t i L : Nat} {h : zH} {xs : Nat → Int32} {ls : zL} {A : pA} {c : Nat} {s : nS} {H J : List nS} (hL : L ≤ 3072) (hiL : i + 6 ≤ L) (hl : lLoc ls i) (hi : lInv t h) (hz : lZ A c s H J h) (hx : lX A c s H J h) (K : ∀ ls' h', lLoc ls' i → lInv (t + 1) h' → lZs h' → zEx (some (L, xs)) 1005 mL_law (1805, ls', [], h') zQL) : zEx (some (L, xs)) 1005 mL_law (1326, ls, [], h) zQL := by
  have no : zsh h 1000000 = none := hi.sh (by decide +kernel)
  refine ex_aload_n (pc' := 1327) dL_law_1326 hl.2.1 rfl ?_
  refine ex_aload_n (pc' := 1328) dL_law_1327 hl.1 rfl ?_
  refine ex_iload (pc' := 1330) dL_law_1328 hl.2.2.2.2 rfl ?_
  refine ex_iconst (v := nI 1) (pc' := 1331) dL_law_1330 (by decide) rfl ?_
  refine ex_iadd (pc' := 1332) (v := nI (i + 1)) dL_law_1331 (nI_add _ _) rfl ?_
  refine ex_sald (pc' := 1333) (n := L) (xs := xs) (v := xs (i + 1)) dL_law_1332 no rfl (sin hL (by omega)) (sxs hL (by omega)) rfl ?_
  refine ex_aload_n (pc' := 1334) dL_law_1333 hl.1 rfl ?_
  refine ex_iload (pc' := 1336) dL_law_1334 hl.2.2.2.2 rfl ?_
  refine ex_iconst (v := nI 2) (pc' := 1337) dL_law_1336 (by decide) rfl ?_
  refine ex_iadd (pc' := 1338) (v := nI (i + 2)) dL_law_1337 (nI_add _ _) rfl ?_
  refine ex_sald (pc' := 1339) (n := L) (xs := xs) (v := xs (i + 2)) dL_law_1338 no rfl (sin hL (by omega)) (sxs hL (by omega)) rfl ?_
  refine ex_callvI (pc' := 1342) (vs := [.inl (xs (i + 1)), .inl (xs (i + 2))]) (rest := []) (n := 16) dL_law_1339 ml_13_161 ⟨zble rfl, zble rfl⟩ rfl rfl (hi.sh (by decide +kernel)) (by decide) (zble rfl) rfl (zCi.pl (l_cls (k := false) S_238 S_418 (by decide +kernel) (by decide +kernel) rfl rfl ⟨⟨0, List.mem_cons_self, rfl⟩, ⟨_, rfl, aIn_top _⟩, ⟨_, rfl, aIn_top _⟩, trivial⟩ rfl hi) (n_cls S_238 S_418 (by decide +kernel) rfl rfl ⟨⟨0, List.mem_cons_self, rfl⟩, ⟨_, rfl, aIn_top _⟩, ⟨_, rfl, aIn_top _⟩, trivial⟩ rfl hi)) (fun x1 h1 hi1 => ?_)
  obtain ⟨hi1, fz⟩ := hi1
  have z1 := hz.cls hi1 fz
  have no : zsh h1 1000000 = none := hi1.sh (by decide +kernel)
  refine ex_pop (pc' := 1343) dL_law_1342 rfl rfl ?_
  refine ex_aload_n (pc' := 1344) dL_law_1343 hl.2.2.1 rfl ?_
  refine ex_aload_n (pc' := 1345) dL_law_1344 hl.1 rfl ?_
  refine ex_iload (pc' := 1347) dL_law_1345 hl.2.2.2.2 rfl ?_
  refine ex_iconst (v := nI 1) (pc' := 1348) dL_law_1347 (by decide) rfl ?_
  refine ex_iadd (pc' := 1349) (v := nI (i + 1)) dL_law_1348 (nI_add _ _) rfl ?_
  refine ex_sald (pc' := 1350) (n := L) (xs := xs) (v := xs (i + 1)) dL_law_1349 no rfl (sin hL (by omega)) (sxs hL (by omega)) rfl ?_
  refine ex_aload_n (pc' := 1351) dL_law_1350 hl.1 rfl ?_
  refine ex_iload (pc' := 1353) dL_law_1351 hl.2.2.2.2 rfl ?_
  refine ex_iconst (v := nI 2) (pc' := 1354) dL_law_1353 (by decide) rfl ?_
  refine ex_iadd (pc' := 1355) (v := nI (i + 2)) dL_law_1354 (nI_add _ _) rfl ?_
  refine ex_sald (pc' := 1356) (n := L) (xs := xs) (v := xs (i + 2)) dL_law_1355 no rfl (sin hL (by omega)) (sxs hL (by omega)) rfl ?_
  refine ex_callvI (pc' := 1359) (vs := [.inl (xs (i + 1)), .inl (xs (i + 2))]) (rest := []) (n := 39) dL_law_1356 ml_13_164 ⟨zble rfl, zble rfl⟩ rfl rfl (hi1.sh (by decide +kernel)) (by decide) (zble rfl) rfl (zCi.pl (l_modM S_1079 (by decide +kernel) ⟨⟨196, List.mem_cons_self, rfl⟩, ⟨_, rfl, aIn_top _⟩, ⟨_, rfl, aIn_top _⟩, trivial⟩ hi1) (n_mod S_1079 (by decide +kernel) ⟨⟨196, List.mem_cons_self, rfl⟩, ⟨_, rfl, aIn_top _⟩, ⟨_, rfl, aIn_top _⟩, trivial⟩ hi1.2.1)) (fun x2 h2 hi2 => ?_)
  obtain ⟨hi2, gz⟩ := hi2
  have z2 := And.intro (z1.ref hz gz) (hx.na hz hi1 gz)
  have no : zsh h2 1000000 = none := hi2.sh (by decide +kernel)
  refine ex_pop (pc' := 1360) dL_law_1359 rfl rfl ?_
  refine ex_goto (pc' := 1805) dL_law_1360 (by decide) ?_
  exact K _ _ hl (hi2.up) ⟨_, _, _, _, _, z2⟩
theorem lc_35 {t i L : Nat} {h : zH} {xs : Nat → Int32} {ls : zL} {A : pA} {c : Nat} {s : nS} {H J : List nS} (hL : L ≤ 3072) (hiL : i + 6 ≤ L) (hl : lLoc ls i) (hi : lInv t h) (hz : lZ A c s H J h) (hx : lX A c s H J h) (K : ∀ ls' h', lLoc ls' i → lInv (t + 1) h' → lZs h' → zEx (some (L, xs)) 1005 mL_law (1805, ls', [], h') zQL) : zEx (some (L, xs)) 1005 mL_law (1363, ls, [], h) zQL := by
  have no : zsh h 1000000 = none := hi.sh (by decide +kernel)
  refine ex_aload_n (pc' := 1364) dL_law_1363 hl.2.1 rfl ?_
  refine ex_aload_n (pc' := 1365) dL_law_1364 hl.1 rfl ?_
  refine ex_iload (pc' := 1367) dL_law_1365 hl.2.2.2.2 rfl ?_
  refine ex_iconst (v := nI 1) (pc' := 1368) dL_law_1367 (by decide) rfl ?_
  refine ex_iadd (pc' := 1369) (v := nI (i + 1)) dL_law_1368 (nI_add _ _) rfl ?_
  refine ex_sald (pc' := 1370) (n := L) (xs := xs) (v := xs (i + 1)) dL_law_1369 no rfl (sin hL (by omega)) (sxs hL (by omega)) rfl ?_
  refine ex_callvI (pc' := 1373) (vs := [.inl (xs (i + 1))]) (rest := []) (n := 16) dL_law_1370 ml_13_165 ⟨zble rfl, zble rfl⟩ rfl rfl (hi.sh (by decide +kernel)) (by decide) (zble rfl) rfl (zCi.pl (l_cls (k := false) S_243 S_422 (by decide +kernel) (by decide +kernel) rfl rfl ⟨⟨0, List.mem_cons_self, rfl⟩, ⟨_, rfl, aIn_top _⟩, trivial⟩ rfl hi) (n_cls S_243 S_422 (by decide +kernel) rfl rfl ⟨⟨0, List.mem_cons_self, rfl⟩, ⟨_, rfl, aIn_top _⟩, trivial⟩ rfl hi)) (fun x1 h1 hi1 => ?_)
  obtain ⟨hi1, fz⟩ := hi1
  have z1 := hz.cls hi1 fz
  have no : zsh h1 1000000 = none := hi1.sh (by decide +kernel)
  refine ex_pop (pc' := 1374) dL_law_1373 rfl rfl ?_
  refine ex_aload_n (pc' := 1375) dL_law_1374 hl.2.2.1 rfl ?_
  refine ex_aload_n (pc' := 1376) dL_law_1375 hl.1 rfl ?_
  refine ex_iload (pc' := 1378) dL_law_1376 hl.2.2.2.2 rfl ?_
  refine ex_iconst (v := nI 1) (pc' := 1379) dL_law_1378 (by decide) rfl ?_
  refine ex_iadd (pc' := 1380) (v := nI (i + 1)) dL_law_1379 (nI_add _ _) rfl ?_
  refine ex_sald (pc' := 1381) (n := L) (xs := xs) (v := xs (i + 1)) dL_law_1380 no rfl (sin hL (by omega)) (sxs hL (by omega)) rfl ?_
  refine ex_callvI (pc' := 1384) (vs := [.inl (xs (i + 1))]) (rest := []) (n := 39) dL_law_1381 ml_13_168 ⟨zble rfl, zble rfl⟩ rfl rfl (hi1.sh (by decide +kernel)) (by decide) (zble rfl) rfl (zCi.pl (l_modM S_1080 (by decide +kernel) ⟨⟨196, List.mem_cons_self, rfl⟩, ⟨_, rfl, aIn_top _⟩, trivial⟩ hi1) (n_mod S_1080 (by decide +kernel) ⟨⟨196, List.mem_cons_self, rfl⟩, ⟨_, rfl, aIn_top _⟩, trivial⟩ hi1.2.1)) (fun x2 h2 hi2 => ?_)
  obtain ⟨hi2, gz⟩ := hi2
  have z2 := And.intro (z1.ref hz gz) (hx.na hz hi1 gz)
  have no : zsh h2 1000000 = none := hi2.sh (by decide +kernel)
  refine ex_pop (pc' := 1385) dL_law_1384 rfl rfl ?_
  refine ex_goto (pc' := 1805) dL_law_1385 (by decide) ?_
  exact K _ _ hl (hi2.up) ⟨_, _, _, _, _, z2⟩
theorem lc_36 {t i L : Nat} {h : zH} {xs : Nat → Int32} {ls : zL} {A : pA} {c : Nat} {s : nS} {H J : List nS} (hL : L ≤ 3072) (hiL : i + 6 ≤ L) (hl : lLoc ls i) (hi : lInv t h) (hz : lZ A c s H J h) (hx : lX A c s H J h) (K : ∀ ls' h', lLoc ls' i → lInv (t + 1) h' → lZs h' → zEx (some (L, xs)) 1005 mL_law (1805, ls', [], h') zQL) : zEx (some (L, xs)) 1005 mL_law (1388, ls, [], h) zQL := by
  have no : zsh h 1000000 = none := hi.sh (by decide +kernel)
  refine ex_aload_n (pc' := 1389) dL_law_1388 hl.2.1 rfl ?_
  refine ex_aload_n (pc' := 1390) dL_law_1389 hl.1 rfl ?_
  refine ex_iload (pc' := 1392) dL_law_1390 hl.2.2.2.2 rfl ?_
  refine ex_iconst (v := nI 1) (pc' := 1393) dL_law_1392 (by decide) rfl ?_
  refine ex_iadd (pc' := 1394) (v := nI (i + 1)) dL_law_1393 (nI_add _ _) rfl ?_
  refine ex_sald (pc' := 1395) (n := L) (xs := xs) (v := xs (i + 1)) dL_law_1394 no rfl (sin hL (by omega)) (sxs hL (by omega)) rfl ?_
  refine ex_aload_n (pc' := 1396) dL_law_1395 hl.1 rfl ?_
  refine ex_iload (pc' := 1398) dL_law_1396 hl.2.2.2.2 rfl ?_
  refine ex_iconst (v := nI 2) (pc' := 1399) dL_law_1398 (by decide) rfl ?_
  refine ex_iadd (pc' := 1400) (v := nI (i + 2)) dL_law_1399 (nI_add _ _) rfl ?_
  refine ex_sald (pc' := 1401) (n := L) (xs := xs) (v := xs (i + 2)) dL_law_1400 no rfl (sin hL (by omega)) (sxs hL (by omega)) rfl ?_
  refine ex_callvI (pc' := 1404) (vs := [.inl (xs (i + 1)), .inl (xs (i + 2))]) (rest := []) (n := 16) dL_law_1401 ml_13_169 ⟨zble rfl, zble rfl⟩ rfl rfl (hi.sh (by decide +kernel)) (by decide) (zble rfl) rfl (zCi.pl (l_cls (k := false) S_247 S_425 (by decide +kernel) (by decide +kernel) rfl rfl ⟨⟨0, List.mem_cons_self, rfl⟩, ⟨_, rfl, aIn_top _⟩, ⟨_, rfl, aIn_top _⟩, trivial⟩ rfl hi) (n_cls S_247 S_425 (by decide +kernel) rfl rfl ⟨⟨0, List.mem_cons_self, rfl⟩, ⟨_, rfl, aIn_top _⟩, ⟨_, rfl, aIn_top _⟩, trivial⟩ rfl hi)) (fun x1 h1 hi1 => ?_)
  obtain ⟨hi1, fz⟩ := hi1
  have z1 := hz.cls hi1 fz
  have no : zsh h1 1000000 = none := hi1.sh (by decide +kernel)
  refine ex_pop (pc' := 1405) dL_law_1404 rfl rfl ?_
  refine ex_aload_n (pc' := 1406) dL_law_1405 hl.2.2.1 rfl ?_
  refine ex_aload_n (pc' := 1407) dL_law_1406 hl.1 rfl ?_
  refine ex_iload (pc' := 1409) dL_law_1407 hl.2.2.2.2 rfl ?_
  refine ex_iconst (v := nI 1) (pc' := 1410) dL_law_1409 (by decide) rfl ?_
  refine ex_iadd (pc' := 1411) (v := nI (i + 1)) dL_law_1410 (nI_add _ _) rfl ?_
  refine ex_sald (pc' := 1412) (n := L) (xs := xs) (v := xs (i + 1)) dL_law_1411 no rfl (sin hL (by omega)) (sxs hL (by omega)) rfl ?_
  refine ex_aload_n (pc' := 1413) dL_law_1412 hl.1 rfl ?_
  refine ex_iload (pc' := 1415) dL_law_1413 hl.2.2.2.2 rfl ?_
  refine ex_iconst (v := nI 2) (pc' := 1416) dL_law_1415 (by decide) rfl ?_
  refine ex_iadd (pc' := 1417) (v := nI (i + 2)) dL_law_1416 (nI_add _ _) rfl ?_
  refine ex_sald (pc' := 1418) (n := L) (xs := xs) (v := xs (i + 2)) dL_law_1417 no rfl (sin hL (by omega)) (sxs hL (by omega)) rfl ?_
  refine ex_callvI (pc' := 1421) (vs := [.inl (xs (i + 1)), .inl (xs (i + 2))]) (rest := []) (n := 39) dL_law_1418 ml_13_172 ⟨zble rfl, zble rfl⟩ rfl rfl (hi1.sh (by decide +kernel)) (by decide) (zble rfl) rfl (zCi.pl (l_modM S_1082 (by decide +kernel) ⟨⟨196, List.mem_cons_self, rfl⟩, ⟨_, rfl, aIn_top _⟩, ⟨_, rfl, aIn_top _⟩, trivial⟩ hi1) (n_mod S_1082 (by decide +kernel) ⟨⟨196, List.mem_cons_self, rfl⟩, ⟨_, rfl, aIn_top _⟩, ⟨_, rfl, aIn_top _⟩, trivial⟩ hi1.2.1)) (fun x2 h2 hi2 => ?_)
  obtain ⟨hi2, gz⟩ := hi2
  have z2 := And.intro (z1.ref hz gz) (hx.na hz hi1 gz)
  have no : zsh h2 1000000 = none := hi2.sh (by decide +kernel)
  refine ex_pop (pc' := 1422) dL_law_1421 rfl rfl ?_
  refine ex_goto (pc' := 1805) dL_law_1422 (by decide) ?_
  exact K _ _ hl (hi2.up) ⟨_, _, _, _, _, z2⟩
theorem lc_37 {t i L : Nat} {h : zH} {xs : Nat → Int32} {ls : zL} {A : pA} {c : Nat} {s : nS} {H J : List nS} (hL : L ≤ 3072) (hiL : i + 6 ≤ L) (hl : lLoc ls i) (hi : lInv t h) (hz : lZ A c s H J h) (hx : lX A c s H J h) (K : ∀ ls' h', lLoc ls' i → lInv (t + 1) h' → lZs h' → zEx (some (L, xs)) 1005 mL_law (1805, ls', [], h') zQL) : zEx (some (L, xs)) 1005 mL_law (1425, ls, [], h) zQL := by
  have no : zsh h 1000000 = none := hi.sh (by decide +kernel)
  refine ex_aload_n (pc' := 1426) dL_law_1425 hl.2.1 rfl ?_
  refine ex_aload_n (pc' := 1427) dL_law_1426 hl.1 rfl ?_
  refine ex_iload (pc' := 1429) dL_law_1427 hl.2.2.2.2 rfl ?_
  refine ex_iconst (v := nI 1) (pc' := 1430) dL_law_1429 (by decide) rfl ?_
  refine ex_iadd (pc' := 1431) (v := nI (i + 1)) dL_law_1430 (nI_add _ _) rfl ?_
  refine ex_sald (pc' := 1432) (n := L) (xs := xs) (v := xs (i + 1)) dL_law_1431 no rfl (sin hL (by omega)) (sxs hL (by omega)) rfl ?_
  refine ex_callvI (pc' := 1435) (vs := [.inl (xs (i + 1))]) (rest := []) (n := 16) dL_law_1432 ml_13_173 ⟨zble rfl, zble rfl⟩ rfl rfl (hi.sh (by decide +kernel)) (by decide) (zble rfl) rfl (zCi.pl (l_cls (k := false) S_255 S_430 (by decide +kernel) (by decide +kernel) rfl rfl ⟨⟨0, List.mem_cons_self, rfl⟩, ⟨_, rfl, aIn_top _⟩, trivial⟩ rfl hi) (n_cls S_255 S_430 (by decide +kernel) rfl rfl ⟨⟨0, List.mem_cons_self, rfl⟩, ⟨_, rfl, aIn_top _⟩, trivial⟩ rfl hi)) (fun x1 h1 hi1 => ?_)
  obtain ⟨hi1, fz⟩ := hi1
  have z1 := hz.cls hi1 fz
  have no : zsh h1 1000000 = none := hi1.sh (by decide +kernel)
  refine ex_pop (pc' := 1436) dL_law_1435 rfl rfl ?_
  refine ex_aload_n (pc' := 1437) dL_law_1436 hl.2.2.1 rfl ?_
  refine ex_aload_n (pc' := 1438) dL_law_1437 hl.1 rfl ?_
  refine ex_iload (pc' := 1440) dL_law_1438 hl.2.2.2.2 rfl ?_
  refine ex_iconst (v := nI 1) (pc' := 1441) dL_law_1440 (by decide) rfl ?_
  refine ex_iadd (pc' := 1442) (v := nI (i + 1)) dL_law_1441 (nI_add _ _) rfl ?_
  refine ex_sald (pc' := 1443) (n := L) (xs := xs) (v := xs (i + 1)) dL_law_1442 no rfl (sin hL (by omega)) (sxs hL (by omega)) rfl ?_
  refine ex_callvI (pc' := 1446) (vs := [.inl (xs (i + 1))]) (rest := []) (n := 39) dL_law_1443 ml_13_176 ⟨zble rfl, zble rfl⟩ rfl rfl (hi1.sh (by decide +kernel)) (by decide) (zble rfl) rfl (zCi.pl (l_modM S_1092 (by decide +kernel) ⟨⟨196, List.mem_cons_self, rfl⟩, ⟨_, rfl, aIn_top _⟩, trivial⟩ hi1) (n_mod S_1092 (by decide +kernel) ⟨⟨196, List.mem_cons_self, rfl⟩, ⟨_, rfl, aIn_top _⟩, trivial⟩ hi1.2.1)) (fun x2 h2 hi2 => ?_)
  obtain ⟨hi2, gz⟩ := hi2
  have z2 := And.intro (z1.ref hz gz) (hx.na hz hi1 gz)
  have no : zsh h2 1000000 = none := hi2.sh (by decide +kernel)
  refine ex_pop (pc' := 1447) dL_law_1446 rfl rfl ?_
  refine ex_goto (pc' := 1805) dL_law_1447 (by decide) ?_
  exact K _ _ hl (hi2.up) ⟨_, _, _, _, _, z2⟩
theorem lc_38 {t i L : Nat} {h : zH} {xs : Nat → Int32} {ls : zL} {A : pA} {c : Nat} {s : nS} {H J : List nS} (hL : L ≤ 3072) (hiL : i + 6 ≤ L) (hl : lLoc ls i) (hi : lInv t h) (hz : lZ A c s H J h) (hx : lX A c s H J h) (K : ∀ ls' h', lLoc ls' i → lInv (t + 1) h' → lZs h' → zEx (some (L, xs)) 1005 mL_law (1805, ls', [], h') zQL) : zEx (some (L, xs)) 1005 mL_law (1450, ls, [], h) zQL := by
  have no : zsh h 1000000 = none := hi.sh (by decide +kernel)
  refine ex_aload_n (pc' := 1451) dL_law_1450 hl.2.1 rfl ?_
  refine ex_aload_n (pc' := 1452) dL_law_1451 hl.1 rfl ?_
  refine ex_iload (pc' := 1454) dL_law_1452 hl.2.2.2.2 rfl ?_
  refine ex_iconst (v := nI 1) (pc' := 1455) dL_law_1454 (by decide) rfl ?_
  refine ex_iadd (pc' := 1456) (v := nI (i + 1)) dL_law_1455 (nI_add _ _) rfl ?_
  refine ex_sald (pc' := 1457) (n := L) (xs := xs) (v := xs (i + 1)) dL_law_1456 no rfl (sin hL (by omega)) (sxs hL (by omega)) rfl ?_
  refine ex_aload_n (pc' := 1458) dL_law_1457 hl.1 rfl ?_
  refine ex_iload (pc' := 1460) dL_law_1458 hl.2.2.2.2 rfl ?_
  refine ex_iconst (v := nI 2) (pc' := 1461) dL_law_1460 (by decide) rfl ?_
  refine ex_iadd (pc' := 1462) (v := nI (i + 2)) dL_law_1461 (nI_add _ _) rfl ?_
  refine ex_sald (pc' := 1463) (n := L) (xs := xs) (v := xs (i + 2)) dL_law_1462 no rfl (sin hL (by omega)) (sxs hL (by omega)) rfl ?_
  refine ex_callvI (pc' := 1466) (vs := [.inl (xs (i + 1)), .inl (xs (i + 2))]) (rest := []) (n := 16) dL_law_1463 ml_13_177 ⟨zble rfl, zble rfl⟩ rfl rfl (hi.sh (by decide +kernel)) (by decide) (zble rfl) rfl (zCi.pl (l_cls (k := false) S_256 S_431 (by decide +kernel) (by decide +kernel) rfl rfl ⟨⟨0, List.mem_cons_self, rfl⟩, ⟨_, rfl, aIn_top _⟩, ⟨_, rfl, aIn_top _⟩, trivial⟩ rfl hi) (n_cls S_256 S_431 (by decide +kernel) rfl rfl ⟨⟨0, List.mem_cons_self, rfl⟩, ⟨_, rfl, aIn_top _⟩, ⟨_, rfl, aIn_top _⟩, trivial⟩ rfl hi)) (fun x1 h1 hi1 => ?_)
  obtain ⟨hi1, fz⟩ := hi1
  have z1 := hz.cls hi1 fz
  have no : zsh h1 1000000 = none := hi1.sh (by decide +kernel)
  refine ex_pop (pc' := 1467) dL_law_1466 rfl rfl ?_
  refine ex_aload_n (pc' := 1468) dL_law_1467 hl.2.2.1 rfl ?_
  refine ex_aload_n (pc' := 1469) dL_law_1468 hl.1 rfl ?_
  refine ex_iload (pc' := 1471) dL_law_1469 hl.2.2.2.2 rfl ?_
  refine ex_iconst (v := nI 1) (pc' := 1472) dL_law_1471 (by decide) rfl ?_
  refine ex_iadd (pc' := 1473) (v := nI (i + 1)) dL_law_1472 (nI_add _ _) rfl ?_
  refine ex_sald (pc' := 1474) (n := L) (xs := xs) (v := xs (i + 1)) dL_law_1473 no rfl (sin hL (by omega)) (sxs hL (by omega)) rfl ?_
  refine ex_aload_n (pc' := 1475) dL_law_1474 hl.1 rfl ?_
  refine ex_iload (pc' := 1477) dL_law_1475 hl.2.2.2.2 rfl ?_
  refine ex_iconst (v := nI 2) (pc' := 1478) dL_law_1477 (by decide) rfl ?_
  refine ex_iadd (pc' := 1479) (v := nI (i + 2)) dL_law_1478 (nI_add _ _) rfl ?_
  refine ex_sald (pc' := 1480) (n := L) (xs := xs) (v := xs (i + 2)) dL_law_1479 no rfl (sin hL (by omega)) (sxs hL (by omega)) rfl ?_
  refine ex_callvI (pc' := 1483) (vs := [.inl (xs (i + 1)), .inl (xs (i + 2))]) (rest := []) (n := 39) dL_law_1480 ml_13_180 ⟨zble rfl, zble rfl⟩ rfl rfl (hi1.sh (by decide +kernel)) (by decide) (zble rfl) rfl (zCi.pl (l_modM S_1093 (by decide +kernel) ⟨⟨196, List.mem_cons_self, rfl⟩, ⟨_, rfl, aIn_top _⟩, ⟨_, rfl, aIn_top _⟩, trivial⟩ hi1) (n_mod S_1093 (by decide +kernel) ⟨⟨196, List.mem_cons_self, rfl⟩, ⟨_, rfl, aIn_top _⟩, ⟨_, rfl, aIn_top _⟩, trivial⟩ hi1.2.1)) (fun x2 h2 hi2 => ?_)
  obtain ⟨hi2, gz⟩ := hi2
  have z2 := And.intro (z1.ref hz gz) (hx.na hz hi1 gz)
  have no : zsh h2 1000000 = none := hi2.sh (by decide +kernel)
  refine ex_pop (pc' := 1484) dL_law_1483 rfl rfl ?_
  refine ex_goto (pc' := 1805) dL_law_1484 (by decide) ?_
  exact K _ _ hl (hi2.up) ⟨_, _, _, _, _, z2⟩
theorem lc_39 {t i L : Nat} {h : zH} {xs : Nat → Int32} {ls : zL} {A : pA} {c : Nat} {s : nS} {H J : List nS} (hL : L ≤ 3072) (hiL : i + 6 ≤ L) (hl : lLoc ls i) (hi : lInv t h) (hz : lZ A c s H J h) (hx : lX A c s H J h) (K : ∀ ls' h', lLoc ls' i → lInv (t + 1) h' → lZs h' → zEx (some (L, xs)) 1005 mL_law (1805, ls', [], h') zQL) : zEx (some (L, xs)) 1005 mL_law (1487, ls, [], h) zQL := by
  have no : zsh h 1000000 = none := hi.sh (by decide +kernel)
  refine ex_aload_n (pc' := 1488) dL_law_1487 hl.2.1 rfl ?_
  refine ex_aload_n (pc' := 1489) dL_law_1488 hl.1 rfl ?_
  refine ex_iload (pc' := 1491) dL_law_1489 hl.2.2.2.2 rfl ?_
  refine ex_iconst (v := nI 1) (pc' := 1492) dL_law_1491 (by decide) rfl ?_
  refine ex_iadd (pc' := 1493) (v := nI (i + 1)) dL_law_1492 (nI_add _ _) rfl ?_
  refine ex_sald (pc' := 1494) (n := L) (xs := xs) (v := xs (i + 1)) dL_law_1493 no rfl (sin hL (by omega)) (sxs hL (by omega)) rfl ?_
  refine ex_aload_n (pc' := 1495) dL_law_1494 hl.1 rfl ?_
  refine ex_iload (pc' := 1497) dL_law_1495 hl.2.2.2.2 rfl ?_
  refine ex_iconst (v := nI 2) (pc' := 1498) dL_law_1497 (by decide) rfl ?_
  refine ex_iadd (pc' := 1499) (v := nI (i + 2)) dL_law_1498 (nI_add _ _) rfl ?_
  refine ex_sald (pc' := 1500) (n := L) (xs := xs) (v := xs (i + 2)) dL_law_1499 no rfl (sin hL (by omega)) (sxs hL (by omega)) rfl ?_
  refine ex_callvI (pc' := 1503) (vs := [.inl (xs (i + 1)), .inl (xs (i + 2))]) (rest := []) (n := 16) dL_law_1500 ml_13_181 ⟨zble rfl, zble rfl⟩ rfl rfl (hi.sh (by decide +kernel)) (by decide) (zble rfl) rfl (zCi.pl (l_cls (k := false) S_265 S_436 (by decide +kernel) (by decide +kernel) rfl rfl ⟨⟨0, List.mem_cons_self, rfl⟩, ⟨_, rfl, aIn_top _⟩, ⟨_, rfl, aIn_top _⟩, trivial⟩ rfl hi) (n_cls S_265 S_436 (by decide +kernel) rfl rfl ⟨⟨0, List.mem_cons_self, rfl⟩, ⟨_, rfl, aIn_top _⟩, ⟨_, rfl, aIn_top _⟩, trivial⟩ rfl hi)) (fun x1 h1 hi1 => ?_)
  obtain ⟨hi1, fz⟩ := hi1
  have z1 := hz.cls hi1 fz
  have no : zsh h1 1000000 = none := hi1.sh (by decide +kernel)
  refine ex_pop (pc' := 1504) dL_law_1503 rfl rfl ?_
  refine ex_aload_n (pc' := 1505) dL_law_1504 hl.2.2.1 rfl ?_
  refine ex_aload_n (pc' := 1506) dL_law_1505 hl.1 rfl ?_
  refine ex_iload (pc' := 1508) dL_law_1506 hl.2.2.2.2 rfl ?_
  refine ex_iconst (v := nI 1) (pc' := 1509) dL_law_1508 (by decide) rfl ?_
  refine ex_iadd (pc' := 1510) (v := nI (i + 1)) dL_law_1509 (nI_add _ _) rfl ?_
  refine ex_sald (pc' := 1511) (n := L) (xs := xs) (v := xs (i + 1)) dL_law_1510 no rfl (sin hL (by omega)) (sxs hL (by omega)) rfl ?_
  refine ex_aload_n (pc' := 1512) dL_law_1511 hl.1 rfl ?_
  refine ex_iload (pc' := 1514) dL_law_1512 hl.2.2.2.2 rfl ?_
  refine ex_iconst (v := nI 2) (pc' := 1515) dL_law_1514 (by decide) rfl ?_
  refine ex_iadd (pc' := 1516) (v := nI (i + 2)) dL_law_1515 (nI_add _ _) rfl ?_
  refine ex_sald (pc' := 1517) (n := L) (xs := xs) (v := xs (i + 2)) dL_law_1516 no rfl (sin hL (by omega)) (sxs hL (by omega)) rfl ?_
  refine ex_callvI (pc' := 1520) (vs := [.inl (xs (i + 1)), .inl (xs (i + 2))]) (rest := []) (n := 39) dL_law_1517 ml_13_184 ⟨zble rfl, zble rfl⟩ rfl rfl (hi1.sh (by decide +kernel)) (by decide) (zble rfl) rfl (zCi.pl (l_decade hi1) (n_decade hi1)) (fun x2 h2 hi2 => ?_)
  obtain ⟨hi2, gz⟩ := hi2
  have z2 := And.intro (z1.ref hz gz) (hx.na hz hi1 gz)
  have no : zsh h2 1000000 = none := hi2.sh (by decide +kernel)
  refine ex_pop (pc' := 1521) dL_law_1520 rfl rfl ?_
  refine ex_goto (pc' := 1805) dL_law_1521 (by decide) ?_
  exact K _ _ hl (hi2.up) ⟨_, _, _, _, _, z2⟩
theorem lc_40 {t i L : Nat} {h : zH} {xs : Nat → Int32} {ls : zL} {A : pA} {c : Nat} {s : nS} {H J : List nS} (hL : L ≤ 3072) (hiL : i + 6 ≤ L) (hl : lLoc ls i) (hi : lInv t h) (hz : lZ A c s H J h) (hx : lX A c s H J h) (K : ∀ ls' h', lLoc ls' i → lInv (t + 1) h' → lZs h' → zEx (some (L, xs)) 1005 mL_law (1805, ls', [], h') zQL) : zEx (some (L, xs)) 1005 mL_law (1524, ls, [], h) zQL := by
  have no : zsh h 1000000 = none := hi.sh (by decide +kernel)
  refine ex_aload_n (pc' := 1525) dL_law_1524 hl.2.1 rfl ?_
  refine ex_aload_n (pc' := 1526) dL_law_1525 hl.1 rfl ?_
  refine ex_iload (pc' := 1528) dL_law_1526 hl.2.2.2.2 rfl ?_
  refine ex_iconst (v := nI 1) (pc' := 1529) dL_law_1528 (by decide) rfl ?_
  refine ex_iadd (pc' := 1530) (v := nI (i + 1)) dL_law_1529 (nI_add _ _) rfl ?_
  refine ex_sald (pc' := 1531) (n := L) (xs := xs) (v := xs (i + 1)) dL_law_1530 no rfl (sin hL (by omega)) (sxs hL (by omega)) rfl ?_
  refine ex_aload_n (pc' := 1532) dL_law_1531 hl.1 rfl ?_
  refine ex_iload (pc' := 1534) dL_law_1532 hl.2.2.2.2 rfl ?_
  refine ex_iconst (v := nI 2) (pc' := 1535) dL_law_1534 (by decide) rfl ?_
  refine ex_iadd (pc' := 1536) (v := nI (i + 2)) dL_law_1535 (nI_add _ _) rfl ?_
  refine ex_sald (pc' := 1537) (n := L) (xs := xs) (v := xs (i + 2)) dL_law_1536 no rfl (sin hL (by omega)) (sxs hL (by omega)) rfl ?_
  refine ex_callvI (pc' := 1540) (vs := [.inl (xs (i + 1)), .inl (xs (i + 2))]) (rest := []) (n := 16) dL_law_1537 ml_13_185 ⟨zble rfl, zble rfl⟩ rfl rfl (hi.sh (by decide +kernel)) (by decide) (zble rfl) rfl (zCi.pl (l_cls (k := false) S_269 S_437 (by decide +kernel) (by decide +kernel) rfl rfl ⟨⟨0, List.mem_cons_self, rfl⟩, ⟨_, rfl, aIn_top _⟩, ⟨_, rfl, aIn_top _⟩, trivial⟩ rfl hi) (C_send hi.nw hz.1.1 hi.r8 (fun ne => hz.bc hi ne) hz.2.2.1)) (fun x1 h1 hi1 => ?_)
  obtain ⟨hi1, fz⟩ := hi1
  have no : zsh h1 1000000 = none := hi1.sh (by decide +kernel)
  refine ex_pop (pc' := 1541) dL_law_1540 rfl rfl ?_
  refine ex_aload_n (pc' := 1542) dL_law_1541 hl.2.2.1 rfl ?_
  refine ex_aload_n (pc' := 1543) dL_law_1542 hl.1 rfl ?_
  refine ex_iload (pc' := 1545) dL_law_1543 hl.2.2.2.2 rfl ?_
  refine ex_iconst (v := nI 1) (pc' := 1546) dL_law_1545 (by decide) rfl ?_
  refine ex_iadd (pc' := 1547) (v := nI (i + 1)) dL_law_1546 (nI_add _ _) rfl ?_
  refine ex_sald (pc' := 1548) (n := L) (xs := xs) (v := xs (i + 1)) dL_law_1547 no rfl (sin hL (by omega)) (sxs hL (by omega)) rfl ?_
  refine ex_aload_n (pc' := 1549) dL_law_1548 hl.1 rfl ?_
  refine ex_iload (pc' := 1551) dL_law_1549 hl.2.2.2.2 rfl ?_
  refine ex_iconst (v := nI 2) (pc' := 1552) dL_law_1551 (by decide) rfl ?_
  refine ex_iadd (pc' := 1553) (v := nI (i + 2)) dL_law_1552 (nI_add _ _) rfl ?_
  refine ex_sald (pc' := 1554) (n := L) (xs := xs) (v := xs (i + 2)) dL_law_1553 no rfl (sin hL (by omega)) (sxs hL (by omega)) rfl ?_
  refine ex_callvI (pc' := 1557) (vs := [.inl (xs (i + 1)), .inl (xs (i + 2))]) (rest := []) (n := 39) dL_law_1554 ml_13_188 ⟨zble rfl, zble rfl⟩ rfl rfl (hi1.sh (by decide +kernel)) (by decide) (zble rfl) rfl (zCi.pl (l_modM S_send (by decide +kernel) ⟨⟨196, List.mem_cons_self, rfl⟩, ⟨_, rfl, aIn_top _⟩, ⟨_, rfl, aIn_top _⟩, trivial⟩ hi1) (M_send hi1.mw (hi1.pa hz.1.1) hi1.r15 (fun ne => hz.bm hi1 ne) (hz.lm hi1))) (fun x2 h2 hi2 => ?_)
  obtain ⟨hi2, gz⟩ := hi2
  obtain ⟨s', H', J', z2, ev, et⟩   := hz.two hx hi1 gz.1 (snd_two (L1 := fun s H J => lNC A s H J h1) (L2 := fun s H J => lNM A s H J h2) hz.1.1.1 hz.1.2.2 hz.1.2.1 hz.2.1 (hx.nil hz) fz.2 gz.2)
  have no : zsh h2 1000000 = none := hi2.sh (by decide +kernel)
  refine ex_pop (pc' := 1558) dL_law_1557 rfl rfl ?_
  refine ex_goto (pc' := 1805) dL_law_1558 (by decide) ?_
  exact K _ _ hl (hi2.up) ⟨_, _, _, _, _, z2⟩
theorem lc_41 {t i L : Nat} {h : zH} {xs : Nat → Int32} {ls : zL} {A : pA} {c : Nat} {s : nS} {H J : List nS} (hL : L ≤ 3072) (hiL : i + 6 ≤ L) (hl : lLoc ls i) (hi : lInv t h) (hz : lZ A c s H J h) (hx : lX A c s H J h) (K : ∀ ls' h', lLoc ls' i → lInv (t + 1) h' → lZs h' → zEx (some (L, xs)) 1005 mL_law (1805, ls', [], h') zQL) : zEx (some (L, xs)) 1005 mL_law (1561, ls, [], h) zQL := by
  have no : zsh h 1000000 = none := hi.sh (by decide +kernel)
  refine ex_aload_n (pc' := 1562) dL_law_1561 hl.2.1 rfl ?_
  refine ex_aload_n (pc' := 1563) dL_law_1562 hl.1 rfl ?_
  refine ex_iload (pc' := 1565) dL_law_1563 hl.2.2.2.2 rfl ?_
  refine ex_iconst (v := nI 1) (pc' := 1566) dL_law_1565 (by decide) rfl ?_
  refine ex_iadd (pc' := 1567) (v := nI (i + 1)) dL_law_1566 (nI_add _ _) rfl ?_
  refine ex_sald (pc' := 1568) (n := L) (xs := xs) (v := xs (i + 1)) dL_law_1567 no rfl (sin hL (by omega)) (sxs hL (by omega)) rfl ?_
  refine ex_aload_n (pc' := 1569) dL_law_1568 hl.1 rfl ?_
  refine ex_iload (pc' := 1571) dL_law_1569 hl.2.2.2.2 rfl ?_
  refine ex_iconst (v := nI 2) (pc' := 1572) dL_law_1571 (by decide) rfl ?_
  refine ex_iadd (pc' := 1573) (v := nI (i + 2)) dL_law_1572 (nI_add _ _) rfl ?_
  refine ex_sald (pc' := 1574) (n := L) (xs := xs) (v := xs (i + 2)) dL_law_1573 no rfl (sin hL (by omega)) (sxs hL (by omega)) rfl ?_
  refine ex_aload_n (pc' := 1575) dL_law_1574 hl.1 rfl ?_
  refine ex_iload (pc' := 1577) dL_law_1575 hl.2.2.2.2 rfl ?_
  refine ex_iconst (v := nI 3) (pc' := 1578) dL_law_1577 (by decide) rfl ?_
  refine ex_iadd (pc' := 1579) (v := nI (i + 3)) dL_law_1578 (nI_add _ _) rfl ?_
  refine ex_sald (pc' := 1580) (n := L) (xs := xs) (v := xs (i + 3)) dL_law_1579 no rfl (sin hL (by omega)) (sxs hL (by omega)) rfl ?_
  refine ex_callvI (pc' := 1583) (vs := [.inl (xs (i + 1)), .inl (xs (i + 2)), .inl (xs (i + 3))]) (rest := []) (n := 16) dL_law_1580 ml_13_189 ⟨zble rfl, zble rfl⟩ rfl rfl (hi.sh (by decide +kernel)) (by decide) (zble rfl) rfl (zCi.pl (l_cls (k := false) S_276 S_438 (by decide +kernel) (by decide +kernel) rfl rfl ⟨⟨0, List.mem_cons_self, rfl⟩, ⟨_, rfl, aIn_top _⟩, ⟨_, rfl, aIn_top _⟩, ⟨_, rfl, aIn_top _⟩, trivial⟩ rfl hi) (C_tune hi.nw hz.1.1 (fun ne => hz.bc hi ne) hz.2.2.1)) (fun x1 h1 hi1 => ?_)
  obtain ⟨hi1, fz⟩ := hi1
  have no : zsh h1 1000000 = none := hi1.sh (by decide +kernel)
  refine ex_pop (pc' := 1584) dL_law_1583 rfl rfl ?_
  refine ex_aload_n (pc' := 1585) dL_law_1584 hl.2.2.1 rfl ?_
  refine ex_aload_n (pc' := 1586) dL_law_1585 hl.1 rfl ?_
  refine ex_iload (pc' := 1588) dL_law_1586 hl.2.2.2.2 rfl ?_
  refine ex_iconst (v := nI 1) (pc' := 1589) dL_law_1588 (by decide) rfl ?_
  refine ex_iadd (pc' := 1590) (v := nI (i + 1)) dL_law_1589 (nI_add _ _) rfl ?_
  refine ex_sald (pc' := 1591) (n := L) (xs := xs) (v := xs (i + 1)) dL_law_1590 no rfl (sin hL (by omega)) (sxs hL (by omega)) rfl ?_
  refine ex_aload_n (pc' := 1592) dL_law_1591 hl.1 rfl ?_
  refine ex_iload (pc' := 1594) dL_law_1592 hl.2.2.2.2 rfl ?_
  refine ex_iconst (v := nI 2) (pc' := 1595) dL_law_1594 (by decide) rfl ?_
  refine ex_iadd (pc' := 1596) (v := nI (i + 2)) dL_law_1595 (nI_add _ _) rfl ?_
  refine ex_sald (pc' := 1597) (n := L) (xs := xs) (v := xs (i + 2)) dL_law_1596 no rfl (sin hL (by omega)) (sxs hL (by omega)) rfl ?_
  refine ex_aload_n (pc' := 1598) dL_law_1597 hl.1 rfl ?_
  refine ex_iload (pc' := 1600) dL_law_1598 hl.2.2.2.2 rfl ?_
  refine ex_iconst (v := nI 3) (pc' := 1601) dL_law_1600 (by decide) rfl ?_
  refine ex_iadd (pc' := 1602) (v := nI (i + 3)) dL_law_1601 (nI_add _ _) rfl ?_
  refine ex_sald (pc' := 1603) (n := L) (xs := xs) (v := xs (i + 3)) dL_law_1602 no rfl (sin hL (by omega)) (sxs hL (by omega)) rfl ?_
  refine ex_callvI (pc' := 1606) (vs := [.inl (xs (i + 1)), .inl (xs (i + 2)), .inl (xs (i + 3))]) (rest := []) (n := 39) dL_law_1603 ml_13_193 ⟨zble rfl, zble rfl⟩ rfl rfl (hi1.sh (by decide +kernel)) (by decide) (zble rfl) rfl (zCi.pl (l_modM S_1247 (by decide +kernel) ⟨⟨196, List.mem_cons_self, rfl⟩, ⟨_, rfl, aIn_top _⟩, ⟨_, rfl, aIn_top _⟩, ⟨_, rfl, aIn_top _⟩, trivial⟩ hi1) (M_tune hi1.mw (hi1.pa hz.1.1) hi1.r15 (fun ne => hz.bm hi1 ne) (hz.lm hi1))) (fun x2 h2 hi2 => ?_)
  obtain ⟨hi2, gz⟩ := hi2
  obtain ⟨s', H', J', z2, ev, et⟩   := hz.two hx hi1 gz.1.G (tun_two (L1 := fun s H J => lNC A s H J h1) (L2 := fun s H J => lNM A s H J h2) hz.1.1.1 hz.1.2.2 hz.1.2.1 hz.2.1 (hx.nil hz) fz.2 gz.2)
  have no : zsh h2 1000000 = none := hi2.sh (by decide +kernel)
  refine ex_pop (pc' := 1607) dL_law_1606 rfl rfl ?_
  refine ex_goto (pc' := 1805) dL_law_1607 (by decide) ?_
  exact K _ _ hl (hi2.up) ⟨_, _, _, _, _, z2⟩
theorem lc_42 {t i L : Nat} {h : zH} {xs : Nat → Int32} {ls : zL} {A : pA} {c : Nat} {s : nS} {H J : List nS} (hL : L ≤ 3072) (hiL : i + 6 ≤ L) (hl : lLoc ls i) (hi : lInv t h) (hz : lZ A c s H J h) (hx : lX A c s H J h) (K : ∀ ls' h', lLoc ls' i → lInv (t + 1) h' → lZs h' → zEx (some (L, xs)) 1005 mL_law (1805, ls', [], h') zQL) : zEx (some (L, xs)) 1005 mL_law (1610, ls, [], h) zQL := by
  have no : zsh h 1000000 = none := hi.sh (by decide +kernel)
  refine ex_aload_n (pc' := 1611) dL_law_1610 hl.2.1 rfl ?_
  refine ex_aload_n (pc' := 1612) dL_law_1611 hl.1 rfl ?_
  refine ex_iload (pc' := 1614) dL_law_1612 hl.2.2.2.2 rfl ?_
  refine ex_iconst (v := nI 1) (pc' := 1615) dL_law_1614 (by decide) rfl ?_
  refine ex_iadd (pc' := 1616) (v := nI (i + 1)) dL_law_1615 (nI_add _ _) rfl ?_
  refine ex_sald (pc' := 1617) (n := L) (xs := xs) (v := xs (i + 1)) dL_law_1616 no rfl (sin hL (by omega)) (sxs hL (by omega)) rfl ?_
  refine ex_callvI (pc' := 1620) (vs := [.inl (xs (i + 1))]) (rest := []) (n := 16) dL_law_1617 ml_13_194 ⟨zble rfl, zble rfl⟩ rfl rfl (hi.sh (by decide +kernel)) (by decide) (zble rfl) rfl (zCi.pl (l_cls (k := false) S_278 S_439 (by decide +kernel) (by decide +kernel) rfl rfl ⟨⟨0, List.mem_cons_self, rfl⟩, ⟨_, rfl, aIn_top _⟩, trivial⟩ rfl hi) (C_years hi.nw hz.1.1 hz.2.1.1.1 hz.2.2.1)) (fun x1 h1 hi1 => ?_)
  obtain ⟨hi1, fz⟩ := hi1
  have no : zsh h1 1000000 = none := hi1.sh (by decide +kernel)
  refine ex_pop (pc' := 1621) dL_law_1620 rfl rfl ?_
  refine ex_aload_n (pc' := 1622) dL_law_1621 hl.2.2.1 rfl ?_
  refine ex_aload_n (pc' := 1623) dL_law_1622 hl.1 rfl ?_
  refine ex_iload (pc' := 1625) dL_law_1623 hl.2.2.2.2 rfl ?_
  refine ex_iconst (v := nI 1) (pc' := 1626) dL_law_1625 (by decide) rfl ?_
  refine ex_iadd (pc' := 1627) (v := nI (i + 1)) dL_law_1626 (nI_add _ _) rfl ?_
  refine ex_sald (pc' := 1628) (n := L) (xs := xs) (v := xs (i + 1)) dL_law_1627 no rfl (sin hL (by omega)) (sxs hL (by omega)) rfl ?_
  refine ex_callvI (pc' := 1631) (vs := [.inl (xs (i + 1))]) (rest := []) (n := 39) dL_law_1628 ml_13_197 ⟨zble rfl, zble rfl⟩ rfl rfl (hi1.sh (by decide +kernel)) (by decide) (zble rfl) rfl (zCi.pl (l_modM S_1249 (by decide +kernel) ⟨⟨196, List.mem_cons_self, rfl⟩, ⟨_, rfl, aIn_top _⟩, trivial⟩ hi1) (M_years hi1.mw (hi1.pa hz.1.1) hz.2.1.1.1 (hz.lm hi1))) (fun x2 h2 hi2 => ?_)
  obtain ⟨hi2, gz⟩ := hi2
  obtain ⟨s', H', J', z2, ev, et⟩   := hz.two hx hi1 gz.1.G (yr_two (L1 := fun s H J => lNC A s H J h1) (L2 := fun s H J => lNM A s H J h2) hz.2.1 (hx.nil hz) fz.2 gz.2)
  have no : zsh h2 1000000 = none := hi2.sh (by decide +kernel)
  refine ex_pop (pc' := 1632) dL_law_1631 rfl rfl ?_
  refine ex_goto (pc' := 1805) dL_law_1632 (by decide) ?_
  exact K _ _ hl (hi2.up) ⟨_, _, _, _, _, z2⟩
theorem lc_43 {t i L : Nat} {h : zH} {xs : Nat → Int32} {ls : zL} {A : pA} {c : Nat} {s : nS} {H J : List nS} (hL : L ≤ 3072) (hiL : i + 6 ≤ L) (hl : lLoc ls i) (hi : lInv t h) (hz : lZ A c s H J h) (hx : lX A c s H J h) (K : ∀ ls' h', lLoc ls' i → lInv (t + 1) h' → lZs h' → zEx (some (L, xs)) 1005 mL_law (1805, ls', [], h') zQL) : zEx (some (L, xs)) 1005 mL_law (1635, ls, [], h) zQL := by
  have no : zsh h 1000000 = none := hi.sh (by decide +kernel)
  refine ex_aload_n (pc' := 1636) dL_law_1635 hl.2.1 rfl ?_
  refine ex_aload_n (pc' := 1637) dL_law_1636 hl.1 rfl ?_
  refine ex_iload (pc' := 1639) dL_law_1637 hl.2.2.2.2 rfl ?_
  refine ex_iconst (v := nI 1) (pc' := 1640) dL_law_1639 (by decide) rfl ?_
  refine ex_iadd (pc' := 1641) (v := nI (i + 1)) dL_law_1640 (nI_add _ _) rfl ?_
  refine ex_sald (pc' := 1642) (n := L) (xs := xs) (v := xs (i + 1)) dL_law_1641 no rfl (sin hL (by omega)) (sxs hL (by omega)) rfl ?_
  refine ex_aload_n (pc' := 1643) dL_law_1642 hl.1 rfl ?_
  refine ex_iload (pc' := 1645) dL_law_1643 hl.2.2.2.2 rfl ?_
  refine ex_iconst (v := nI 2) (pc' := 1646) dL_law_1645 (by decide) rfl ?_
  refine ex_iadd (pc' := 1647) (v := nI (i + 2)) dL_law_1646 (nI_add _ _) rfl ?_
  refine ex_sald (pc' := 1648) (n := L) (xs := xs) (v := xs (i + 2)) dL_law_1647 no rfl (sin hL (by omega)) (sxs hL (by omega)) rfl ?_
  refine ex_if (pc' := 1655) (pc2 := 1651) dL_law_1648 (by decide) rfl (fun qc0 => ?_) (fun qc0 => ?_)
  · refine ex_iconst (v := 0) (pc' := 1656) dL_law_1655 (by decide) rfl ?_
    refine ex_callvI (pc' := 1659) (vs := [.inl (xs (i + 1)), .inl (0)]) (rest := []) (n := 16) dL_law_1656 ml_13_198 ⟨zble rfl, zble rfl⟩ rfl rfl (hi.sh (by decide +kernel)) (by decide) (zble rfl) rfl (zCi.pl (l_cls (k := false) S_279 S_440 (by decide +kernel) (by decide +kernel) rfl rfl ⟨⟨0, List.mem_cons_self, rfl⟩, ⟨_, rfl, aIn_top _⟩, ⟨0, rfl, aR1_in (lo := 0) (hi := 1) (by decide) (by decide)⟩, trivial⟩ rfl hi) (C_close hi.nw hz.1.1 hz.2.2.1)) (fun x1 h1 hi1 => ?_)
    obtain ⟨hi1, fz⟩ := hi1
    have no : zsh h1 1000000 = none := hi1.sh (by decide +kernel)
    refine ex_pop (pc' := 1660) dL_law_1659 rfl rfl ?_
    refine ex_aload_n (pc' := 1661) dL_law_1660 hl.2.2.1 rfl ?_
    refine ex_aload_n (pc' := 1662) dL_law_1661 hl.1 rfl ?_
    refine ex_iload (pc' := 1664) dL_law_1662 hl.2.2.2.2 rfl ?_
    refine ex_iconst (v := nI 1) (pc' := 1665) dL_law_1664 (by decide) rfl ?_
    refine ex_iadd (pc' := 1666) (v := nI (i + 1)) dL_law_1665 (nI_add _ _) rfl ?_
    refine ex_sald (pc' := 1667) (n := L) (xs := xs) (v := xs (i + 1)) dL_law_1666 no rfl (sin hL (by omega)) (sxs hL (by omega)) rfl ?_
    refine ex_aload_n (pc' := 1668) dL_law_1667 hl.1 rfl ?_
    refine ex_iload (pc' := 1670) dL_law_1668 hl.2.2.2.2 rfl ?_
    refine ex_iconst (v := nI 2) (pc' := 1671) dL_law_1670 (by decide) rfl ?_
    refine ex_iadd (pc' := 1672) (v := nI (i + 2)) dL_law_1671 (nI_add _ _) rfl ?_
    refine ex_sald (pc' := 1673) (n := L) (xs := xs) (v := xs (i + 2)) dL_law_1672 no rfl (sin hL (by omega)) (sxs hL (by omega)) rfl ?_
    refine ex_if (pc' := 1680) (pc2 := 1676) dL_law_1673 (by decide) rfl (fun _ => ?_) (fun q => nomatch (qc0.symm.trans q))
    refine ex_iconst (v := 0) (pc' := 1681) dL_law_1680 (by decide) rfl ?_
    refine ex_callvI (pc' := 1684) (vs := [.inl (xs (i + 1)), .inl (0)]) (rest := []) (n := 39) dL_law_1681 ml_13_202 ⟨zble rfl, zble rfl⟩ rfl rfl (hi1.sh (by decide +kernel)) (by decide) (zble rfl) rfl (zCi.pl (l_modM S_1251 (by decide +kernel) ⟨⟨196, List.mem_cons_self, rfl⟩, ⟨_, rfl, aIn_top _⟩, ⟨0, rfl, aR1_in (lo := 0) (hi := 1) (by decide) (by decide)⟩, trivial⟩ hi1) (M_close hi1.mw (hi1.pa hz.1.1) hi1.r15 (fun ne => hz.bm hi1 ne) (hz.lm hi1))) (fun x2 h2 hi2 => ?_)
    obtain ⟨hi2, gz⟩ := hi2
    obtain ⟨s', H', J', z2, ev, et⟩   := hz.two hx hi1 gz.1.G (cls_two (L1 := fun s H J => lNC A s H J h1) (L2 := fun s H J => lNM A s H J h2) hz.1.1.1 hz.2.1 (hx.nil hz) fz.2 gz.2)
    have no : zsh h2 1000000 = none := hi2.sh (by decide +kernel)
    refine ex_pop (pc' := 1685) dL_law_1684 rfl rfl ?_
    refine ex_goto (pc' := 1805) dL_law_1685 (by decide) ?_
    exact K _ _ hl (hi2.up) ⟨_, _, _, _, _, z2⟩
  · refine ex_iconst (v := 1) (pc' := 1652) dL_law_1651 (by decide) rfl ?_
    refine ex_goto (pc' := 1656) dL_law_1652 (by decide) ?_
    refine ex_callvI (pc' := 1659) (vs := [.inl (xs (i + 1)), .inl (1)]) (rest := []) (n := 16) dL_law_1656 ml_13_198 ⟨zble rfl, zble rfl⟩ rfl rfl (hi.sh (by decide +kernel)) (by decide) (zble rfl) rfl (zCi.pl (l_cls (k := false) S_279 S_440 (by decide +kernel) (by decide +kernel) rfl rfl ⟨⟨0, List.mem_cons_self, rfl⟩, ⟨_, rfl, aIn_top _⟩, ⟨1, rfl, aR1_in (lo := 0) (hi := 1) (by decide) (by decide)⟩, trivial⟩ rfl hi) (C_close hi.nw hz.1.1 hz.2.2.1)) (fun x1 h1 hi1 => ?_)
    obtain ⟨hi1, fz⟩ := hi1
    have no : zsh h1 1000000 = none := hi1.sh (by decide +kernel)
    refine ex_pop (pc' := 1660) dL_law_1659 rfl rfl ?_
    refine ex_aload_n (pc' := 1661) dL_law_1660 hl.2.2.1 rfl ?_
    refine ex_aload_n (pc' := 1662) dL_law_1661 hl.1 rfl ?_
    refine ex_iload (pc' := 1664) dL_law_1662 hl.2.2.2.2 rfl ?_
    refine ex_iconst (v := nI 1) (pc' := 1665) dL_law_1664 (by decide) rfl ?_
    refine ex_iadd (pc' := 1666) (v := nI (i + 1)) dL_law_1665 (nI_add _ _) rfl ?_
    refine ex_sald (pc' := 1667) (n := L) (xs := xs) (v := xs (i + 1)) dL_law_1666 no rfl (sin hL (by omega)) (sxs hL (by omega)) rfl ?_
    refine ex_aload_n (pc' := 1668) dL_law_1667 hl.1 rfl ?_
    refine ex_iload (pc' := 1670) dL_law_1668 hl.2.2.2.2 rfl ?_
    refine ex_iconst (v := nI 2) (pc' := 1671) dL_law_1670 (by decide) rfl ?_
    refine ex_iadd (pc' := 1672) (v := nI (i + 2)) dL_law_1671 (nI_add _ _) rfl ?_
    refine ex_sald (pc' := 1673) (n := L) (xs := xs) (v := xs (i + 2)) dL_law_1672 no rfl (sin hL (by omega)) (sxs hL (by omega)) rfl ?_
    refine ex_if (pc' := 1680) (pc2 := 1676) dL_law_1673 (by decide) rfl (fun q => nomatch (q.symm.trans qc0)) (fun _ => ?_)
    refine ex_iconst (v := 1) (pc' := 1677) dL_law_1676 (by decide) rfl ?_
    refine ex_goto (pc' := 1681) dL_law_1677 (by decide) ?_
    refine ex_callvI (pc' := 1684) (vs := [.inl (xs (i + 1)), .inl (1)]) (rest := []) (n := 39) dL_law_1681 ml_13_202 ⟨zble rfl, zble rfl⟩ rfl rfl (hi1.sh (by decide +kernel)) (by decide) (zble rfl) rfl (zCi.pl (l_modM S_1251 (by decide +kernel) ⟨⟨196, List.mem_cons_self, rfl⟩, ⟨_, rfl, aIn_top _⟩, ⟨1, rfl, aR1_in (lo := 0) (hi := 1) (by decide) (by decide)⟩, trivial⟩ hi1) (M_close hi1.mw (hi1.pa hz.1.1) hi1.r15 (fun ne => hz.bm hi1 ne) (hz.lm hi1))) (fun x2 h2 hi2 => ?_)
    obtain ⟨hi2, gz⟩ := hi2
    obtain ⟨s', H', J', z2, ev, et⟩   := hz.two hx hi1 gz.1.G (cls_two (L1 := fun s H J => lNC A s H J h1) (L2 := fun s H J => lNM A s H J h2) hz.1.1.1 hz.2.1 (hx.nil hz) fz.2 gz.2)
    have no : zsh h2 1000000 = none := hi2.sh (by decide +kernel)
    refine ex_pop (pc' := 1685) dL_law_1684 rfl rfl ?_
    refine ex_goto (pc' := 1805) dL_law_1685 (by decide) ?_
    exact K _ _ hl (hi2.up) ⟨_, _, _, _, _, z2⟩
theorem lc_44 {t i L : Nat} {h : zH} {xs : Nat → Int32} {ls : zL} {A : pA} {c : Nat} {s : nS} {H J : List nS} (hL : L ≤ 3072) (hiL : i + 6 ≤ L) (hl : lLoc ls i) (hi : lInv t h) (hz : lZ A c s H J h) (hx : lX A c s H J h) (K : ∀ ls' h', lLoc ls' i → lInv (t + 1) h' → lZs h' → zEx (some (L, xs)) 1005 mL_law (1805, ls', [], h') zQL) : zEx (some (L, xs)) 1005 mL_law (1688, ls, [], h) zQL := by
  have no : zsh h 1000000 = none := hi.sh (by decide +kernel)
  refine ex_aload_n (pc' := 1689) dL_law_1688 hl.2.1 rfl ?_
  refine ex_callvI (pc' := 1692) (vs := []) (rest := []) (n := 16) dL_law_1689 ml_13_203 ⟨zble rfl, zble rfl⟩ rfl rfl (hi.sh (by decide +kernel)) (by decide) (zble rfl) rfl (zCi.pl (l_cls (k := false) S_282 S_441 (by decide +kernel) (by decide +kernel) rfl rfl ⟨⟨0, List.mem_cons_self, rfl⟩, trivial⟩ rfl hi) (C_undo hi.nw hz.b.1 hz.b.2 hz.2.2.1)) (fun x1 h1 hi1 => ?_)
  obtain ⟨hi1, fz⟩ := hi1
  have no : zsh h1 1000000 = none := hi1.sh (by decide +kernel)
  refine ex_pop (pc' := 1693) dL_law_1692 rfl rfl ?_
  refine ex_aload_n (pc' := 1694) dL_law_1693 hl.2.2.1 rfl ?_
  refine ex_callvI (pc' := 1697) (vs := []) (rest := []) (n := 39) dL_law_1694 ml_13_207 ⟨zble rfl, zble rfl⟩ rfl rfl (hi1.sh (by decide +kernel)) (by decide) (zble rfl) rfl (zCi.pl (l_modM S_1253 (by decide +kernel) ⟨⟨196, List.mem_cons_self, rfl⟩, trivial⟩ hi1) (M_undo hi1.mw hz.b.1 hz.b.2 (hz.lm hi1))) (fun x2 h2 hi2 => ?_)
  obtain ⟨hi2, gz⟩ := hi2
  obtain ⟨s', H', J', z2, ev, et⟩   := hz.two hx hi1 gz.1.G (und_two (L1 := fun s H J => lNC A s H J h1) (L2 := fun s H J => lNM A s H J h2) hz.2.1 (hx.nil hz) fz.2 gz.2)
  have no : zsh h2 1000000 = none := hi2.sh (by decide +kernel)
  refine ex_pop (pc' := 1698) dL_law_1697 rfl rfl ?_
  refine ex_goto (pc' := 1805) dL_law_1698 (by decide) ?_
  exact K _ _ hl (hi2.up) ⟨_, _, _, _, _, z2⟩
theorem lc_45 {t i L : Nat} {h : zH} {xs : Nat → Int32} {ls : zL} {A : pA} {c : Nat} {s : nS} {H J : List nS} (hL : L ≤ 3072) (hiL : i + 6 ≤ L) (hl : lLoc ls i) (hi : lInv t h) (hz : lZ A c s H J h) (hx : lX A c s H J h) (K : ∀ ls' h', lLoc ls' i → lInv (t + 1) h' → lZs h' → zEx (some (L, xs)) 1005 mL_law (1805, ls', [], h') zQL) : zEx (some (L, xs)) 1005 mL_law (1701, ls, [], h) zQL := by
  obtain ⟨hA, hT, hB⟩ := hz.1
  obtain ⟨n, hn, en⟩ := l_im hi
  have no : zsh h 1000000 = none := hi.sh (by decide +kernel)
  refine ex_aload_n (pc' := 1702) dL_law_1701 hl.2.1 rfl ?_
  refine ex_callvI (pc' := 1705) (vs := []) (rest := []) (n := 16) dL_law_1702 ml_13_208 ⟨zble rfl, zble rfl⟩ rfl rfl (hi.sh (by decide +kernel)) (by decide) (zble rfl) rfl (zCi.pl (l_image11 hi hA en hn) (C_image hi.nw hz.1.1 hz.b.1 hz.b.2 hz.2.2.1)) (fun x1 h1 hi1 => ?_)
  obtain ⟨⟨hi1, f4⟩, fz⟩ := hi1
  have no : zsh h1 1000000 = none := hi1.sh (by decide +kernel)
  refine ex_pop (pc' := 1706) dL_law_1705 rfl rfl ?_
  refine ex_aload_n (pc' := 1707) dL_law_1706 hl.2.2.1 rfl ?_
  refine ex_callvI (pc' := 1710) (vs := []) (rest := []) (n := 39) dL_law_1707 ml_13_211 ⟨zble rfl, zble rfl⟩ rfl rfl (hi1.sh (by decide +kernel)) (by decide) (zble rfl) rfl (zCi.pl (l_image12 hi1 (hi1.pa hA) (hi1.ims en) hn) (M_image hi1.mw (hi1.pa hz.1.1) hz.b.1 hz.b.2 (hz.lm hi1))) (fun x2 h2 hi2 => ?_)
  obtain ⟨⟨hi2, g4⟩, gz⟩ := hi2
  obtain ⟨s', H', J', z2, ev, et⟩   := hz.two hx hi1 gz.1.G (img_two (L1 := fun s H J => lNC A s H J h1) (L2 := fun s H J => lNM A s H J h2) hz.2.1 (hx.nil hz) fz.2 gz.2)
  have no : zsh h2 1000000 = none := hi2.sh (by decide +kernel)
  refine ex_pop (pc' := 1711) dL_law_1710 rfl rfl ?_
  refine ex_goto (pc' := 1805) dL_law_1711 (by decide) ?_
  exact K _ _ hl (hi2.up) ⟨_, _, _, _, _, z2⟩
theorem lc_46 {t i L : Nat} {h : zH} {xs : Nat → Int32} {ls : zL} {A : pA} {c : Nat} {s : nS} {H J : List nS} (hL : L ≤ 3072) (hiL : i + 6 ≤ L) (hl : lLoc ls i) (hi : lInv t h) (hz : lZ A c s H J h) (hx : lX A c s H J h) (K : ∀ ls' h', lLoc ls' i → lInv (t + 1) h' → lZs h' → zEx (some (L, xs)) 1005 mL_law (1805, ls', [], h') zQL) : zEx (some (L, xs)) 1005 mL_law (1714, ls, [], h) zQL := by
  have no : zsh h 1000000 = none := hi.sh (by decide +kernel)
  refine ex_aload_n (pc' := 1715) dL_law_1714 hl.2.1 rfl ?_
  refine ex_aload_n (pc' := 1716) dL_law_1715 hl.1 rfl ?_
  refine ex_iload (pc' := 1718) dL_law_1716 hl.2.2.2.2 rfl ?_
  refine ex_iconst (v := nI 1) (pc' := 1719) dL_law_1718 (by decide) rfl ?_
  refine ex_iadd (pc' := 1720) (v := nI (i + 1)) dL_law_1719 (nI_add _ _) rfl ?_
  refine ex_sald (pc' := 1721) (n := L) (xs := xs) (v := xs (i + 1)) dL_law_1720 no rfl (sin hL (by omega)) (sxs hL (by omega)) rfl ?_
  refine ex_callvI (pc' := 1724) (vs := [.inl (xs (i + 1))]) (rest := []) (n := 16) dL_law_1721 ml_13_212 ⟨zble rfl, zble rfl⟩ rfl rfl (hi.sh (by decide +kernel)) (by decide) (zble rfl) rfl (zCi.pl (l_cls (k := false) S_286 S_443 (by decide +kernel) (by decide +kernel) rfl rfl ⟨⟨0, List.mem_cons_self, rfl⟩, ⟨_, rfl, aIn_top _⟩, trivial⟩ rfl hi) (C_back hi.nw hz.b.1 hz.b.2 hz.2.2.1)) (fun x1 h1 hi1 => ?_)
  obtain ⟨hi1, fz⟩ := hi1
  have no : zsh h1 1000000 = none := hi1.sh (by decide +kernel)
  refine ex_pop (pc' := 1725) dL_law_1724 rfl rfl ?_
  refine ex_aload_n (pc' := 1726) dL_law_1725 hl.2.2.1 rfl ?_
  refine ex_aload_n (pc' := 1727) dL_law_1726 hl.1 rfl ?_
  refine ex_iload (pc' := 1729) dL_law_1727 hl.2.2.2.2 rfl ?_
  refine ex_iconst (v := nI 1) (pc' := 1730) dL_law_1729 (by decide) rfl ?_
  refine ex_iadd (pc' := 1731) (v := nI (i + 1)) dL_law_1730 (nI_add _ _) rfl ?_
  refine ex_sald (pc' := 1732) (n := L) (xs := xs) (v := xs (i + 1)) dL_law_1731 no rfl (sin hL (by omega)) (sxs hL (by omega)) rfl ?_
  refine ex_callvI (pc' := 1735) (vs := [.inl (xs (i + 1))]) (rest := []) (n := 39) dL_law_1732 ml_13_216 ⟨zble rfl, zble rfl⟩ rfl rfl (hi1.sh (by decide +kernel)) (by decide) (zble rfl) rfl (zCi.pl (l_modM S_1256 (by decide +kernel) ⟨⟨196, List.mem_cons_self, rfl⟩, ⟨_, rfl, aIn_top _⟩, trivial⟩ hi1) (M_back hi1.mw hz.b.1 hz.b.2 (hz.lm hi1))) (fun x2 h2 hi2 => ?_)
  obtain ⟨hi2, gz⟩ := hi2
  obtain ⟨s', H', J', z2, ev, et⟩   := hz.two hx hi1 gz.1.G (bck_two (L1 := fun s H J => lNC A s H J h1) (L2 := fun s H J => lNM A s H J h2) hz.2.1 (hx.nil hz) fz.2 gz.2)
  have no : zsh h2 1000000 = none := hi2.sh (by decide +kernel)
  refine ex_pop (pc' := 1736) dL_law_1735 rfl rfl ?_
  refine ex_goto (pc' := 1805) dL_law_1736 (by decide) ?_
  exact K _ _ hl (hi2.up) ⟨_, _, _, _, _, z2⟩
theorem lc_47 {t i L : Nat} {h : zH} {xs : Nat → Int32} {ls : zL} {A : pA} {c : Nat} {s : nS} {H J : List nS} (hL : L ≤ 3072) (hiL : i + 6 ≤ L) (hl : lLoc ls i) (hi : lInv t h) (hz : lZ A c s H J h) (hx : lX A c s H J h) (ht : t < 1000) (K : ∀ ls' h', lLoc ls' i → lInv (t + 1) h' → lZs h' → zEx (some (L, xs)) 1005 mL_law (1805, ls', [], h') zQL) : zEx (some (L, xs)) 1005 mL_law (1739, ls, [], h) zQL := by
  have no : zsh h 1000000 = none := hi.sh (by decide +kernel)
  refine ex_aload_n (pc' := 1740) dL_law_1739 hl.2.1 rfl ?_
  refine ex_aload_n (pc' := 1741) dL_law_1740 hl.1 rfl ?_
  refine ex_iload (pc' := 1743) dL_law_1741 hl.2.2.2.2 rfl ?_
  refine ex_iconst (v := nI 1) (pc' := 1744) dL_law_1743 (by decide) rfl ?_
  refine ex_iadd (pc' := 1745) (v := nI (i + 1)) dL_law_1744 (nI_add _ _) rfl ?_
  refine ex_sald (pc' := 1746) (n := L) (xs := xs) (v := xs (i + 1)) dL_law_1745 no rfl (sin hL (by omega)) (sxs hL (by omega)) rfl ?_
  refine ex_aload_n (pc' := 1747) dL_law_1746 hl.2.2.2.1 rfl ?_
  have kk : ∀ (z : Int32) (h1 : zH), lInv (t + 1) h1 → lZ A c s H J h1 → lX A c s H J h1 → zEx (some (L, xs)) 1005 mL_law (1750, ls, [.inl z], h1) zQL := by
    intro z h1 hi1 hz1 hx1
    have no : zsh h1 1000000 = none := hi1.sh (by decide +kernel)
    refine ex_istore (pc' := 1752) dL_law_1750 (by decide) rfl rfl ?_
    have hl := hl.st (v := z) (k := 5) (by decide)
    refine ex_aload_n (pc' := 1753) dL_law_1752 hl.2.2.1 rfl ?_
    refine ex_aload_n (pc' := 1754) dL_law_1753 hl.1 rfl ?_
    refine ex_iload (pc' := 1756) dL_law_1754 hl.2.2.2.2 rfl ?_
    refine ex_iconst (v := nI 1) (pc' := 1757) dL_law_1756 (by decide) rfl ?_
    refine ex_iadd (pc' := 1758) (v := nI (i + 1)) dL_law_1757 (nI_add _ _) rfl ?_
    refine ex_sald (pc' := 1759) (n := L) (xs := xs) (v := xs (i + 1)) dL_law_1758 no rfl (sin hL (by omega)) (sxs hL (by omega)) rfl ?_
    refine ex_callvI (pc' := 1762) (vs := [.inl (xs (i + 1))]) (rest := []) (n := 39) dL_law_1759 ml_13_222 ⟨zble rfl, zble rfl⟩ rfl rfl (hi1.sh (by decide +kernel)) (by decide) (zble rfl) rfl (zCi.pl (l_modM S_1261 (by decide +kernel) ⟨⟨196, List.mem_cons_self, rfl⟩, ⟨_, rfl, aIn_top _⟩, trivial⟩ hi1.mid) (n_mod S_1261 (by decide +kernel) ⟨⟨196, List.mem_cons_self, rfl⟩, ⟨_, rfl, aIn_top _⟩, trivial⟩ hi1.dn)) (fun x2 h2 hi2 => ?_)
    obtain ⟨hi2, gz⟩ := hi2
    have z2 := And.intro (hz1.mid.ref hz1 gz) (hx1.fr (fun j => gz.1 c j (by have hc : c = 2 ∨ c = 42 := hz1.1.1.2.1; omega)))
    have no : zsh h2 1000000 = none := hi2.sh (by decide +kernel)
    refine ex_istore (pc' := 1764) dL_law_1762 (by decide) rfl rfl ?_
    have hl := hl.st (v := x2) (k := 6) (by decide)
    refine ex_goto (pc' := 1805) dL_law_1764 (by decide) ?_
    exact K _ _ hl hi2 ⟨_, _, _, _, _, z2⟩
  refine ex_led (pc' := 1750) (rest := []) dL_law_1747 ml_13_217 rfl ⟨zble rfl, hi.sh (by decide +kernel), hi.sh (by decide +kernel), Nat.lt_of_le_of_lt hi.2.2.2.1 ht⟩ rfl (l_led2 hi ht) (fun v h1 hq => ?_)
  rcases hq with ⟨b, e, hi1, ed⟩ | ⟨e, hi1, ed⟩
  · exact .inl ⟨b, e, kk _ _ hi1 (hz.led ed) (hx.led ed)⟩
  · exact .inr ⟨e, kk _ _ hi1 (hz.led ed) (hx.led ed)⟩
theorem lc_48 {t i L : Nat} {h : zH} {xs : Nat → Int32} {ls : zL} {A : pA} {c : Nat} {s : nS} {H J : List nS} (hL : L ≤ 3072) (hiL : i + 6 ≤ L) (hl : lLoc ls i) (hi : lInv t h) (hz : lZ A c s H J h) (hx : lX A c s H J h) (K : ∀ ls' h', lLoc ls' i → lInv (t + 1) h' → lZs h' → zEx (some (L, xs)) 1005 mL_law (1805, ls', [], h') zQL) : zEx (some (L, xs)) 1005 mL_law (1767, ls, [], h) zQL := by
  have no : zsh h 1000000 = none := hi.sh (by decide +kernel)
  refine ex_aload_n (pc' := 1768) dL_law_1767 hl.2.1 rfl ?_
  refine ex_aload_n (pc' := 1769) dL_law_1768 hl.1 rfl ?_
  refine ex_iload (pc' := 1771) dL_law_1769 hl.2.2.2.2 rfl ?_
  refine ex_iconst (v := nI 1) (pc' := 1772) dL_law_1771 (by decide) rfl ?_
  refine ex_iadd (pc' := 1773) (v := nI (i + 1)) dL_law_1772 (nI_add _ _) rfl ?_
  refine ex_sald (pc' := 1774) (n := L) (xs := xs) (v := xs (i + 1)) dL_law_1773 no rfl (sin hL (by omega)) (sxs hL (by omega)) rfl ?_
  refine ex_callvI (pc' := 1777) (vs := [.inl (xs (i + 1))]) (rest := []) (n := 16) dL_law_1774 ml_13_223 ⟨zble rfl, zble rfl⟩ rfl rfl (hi.sh (by decide +kernel)) (by decide) (zble rfl) rfl (zCi.pl (l_cls (k := true) S_287 S_444 (by decide +kernel) (by decide +kernel) rfl rfl ⟨⟨0, List.mem_cons_self, rfl⟩, ⟨_, rfl, aIn_top _⟩, trivial⟩ rfl hi) (n_cls S_287 S_444 (by decide +kernel) rfl rfl ⟨⟨0, List.mem_cons_self, rfl⟩, ⟨_, rfl, aIn_top _⟩, trivial⟩ rfl hi)) (fun x1 h1 hi1 => ?_)
  obtain ⟨hi1, fz⟩ := hi1
  have z1 := hz.cls hi1 fz
  have no : zsh h1 1000000 = none := hi1.sh (by decide +kernel)
  refine ex_pop (pc' := 1778) dL_law_1777 rfl rfl ?_
  refine ex_aload_n (pc' := 1779) dL_law_1778 hl.2.2.1 rfl ?_
  refine ex_aload_n (pc' := 1780) dL_law_1779 hl.1 rfl ?_
  refine ex_iload (pc' := 1782) dL_law_1780 hl.2.2.2.2 rfl ?_
  refine ex_iconst (v := nI 1) (pc' := 1783) dL_law_1782 (by decide) rfl ?_
  refine ex_iadd (pc' := 1784) (v := nI (i + 1)) dL_law_1783 (nI_add _ _) rfl ?_
  refine ex_sald (pc' := 1785) (n := L) (xs := xs) (v := xs (i + 1)) dL_law_1784 no rfl (sin hL (by omega)) (sxs hL (by omega)) rfl ?_
  refine ex_callvI (pc' := 1788) (vs := [.inl (xs (i + 1))]) (rest := []) (n := 39) dL_law_1785 ml_13_226 ⟨zble rfl, zble rfl⟩ rfl rfl (hi1.sh (by decide +kernel)) (by decide) (zble rfl) rfl (zCi.pl (l_modM S_1259 (by decide +kernel) ⟨⟨196, List.mem_cons_self, rfl⟩, ⟨_, rfl, aIn_top _⟩, trivial⟩ hi1) (n_mod S_1259 (by decide +kernel) ⟨⟨196, List.mem_cons_self, rfl⟩, ⟨_, rfl, aIn_top _⟩, trivial⟩ hi1.2.1)) (fun x2 h2 hi2 => ?_)
  obtain ⟨hi2, gz⟩ := hi2
  have z2 := And.intro (z1.ref hz gz) (hx.na hz hi1 gz)
  have no : zsh h2 1000000 = none := hi2.sh (by decide +kernel)
  refine ex_pop (pc' := 1789) dL_law_1788 rfl rfl ?_
  refine ex_goto (pc' := 1805) dL_law_1789 (by decide) ?_
  exact K _ _ hl (hi2.up) ⟨_, _, _, _, _, z2⟩
theorem lc_49 {t i L : Nat} {h : zH} {xs : Nat → Int32} {ls : zL} {A : pA} {c : Nat} {s : nS} {H J : List nS} (hL : L ≤ 3072) (hiL : i + 6 ≤ L) (hl : lLoc ls i) (hi : lInv t h) (hz : lZ A c s H J h) (hx : lX A c s H J h) (K : ∀ ls' h', lLoc ls' i → lInv (t + 1) h' → lZs h' → zEx (some (L, xs)) 1005 mL_law (1805, ls', [], h') zQL) : zEx (some (L, xs)) 1005 mL_law (1792, ls, [], h) zQL := by
  have no : zsh h 1000000 = none := hi.sh (by decide +kernel)
  refine ex_aload_n (pc' := 1793) dL_law_1792 hl.2.1 rfl ?_
  refine ex_callvI (pc' := 1796) (vs := []) (rest := []) (n := 16) dL_law_1793 ml_13_227 ⟨zble rfl, zble rfl⟩ rfl rfl (hi.sh (by decide +kernel)) (by decide) (zble rfl) rfl (zCi.pl (l_cls (k := true) S_288 S_445 (by decide +kernel) (by decide +kernel) rfl rfl ⟨⟨0, List.mem_cons_self, rfl⟩, trivial⟩ rfl hi) (n_cls S_288 S_445 (by decide +kernel) rfl rfl ⟨⟨0, List.mem_cons_self, rfl⟩, trivial⟩ rfl hi)) (fun x1 h1 hi1 => ?_)
  obtain ⟨hi1, fz⟩ := hi1
  have z1 := hz.cls hi1 fz
  have no : zsh h1 1000000 = none := hi1.sh (by decide +kernel)
  refine ex_pop (pc' := 1797) dL_law_1796 rfl rfl ?_
  refine ex_aload_n (pc' := 1798) dL_law_1797 hl.2.2.1 rfl ?_
  refine ex_callvI (pc' := 1801) (vs := []) (rest := []) (n := 39) dL_law_1798 ml_13_230 ⟨zble rfl, zble rfl⟩ rfl rfl (hi1.sh (by decide +kernel)) (by decide) (zble rfl) rfl (zCi.pl (l_modM S_1260 (by decide +kernel) ⟨⟨196, List.mem_cons_self, rfl⟩, trivial⟩ hi1) (n_mod S_1260 (by decide +kernel) ⟨⟨196, List.mem_cons_self, rfl⟩, trivial⟩ hi1.2.1)) (fun x2 h2 hi2 => ?_)
  obtain ⟨hi2, gz⟩ := hi2
  have z2 := And.intro (z1.ref hz gz) (hx.na hz hi1 gz)
  have no : zsh h2 1000000 = none := hi2.sh (by decide +kernel)
  refine ex_pop (pc' := 1802) dL_law_1801 rfl rfl ?_
  refine ex_goto (pc' := 1805) dL_law_1802 (by decide) ?_
  exact K _ _ hl (hi2.up) ⟨_, _, _, _, _, z2⟩
theorem lc_at {t i L : Nat} {h : zH} {xs : Nat → Int32} {ls : zL} (hL : L ≤ 3072) (hiL : i + 6 ≤ L) (hl : lLoc ls i) (hi : lInv t h) (hzs : lZs h) (ht : t < 1000) (K : ∀ ls' h', lLoc ls' i → lInv (t + 1) h' → lZs h' → zEx (some (L, xs)) 1005 mL_law (1805, ls', [], h') zQL) : ∀ j : Nat, j < 50 → ∃ off : Int, (#[216, 289, 314, 327, 340, 377, 414, 439, 476, 513, 538, 575, 600, 649, 674, 711, 724, 737, 774, 811, 836, 861, 898, 923, 984, 1021, 1046, 1071, 1108, 1161, 1174, 1187, 1212, 1273, 1286, 1323, 1348, 1385, 1410, 1447, 1484, 1521, 1570, 1595, 1648, 1661, 1674, 1699, 1727, 1752] : Array Int)[j]? = some off ∧ ∃ pc : Nat, (40 : Int) + off = (pc : Int) ∧ zEx (some (L, xs)) 1005 mL_law (pc, ls, [], h) zQL := by
  intro j hj
  obtain ⟨A, c, s, H, J, hz, hx⟩ := hzs
  match j, hj with
  | 0, _ => exact ⟨216, rfl, 256, rfl, lc_0 hL hiL hl hi hz hx K⟩
  | 1, _ => exact ⟨289, rfl, 329, rfl, lc_1 hL hiL hl hi hz hx K⟩
  | 2, _ => exact ⟨314, rfl, 354, rfl, lc_2 hL hiL hl hi hz hx K⟩
  | 3, _ => exact ⟨327, rfl, 367, rfl, lc_3 hL hiL hl hi hz hx K⟩
  | 4, _ => exact ⟨340, rfl, 380, rfl, lc_4 hL hiL hl hi hz hx K⟩
  | 5, _ => exact ⟨377, rfl, 417, rfl, lc_5 hL hiL hl hi hz hx K⟩
  | 6, _ => exact ⟨414, rfl, 454, rfl, lc_6 hL hiL hl hi hz hx K⟩
  | 7, _ => exact ⟨439, rfl, 479, rfl, lc_7 hL hiL hl hi hz hx K⟩
  | 8, _ => exact ⟨476, rfl, 516, rfl, lc_8 hL hiL hl hi hz hx K⟩
  | 9, _ => exact ⟨513, rfl, 553, rfl, lc_9 hL hiL hl hi hz hx K⟩
  | 10, _ => exact ⟨538, rfl, 578, rfl, lc_10 hL hiL hl hi hz hx K⟩
  | 11, _ => exact ⟨575, rfl, 615, rfl, lc_11 hL hiL hl hi hz hx K⟩
  | 12, _ => exact ⟨600, rfl, 640, rfl, lc_12 hL hiL hl hi hz hx K⟩
  | 13, _ => exact ⟨649, rfl, 689, rfl, lc_13 hL hiL hl hi hz hx K⟩
  | 14, _ => exact ⟨674, rfl, 714, rfl, lc_14 hL hiL hl hi hz hx K⟩
  | 15, _ => exact ⟨711, rfl, 751, rfl, lc_15 hL hiL hl hi hz hx K⟩
  | 16, _ => exact ⟨724, rfl, 764, rfl, lc_16 hL hiL hl hi hz hx K⟩
  | 17, _ => exact ⟨737, rfl, 777, rfl, lc_17 hL hiL hl hi hz hx K⟩
  | 18, _ => exact ⟨774, rfl, 814, rfl, lc_18 hL hiL hl hi hz hx K⟩
  | 19, _ => exact ⟨811, rfl, 851, rfl, lc_19 hL hiL hl hi hz hx K⟩
  | 20, _ => exact ⟨836, rfl, 876, rfl, lc_20 hL hiL hl hi hz hx K⟩
  | 21, _ => exact ⟨861, rfl, 901, rfl, lc_21 hL hiL hl hi hz hx K⟩
  | 22, _ => exact ⟨898, rfl, 938, rfl, lc_22 hL hiL hl hi hz hx K⟩
  | 23, _ => exact ⟨923, rfl, 963, rfl, lc_23 hL hiL hl hi hz hx K⟩
  | 24, _ => exact ⟨984, rfl, 1024, rfl, lc_24 hL hiL hl hi hz hx K⟩
  | 25, _ => exact ⟨1021, rfl, 1061, rfl, lc_25 hL hiL hl hi hz hx K⟩
  | 26, _ => exact ⟨1046, rfl, 1086, rfl, lc_26 hL hiL hl hi hz hx K⟩
  | 27, _ => exact ⟨1071, rfl, 1111, rfl, lc_27 hL hiL hl hi hz hx K⟩
  | 28, _ => exact ⟨1108, rfl, 1148, rfl, lc_28 hL hiL hl hi hz hx K⟩
  | 29, _ => exact ⟨1161, rfl, 1201, rfl, lc_29 hL hiL hl hi hz hx K⟩
  | 30, _ => exact ⟨1174, rfl, 1214, rfl, lc_30 hL hiL hl hi hz hx K⟩
  | 31, _ => exact ⟨1187, rfl, 1227, rfl, lc_31 hL hiL hl hi hz hx K⟩
  | 32, _ => exact ⟨1212, rfl, 1252, rfl, lc_32 hL hiL hl hi hz hx K⟩
  | 33, _ => exact ⟨1273, rfl, 1313, rfl, lc_33 hL hiL hl hi hz hx K⟩
  | 34, _ => exact ⟨1286, rfl, 1326, rfl, lc_34 hL hiL hl hi hz hx K⟩
  | 35, _ => exact ⟨1323, rfl, 1363, rfl, lc_35 hL hiL hl hi hz hx K⟩
  | 36, _ => exact ⟨1348, rfl, 1388, rfl, lc_36 hL hiL hl hi hz hx K⟩
  | 37, _ => exact ⟨1385, rfl, 1425, rfl, lc_37 hL hiL hl hi hz hx K⟩
  | 38, _ => exact ⟨1410, rfl, 1450, rfl, lc_38 hL hiL hl hi hz hx K⟩
  | 39, _ => exact ⟨1447, rfl, 1487, rfl, lc_39 hL hiL hl hi hz hx K⟩
  | 40, _ => exact ⟨1484, rfl, 1524, rfl, lc_40 hL hiL hl hi hz hx K⟩
  | 41, _ => exact ⟨1521, rfl, 1561, rfl, lc_41 hL hiL hl hi hz hx K⟩
  | 42, _ => exact ⟨1570, rfl, 1610, rfl, lc_42 hL hiL hl hi hz hx K⟩
  | 43, _ => exact ⟨1595, rfl, 1635, rfl, lc_43 hL hiL hl hi hz hx K⟩
  | 44, _ => exact ⟨1648, rfl, 1688, rfl, lc_44 hL hiL hl hi hz hx K⟩
  | 45, _ => exact ⟨1661, rfl, 1701, rfl, lc_45 hL hiL hl hi hz hx K⟩
  | 46, _ => exact ⟨1674, rfl, 1714, rfl, lc_46 hL hiL hl hi hz hx K⟩
  | 47, _ => exact ⟨1699, rfl, 1739, rfl, lc_47 hL hiL hl hi hz hx ht K⟩
  | 48, _ => exact ⟨1727, rfl, 1767, rfl, lc_48 hL hiL hl hi hz hx K⟩
  | 49, _ => exact ⟨1752, rfl, 1792, rfl, lc_49 hL hiL hl hi hz hx K⟩
  | n + 50, hj => omega
end Pk0
section Pk1
/-! the law says true of every script of at most 3072 -/
theorem l_loop2 {L : Nat} {xs : Nat → Int32} (hL : L ≤ 3072) : ∀ (n i t : Nat) (h : zH) (ls : zL), L < i + 6 * n + 6 → i ≤ L → t + n ≤ 900 → lInv t h → lZs h → lLoc ls i → zEx (some (L, xs)) 1005 mL_law (23, ls, [], h) zQL := by
  intro n
  induction n with
  | zero =>
    intro i t h ls h1 h2 h3 hi hzs hl
    have no : zsh h 1000000 = none := hi.sh (by decide +kernel)
    have e6 : (nI L - 6).toInt = (L : Int) - 6 := by
      rw [Int32.toInt_sub, nI_toInt (by omega)]
      exact bmod_fit (by have : (6 : Int32).toInt = 6 := by decide
                         omega) (by have : (6 : Int32).toInt = 6 := by decide
                                    omega)
    refine ex_iload (pc' := 25) dL_law_23 hl.2.2.2.2 rfl ?_
    refine ex_aload_n (pc' := 26) dL_law_25 hl.1 rfl ?_
    refine ex_slen (pc' := 27) (n := L) (xs := xs) (v := nI L) dL_law_26 no rfl rfl rfl ?_
    refine ex_bipush (v := 6) (pc' := 29) dL_law_27 (by decide) rfl ?_
    refine ex_isub (pc' := 30) (v := nI L - 6) dL_law_29 rfl rfl ?_
    refine ex_icmp_t (pc' := 1811) dL_law_30 (zj_gt (by rw [e6, nI_toInt (by omega)]; omega)) (by decide) ?_
    refine ex_iconst (v := 1) (pc' := 1812) dL_law_1811 (by decide) rfl ?_
    exact ex_iret dL_law_1812 rfl (by decide) ⟨rfl, by rw [hi.2.2.2.2.1]; exact zble rfl, by rw [hi.2.2.2.2.1]; exact zble rfl, by have := hi.2.2.2.1; omega⟩
  | succ n ih =>
    intro i t h ls h1 h2 h3 hi hzs hl
    have no : zsh h 1000000 = none := hi.sh (by decide +kernel)
    have e6 : (nI L - 6).toInt = (L : Int) - 6 := by
      rw [Int32.toInt_sub, nI_toInt (by omega)]
      exact bmod_fit (by have : (6 : Int32).toInt = 6 := by decide
                         omega) (by have : (6 : Int32).toInt = 6 := by decide
                                    omega)
    refine ex_iload (pc' := 25) dL_law_23 hl.2.2.2.2 rfl ?_
    refine ex_aload_n (pc' := 26) dL_law_25 hl.1 rfl ?_
    refine ex_slen (pc' := 27) (n := L) (xs := xs) (v := nI L) dL_law_26 no rfl rfl rfl ?_
    refine ex_bipush (v := 6) (pc' := 29) dL_law_27 (by decide) rfl ?_
    refine ex_isub (pc' := 30) (v := nI L - 6) dL_law_29 rfl rfl ?_
    by_cases hc : i + 6 ≤ L
    · refine ex_icmp_f (pc' := 33) dL_law_30 (zj_ngt (by rw [e6, nI_toInt (by omega)]; omega)) (by decide) rfl ?_
      refine ex_aload_n (pc' := 34) dL_law_33 hl.1 rfl ?_
      refine ex_iload (pc' := 36) dL_law_34 hl.2.2.2.2 rfl ?_
      refine ex_sald (pc' := 37) (n := L) (xs := xs) (v := xs i) dL_law_36 no rfl (zn_in (by omega) (by omega)) (by rw [nI_clamp (by omega)]) rfl ?_
      refine ex_bipush (v := 63) (pc' := 39) dL_law_37 (by decide) rfl ?_
      refine ex_iand (pc' := 40) (v := xs i &&& 63) dL_law_39 rfl rfl ?_
      have K : ∀ ls' h', lLoc ls' i → lInv (t + 1) h' → lZs h' → zEx (some (L, xs)) 1005 mL_law (1805, ls', [], h') zQL := by
        intro ls' h' hl' hi' hz'
        refine ex_iinc (pc' := 1808) (v := nI (i + 6)) dL_law_1805 hl'.2.2.2.2 (by decide) (nI_add i 6) rfl rfl ?_
        refine ex_goto (pc' := 23) dL_law_1808 (by decide) ?_
        exact ih (i + 6) (t + 1) h' _ (by omega) (by omega) (by omega) hi' hz' ⟨zget_s1 hl'.1 (by decide) (by simp [zcat]), zget_s1 hl'.2.1 (by decide) (by simp [zcat]), zget_s1 hl'.2.2.1 (by decide) (by simp [zcat]), zget_s1 hl'.2.2.2.1 (by decide) (by simp [zcat]), zget_s1e⟩
      by_cases hb : (xs i &&& 63).toInt < 0 ∨ 49 < (xs i &&& 63).toInt
      · exact ex_switch (pc' := 1805) dL_law_40 (fun _ => by decide) (fun q => absurd hb q) (K ls h hl hi.up hzs)
      · obtain ⟨off, e1, pc, e2, k⟩ := lc_at hL hc hl hi hzs (by omega) K ((xs i &&& 63).toInt - 0).toNat (by omega)
        exact ex_switch (pc' := pc) dL_law_40 (fun q => absurd q hb) (fun _ => ⟨off, e1, e2⟩) k
    · refine ex_icmp_t (pc' := 1811) dL_law_30 (zj_gt (by rw [e6, nI_toInt (by omega)]; omega)) (by decide) ?_
      refine ex_iconst (v := 1) (pc' := 1812) dL_law_1811 (by decide) rfl ?_
      exact ex_iret dL_law_1812 rfl (by decide) ⟨rfl, by rw [hi.2.2.2.2.1]; exact zble rfl, by rw [hi.2.2.2.2.1]; exact zble rfl, by have := hi.2.2.2.1; omega⟩
end Pk1
