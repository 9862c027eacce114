/-! the roads of the law on the fresh heap, by program -/
def zQL (v : Option zV) (h' : zH) : Prop := v = some (.inl 1) ∧ h'.1.1 ≤ 1000 ∧ h'.1.2.2 ≤ 100000 ∧ h'.2.2.2.2 ≤ 1
set_option maxRecDepth 10000 in
theorem kl_op_0 (d : Nat) (xs : Nat → Int32) : zEx (some (6, xs)) (d + 4) mL_law (256, [(4, .inl 0), (3, .inr (.inr (some 213))), (2, .inr (.inr (some 196))), (1, .inr (.inr (some 0))), (0, .inr (.inr (some 1000000)))], [], hh_487) zQL := by
  have s1000000 : zsh hh_487 1000000 = none := by decide +kernel
  have s0 : zsh hh_487 0 = some (11, 16) := by decide +kernel
  have s1 : zsh hh_487 1 = some (13, 1000) := by decide +kernel
  have s196 : zsh hh_487 196 = some (12, 39) := by decide +kernel
  have s197 : zsh hh_487 197 = some (14, 1000) := by decide +kernel
  have i0_1 : hh_487.2.1 0 1 = 0 := by decide +kernel
  have i196_2 : hh_487.2.1 196 2 = 0 := by decide +kernel
  have r0_0 : hh_487.2.2.2.1 0 0 = some 1 := by decide +kernel
  have r196_1 : hh_487.2.2.2.1 196 1 = some 197 := by decide +kernel
  refine ex_aload_n (pc' := 257) dL_law_256 rfl rfl ?_
  refine ex_aload_n (pc' := 258) dL_law_257 rfl rfl ?_
  refine ex_iload (pc' := 260) dL_law_258 rfl rfl ?_
  refine ex_iconst (v := 1) (pc' := 261) dL_law_260 (by decide) rfl ?_
  refine ex_iadd (pc' := 262) (v := 1) dL_law_261 (by decide) rfl ?_
  refine ex_sald (pc' := 263) (n := 6) (xs := xs) (v := xs 1) dL_law_262 s1000000 rfl (by decide) rfl rfl ?_
  refine ex_aload_n (pc' := 264) dL_law_263 rfl rfl ?_
  refine ex_iload (pc' := 266) dL_law_264 rfl rfl ?_
  refine ex_iconst (v := 2) (pc' := 267) dL_law_266 (by decide) rfl ?_
  refine ex_iadd (pc' := 268) (v := 2) dL_law_267 (by decide) rfl ?_
  refine ex_sald (pc' := 269) (n := 6) (xs := xs) (v := xs 2) dL_law_268 s1000000 rfl (by decide) rfl rfl ?_
  refine ex_aload_n (pc' := 270) dL_law_269 rfl rfl ?_
  refine ex_iload (pc' := 272) dL_law_270 rfl rfl ?_
  refine ex_iconst (v := 3) (pc' := 273) dL_law_272 (by decide) rfl ?_
  refine ex_iadd (pc' := 274) (v := 3) dL_law_273 (by decide) rfl ?_
  refine ex_sald (pc' := 275) (n := 6) (xs := xs) (v := xs 3) dL_law_274 s1000000 rfl (by decide) rfl rfl ?_
  refine ex_aload_n (pc' := 276) dL_law_275 rfl rfl ?_
  refine ex_iload (pc' := 278) dL_law_276 rfl rfl ?_
  refine ex_iconst (v := 4) (pc' := 279) dL_law_278 (by decide) rfl ?_
  refine ex_iadd (pc' := 280) (v := 4) dL_law_279 (by decide) rfl ?_
  refine ex_sald (pc' := 281) (n := 6) (xs := xs) (v := xs 4) dL_law_280 s1000000 rfl (by decide) rfl rfl ?_
  refine ex_aload_n (pc' := 282) dL_law_281 rfl rfl ?_
  refine ex_iload (pc' := 284) dL_law_282 rfl rfl ?_
  refine ex_iconst (v := 5) (pc' := 285) dL_law_284 (by decide) rfl ?_
  refine ex_iadd (pc' := 286) (v := 5) dL_law_285 (by decide) rfl ?_
  refine ex_sald (pc' := 287) (n := 6) (xs := xs) (v := xs 5) dL_law_286 s1000000 rfl (by decide) rfl rfl ?_
  refine en_callvI (pc' := 290) (vs := [.inl (xs 1), .inl (xs 2), .inl (xs 3), .inl (xs 4), .inl (xs 5)]) (rest := []) (h2 := zsI (zsI (zsI (zsI (zsI (zsI (zsI (zsI (zsI (zsI (zsI (zsI (zsI (zsI (zsI (zsI (zsI (zsI (zsI (zsI (zsI (zsI (zsI (zsI (zsI (zsI (zsI (zsI (zsI (zsI (zsI (zsI (zsI (zsI (zsI (zsI (zsI (zsI (zsI (zsI (hh_487) 1 0 (vp_nar .byte (((xs 1) >>> (24 &&& 31)).toInt8.toInt32))) 0 1 1) 1 1 (vp_nar .byte (((xs 1) >>> (16 &&& 31)).toInt8.toInt32))) 0 1 2) 1 2 (vp_nar .byte (((xs 1) >>> (8 &&& 31)).toInt8.toInt32))) 0 1 3) 1 3 (vp_nar .byte (((xs 1) >>> (0 &&& 31)).toInt8.toInt32))) 0 1 4) 1 4 (vp_nar .byte (((xs 2) >>> (24 &&& 31)).toInt8.toInt32))) 0 1 5) 1 5 (vp_nar .byte (((xs 2) >>> (16 &&& 31)).toInt8.toInt32))) 0 1 6) 1 6 (vp_nar .byte (((xs 2) >>> (8 &&& 31)).toInt8.toInt32))) 0 1 7) 1 7 (vp_nar .byte (((xs 2) >>> (0 &&& 31)).toInt8.toInt32))) 0 1 8) 1 8 (vp_nar .byte (((xs 3) >>> (24 &&& 31)).toInt8.toInt32))) 0 1 9) 1 9 (vp_nar .byte (((xs 3) >>> (16 &&& 31)).toInt8.toInt32))) 0 1 10) 1 10 (vp_nar .byte (((xs 3) >>> (8 &&& 31)).toInt8.toInt32))) 0 1 11) 1 11 (vp_nar .byte (((xs 3) >>> (0 &&& 31)).toInt8.toInt32))) 0 1 12) 1 12 (vp_nar .byte (((xs 4) >>> (24 &&& 31)).toInt8.toInt32))) 0 1 13) 1 13 (vp_nar .byte (((xs 4) >>> (16 &&& 31)).toInt8.toInt32))) 0 1 14) 1 14 (vp_nar .byte (((xs 4) >>> (8 &&& 31)).toInt8.toInt32))) 0 1 15) 1 15 (vp_nar .byte (((xs 4) >>> (0 &&& 31)).toInt8.toInt32))) 0 1 16) 1 16 (vp_nar .byte (((xs 5) >>> (24 &&& 31)).toInt8.toInt32))) 0 1 17) 1 17 (vp_nar .byte (((xs 5) >>> (16 &&& 31)).toInt8.toInt32))) 0 1 18) 1 18 (vp_nar .byte (((xs 5) >>> (8 &&& 31)).toInt8.toInt32))) 0 1 19) 1 19 (vp_nar .byte (((xs 5) >>> (0 &&& 31)).toInt8.toInt32))) 0 1 20) (v := 20) dL_law_287 ml_13_19 ⟨zble rfl, zble rfl⟩ rfl rfl s0 (zblt rfl) (zble rfl) rfl (kX11_feed_1 _ hh_487 (xs 1) (xs 2) (xs 3) (xs 4) (xs 5) s0 s1 i0_1 r0_0) ?_
  refine ex_aload_n (pc' := 291) dL_law_290 rfl rfl ?_
  refine ex_aload_n (pc' := 292) dL_law_291 rfl rfl ?_
  refine ex_iload (pc' := 294) dL_law_292 rfl rfl ?_
  refine ex_iconst (v := 1) (pc' := 295) dL_law_294 (by decide) rfl ?_
  refine ex_iadd (pc' := 296) (v := 1) dL_law_295 (by decide) rfl ?_
  refine ex_sald (pc' := 297) (n := 6) (xs := xs) (v := xs 1) dL_law_296 (zsiI (zsiI (zsiI (zsiI (zsiI (zsiI (zsiI (zsiI (zsiI (zsiI (zsiI (zsiI (zsiI (zsiI (zsiI (zsiI (zsiI (zsiI (zsiI (zsiI (zsiI (zsiI (zsiI (zsiI (zsiI (zsiI (zsiI (zsiI (zsiI (zsiI (zsiI (zsiI (zsiI (zsiI (zsiI (zsiI (zsiI (zsiI (zsiI (zsiI s1000000)))))))))))))))))))))))))))))))))))))))) rfl (by decide) rfl rfl ?_
  refine ex_aload_n (pc' := 298) dL_law_297 rfl rfl ?_
  refine ex_iload (pc' := 300) dL_law_298 rfl rfl ?_
  refine ex_iconst (v := 2) (pc' := 301) dL_law_300 (by decide) rfl ?_
  refine ex_iadd (pc' := 302) (v := 2) dL_law_301 (by decide) rfl ?_
  refine ex_sald (pc' := 303) (n := 6) (xs := xs) (v := xs 2) dL_law_302 (zsiI (zsiI (zsiI (zsiI (zsiI (zsiI (zsiI (zsiI (zsiI (zsiI (zsiI (zsiI (zsiI (zsiI (zsiI (zsiI (zsiI (zsiI (zsiI (zsiI (zsiI (zsiI (zsiI (zsiI (zsiI (zsiI (zsiI (zsiI (zsiI (zsiI (zsiI (zsiI (zsiI (zsiI (zsiI (zsiI (zsiI (zsiI (zsiI (zsiI s1000000)))))))))))))))))))))))))))))))))))))))) rfl (by decide) rfl rfl ?_
  refine ex_aload_n (pc' := 304) dL_law_303 rfl rfl ?_
  refine ex_iload (pc' := 306) dL_law_304 rfl rfl ?_
  refine ex_iconst (v := 3) (pc' := 307) dL_law_306 (by decide) rfl ?_
  refine ex_iadd (pc' := 308) (v := 3) dL_law_307 (by decide) rfl ?_
  refine ex_sald (pc' := 309) (n := 6) (xs := xs) (v := xs 3) dL_law_308 (zsiI (zsiI (zsiI (zsiI (zsiI (zsiI (zsiI (zsiI (zsiI (zsiI (zsiI (zsiI (zsiI (zsiI (zsiI (zsiI (zsiI (zsiI (zsiI (zsiI (zsiI (zsiI (zsiI (zsiI (zsiI (zsiI (zsiI (zsiI (zsiI (zsiI (zsiI (zsiI (zsiI (zsiI (zsiI (zsiI (zsiI (zsiI (zsiI (zsiI s1000000)))))))))))))))))))))))))))))))))))))))) rfl (by decide) rfl rfl ?_
  refine ex_aload_n (pc' := 310) dL_law_309 rfl rfl ?_
  refine ex_iload (pc' := 312) dL_law_310 rfl rfl ?_
  refine ex_iconst (v := 4) (pc' := 313) dL_law_312 (by decide) rfl ?_
  refine ex_iadd (pc' := 314) (v := 4) dL_law_313 (by decide) rfl ?_
  refine ex_sald (pc' := 315) (n := 6) (xs := xs) (v := xs 4) dL_law_314 (zsiI (zsiI (zsiI (zsiI (zsiI (zsiI (zsiI (zsiI (zsiI (zsiI (zsiI (zsiI (zsiI (zsiI (zsiI (zsiI (zsiI (zsiI (zsiI (zsiI (zsiI (zsiI (zsiI (zsiI (zsiI (zsiI (zsiI (zsiI (zsiI (zsiI (zsiI (zsiI (zsiI (zsiI (zsiI (zsiI (zsiI (zsiI (zsiI (zsiI s1000000)))))))))))))))))))))))))))))))))))))))) rfl (by decide) rfl rfl ?_
  refine ex_aload_n (pc' := 316) dL_law_315 rfl rfl ?_
  refine ex_iload (pc' := 318) dL_law_316 rfl rfl ?_
  refine ex_iconst (v := 5) (pc' := 319) dL_law_318 (by decide) rfl ?_
  refine ex_iadd (pc' := 320) (v := 5) dL_law_319 (by decide) rfl ?_
  refine ex_sald (pc' := 321) (n := 6) (xs := xs) (v := xs 5) dL_law_320 (zsiI (zsiI (zsiI (zsiI (zsiI (zsiI (zsiI (zsiI (zsiI (zsiI (zsiI (zsiI (zsiI (zsiI (zsiI (zsiI (zsiI (zsiI (zsiI (zsiI (zsiI (zsiI (zsiI (zsiI (zsiI (zsiI (zsiI (zsiI (zsiI (zsiI (zsiI (zsiI (zsiI (zsiI (zsiI (zsiI (zsiI (zsiI (zsiI (zsiI s1000000)))))))))))))))))))))))))))))))))))))))) rfl (by decide) rfl rfl ?_
  refine en_callvI (pc' := 324) (vs := [.inl (xs 1), .inl (xs 2), .inl (xs 3), .inl (xs 4), .inl (xs 5)]) (rest := [.inl 20]) (h2 := zsI (zsI (zsI (zsI (zsI (zsI (zsI (zsI (zsI (zsI (zsI (zsI (zsI (zsI (zsI (zsI (zsI (zsI (zsI (zsI (zsI (zsI (zsI (zsI (zsI (zsI (zsI (zsI (zsI (zsI (zsI (zsI (zsI (zsI (zsI (zsI (zsI (zsI (zsI (zsI (zsI (zsI (zsI (zsI (zsI (zsI (zsI (zsI (zsI (zsI (zsI (zsI (zsI (zsI (zsI (zsI (zsI (zsI (zsI (zsI (zsI (zsI (zsI (zsI (zsI (zsI (zsI (zsI (zsI (zsI (zsI (zsI (zsI (zsI (zsI (zsI (zsI (zsI (zsI (zsI (zsI (hh_487) 1 0 (vp_nar .byte (((xs 1) >>> (24 &&& 31)).toInt8.toInt32))) 0 1 1) 1 1 (vp_nar .byte (((xs 1) >>> (16 &&& 31)).toInt8.toInt32))) 0 1 2) 1 2 (vp_nar .byte (((xs 1) >>> (8 &&& 31)).toInt8.toInt32))) 0 1 3) 1 3 (vp_nar .byte (((xs 1) >>> (0 &&& 31)).toInt8.toInt32))) 0 1 4) 1 4 (vp_nar .byte (((xs 2) >>> (24 &&& 31)).toInt8.toInt32))) 0 1 5) 1 5 (vp_nar .byte (((xs 2) >>> (16 &&& 31)).toInt8.toInt32))) 0 1 6) 1 6 (vp_nar .byte (((xs 2) >>> (8 &&& 31)).toInt8.toInt32))) 0 1 7) 1 7 (vp_nar .byte (((xs 2) >>> (0 &&& 31)).toInt8.toInt32))) 0 1 8) 1 8 (vp_nar .byte (((xs 3) >>> (24 &&& 31)).toInt8.toInt32))) 0 1 9) 1 9 (vp_nar .byte (((xs 3) >>> (16 &&& 31)).toInt8.toInt32))) 0 1 10) 1 10 (vp_nar .byte (((xs 3) >>> (8 &&& 31)).toInt8.toInt32))) 0 1 11) 1 11 (vp_nar .byte (((xs 3) >>> (0 &&& 31)).toInt8.toInt32))) 0 1 12) 1 12 (vp_nar .byte (((xs 4) >>> (24 &&& 31)).toInt8.toInt32))) 0 1 13) 1 13 (vp_nar .byte (((xs 4) >>> (16 &&& 31)).toInt8.toInt32))) 0 1 14) 1 14 (vp_nar .byte (((xs 4) >>> (8 &&& 31)).toInt8.toInt32))) 0 1 15) 1 15 (vp_nar .byte (((xs 4) >>> (0 &&& 31)).toInt8.toInt32))) 0 1 16) 1 16 (vp_nar .byte (((xs 5) >>> (24 &&& 31)).toInt8.toInt32))) 0 1 17) 1 17 (vp_nar .byte (((xs 5) >>> (16 &&& 31)).toInt8.toInt32))) 0 1 18) 1 18 (vp_nar .byte (((xs 5) >>> (8 &&& 31)).toInt8.toInt32))) 0 1 19) 1 19 (vp_nar .byte (((xs 5) >>> (0 &&& 31)).toInt8.toInt32))) 0 1 20) 196 0 0) 197 0 (((xs 1) >>> (24 &&& 31)) &&& 255)) 196 2 1) 197 1 (((xs 1) >>> (16 &&& 31)) &&& 255)) 196 2 2) 197 2 (((xs 1) >>> (8 &&& 31)) &&& 255)) 196 2 3) 197 3 (((xs 1) >>> (0 &&& 31)) &&& 255)) 196 2 4) 197 4 (((xs 2) >>> (24 &&& 31)) &&& 255)) 196 2 5) 197 5 (((xs 2) >>> (16 &&& 31)) &&& 255)) 196 2 6) 197 6 (((xs 2) >>> (8 &&& 31)) &&& 255)) 196 2 7) 197 7 (((xs 2) >>> (0 &&& 31)) &&& 255)) 196 2 8) 197 8 (((xs 3) >>> (24 &&& 31)) &&& 255)) 196 2 9) 197 9 (((xs 3) >>> (16 &&& 31)) &&& 255)) 196 2 10) 197 10 (((xs 3) >>> (8 &&& 31)) &&& 255)) 196 2 11) 197 11 (((xs 3) >>> (0 &&& 31)) &&& 255)) 196 2 12) 197 12 (((xs 4) >>> (24 &&& 31)) &&& 255)) 196 2 13) 197 13 (((xs 4) >>> (16 &&& 31)) &&& 255)) 196 2 14) 197 14 (((xs 4) >>> (8 &&& 31)) &&& 255)) 196 2 15) 197 15 (((xs 4) >>> (0 &&& 31)) &&& 255)) 196 2 16) 197 16 (((xs 5) >>> (24 &&& 31)) &&& 255)) 196 2 17) 197 17 (((xs 5) >>> (16 &&& 31)) &&& 255)) 196 2 18) 197 18 (((xs 5) >>> (8 &&& 31)) &&& 255)) 196 2 19) 197 19 (((xs 5) >>> (0 &&& 31)) &&& 255)) 196 2 20) (v := 20) dL_law_321 ml_13_23 ⟨zble rfl, zble rfl⟩ rfl rfl (zsiI (zsiI (zsiI (zsiI (zsiI (zsiI (zsiI (zsiI (zsiI (zsiI (zsiI (zsiI (zsiI (zsiI (zsiI (zsiI (zsiI (zsiI (zsiI (zsiI (zsiI (zsiI (zsiI (zsiI (zsiI (zsiI (zsiI (zsiI (zsiI (zsiI (zsiI (zsiI (zsiI (zsiI (zsiI (zsiI (zsiI (zsiI (zsiI (zsiI s196)))))))))))))))))))))))))))))))))))))))) (zblt rfl) (zble rfl) rfl (kX12_feed_1 _ (zsI (zsI (zsI (zsI (zsI (zsI (zsI (zsI (zsI (zsI (zsI (zsI (zsI (zsI (zsI (zsI (zsI (zsI (zsI (zsI (zsI (zsI (zsI (zsI (zsI (zsI (zsI (zsI (zsI (zsI (zsI (zsI (zsI (zsI (zsI (zsI (zsI (zsI (zsI (zsI (hh_487) 1 0 (vp_nar .byte (((xs 1) >>> (24 &&& 31)).toInt8.toInt32))) 0 1 1) 1 1 (vp_nar .byte (((xs 1) >>> (16 &&& 31)).toInt8.toInt32))) 0 1 2) 1 2 (vp_nar .byte (((xs 1) >>> (8 &&& 31)).toInt8.toInt32))) 0 1 3) 1 3 (vp_nar .byte (((xs 1) >>> (0 &&& 31)).toInt8.toInt32))) 0 1 4) 1 4 (vp_nar .byte (((xs 2) >>> (24 &&& 31)).toInt8.toInt32))) 0 1 5) 1 5 (vp_nar .byte (((xs 2) >>> (16 &&& 31)).toInt8.toInt32))) 0 1 6) 1 6 (vp_nar .byte (((xs 2) >>> (8 &&& 31)).toInt8.toInt32))) 0 1 7) 1 7 (vp_nar .byte (((xs 2) >>> (0 &&& 31)).toInt8.toInt32))) 0 1 8) 1 8 (vp_nar .byte (((xs 3) >>> (24 &&& 31)).toInt8.toInt32))) 0 1 9) 1 9 (vp_nar .byte (((xs 3) >>> (16 &&& 31)).toInt8.toInt32))) 0 1 10) 1 10 (vp_nar .byte (((xs 3) >>> (8 &&& 31)).toInt8.toInt32))) 0 1 11) 1 11 (vp_nar .byte (((xs 3) >>> (0 &&& 31)).toInt8.toInt32))) 0 1 12) 1 12 (vp_nar .byte (((xs 4) >>> (24 &&& 31)).toInt8.toInt32))) 0 1 13) 1 13 (vp_nar .byte (((xs 4) >>> (16 &&& 31)).toInt8.toInt32))) 0 1 14) 1 14 (vp_nar .byte (((xs 4) >>> (8 &&& 31)).toInt8.toInt32))) 0 1 15) 1 15 (vp_nar .byte (((xs 4) >>> (0 &&& 31)).toInt8.toInt32))) 0 1 16) 1 16 (vp_nar .byte (((xs 5) >>> (24 &&& 31)).toInt8.toInt32))) 0 1 17) 1 17 (vp_nar .byte (((xs 5) >>> (16 &&& 31)).toInt8.toInt32))) 0 1 18) 1 18 (vp_nar .byte (((xs 5) >>> (8 &&& 31)).toInt8.toInt32))) 0 1 19) 1 19 (vp_nar .byte (((xs 5) >>> (0 &&& 31)).toInt8.toInt32))) 0 1 20) (xs 1) (xs 2) (xs 3) (xs 4) (xs 5) (zsiI (zsiI (zsiI (zsiI (zsiI (zsiI (zsiI (zsiI (zsiI (zsiI (zsiI (zsiI (zsiI (zsiI (zsiI (zsiI (zsiI (zsiI (zsiI (zsiI (zsiI (zsiI (zsiI (zsiI (zsiI (zsiI (zsiI (zsiI (zsiI (zsiI (zsiI (zsiI (zsiI (zsiI (zsiI (zsiI (zsiI (zsiI (zsiI (zsiI s196)))))))))))))))))))))))))))))))))))))))) (zsiI (zsiI (zsiI (zsiI (zsiI (zsiI (zsiI (zsiI (zsiI (zsiI (zsiI (zsiI (zsiI (zsiI (zsiI (zsiI (zsiI (zsiI (zsiI (zsiI (zsiI (zsiI (zsiI (zsiI (zsiI (zsiI (zsiI (zsiI (zsiI (zsiI (zsiI (zsiI (zsiI (zsiI (zsiI (zsiI (zsiI (zsiI (zsiI (zsiI s197)))))))))))))))))))))))))))))))))))))))) i196_2 r196_1) ?_
  refine ex_icmp_t (pc' := 1834) dL_law_324 (by decide) (by decide) ?_
  refine ex_iinc (pc' := 1837) (v := 6) (ls' := [(4, .inl 6), (3, .inr (.inr (some 213))), (2, .inr (.inr (some 196))), (1, .inr (.inr (some 0))), (0, .inr (.inr (some 1000000)))]) dL_law_1834 rfl (by decide) (by decide) rfl rfl ?_
  refine ex_goto (pc' := 23) dL_law_1837 (by decide) ?_
  refine ex_iload (pc' := 25) dL_law_23 rfl rfl ?_
  refine ex_aload_n (pc' := 26) dL_law_25 rfl rfl ?_
  refine ex_slen (pc' := 27) (n := 6) (xs := xs) (v := 6) dL_law_26 (zsiI (zsiI (zsiI (zsiI (zsiI (zsiI (zsiI (zsiI (zsiI (zsiI (zsiI (zsiI (zsiI (zsiI (zsiI (zsiI (zsiI (zsiI (zsiI (zsiI (zsiI (zsiI (zsiI (zsiI (zsiI (zsiI (zsiI (zsiI (zsiI (zsiI (zsiI (zsiI (zsiI (zsiI (zsiI (zsiI (zsiI (zsiI (zsiI (zsiI (zsiI (zsiI (zsiI (zsiI (zsiI (zsiI (zsiI (zsiI (zsiI (zsiI (zsiI (zsiI (zsiI (zsiI (zsiI (zsiI (zsiI (zsiI (zsiI (zsiI (zsiI (zsiI (zsiI (zsiI (zsiI (zsiI (zsiI (zsiI (zsiI (zsiI (zsiI (zsiI (zsiI (zsiI (zsiI (zsiI (zsiI (zsiI (zsiI (zsiI (zsiI s1000000))))))))))))))))))))))))))))))))))))))))))))))))))))))))))))))))))))))))))))))))) rfl (by decide) rfl ?_
  refine ex_bipush (v := 6) (pc' := 29) dL_law_27 (by decide) rfl ?_
  refine ex_isub (pc' := 30) (v := 0) dL_law_29 (by decide) rfl ?_
  refine ex_icmp_t (pc' := 1840) dL_law_30 (by decide) (by decide) ?_
  refine ex_iconst (v := 1) (pc' := 1841) dL_law_1840 (by decide) rfl ?_
  exact ex_iret dL_law_1841 rfl (by decide) ⟨rfl, zble rfl, zble rfl, zble rfl⟩
set_option maxRecDepth 10000 in
theorem kl_op_1_lt (d : Nat) (xs : Nat → Int32) (b1 : zcond .lt (xs 1) 0 = true) : zEx (some (6, xs)) (d + 4) mL_law (329, [(4, .inl 0), (3, .inr (.inr (some 213))), (2, .inr (.inr (some 196))), (1, .inr (.inr (some 0))), (0, .inr (.inr (some 1000000)))], [], hh_487) zQL := by
  have s1000000 : zsh hh_487 1000000 = none := by decide +kernel
  have s0 : zsh hh_487 0 = some (11, 16) := by decide +kernel
  have s196 : zsh hh_487 196 = some (12, 39) := by decide +kernel
  have i196_2 : hh_487.2.1 196 2 = 0 := by decide +kernel
  refine ex_aload_n (pc' := 330) dL_law_329 rfl rfl ?_
  refine ex_aload_n (pc' := 331) dL_law_330 rfl rfl ?_
  refine ex_iload (pc' := 333) dL_law_331 rfl rfl ?_
  refine ex_iconst (v := 1) (pc' := 334) dL_law_333 (by decide) rfl ?_
  refine ex_iadd (pc' := 335) (v := 1) dL_law_334 (by decide) rfl ?_
  refine ex_sald (pc' := 336) (n := 6) (xs := xs) (v := xs 1) dL_law_335 s1000000 rfl (by decide) rfl rfl ?_
  refine en_callvI (pc' := 339) (vs := [.inl (xs 1)]) (rest := []) (h2 := zsI (hh_487) 0 2 2) (v := (-1)) dL_law_336 ml_13_24 ⟨zble rfl, zble rfl⟩ rfl rfl s0 (zblt rfl) (zble rfl) rfl (kX11_post_1 _ hh_487 (xs 1) s0 b1) ?_
  refine ex_aload_n (pc' := 340) dL_law_339 rfl rfl ?_
  refine ex_aload_n (pc' := 341) dL_law_340 rfl rfl ?_
  refine ex_iload (pc' := 343) dL_law_341 rfl rfl ?_
  refine ex_iconst (v := 1) (pc' := 344) dL_law_343 (by decide) rfl ?_
  refine ex_iadd (pc' := 345) (v := 1) dL_law_344 (by decide) rfl ?_
  refine ex_sald (pc' := 346) (n := 6) (xs := xs) (v := xs 1) dL_law_345 (zsiI s1000000) rfl (by decide) rfl rfl ?_
  refine en_callvI (pc' := 349) (vs := [.inl (xs 1)]) (rest := [.inl (-1)]) (h2 := zsI (zsI (zsI (zsI (hh_487) 0 2 2) 196 0 0) 196 11 0) 196 11 2) (v := (-1)) dL_law_346 ml_13_27 ⟨zble rfl, zble rfl⟩ rfl rfl (zsiI s196) (zblt rfl) (zble rfl) rfl (kX12_post_1 _ (zsI (hh_487) 0 2 2) (xs 1) (zsiI s196) b1 i196_2) ?_
  refine ex_icmp_t (pc' := 1834) dL_law_349 (by decide) (by decide) ?_
  refine ex_iinc (pc' := 1837) (v := 6) (ls' := [(4, .inl 6), (3, .inr (.inr (some 213))), (2, .inr (.inr (some 196))), (1, .inr (.inr (some 0))), (0, .inr (.inr (some 1000000)))]) dL_law_1834 rfl (by decide) (by decide) rfl rfl ?_
  refine ex_goto (pc' := 23) dL_law_1837 (by decide) ?_
  refine ex_iload (pc' := 25) dL_law_23 rfl rfl ?_
  refine ex_aload_n (pc' := 26) dL_law_25 rfl rfl ?_
  refine ex_slen (pc' := 27) (n := 6) (xs := xs) (v := 6) dL_law_26 (zsiI (zsiI (zsiI (zsiI s1000000)))) rfl (by decide) rfl ?_
  refine ex_bipush (v := 6) (pc' := 29) dL_law_27 (by decide) rfl ?_
  refine ex_isub (pc' := 30) (v := 0) dL_law_29 (by decide) rfl ?_
  refine ex_icmp_t (pc' := 1840) dL_law_30 (by decide) (by decide) ?_
  refine ex_iconst (v := 1) (pc' := 1841) dL_law_1840 (by decide) rfl ?_
  exact ex_iret dL_law_1841 rfl (by decide) ⟨rfl, zble rfl, zble rfl, zble rfl⟩
set_option maxRecDepth 10000 in
theorem kl_op_1_gt (d : Nat) (xs : Nat → Int32) (b1 : zcond .lt (xs 1) 0 = false) (b2 : zcond .gt (xs 1) 0 = true) : zEx (some (6, xs)) (d + 4) mL_law (329, [(4, .inl 0), (3, .inr (.inr (some 213))), (2, .inr (.inr (some 196))), (1, .inr (.inr (some 0))), (0, .inr (.inr (some 1000000)))], [], hh_487) zQL := by
  have s1000000 : zsh hh_487 1000000 = none := by decide +kernel
  have s0 : zsh hh_487 0 = some (11, 16) := by decide +kernel
  have s196 : zsh hh_487 196 = some (12, 39) := by decide +kernel
  have i0_1 : hh_487.2.1 0 1 = 0 := by decide +kernel
  have i196_2 : hh_487.2.1 196 2 = 0 := by decide +kernel
  refine ex_aload_n (pc' := 330) dL_law_329 rfl rfl ?_
  refine ex_aload_n (pc' := 331) dL_law_330 rfl rfl ?_
  refine ex_iload (pc' := 333) dL_law_331 rfl rfl ?_
  refine ex_iconst (v := 1) (pc' := 334) dL_law_333 (by decide) rfl ?_
  refine ex_iadd (pc' := 335) (v := 1) dL_law_334 (by decide) rfl ?_
  refine ex_sald (pc' := 336) (n := 6) (xs := xs) (v := xs 1) dL_law_335 s1000000 rfl (by decide) rfl rfl ?_
  refine en_callvI (pc' := 339) (vs := [.inl (xs 1)]) (rest := []) (h2 := zsI (hh_487) 0 2 2) (v := (-1)) dL_law_336 ml_13_24 ⟨zble rfl, zble rfl⟩ rfl rfl s0 (zblt rfl) (zble rfl) rfl (kX11_post_2 _ hh_487 (xs 1) s0 (zk_gt_lt b2) b2 i0_1) ?_
  refine ex_aload_n (pc' := 340) dL_law_339 rfl rfl ?_
  refine ex_aload_n (pc' := 341) dL_law_340 rfl rfl ?_
  refine ex_iload (pc' := 343) dL_law_341 rfl rfl ?_
  refine ex_iconst (v := 1) (pc' := 344) dL_law_343 (by decide) rfl ?_
  refine ex_iadd (pc' := 345) (v := 1) dL_law_344 (by decide) rfl ?_
  refine ex_sald (pc' := 346) (n := 6) (xs := xs) (v := xs 1) dL_law_345 (zsiI s1000000) rfl (by decide) rfl rfl ?_
  refine en_callvI (pc' := 349) (vs := [.inl (xs 1)]) (rest := [.inl (-1)]) (h2 := zsI (zsI (zsI (zsI (hh_487) 0 2 2) 196 0 0) 196 11 0) 196 11 2) (v := (-1)) dL_law_346 ml_13_27 ⟨zble rfl, zble rfl⟩ rfl rfl (zsiI s196) (zblt rfl) (zble rfl) rfl (kX12_post_2 _ (zsI (hh_487) 0 2 2) (xs 1) (zsiI s196) (zk_gt_lt b2) b2 i196_2) ?_
  refine ex_icmp_t (pc' := 1834) dL_law_349 (by decide) (by decide) ?_
  refine ex_iinc (pc' := 1837) (v := 6) (ls' := [(4, .inl 6), (3, .inr (.inr (some 213))), (2, .inr (.inr (some 196))), (1, .inr (.inr (some 0))), (0, .inr (.inr (some 1000000)))]) dL_law_1834 rfl (by decide) (by decide) rfl rfl ?_
  refine ex_goto (pc' := 23) dL_law_1837 (by decide) ?_
  refine ex_iload (pc' := 25) dL_law_23 rfl rfl ?_
  refine ex_aload_n (pc' := 26) dL_law_25 rfl rfl ?_
  refine ex_slen (pc' := 27) (n := 6) (xs := xs) (v := 6) dL_law_26 (zsiI (zsiI (zsiI (zsiI s1000000)))) rfl (by decide) rfl ?_
  refine ex_bipush (v := 6) (pc' := 29) dL_law_27 (by decide) rfl ?_
  refine ex_isub (pc' := 30) (v := 0) dL_law_29 (by decide) rfl ?_
  refine ex_icmp_t (pc' := 1840) dL_law_30 (by decide) (by decide) ?_
  refine ex_iconst (v := 1) (pc' := 1841) dL_law_1840 (by decide) rfl ?_
  exact ex_iret dL_law_1841 rfl (by decide) ⟨rfl, zble rfl, zble rfl, zble rfl⟩
set_option maxRecDepth 10000 in
theorem kl_op_2 (d : Nat) (xs : Nat → Int32) : zEx (some (6, xs)) (d + 4) mL_law (354, [(4, .inl 0), (3, .inr (.inr (some 213))), (2, .inr (.inr (some 196))), (1, .inr (.inr (some 0))), (0, .inr (.inr (some 1000000)))], [], hh_487) zQL := by
  have s0 : zsh hh_487 0 = some (11, 16) := by decide +kernel
  have s82 : zsh hh_487 82 = some (5, 13) := by decide +kernel
  have s196 : zsh hh_487 196 = some (12, 39) := by decide +kernel
  have s1000000 : zsh hh_487 1000000 = none := by decide +kernel
  have i82_11 : hh_487.2.1 82 11 = 0 := by decide +kernel
  have i196_9 : hh_487.2.1 196 9 = 0 := by decide +kernel
  have r0_5 : hh_487.2.2.2.1 0 5 = some 82 := by decide +kernel
  refine ex_aload_n (pc' := 355) dL_law_354 rfl rfl ?_
  refine en_callvI (pc' := 358) (vs := []) (rest := []) (h2 := hh_487) (v := 0) dL_law_355 ml_13_28 ⟨zble rfl, zble rfl⟩ rfl rfl s0 (zblt rfl) (zble rfl) rfl (kX11_fault_1 _ hh_487 s0 s82 i82_11 r0_5) ?_
  refine ex_aload_n (pc' := 359) dL_law_358 rfl rfl ?_
  refine en_callvI (pc' := 362) (vs := []) (rest := [.inl 0]) (h2 := zsI (hh_487) 196 0 0) (v := 0) dL_law_359 ml_13_32 ⟨zble rfl, zble rfl⟩ rfl rfl s196 (zblt rfl) (zble rfl) rfl (kX12_fault_1 _ hh_487 s196 i196_9) ?_
  refine ex_icmp_t (pc' := 1834) dL_law_362 (by decide) (by decide) ?_
  refine ex_iinc (pc' := 1837) (v := 6) (ls' := [(4, .inl 6), (3, .inr (.inr (some 213))), (2, .inr (.inr (some 196))), (1, .inr (.inr (some 0))), (0, .inr (.inr (some 1000000)))]) dL_law_1834 rfl (by decide) (by decide) rfl rfl ?_
  refine ex_goto (pc' := 23) dL_law_1837 (by decide) ?_
  refine ex_iload (pc' := 25) dL_law_23 rfl rfl ?_
  refine ex_aload_n (pc' := 26) dL_law_25 rfl rfl ?_
  refine ex_slen (pc' := 27) (n := 6) (xs := xs) (v := 6) dL_law_26 (zsiI s1000000) rfl (by decide) rfl ?_
  refine ex_bipush (v := 6) (pc' := 29) dL_law_27 (by decide) rfl ?_
  refine ex_isub (pc' := 30) (v := 0) dL_law_29 (by decide) rfl ?_
  refine ex_icmp_t (pc' := 1840) dL_law_30 (by decide) (by decide) ?_
  refine ex_iconst (v := 1) (pc' := 1841) dL_law_1840 (by decide) rfl ?_
  exact ex_iret dL_law_1841 rfl (by decide) ⟨rfl, zble rfl, zble rfl, zble rfl⟩
set_option maxRecDepth 10000 in
theorem kl_op_3 (d : Nat) (xs : Nat → Int32) : zEx (some (6, xs)) (d + 4) mL_law (367, [(4, .inl 0), (3, .inr (.inr (some 213))), (2, .inr (.inr (some 196))), (1, .inr (.inr (some 0))), (0, .inr (.inr (some 1000000)))], [], hh_487) zQL := by
  have s0 : zsh hh_487 0 = some (11, 16) := by decide +kernel
  have s196 : zsh hh_487 196 = some (12, 39) := by decide +kernel
  have s1000000 : zsh hh_487 1000000 = none := by decide +kernel
  have i0_2 : hh_487.2.1 0 2 = 0 := by decide +kernel
  have i196_11 : hh_487.2.1 196 11 = 0 := by decide +kernel
  refine ex_aload_n (pc' := 368) dL_law_367 rfl rfl ?_
  refine en_callvI (pc' := 371) (vs := []) (rest := []) (h2 := hh_487) (v := (-1)) dL_law_368 ml_13_33 ⟨zble rfl, zble rfl⟩ rfl rfl s0 (zblt rfl) (zble rfl) rfl (kX11_where_1 _ hh_487 s0 i0_2) ?_
  refine ex_aload_n (pc' := 372) dL_law_371 rfl rfl ?_
  refine en_callvI (pc' := 375) (vs := []) (rest := [.inl (-1)]) (h2 := zsI (hh_487) 196 0 0) (v := (-1)) dL_law_372 ml_13_36 ⟨zble rfl, zble rfl⟩ rfl rfl s196 (zblt rfl) (zble rfl) rfl (kX12_where_1 _ hh_487 s196 i196_11) ?_
  refine ex_icmp_t (pc' := 1834) dL_law_375 (by decide) (by decide) ?_
  refine ex_iinc (pc' := 1837) (v := 6) (ls' := [(4, .inl 6), (3, .inr (.inr (some 213))), (2, .inr (.inr (some 196))), (1, .inr (.inr (some 0))), (0, .inr (.inr (some 1000000)))]) dL_law_1834 rfl (by decide) (by decide) rfl rfl ?_
  refine ex_goto (pc' := 23) dL_law_1837 (by decide) ?_
  refine ex_iload (pc' := 25) dL_law_23 rfl rfl ?_
  refine ex_aload_n (pc' := 26) dL_law_25 rfl rfl ?_
  refine ex_slen (pc' := 27) (n := 6) (xs := xs) (v := 6) dL_law_26 (zsiI s1000000) rfl (by decide) rfl ?_
  refine ex_bipush (v := 6) (pc' := 29) dL_law_27 (by decide) rfl ?_
  refine ex_isub (pc' := 30) (v := 0) dL_law_29 (by decide) rfl ?_
  refine ex_icmp_t (pc' := 1840) dL_law_30 (by decide) (by decide) ?_
  refine ex_iconst (v := 1) (pc' := 1841) dL_law_1840 (by decide) rfl ?_
  exact ex_iret dL_law_1841 rfl (by decide) ⟨rfl, zble rfl, zble rfl, zble rfl⟩
set_option maxRecDepth 10000 in
theorem kl_op_4 (d : Nat) (xs : Nat → Int32) : zEx (some (6, xs)) (d + 4) mL_law (380, [(4, .inl 0), (3, .inr (.inr (some 213))), (2, .inr (.inr (some 196))), (1, .inr (.inr (some 0))), (0, .inr (.inr (some 1000000)))], [], hh_487) zQL := by
  have s1000000 : zsh hh_487 1000000 = none := by decide +kernel
  have s0 : zsh hh_487 0 = some (11, 16) := by decide +kernel
  have s2 : zsh hh_487 2 = some (4, 15) := by decide +kernel
  have s196 : zsh hh_487 196 = some (12, 39) := by decide +kernel
  have i2_6 : hh_487.2.1 2 6 = 0 := by decide +kernel
  have i196_14 : hh_487.2.1 196 14 = 0 := by decide +kernel
  have r0_3 : hh_487.2.2.2.1 0 3 = some 2 := by decide +kernel
  refine ex_aload_n (pc' := 381) dL_law_380 rfl rfl ?_
  refine ex_aload_n (pc' := 382) dL_law_381 rfl rfl ?_
  refine ex_iload (pc' := 384) dL_law_382 rfl rfl ?_
  refine ex_iconst (v := 1) (pc' := 385) dL_law_384 (by decide) rfl ?_
  refine ex_iadd (pc' := 386) (v := 1) dL_law_385 (by decide) rfl ?_
  refine ex_sald (pc' := 387) (n := 6) (xs := xs) (v := xs 1) dL_law_386 s1000000 rfl (by decide) rfl rfl ?_
  refine ex_aload_n (pc' := 388) dL_law_387 rfl rfl ?_
  refine ex_iload (pc' := 390) dL_law_388 rfl rfl ?_
  refine ex_iconst (v := 2) (pc' := 391) dL_law_390 (by decide) rfl ?_
  refine ex_iadd (pc' := 392) (v := 2) dL_law_391 (by decide) rfl ?_
  refine ex_sald (pc' := 393) (n := 6) (xs := xs) (v := xs 2) dL_law_392 s1000000 rfl (by decide) rfl rfl ?_
  refine en_callvI (pc' := 396) (vs := [.inl (xs 1), .inl (xs 2)]) (rest := []) (h2 := zsI (hh_487) 0 2 1) (v := (-1)) dL_law_393 ml_13_37 ⟨zble rfl, zble rfl⟩ rfl rfl s0 (zblt rfl) (zble rfl) rfl (kX11_whale_1 _ hh_487 (xs 1) (xs 2) s0 s2 i2_6 r0_3) ?_
  refine ex_aload_n (pc' := 397) dL_law_396 rfl rfl ?_
  refine ex_aload_n (pc' := 398) dL_law_397 rfl rfl ?_
  refine ex_iload (pc' := 400) dL_law_398 rfl rfl ?_
  refine ex_iconst (v := 1) (pc' := 401) dL_law_400 (by decide) rfl ?_
  refine ex_iadd (pc' := 402) (v := 1) dL_law_401 (by decide) rfl ?_
  refine ex_sald (pc' := 403) (n := 6) (xs := xs) (v := xs 1) dL_law_402 (zsiI s1000000) rfl (by decide) rfl rfl ?_
  refine ex_aload_n (pc' := 404) dL_law_403 rfl rfl ?_
  refine ex_iload (pc' := 406) dL_law_404 rfl rfl ?_
  refine ex_iconst (v := 2) (pc' := 407) dL_law_406 (by decide) rfl ?_
  refine ex_iadd (pc' := 408) (v := 2) dL_law_407 (by decide) rfl ?_
  refine ex_sald (pc' := 409) (n := 6) (xs := xs) (v := xs 2) dL_law_408 (zsiI s1000000) rfl (by decide) rfl rfl ?_
  refine en_callvI (pc' := 412) (vs := [.inl (xs 1), .inl (xs 2)]) (rest := [.inl (-1)]) (h2 := zsI (zsI (zsI (zsI (hh_487) 0 2 1) 196 0 0) 196 11 0) 196 11 1) (v := (-1)) dL_law_409 ml_13_41 ⟨zble rfl, zble rfl⟩ rfl rfl (zsiI s196) (zblt rfl) (zble rfl) rfl (kX12_whale_1 _ (zsI (hh_487) 0 2 1) (xs 1) (xs 2) (zsiI s196) i196_14) ?_
  refine ex_icmp_t (pc' := 1834) dL_law_412 (by decide) (by decide) ?_
  refine ex_iinc (pc' := 1837) (v := 6) (ls' := [(4, .inl 6), (3, .inr (.inr (some 213))), (2, .inr (.inr (some 196))), (1, .inr (.inr (some 0))), (0, .inr (.inr (some 1000000)))]) dL_law_1834 rfl (by decide) (by decide) rfl rfl ?_
  refine ex_goto (pc' := 23) dL_law_1837 (by decide) ?_
  refine ex_iload (pc' := 25) dL_law_23 rfl rfl ?_
  refine ex_aload_n (pc' := 26) dL_law_25 rfl rfl ?_
  refine ex_slen (pc' := 27) (n := 6) (xs := xs) (v := 6) dL_law_26 (zsiI (zsiI (zsiI (zsiI s1000000)))) rfl (by decide) rfl ?_
  refine ex_bipush (v := 6) (pc' := 29) dL_law_27 (by decide) rfl ?_
  refine ex_isub (pc' := 30) (v := 0) dL_law_29 (by decide) rfl ?_
  refine ex_icmp_t (pc' := 1840) dL_law_30 (by decide) (by decide) ?_
  refine ex_iconst (v := 1) (pc' := 1841) dL_law_1840 (by decide) rfl ?_
  exact ex_iret dL_law_1841 rfl (by decide) ⟨rfl, zble rfl, zble rfl, zble rfl⟩
set_option maxRecDepth 10000 in
theorem kl_op_5 (d : Nat) (xs : Nat → Int32) : zEx (some (6, xs)) (d + 4) mL_law (417, [(4, .inl 0), (3, .inr (.inr (some 213))), (2, .inr (.inr (some 196))), (1, .inr (.inr (some 0))), (0, .inr (.inr (some 1000000)))], [], hh_487) zQL := by
  have s1000000 : zsh hh_487 1000000 = none := by decide +kernel
  have s0 : zsh hh_487 0 = some (11, 16) := by decide +kernel
  have s2 : zsh hh_487 2 = some (4, 15) := by decide +kernel
  have s196 : zsh hh_487 196 = some (12, 39) := by decide +kernel
  have i2_7 : hh_487.2.1 2 7 = 0 := by decide +kernel
  have i196_14 : hh_487.2.1 196 14 = 0 := by decide +kernel
  have r0_3 : hh_487.2.2.2.1 0 3 = some 2 := by decide +kernel
  refine ex_aload_n (pc' := 418) dL_law_417 rfl rfl ?_
  refine ex_aload_n (pc' := 419) dL_law_418 rfl rfl ?_
  refine ex_iload (pc' := 421) dL_law_419 rfl rfl ?_
  refine ex_iconst (v := 1) (pc' := 422) dL_law_421 (by decide) rfl ?_
  refine ex_iadd (pc' := 423) (v := 1) dL_law_422 (by decide) rfl ?_
  refine ex_sald (pc' := 424) (n := 6) (xs := xs) (v := xs 1) dL_law_423 s1000000 rfl (by decide) rfl rfl ?_
  refine ex_aload_n (pc' := 425) dL_law_424 rfl rfl ?_
  refine ex_iload (pc' := 427) dL_law_425 rfl rfl ?_
  refine ex_iconst (v := 2) (pc' := 428) dL_law_427 (by decide) rfl ?_
  refine ex_iadd (pc' := 429) (v := 2) dL_law_428 (by decide) rfl ?_
  refine ex_sald (pc' := 430) (n := 6) (xs := xs) (v := xs 2) dL_law_429 s1000000 rfl (by decide) rfl rfl ?_
  refine en_callvI (pc' := 433) (vs := [.inl (xs 1), .inl (xs 2)]) (rest := []) (h2 := zsI (hh_487) 0 2 1) (v := (-1)) dL_law_430 ml_13_42 ⟨zble rfl, zble rfl⟩ rfl rfl s0 (zblt rfl) (zble rfl) rfl (kX11_box_1 _ hh_487 (xs 1) (xs 2) s0 s2 i2_7 r0_3) ?_
  refine ex_aload_n (pc' := 434) dL_law_433 rfl rfl ?_
  refine ex_aload_n (pc' := 435) dL_law_434 rfl rfl ?_
  refine ex_iload (pc' := 437) dL_law_435 rfl rfl ?_
  refine ex_iconst (v := 1) (pc' := 438) dL_law_437 (by decide) rfl ?_
  refine ex_iadd (pc' := 439) (v := 1) dL_law_438 (by decide) rfl ?_
  refine ex_sald (pc' := 440) (n := 6) (xs := xs) (v := xs 1) dL_law_439 (zsiI s1000000) rfl (by decide) rfl rfl ?_
  refine ex_aload_n (pc' := 441) dL_law_440 rfl rfl ?_
  refine ex_iload (pc' := 443) dL_law_441 rfl rfl ?_
  refine ex_iconst (v := 2) (pc' := 444) dL_law_443 (by decide) rfl ?_
  refine ex_iadd (pc' := 445) (v := 2) dL_law_444 (by decide) rfl ?_
  refine ex_sald (pc' := 446) (n := 6) (xs := xs) (v := xs 2) dL_law_445 (zsiI s1000000) rfl (by decide) rfl rfl ?_
  refine en_callvI (pc' := 449) (vs := [.inl (xs 1), .inl (xs 2)]) (rest := [.inl (-1)]) (h2 := zsI (zsI (zsI (zsI (hh_487) 0 2 1) 196 0 0) 196 11 0) 196 11 1) (v := (-1)) dL_law_446 ml_13_45 ⟨zble rfl, zble rfl⟩ rfl rfl (zsiI s196) (zblt rfl) (zble rfl) rfl (kX12_box_1 _ (zsI (hh_487) 0 2 1) (xs 1) (xs 2) (zsiI s196) i196_14) ?_
  refine ex_icmp_t (pc' := 1834) dL_law_449 (by decide) (by decide) ?_
  refine ex_iinc (pc' := 1837) (v := 6) (ls' := [(4, .inl 6), (3, .inr (.inr (some 213))), (2, .inr (.inr (some 196))), (1, .inr (.inr (some 0))), (0, .inr (.inr (some 1000000)))]) dL_law_1834 rfl (by decide) (by decide) rfl rfl ?_
  refine ex_goto (pc' := 23) dL_law_1837 (by decide) ?_
  refine ex_iload (pc' := 25) dL_law_23 rfl rfl ?_
  refine ex_aload_n (pc' := 26) dL_law_25 rfl rfl ?_
  refine ex_slen (pc' := 27) (n := 6) (xs := xs) (v := 6) dL_law_26 (zsiI (zsiI (zsiI (zsiI s1000000)))) rfl (by decide) rfl ?_
  refine ex_bipush (v := 6) (pc' := 29) dL_law_27 (by decide) rfl ?_
  refine ex_isub (pc' := 30) (v := 0) dL_law_29 (by decide) rfl ?_
  refine ex_icmp_t (pc' := 1840) dL_law_30 (by decide) (by decide) ?_
  refine ex_iconst (v := 1) (pc' := 1841) dL_law_1840 (by decide) rfl ?_
  exact ex_iret dL_law_1841 rfl (by decide) ⟨rfl, zble rfl, zble rfl, zble rfl⟩
set_option maxRecDepth 10000 in
theorem kl_op_6 (d : Nat) (xs : Nat → Int32) : zEx (some (6, xs)) (d + 4) mL_law (454, [(4, .inl 0), (3, .inr (.inr (some 213))), (2, .inr (.inr (some 196))), (1, .inr (.inr (some 0))), (0, .inr (.inr (some 1000000)))], [], hh_487) zQL := by
  have s1000000 : zsh hh_487 1000000 = none := by decide +kernel
  have s0 : zsh hh_487 0 = some (11, 16) := by decide +kernel
  have s2 : zsh hh_487 2 = some (4, 15) := by decide +kernel
  have s196 : zsh hh_487 196 = some (12, 39) := by decide +kernel
  have i2_4 : hh_487.2.1 2 4 = 0 := by decide +kernel
  have i196_14 : hh_487.2.1 196 14 = 0 := by decide +kernel
  have r0_3 : hh_487.2.2.2.1 0 3 = some 2 := by decide +kernel
  refine ex_aload_n (pc' := 455) dL_law_454 rfl rfl ?_
  refine ex_aload_n (pc' := 456) dL_law_455 rfl rfl ?_
  refine ex_iload (pc' := 458) dL_law_456 rfl rfl ?_
  refine ex_iconst (v := 1) (pc' := 459) dL_law_458 (by decide) rfl ?_
  refine ex_iadd (pc' := 460) (v := 1) dL_law_459 (by decide) rfl ?_
  refine ex_sald (pc' := 461) (n := 6) (xs := xs) (v := xs 1) dL_law_460 s1000000 rfl (by decide) rfl rfl ?_
  refine en_callvI (pc' := 464) (vs := [.inl (xs 1)]) (rest := []) (h2 := zsI (hh_487) 0 2 1) (v := (-1)) dL_law_461 ml_13_46 ⟨zble rfl, zble rfl⟩ rfl rfl s0 (zblt rfl) (zble rfl) rfl (kX11_length_1 _ hh_487 (xs 1) s0 s2 i2_4 r0_3) ?_
  refine ex_aload_n (pc' := 465) dL_law_464 rfl rfl ?_
  refine ex_aload_n (pc' := 466) dL_law_465 rfl rfl ?_
  refine ex_iload (pc' := 468) dL_law_466 rfl rfl ?_
  refine ex_iconst (v := 1) (pc' := 469) dL_law_468 (by decide) rfl ?_
  refine ex_iadd (pc' := 470) (v := 1) dL_law_469 (by decide) rfl ?_
  refine ex_sald (pc' := 471) (n := 6) (xs := xs) (v := xs 1) dL_law_470 (zsiI s1000000) rfl (by decide) rfl rfl ?_
  refine en_callvI (pc' := 474) (vs := [.inl (xs 1)]) (rest := [.inl (-1)]) (h2 := zsI (zsI (zsI (zsI (hh_487) 0 2 1) 196 0 0) 196 11 0) 196 11 1) (v := (-1)) dL_law_471 ml_13_49 ⟨zble rfl, zble rfl⟩ rfl rfl (zsiI s196) (zblt rfl) (zble rfl) rfl (kX12_length_1 _ (zsI (hh_487) 0 2 1) (xs 1) (zsiI s196) i196_14) ?_
  refine ex_icmp_t (pc' := 1834) dL_law_474 (by decide) (by decide) ?_
  refine ex_iinc (pc' := 1837) (v := 6) (ls' := [(4, .inl 6), (3, .inr (.inr (some 213))), (2, .inr (.inr (some 196))), (1, .inr (.inr (some 0))), (0, .inr (.inr (some 1000000)))]) dL_law_1834 rfl (by decide) (by decide) rfl rfl ?_
  refine ex_goto (pc' := 23) dL_law_1837 (by decide) ?_
  refine ex_iload (pc' := 25) dL_law_23 rfl rfl ?_
  refine ex_aload_n (pc' := 26) dL_law_25 rfl rfl ?_
  refine ex_slen (pc' := 27) (n := 6) (xs := xs) (v := 6) dL_law_26 (zsiI (zsiI (zsiI (zsiI s1000000)))) rfl (by decide) rfl ?_
  refine ex_bipush (v := 6) (pc' := 29) dL_law_27 (by decide) rfl ?_
  refine ex_isub (pc' := 30) (v := 0) dL_law_29 (by decide) rfl ?_
  refine ex_icmp_t (pc' := 1840) dL_law_30 (by decide) (by decide) ?_
  refine ex_iconst (v := 1) (pc' := 1841) dL_law_1840 (by decide) rfl ?_
  exact ex_iret dL_law_1841 rfl (by decide) ⟨rfl, zble rfl, zble rfl, zble rfl⟩
set_option maxRecDepth 10000 in
theorem kl_op_7 (d : Nat) (xs : Nat → Int32) : zEx (some (6, xs)) (d + 4) mL_law (479, [(4, .inl 0), (3, .inr (.inr (some 213))), (2, .inr (.inr (some 196))), (1, .inr (.inr (some 0))), (0, .inr (.inr (some 1000000)))], [], hh_487) zQL := by
  have s1000000 : zsh hh_487 1000000 = none := by decide +kernel
  have s0 : zsh hh_487 0 = some (11, 16) := by decide +kernel
  have s2 : zsh hh_487 2 = some (4, 15) := by decide +kernel
  have s196 : zsh hh_487 196 = some (12, 39) := by decide +kernel
  have i2_4 : hh_487.2.1 2 4 = 0 := by decide +kernel
  have i196_14 : hh_487.2.1 196 14 = 0 := by decide +kernel
  have r0_3 : hh_487.2.2.2.1 0 3 = some 2 := by decide +kernel
  refine ex_aload_n (pc' := 480) dL_law_479 rfl rfl ?_
  refine ex_aload_n (pc' := 481) dL_law_480 rfl rfl ?_
  refine ex_iload (pc' := 483) dL_law_481 rfl rfl ?_
  refine ex_iconst (v := 1) (pc' := 484) dL_law_483 (by decide) rfl ?_
  refine ex_iadd (pc' := 485) (v := 1) dL_law_484 (by decide) rfl ?_
  refine ex_sald (pc' := 486) (n := 6) (xs := xs) (v := xs 1) dL_law_485 s1000000 rfl (by decide) rfl rfl ?_
  refine ex_aload_n (pc' := 487) dL_law_486 rfl rfl ?_
  refine ex_iload (pc' := 489) dL_law_487 rfl rfl ?_
  refine ex_iconst (v := 2) (pc' := 490) dL_law_489 (by decide) rfl ?_
  refine ex_iadd (pc' := 491) (v := 2) dL_law_490 (by decide) rfl ?_
  refine ex_sald (pc' := 492) (n := 6) (xs := xs) (v := xs 2) dL_law_491 s1000000 rfl (by decide) rfl rfl ?_
  refine en_callvI (pc' := 495) (vs := [.inl (xs 1), .inl (xs 2)]) (rest := []) (h2 := zsI (hh_487) 0 2 1) (v := (-1)) dL_law_492 ml_13_50 ⟨zble rfl, zble rfl⟩ rfl rfl s0 (zblt rfl) (zble rfl) rfl (kX11_note_1 _ hh_487 (xs 1) (xs 2) s0 s2 i2_4 r0_3) ?_
  refine ex_aload_n (pc' := 496) dL_law_495 rfl rfl ?_
  refine ex_aload_n (pc' := 497) dL_law_496 rfl rfl ?_
  refine ex_iload (pc' := 499) dL_law_497 rfl rfl ?_
  refine ex_iconst (v := 1) (pc' := 500) dL_law_499 (by decide) rfl ?_
  refine ex_iadd (pc' := 501) (v := 1) dL_law_500 (by decide) rfl ?_
  refine ex_sald (pc' := 502) (n := 6) (xs := xs) (v := xs 1) dL_law_501 (zsiI s1000000) rfl (by decide) rfl rfl ?_
  refine ex_aload_n (pc' := 503) dL_law_502 rfl rfl ?_
  refine ex_iload (pc' := 505) dL_law_503 rfl rfl ?_
  refine ex_iconst (v := 2) (pc' := 506) dL_law_505 (by decide) rfl ?_
  refine ex_iadd (pc' := 507) (v := 2) dL_law_506 (by decide) rfl ?_
  refine ex_sald (pc' := 508) (n := 6) (xs := xs) (v := xs 2) dL_law_507 (zsiI s1000000) rfl (by decide) rfl rfl ?_
  refine en_callvI (pc' := 511) (vs := [.inl (xs 1), .inl (xs 2)]) (rest := [.inl (-1)]) (h2 := zsI (zsI (zsI (zsI (hh_487) 0 2 1) 196 0 0) 196 11 0) 196 11 1) (v := (-1)) dL_law_508 ml_13_53 ⟨zble rfl, zble rfl⟩ rfl rfl (zsiI s196) (zblt rfl) (zble rfl) rfl (kX12_note_1 _ (zsI (hh_487) 0 2 1) (xs 1) (xs 2) (zsiI s196) i196_14) ?_
  refine ex_icmp_t (pc' := 1834) dL_law_511 (by decide) (by decide) ?_
  refine ex_iinc (pc' := 1837) (v := 6) (ls' := [(4, .inl 6), (3, .inr (.inr (some 213))), (2, .inr (.inr (some 196))), (1, .inr (.inr (some 0))), (0, .inr (.inr (some 1000000)))]) dL_law_1834 rfl (by decide) (by decide) rfl rfl ?_
  refine ex_goto (pc' := 23) dL_law_1837 (by decide) ?_
  refine ex_iload (pc' := 25) dL_law_23 rfl rfl ?_
  refine ex_aload_n (pc' := 26) dL_law_25 rfl rfl ?_
  refine ex_slen (pc' := 27) (n := 6) (xs := xs) (v := 6) dL_law_26 (zsiI (zsiI (zsiI (zsiI s1000000)))) rfl (by decide) rfl ?_
  refine ex_bipush (v := 6) (pc' := 29) dL_law_27 (by decide) rfl ?_
  refine ex_isub (pc' := 30) (v := 0) dL_law_29 (by decide) rfl ?_
  refine ex_icmp_t (pc' := 1840) dL_law_30 (by decide) (by decide) ?_
  refine ex_iconst (v := 1) (pc' := 1841) dL_law_1840 (by decide) rfl ?_
  exact ex_iret dL_law_1841 rfl (by decide) ⟨rfl, zble rfl, zble rfl, zble rfl⟩
set_option maxRecDepth 10000 in
theorem kl_op_8 (d : Nat) (xs : Nat → Int32) : zEx (some (6, xs)) (d + 4) mL_law (516, [(4, .inl 0), (3, .inr (.inr (some 213))), (2, .inr (.inr (some 196))), (1, .inr (.inr (some 0))), (0, .inr (.inr (some 1000000)))], [], hh_487) zQL := by
  have s1000000 : zsh hh_487 1000000 = none := by decide +kernel
  have s0 : zsh hh_487 0 = some (11, 16) := by decide +kernel
  have s2 : zsh hh_487 2 = some (4, 15) := by decide +kernel
  have s196 : zsh hh_487 196 = some (12, 39) := by decide +kernel
  have i2_7 : hh_487.2.1 2 7 = 0 := by decide +kernel
  have i196_14 : hh_487.2.1 196 14 = 0 := by decide +kernel
  have r0_3 : hh_487.2.2.2.1 0 3 = some 2 := by decide +kernel
  refine ex_aload_n (pc' := 517) dL_law_516 rfl rfl ?_
  refine ex_aload_n (pc' := 518) dL_law_517 rfl rfl ?_
  refine ex_iload (pc' := 520) dL_law_518 rfl rfl ?_
  refine ex_iconst (v := 1) (pc' := 521) dL_law_520 (by decide) rfl ?_
  refine ex_iadd (pc' := 522) (v := 1) dL_law_521 (by decide) rfl ?_
  refine ex_sald (pc' := 523) (n := 6) (xs := xs) (v := xs 1) dL_law_522 s1000000 rfl (by decide) rfl rfl ?_
  refine ex_aload_n (pc' := 524) dL_law_523 rfl rfl ?_
  refine ex_iload (pc' := 526) dL_law_524 rfl rfl ?_
  refine ex_iconst (v := 2) (pc' := 527) dL_law_526 (by decide) rfl ?_
  refine ex_iadd (pc' := 528) (v := 2) dL_law_527 (by decide) rfl ?_
  refine ex_sald (pc' := 529) (n := 6) (xs := xs) (v := xs 2) dL_law_528 s1000000 rfl (by decide) rfl rfl ?_
  refine en_callvI (pc' := 532) (vs := [.inl (xs 1), .inl (xs 2)]) (rest := []) (h2 := zsI (hh_487) 0 2 1) (v := (-1)) dL_law_529 ml_13_54 ⟨zble rfl, zble rfl⟩ rfl rfl s0 (zblt rfl) (zble rfl) rfl (kX11_sung_1 _ hh_487 (xs 1) (xs 2) s0 s2 i2_7 r0_3) ?_
  refine ex_aload_n (pc' := 533) dL_law_532 rfl rfl ?_
  refine ex_aload_n (pc' := 534) dL_law_533 rfl rfl ?_
  refine ex_iload (pc' := 536) dL_law_534 rfl rfl ?_
  refine ex_iconst (v := 1) (pc' := 537) dL_law_536 (by decide) rfl ?_
  refine ex_iadd (pc' := 538) (v := 1) dL_law_537 (by decide) rfl ?_
  refine ex_sald (pc' := 539) (n := 6) (xs := xs) (v := xs 1) dL_law_538 (zsiI s1000000) rfl (by decide) rfl rfl ?_
  refine ex_aload_n (pc' := 540) dL_law_539 rfl rfl ?_
  refine ex_iload (pc' := 542) dL_law_540 rfl rfl ?_
  refine ex_iconst (v := 2) (pc' := 543) dL_law_542 (by decide) rfl ?_
  refine ex_iadd (pc' := 544) (v := 2) dL_law_543 (by decide) rfl ?_
  refine ex_sald (pc' := 545) (n := 6) (xs := xs) (v := xs 2) dL_law_544 (zsiI s1000000) rfl (by decide) rfl rfl ?_
  refine en_callvI (pc' := 548) (vs := [.inl (xs 1), .inl (xs 2)]) (rest := [.inl (-1)]) (h2 := zsI (zsI (zsI (zsI (hh_487) 0 2 1) 196 0 0) 196 11 0) 196 11 1) (v := (-1)) dL_law_545 ml_13_57 ⟨zble rfl, zble rfl⟩ rfl rfl (zsiI s196) (zblt rfl) (zble rfl) rfl (kX12_sung_1 _ (zsI (hh_487) 0 2 1) (xs 1) (xs 2) (zsiI s196) i196_14) ?_
  refine ex_icmp_t (pc' := 1834) dL_law_548 (by decide) (by decide) ?_
  refine ex_iinc (pc' := 1837) (v := 6) (ls' := [(4, .inl 6), (3, .inr (.inr (some 213))), (2, .inr (.inr (some 196))), (1, .inr (.inr (some 0))), (0, .inr (.inr (some 1000000)))]) dL_law_1834 rfl (by decide) (by decide) rfl rfl ?_
  refine ex_goto (pc' := 23) dL_law_1837 (by decide) ?_
  refine ex_iload (pc' := 25) dL_law_23 rfl rfl ?_
  refine ex_aload_n (pc' := 26) dL_law_25 rfl rfl ?_
  refine ex_slen (pc' := 27) (n := 6) (xs := xs) (v := 6) dL_law_26 (zsiI (zsiI (zsiI (zsiI s1000000)))) rfl (by decide) rfl ?_
  refine ex_bipush (v := 6) (pc' := 29) dL_law_27 (by decide) rfl ?_
  refine ex_isub (pc' := 30) (v := 0) dL_law_29 (by decide) rfl ?_
  refine ex_icmp_t (pc' := 1840) dL_law_30 (by decide) (by decide) ?_
  refine ex_iconst (v := 1) (pc' := 1841) dL_law_1840 (by decide) rfl ?_
  exact ex_iret dL_law_1841 rfl (by decide) ⟨rfl, zble rfl, zble rfl, zble rfl⟩
set_option maxRecDepth 10000 in
theorem kl_op_9 (d : Nat) (xs : Nat → Int32) : zEx (some (6, xs)) (d + 4) mL_law (553, [(4, .inl 0), (3, .inr (.inr (some 213))), (2, .inr (.inr (some 196))), (1, .inr (.inr (some 0))), (0, .inr (.inr (some 1000000)))], [], hh_487) zQL := by
  have s1000000 : zsh hh_487 1000000 = none := by decide +kernel
  have s0 : zsh hh_487 0 = some (11, 16) := by decide +kernel
  have s2 : zsh hh_487 2 = some (4, 15) := by decide +kernel
  have s196 : zsh hh_487 196 = some (12, 39) := by decide +kernel
  have i2_7 : hh_487.2.1 2 7 = 0 := by decide +kernel
  have i196_14 : hh_487.2.1 196 14 = 0 := by decide +kernel
  have r0_3 : hh_487.2.2.2.1 0 3 = some 2 := by decide +kernel
  refine ex_aload_n (pc' := 554) dL_law_553 rfl rfl ?_
  refine ex_aload_n (pc' := 555) dL_law_554 rfl rfl ?_
  refine ex_iload (pc' := 557) dL_law_555 rfl rfl ?_
  refine ex_iconst (v := 1) (pc' := 558) dL_law_557 (by decide) rfl ?_
  refine ex_iadd (pc' := 559) (v := 1) dL_law_558 (by decide) rfl ?_
  refine ex_sald (pc' := 560) (n := 6) (xs := xs) (v := xs 1) dL_law_559 s1000000 rfl (by decide) rfl rfl ?_
  refine en_callvI (pc' := 563) (vs := [.inl (xs 1)]) (rest := []) (h2 := zsI (hh_487) 0 2 1) (v := (-1)) dL_law_560 ml_13_58 ⟨zble rfl, zble rfl⟩ rfl rfl s0 (zblt rfl) (zble rfl) rfl (kX11_heard_1 _ hh_487 (xs 1) s0 s2 i2_7 r0_3) ?_
  refine ex_aload_n (pc' := 564) dL_law_563 rfl rfl ?_
  refine ex_aload_n (pc' := 565) dL_law_564 rfl rfl ?_
  refine ex_iload (pc' := 567) dL_law_565 rfl rfl ?_
  refine ex_iconst (v := 1) (pc' := 568) dL_law_567 (by decide) rfl ?_
  refine ex_iadd (pc' := 569) (v := 1) dL_law_568 (by decide) rfl ?_
  refine ex_sald (pc' := 570) (n := 6) (xs := xs) (v := xs 1) dL_law_569 (zsiI s1000000) rfl (by decide) rfl rfl ?_
  refine en_callvI (pc' := 573) (vs := [.inl (xs 1)]) (rest := [.inl (-1)]) (h2 := zsI (zsI (zsI (zsI (hh_487) 0 2 1) 196 0 0) 196 11 0) 196 11 1) (v := (-1)) dL_law_570 ml_13_61 ⟨zble rfl, zble rfl⟩ rfl rfl (zsiI s196) (zblt rfl) (zble rfl) rfl (kX12_heard_1 _ (zsI (hh_487) 0 2 1) (xs 1) (zsiI s196) i196_14) ?_
  refine ex_icmp_t (pc' := 1834) dL_law_573 (by decide) (by decide) ?_
  refine ex_iinc (pc' := 1837) (v := 6) (ls' := [(4, .inl 6), (3, .inr (.inr (some 213))), (2, .inr (.inr (some 196))), (1, .inr (.inr (some 0))), (0, .inr (.inr (some 1000000)))]) dL_law_1834 rfl (by decide) (by decide) rfl rfl ?_
  refine ex_goto (pc' := 23) dL_law_1837 (by decide) ?_
  refine ex_iload (pc' := 25) dL_law_23 rfl rfl ?_
  refine ex_aload_n (pc' := 26) dL_law_25 rfl rfl ?_
  refine ex_slen (pc' := 27) (n := 6) (xs := xs) (v := 6) dL_law_26 (zsiI (zsiI (zsiI (zsiI s1000000)))) rfl (by decide) rfl ?_
  refine ex_bipush (v := 6) (pc' := 29) dL_law_27 (by decide) rfl ?_
  refine ex_isub (pc' := 30) (v := 0) dL_law_29 (by decide) rfl ?_
  refine ex_icmp_t (pc' := 1840) dL_law_30 (by decide) (by decide) ?_
  refine ex_iconst (v := 1) (pc' := 1841) dL_law_1840 (by decide) rfl ?_
  exact ex_iret dL_law_1841 rfl (by decide) ⟨rfl, zble rfl, zble rfl, zble rfl⟩
set_option maxRecDepth 10000 in
theorem kl_op_10 (d : Nat) (xs : Nat → Int32) : zEx (some (6, xs)) (d + 4) mL_law (578, [(4, .inl 0), (3, .inr (.inr (some 213))), (2, .inr (.inr (some 196))), (1, .inr (.inr (some 0))), (0, .inr (.inr (some 1000000)))], [], hh_487) zQL := by
  have s1000000 : zsh hh_487 1000000 = none := by decide +kernel
  have s0 : zsh hh_487 0 = some (11, 16) := by decide +kernel
  have s2 : zsh hh_487 2 = some (4, 15) := by decide +kernel
  have s196 : zsh hh_487 196 = some (12, 39) := by decide +kernel
  have i2_4 : hh_487.2.1 2 4 = 0 := by decide +kernel
  have i196_14 : hh_487.2.1 196 14 = 0 := by decide +kernel
  have r0_3 : hh_487.2.2.2.1 0 3 = some 2 := by decide +kernel
  refine ex_aload_n (pc' := 579) dL_law_578 rfl rfl ?_
  refine ex_aload_n (pc' := 580) dL_law_579 rfl rfl ?_
  refine ex_iload (pc' := 582) dL_law_580 rfl rfl ?_
  refine ex_iconst (v := 1) (pc' := 583) dL_law_582 (by decide) rfl ?_
  refine ex_iadd (pc' := 584) (v := 1) dL_law_583 (by decide) rfl ?_
  refine ex_sald (pc' := 585) (n := 6) (xs := xs) (v := xs 1) dL_law_584 s1000000 rfl (by decide) rfl rfl ?_
  refine ex_aload_n (pc' := 586) dL_law_585 rfl rfl ?_
  refine ex_iload (pc' := 588) dL_law_586 rfl rfl ?_
  refine ex_iconst (v := 2) (pc' := 589) dL_law_588 (by decide) rfl ?_
  refine ex_iadd (pc' := 590) (v := 2) dL_law_589 (by decide) rfl ?_
  refine ex_sald (pc' := 591) (n := 6) (xs := xs) (v := xs 2) dL_law_590 s1000000 rfl (by decide) rfl rfl ?_
  refine en_callvI (pc' := 594) (vs := [.inl (xs 1), .inl (xs 2)]) (rest := []) (h2 := zsI (hh_487) 0 2 1) (v := (-1)) dL_law_591 ml_13_62 ⟨zble rfl, zble rfl⟩ rfl rfl s0 (zblt rfl) (zble rfl) rfl (kX11_way_1 _ hh_487 (xs 1) (xs 2) s0 s2 i2_4 r0_3) ?_
  refine ex_aload_n (pc' := 595) dL_law_594 rfl rfl ?_
  refine ex_aload_n (pc' := 596) dL_law_595 rfl rfl ?_
  refine ex_iload (pc' := 598) dL_law_596 rfl rfl ?_
  refine ex_iconst (v := 1) (pc' := 599) dL_law_598 (by decide) rfl ?_
  refine ex_iadd (pc' := 600) (v := 1) dL_law_599 (by decide) rfl ?_
  refine ex_sald (pc' := 601) (n := 6) (xs := xs) (v := xs 1) dL_law_600 (zsiI s1000000) rfl (by decide) rfl rfl ?_
  refine ex_aload_n (pc' := 602) dL_law_601 rfl rfl ?_
  refine ex_iload (pc' := 604) dL_law_602 rfl rfl ?_
  refine ex_iconst (v := 2) (pc' := 605) dL_law_604 (by decide) rfl ?_
  refine ex_iadd (pc' := 606) (v := 2) dL_law_605 (by decide) rfl ?_
  refine ex_sald (pc' := 607) (n := 6) (xs := xs) (v := xs 2) dL_law_606 (zsiI s1000000) rfl (by decide) rfl rfl ?_
  refine en_callvI (pc' := 610) (vs := [.inl (xs 1), .inl (xs 2)]) (rest := [.inl (-1)]) (h2 := zsI (zsI (zsI (zsI (hh_487) 0 2 1) 196 0 0) 196 11 0) 196 11 1) (v := (-1)) dL_law_607 ml_13_65 ⟨zble rfl, zble rfl⟩ rfl rfl (zsiI s196) (zblt rfl) (zble rfl) rfl (kX12_way_1 _ (zsI (hh_487) 0 2 1) (xs 1) (xs 2) (zsiI s196) i196_14) ?_
  refine ex_icmp_t (pc' := 1834) dL_law_610 (by decide) (by decide) ?_
  refine ex_iinc (pc' := 1837) (v := 6) (ls' := [(4, .inl 6), (3, .inr (.inr (some 213))), (2, .inr (.inr (some 196))), (1, .inr (.inr (some 0))), (0, .inr (.inr (some 1000000)))]) dL_law_1834 rfl (by decide) (by decide) rfl rfl ?_
  refine ex_goto (pc' := 23) dL_law_1837 (by decide) ?_
  refine ex_iload (pc' := 25) dL_law_23 rfl rfl ?_
  refine ex_aload_n (pc' := 26) dL_law_25 rfl rfl ?_
  refine ex_slen (pc' := 27) (n := 6) (xs := xs) (v := 6) dL_law_26 (zsiI (zsiI (zsiI (zsiI s1000000)))) rfl (by decide) rfl ?_
  refine ex_bipush (v := 6) (pc' := 29) dL_law_27 (by decide) rfl ?_
  refine ex_isub (pc' := 30) (v := 0) dL_law_29 (by decide) rfl ?_
  refine ex_icmp_t (pc' := 1840) dL_law_30 (by decide) (by decide) ?_
  refine ex_iconst (v := 1) (pc' := 1841) dL_law_1840 (by decide) rfl ?_
  exact ex_iret dL_law_1841 rfl (by decide) ⟨rfl, zble rfl, zble rfl, zble rfl⟩
set_option maxRecDepth 10000 in
theorem kl_op_11 (d : Nat) (xs : Nat → Int32) : zEx (some (6, xs)) (d + 4) mL_law (615, [(4, .inl 0), (3, .inr (.inr (some 213))), (2, .inr (.inr (some 196))), (1, .inr (.inr (some 0))), (0, .inr (.inr (some 1000000)))], [], hh_487) zQL := by
  have s1000000 : zsh hh_487 1000000 = none := by decide +kernel
  have s0 : zsh hh_487 0 = some (11, 16) := by decide +kernel
  have s2 : zsh hh_487 2 = some (4, 15) := by decide +kernel
  have s196 : zsh hh_487 196 = some (12, 39) := by decide +kernel
  have i2_4 : hh_487.2.1 2 4 = 0 := by decide +kernel
  have i196_14 : hh_487.2.1 196 14 = 0 := by decide +kernel
  have r0_3 : hh_487.2.2.2.1 0 3 = some 2 := by decide +kernel
  refine ex_aload_n (pc' := 616) dL_law_615 rfl rfl ?_
  refine ex_aload_n (pc' := 617) dL_law_616 rfl rfl ?_
  refine ex_iload (pc' := 619) dL_law_617 rfl rfl ?_
  refine ex_iconst (v := 1) (pc' := 620) dL_law_619 (by decide) rfl ?_
  refine ex_iadd (pc' := 621) (v := 1) dL_law_620 (by decide) rfl ?_
  refine ex_sald (pc' := 622) (n := 6) (xs := xs) (v := xs 1) dL_law_621 s1000000 rfl (by decide) rfl rfl ?_
  refine en_callvI (pc' := 625) (vs := [.inl (xs 1)]) (rest := []) (h2 := zsI (hh_487) 0 2 1) (v := (-1)) dL_law_622 ml_13_66 ⟨zble rfl, zble rfl⟩ rfl rfl s0 (zblt rfl) (zble rfl) rfl (kX11_season_1 _ hh_487 (xs 1) s0 s2 i2_4 r0_3) ?_
  refine ex_aload_n (pc' := 626) dL_law_625 rfl rfl ?_
  refine ex_aload_n (pc' := 627) dL_law_626 rfl rfl ?_
  refine ex_iload (pc' := 629) dL_law_627 rfl rfl ?_
  refine ex_iconst (v := 1) (pc' := 630) dL_law_629 (by decide) rfl ?_
  refine ex_iadd (pc' := 631) (v := 1) dL_law_630 (by decide) rfl ?_
  refine ex_sald (pc' := 632) (n := 6) (xs := xs) (v := xs 1) dL_law_631 (zsiI s1000000) rfl (by decide) rfl rfl ?_
  refine en_callvI (pc' := 635) (vs := [.inl (xs 1)]) (rest := [.inl (-1)]) (h2 := zsI (zsI (zsI (zsI (hh_487) 0 2 1) 196 0 0) 196 11 0) 196 11 1) (v := (-1)) dL_law_632 ml_13_69 ⟨zble rfl, zble rfl⟩ rfl rfl (zsiI s196) (zblt rfl) (zble rfl) rfl (kX12_season_1 _ (zsI (hh_487) 0 2 1) (xs 1) (zsiI s196) i196_14) ?_
  refine ex_icmp_t (pc' := 1834) dL_law_635 (by decide) (by decide) ?_
  refine ex_iinc (pc' := 1837) (v := 6) (ls' := [(4, .inl 6), (3, .inr (.inr (some 213))), (2, .inr (.inr (some 196))), (1, .inr (.inr (some 0))), (0, .inr (.inr (some 1000000)))]) dL_law_1834 rfl (by decide) (by decide) rfl rfl ?_
  refine ex_goto (pc' := 23) dL_law_1837 (by decide) ?_
  refine ex_iload (pc' := 25) dL_law_23 rfl rfl ?_
  refine ex_aload_n (pc' := 26) dL_law_25 rfl rfl ?_
  refine ex_slen (pc' := 27) (n := 6) (xs := xs) (v := 6) dL_law_26 (zsiI (zsiI (zsiI (zsiI s1000000)))) rfl (by decide) rfl ?_
  refine ex_bipush (v := 6) (pc' := 29) dL_law_27 (by decide) rfl ?_
  refine ex_isub (pc' := 30) (v := 0) dL_law_29 (by decide) rfl ?_
  refine ex_icmp_t (pc' := 1840) dL_law_30 (by decide) (by decide) ?_
  refine ex_iconst (v := 1) (pc' := 1841) dL_law_1840 (by decide) rfl ?_
  exact ex_iret dL_law_1841 rfl (by decide) ⟨rfl, zble rfl, zble rfl, zble rfl⟩
set_option maxRecDepth 10000 in
theorem kl_op_12 (d : Nat) (xs : Nat → Int32) : zEx (some (6, xs)) (d + 4) mL_law (640, [(4, .inl 0), (3, .inr (.inr (some 213))), (2, .inr (.inr (some 196))), (1, .inr (.inr (some 0))), (0, .inr (.inr (some 1000000)))], [], hh_487) zQL := by
  have s1000000 : zsh hh_487 1000000 = none := by decide +kernel
  have s0 : zsh hh_487 0 = some (11, 16) := by decide +kernel
  have s2 : zsh hh_487 2 = some (4, 15) := by decide +kernel
  have s196 : zsh hh_487 196 = some (12, 39) := by decide +kernel
  have i2_6 : hh_487.2.1 2 6 = 0 := by decide +kernel
  have i196_14 : hh_487.2.1 196 14 = 0 := by decide +kernel
  have r0_3 : hh_487.2.2.2.1 0 3 = some 2 := by decide +kernel
  refine ex_aload_n (pc' := 641) dL_law_640 rfl rfl ?_
  refine ex_aload_n (pc' := 642) dL_law_641 rfl rfl ?_
  refine ex_iload (pc' := 644) dL_law_642 rfl rfl ?_
  refine ex_iconst (v := 1) (pc' := 645) dL_law_644 (by decide) rfl ?_
  refine ex_iadd (pc' := 646) (v := 1) dL_law_645 (by decide) rfl ?_
  refine ex_sald (pc' := 647) (n := 6) (xs := xs) (v := xs 1) dL_law_646 s1000000 rfl (by decide) rfl rfl ?_
  refine ex_aload_n (pc' := 648) dL_law_647 rfl rfl ?_
  refine ex_iload (pc' := 650) dL_law_648 rfl rfl ?_
  refine ex_iconst (v := 2) (pc' := 651) dL_law_650 (by decide) rfl ?_
  refine ex_iadd (pc' := 652) (v := 2) dL_law_651 (by decide) rfl ?_
  refine ex_sald (pc' := 653) (n := 6) (xs := xs) (v := xs 2) dL_law_652 s1000000 rfl (by decide) rfl rfl ?_
  refine ex_aload_n (pc' := 654) dL_law_653 rfl rfl ?_
  refine ex_iload (pc' := 656) dL_law_654 rfl rfl ?_
  refine ex_iconst (v := 3) (pc' := 657) dL_law_656 (by decide) rfl ?_
  refine ex_iadd (pc' := 658) (v := 3) dL_law_657 (by decide) rfl ?_
  refine ex_sald (pc' := 659) (n := 6) (xs := xs) (v := xs 3) dL_law_658 s1000000 rfl (by decide) rfl rfl ?_
  refine en_callvI (pc' := 662) (vs := [.inl (xs 1), .inl (xs 2), .inl (xs 3)]) (rest := []) (h2 := zsI (hh_487) 0 2 1) (v := (-1)) dL_law_659 ml_13_70 ⟨zble rfl, zble rfl⟩ rfl rfl s0 (zblt rfl) (zble rfl) rfl (kX11_sets_1 _ hh_487 (xs 1) (xs 2) (xs 3) s0 s2 i2_6 r0_3) ?_
  refine ex_aload_n (pc' := 663) dL_law_662 rfl rfl ?_
  refine ex_aload_n (pc' := 664) dL_law_663 rfl rfl ?_
  refine ex_iload (pc' := 666) dL_law_664 rfl rfl ?_
  refine ex_iconst (v := 1) (pc' := 667) dL_law_666 (by decide) rfl ?_
  refine ex_iadd (pc' := 668) (v := 1) dL_law_667 (by decide) rfl ?_
  refine ex_sald (pc' := 669) (n := 6) (xs := xs) (v := xs 1) dL_law_668 (zsiI s1000000) rfl (by decide) rfl rfl ?_
  refine ex_aload_n (pc' := 670) dL_law_669 rfl rfl ?_
  refine ex_iload (pc' := 672) dL_law_670 rfl rfl ?_
  refine ex_iconst (v := 2) (pc' := 673) dL_law_672 (by decide) rfl ?_
  refine ex_iadd (pc' := 674) (v := 2) dL_law_673 (by decide) rfl ?_
  refine ex_sald (pc' := 675) (n := 6) (xs := xs) (v := xs 2) dL_law_674 (zsiI s1000000) rfl (by decide) rfl rfl ?_
  refine ex_aload_n (pc' := 676) dL_law_675 rfl rfl ?_
  refine ex_iload (pc' := 678) dL_law_676 rfl rfl ?_
  refine ex_iconst (v := 3) (pc' := 679) dL_law_678 (by decide) rfl ?_
  refine ex_iadd (pc' := 680) (v := 3) dL_law_679 (by decide) rfl ?_
  refine ex_sald (pc' := 681) (n := 6) (xs := xs) (v := xs 3) dL_law_680 (zsiI s1000000) rfl (by decide) rfl rfl ?_
  refine en_callvI (pc' := 684) (vs := [.inl (xs 1), .inl (xs 2), .inl (xs 3)]) (rest := [.inl (-1)]) (h2 := zsI (zsI (zsI (zsI (hh_487) 0 2 1) 196 0 0) 196 11 0) 196 11 1) (v := (-1)) dL_law_681 ml_13_74 ⟨zble rfl, zble rfl⟩ rfl rfl (zsiI s196) (zblt rfl) (zble rfl) rfl (kX12_sets_1 _ (zsI (hh_487) 0 2 1) (xs 1) (xs 2) (xs 3) (zsiI s196) i196_14) ?_
  refine ex_icmp_t (pc' := 1834) dL_law_684 (by decide) (by decide) ?_
  refine ex_iinc (pc' := 1837) (v := 6) (ls' := [(4, .inl 6), (3, .inr (.inr (some 213))), (2, .inr (.inr (some 196))), (1, .inr (.inr (some 0))), (0, .inr (.inr (some 1000000)))]) dL_law_1834 rfl (by decide) (by decide) rfl rfl ?_
  refine ex_goto (pc' := 23) dL_law_1837 (by decide) ?_
  refine ex_iload (pc' := 25) dL_law_23 rfl rfl ?_
  refine ex_aload_n (pc' := 26) dL_law_25 rfl rfl ?_
  refine ex_slen (pc' := 27) (n := 6) (xs := xs) (v := 6) dL_law_26 (zsiI (zsiI (zsiI (zsiI s1000000)))) rfl (by decide) rfl ?_
  refine ex_bipush (v := 6) (pc' := 29) dL_law_27 (by decide) rfl ?_
  refine ex_isub (pc' := 30) (v := 0) dL_law_29 (by decide) rfl ?_
  refine ex_icmp_t (pc' := 1840) dL_law_30 (by decide) (by decide) ?_
  refine ex_iconst (v := 1) (pc' := 1841) dL_law_1840 (by decide) rfl ?_
  exact ex_iret dL_law_1841 rfl (by decide) ⟨rfl, zble rfl, zble rfl, zble rfl⟩
set_option maxRecDepth 10000 in
theorem kl_op_13 (d : Nat) (xs : Nat → Int32) : zEx (some (6, xs)) (d + 4) mL_law (689, [(4, .inl 0), (3, .inr (.inr (some 213))), (2, .inr (.inr (some 196))), (1, .inr (.inr (some 0))), (0, .inr (.inr (some 1000000)))], [], hh_487) zQL := by
  have s1000000 : zsh hh_487 1000000 = none := by decide +kernel
  have s0 : zsh hh_487 0 = some (11, 16) := by decide +kernel
  have s2 : zsh hh_487 2 = some (4, 15) := by decide +kernel
  have s196 : zsh hh_487 196 = some (12, 39) := by decide +kernel
  have i2_4 : hh_487.2.1 2 4 = 0 := by decide +kernel
  have i196_14 : hh_487.2.1 196 14 = 0 := by decide +kernel
  have r0_3 : hh_487.2.2.2.1 0 3 = some 2 := by decide +kernel
  refine ex_aload_n (pc' := 690) dL_law_689 rfl rfl ?_
  refine ex_aload_n (pc' := 691) dL_law_690 rfl rfl ?_
  refine ex_iload (pc' := 693) dL_law_691 rfl rfl ?_
  refine ex_iconst (v := 1) (pc' := 694) dL_law_693 (by decide) rfl ?_
  refine ex_iadd (pc' := 695) (v := 1) dL_law_694 (by decide) rfl ?_
  refine ex_sald (pc' := 696) (n := 6) (xs := xs) (v := xs 1) dL_law_695 s1000000 rfl (by decide) rfl rfl ?_
  refine en_callvI (pc' := 699) (vs := [.inl (xs 1)]) (rest := []) (h2 := zsI (hh_487) 0 2 1) (v := (-1)) dL_law_696 ml_13_75 ⟨zble rfl, zble rfl⟩ rfl rfl s0 (zblt rfl) (zble rfl) rfl (kX11_sent_1 _ hh_487 (xs 1) s0 s2 i2_4 r0_3) ?_
  refine ex_aload_n (pc' := 700) dL_law_699 rfl rfl ?_
  refine ex_aload_n (pc' := 701) dL_law_700 rfl rfl ?_
  refine ex_iload (pc' := 703) dL_law_701 rfl rfl ?_
  refine ex_iconst (v := 1) (pc' := 704) dL_law_703 (by decide) rfl ?_
  refine ex_iadd (pc' := 705) (v := 1) dL_law_704 (by decide) rfl ?_
  refine ex_sald (pc' := 706) (n := 6) (xs := xs) (v := xs 1) dL_law_705 (zsiI s1000000) rfl (by decide) rfl rfl ?_
  refine en_callvI (pc' := 709) (vs := [.inl (xs 1)]) (rest := [.inl (-1)]) (h2 := zsI (zsI (zsI (zsI (hh_487) 0 2 1) 196 0 0) 196 11 0) 196 11 1) (v := (-1)) dL_law_706 ml_13_78 ⟨zble rfl, zble rfl⟩ rfl rfl (zsiI s196) (zblt rfl) (zble rfl) rfl (kX12_sent_1 _ (zsI (hh_487) 0 2 1) (xs 1) (zsiI s196) i196_14) ?_
  refine ex_icmp_t (pc' := 1834) dL_law_709 (by decide) (by decide) ?_
  refine ex_iinc (pc' := 1837) (v := 6) (ls' := [(4, .inl 6), (3, .inr (.inr (some 213))), (2, .inr (.inr (some 196))), (1, .inr (.inr (some 0))), (0, .inr (.inr (some 1000000)))]) dL_law_1834 rfl (by decide) (by decide) rfl rfl ?_
  refine ex_goto (pc' := 23) dL_law_1837 (by decide) ?_
  refine ex_iload (pc' := 25) dL_law_23 rfl rfl ?_
  refine ex_aload_n (pc' := 26) dL_law_25 rfl rfl ?_
  refine ex_slen (pc' := 27) (n := 6) (xs := xs) (v := 6) dL_law_26 (zsiI (zsiI (zsiI (zsiI s1000000)))) rfl (by decide) rfl ?_
  refine ex_bipush (v := 6) (pc' := 29) dL_law_27 (by decide) rfl ?_
  refine ex_isub (pc' := 30) (v := 0) dL_law_29 (by decide) rfl ?_
  refine ex_icmp_t (pc' := 1840) dL_law_30 (by decide) (by decide) ?_
  refine ex_iconst (v := 1) (pc' := 1841) dL_law_1840 (by decide) rfl ?_
  exact ex_iret dL_law_1841 rfl (by decide) ⟨rfl, zble rfl, zble rfl, zble rfl⟩
set_option maxRecDepth 10000 in
theorem kl_op_14 (d : Nat) (xs : Nat → Int32) : zEx (some (6, xs)) (d + 4) mL_law (714, [(4, .inl 0), (3, .inr (.inr (some 213))), (2, .inr (.inr (some 196))), (1, .inr (.inr (some 0))), (0, .inr (.inr (some 1000000)))], [], hh_487) zQL := by
  have s1000000 : zsh hh_487 1000000 = none := by decide +kernel
  have s0 : zsh hh_487 0 = some (11, 16) := by decide +kernel
  have s2 : zsh hh_487 2 = some (4, 15) := by decide +kernel
  have s196 : zsh hh_487 196 = some (12, 39) := by decide +kernel
  have i2_4 : hh_487.2.1 2 4 = 0 := by decide +kernel
  have i196_14 : hh_487.2.1 196 14 = 0 := by decide +kernel
  have r0_3 : hh_487.2.2.2.1 0 3 = some 2 := by decide +kernel
  refine ex_aload_n (pc' := 715) dL_law_714 rfl rfl ?_
  refine ex_aload_n (pc' := 716) dL_law_715 rfl rfl ?_
  refine ex_iload (pc' := 718) dL_law_716 rfl rfl ?_
  refine ex_iconst (v := 1) (pc' := 719) dL_law_718 (by decide) rfl ?_
  refine ex_iadd (pc' := 720) (v := 1) dL_law_719 (by decide) rfl ?_
  refine ex_sald (pc' := 721) (n := 6) (xs := xs) (v := xs 1) dL_law_720 s1000000 rfl (by decide) rfl rfl ?_
  refine ex_aload_n (pc' := 722) dL_law_721 rfl rfl ?_
  refine ex_iload (pc' := 724) dL_law_722 rfl rfl ?_
  refine ex_iconst (v := 2) (pc' := 725) dL_law_724 (by decide) rfl ?_
  refine ex_iadd (pc' := 726) (v := 2) dL_law_725 (by decide) rfl ?_
  refine ex_sald (pc' := 727) (n := 6) (xs := xs) (v := xs 2) dL_law_726 s1000000 rfl (by decide) rfl rfl ?_
  refine en_callvI (pc' := 730) (vs := [.inl (xs 1), .inl (xs 2)]) (rest := []) (h2 := zsI (hh_487) 0 2 1) (v := (-1)) dL_law_727 ml_13_79 ⟨zble rfl, zble rfl⟩ rfl rfl s0 (zblt rfl) (zble rfl) rfl (kX11_apart_1 _ hh_487 (xs 1) (xs 2) s0 s2 i2_4 r0_3) ?_
  refine ex_aload_n (pc' := 731) dL_law_730 rfl rfl ?_
  refine ex_aload_n (pc' := 732) dL_law_731 rfl rfl ?_
  refine ex_iload (pc' := 734) dL_law_732 rfl rfl ?_
  refine ex_iconst (v := 1) (pc' := 735) dL_law_734 (by decide) rfl ?_
  refine ex_iadd (pc' := 736) (v := 1) dL_law_735 (by decide) rfl ?_
  refine ex_sald (pc' := 737) (n := 6) (xs := xs) (v := xs 1) dL_law_736 (zsiI s1000000) rfl (by decide) rfl rfl ?_
  refine ex_aload_n (pc' := 738) dL_law_737 rfl rfl ?_
  refine ex_iload (pc' := 740) dL_law_738 rfl rfl ?_
  refine ex_iconst (v := 2) (pc' := 741) dL_law_740 (by decide) rfl ?_
  refine ex_iadd (pc' := 742) (v := 2) dL_law_741 (by decide) rfl ?_
  refine ex_sald (pc' := 743) (n := 6) (xs := xs) (v := xs 2) dL_law_742 (zsiI s1000000) rfl (by decide) rfl rfl ?_
  refine en_callvI (pc' := 746) (vs := [.inl (xs 1), .inl (xs 2)]) (rest := [.inl (-1)]) (h2 := zsI (zsI (zsI (zsI (hh_487) 0 2 1) 196 0 0) 196 11 0) 196 11 1) (v := (-1)) dL_law_743 ml_13_82 ⟨zble rfl, zble rfl⟩ rfl rfl (zsiI s196) (zblt rfl) (zble rfl) rfl (kX12_apart_1 _ (zsI (hh_487) 0 2 1) (xs 1) (xs 2) (zsiI s196) i196_14) ?_
  refine ex_icmp_t (pc' := 1834) dL_law_746 (by decide) (by decide) ?_
  refine ex_iinc (pc' := 1837) (v := 6) (ls' := [(4, .inl 6), (3, .inr (.inr (some 213))), (2, .inr (.inr (some 196))), (1, .inr (.inr (some 0))), (0, .inr (.inr (some 1000000)))]) dL_law_1834 rfl (by decide) (by decide) rfl rfl ?_
  refine ex_goto (pc' := 23) dL_law_1837 (by decide) ?_
  refine ex_iload (pc' := 25) dL_law_23 rfl rfl ?_
  refine ex_aload_n (pc' := 26) dL_law_25 rfl rfl ?_
  refine ex_slen (pc' := 27) (n := 6) (xs := xs) (v := 6) dL_law_26 (zsiI (zsiI (zsiI (zsiI s1000000)))) rfl (by decide) rfl ?_
  refine ex_bipush (v := 6) (pc' := 29) dL_law_27 (by decide) rfl ?_
  refine ex_isub (pc' := 30) (v := 0) dL_law_29 (by decide) rfl ?_
  refine ex_icmp_t (pc' := 1840) dL_law_30 (by decide) (by decide) ?_
  refine ex_iconst (v := 1) (pc' := 1841) dL_law_1840 (by decide) rfl ?_
  exact ex_iret dL_law_1841 rfl (by decide) ⟨rfl, zble rfl, zble rfl, zble rfl⟩
set_option maxRecDepth 10000 in
theorem kl_op_15 (d : Nat) (xs : Nat → Int32) : zEx (some (6, xs)) (d + 4) mL_law (751, [(4, .inl 0), (3, .inr (.inr (some 213))), (2, .inr (.inr (some 196))), (1, .inr (.inr (some 0))), (0, .inr (.inr (some 1000000)))], [], hh_487) zQL := by
  have s0 : zsh hh_487 0 = some (11, 16) := by decide +kernel
  have s2 : zsh hh_487 2 = some (4, 15) := by decide +kernel
  have s196 : zsh hh_487 196 = some (12, 39) := by decide +kernel
  have s1000000 : zsh hh_487 1000000 = none := by decide +kernel
  have i2_4 : hh_487.2.1 2 4 = 0 := by decide +kernel
  have i196_14 : hh_487.2.1 196 14 = 0 := by decide +kernel
  have r0_3 : hh_487.2.2.2.1 0 3 = some 2 := by decide +kernel
  refine ex_aload_n (pc' := 752) dL_law_751 rfl rfl ?_
  refine en_callvI (pc' := 755) (vs := []) (rest := []) (h2 := zsI (hh_487) 0 2 1) (v := (-1)) dL_law_752 ml_13_83 ⟨zble rfl, zble rfl⟩ rfl rfl s0 (zblt rfl) (zble rfl) rfl (kX11_bear_1 _ hh_487 s0 s2 i2_4 r0_3) ?_
  refine ex_aload_n (pc' := 756) dL_law_755 rfl rfl ?_
  refine en_callvI (pc' := 759) (vs := []) (rest := [.inl (-1)]) (h2 := zsI (zsI (zsI (zsI (hh_487) 0 2 1) 196 0 0) 196 11 0) 196 11 1) (v := (-1)) dL_law_756 ml_13_86 ⟨zble rfl, zble rfl⟩ rfl rfl (zsiI s196) (zblt rfl) (zble rfl) rfl (kX12_bear_1 _ (zsI (hh_487) 0 2 1) (zsiI s196) i196_14) ?_
  refine ex_icmp_t (pc' := 1834) dL_law_759 (by decide) (by decide) ?_
  refine ex_iinc (pc' := 1837) (v := 6) (ls' := [(4, .inl 6), (3, .inr (.inr (some 213))), (2, .inr (.inr (some 196))), (1, .inr (.inr (some 0))), (0, .inr (.inr (some 1000000)))]) dL_law_1834 rfl (by decide) (by decide) rfl rfl ?_
  refine ex_goto (pc' := 23) dL_law_1837 (by decide) ?_
  refine ex_iload (pc' := 25) dL_law_23 rfl rfl ?_
  refine ex_aload_n (pc' := 26) dL_law_25 rfl rfl ?_
  refine ex_slen (pc' := 27) (n := 6) (xs := xs) (v := 6) dL_law_26 (zsiI (zsiI (zsiI (zsiI s1000000)))) rfl (by decide) rfl ?_
  refine ex_bipush (v := 6) (pc' := 29) dL_law_27 (by decide) rfl ?_
  refine ex_isub (pc' := 30) (v := 0) dL_law_29 (by decide) rfl ?_
  refine ex_icmp_t (pc' := 1840) dL_law_30 (by decide) (by decide) ?_
  refine ex_iconst (v := 1) (pc' := 1841) dL_law_1840 (by decide) rfl ?_
  exact ex_iret dL_law_1841 rfl (by decide) ⟨rfl, zble rfl, zble rfl, zble rfl⟩
set_option maxRecDepth 10000 in
theorem kl_op_16 (d : Nat) (xs : Nat → Int32) : zEx (some (6, xs)) (d + 4) mL_law (764, [(4, .inl 0), (3, .inr (.inr (some 213))), (2, .inr (.inr (some 196))), (1, .inr (.inr (some 0))), (0, .inr (.inr (some 1000000)))], [], hh_487) zQL := by
  have s0 : zsh hh_487 0 = some (11, 16) := by decide +kernel
  have s2 : zsh hh_487 2 = some (4, 15) := by decide +kernel
  have s196 : zsh hh_487 196 = some (12, 39) := by decide +kernel
  have s1000000 : zsh hh_487 1000000 = none := by decide +kernel
  have i2_4 : hh_487.2.1 2 4 = 0 := by decide +kernel
  have i196_14 : hh_487.2.1 196 14 = 0 := by decide +kernel
  have r0_3 : hh_487.2.2.2.1 0 3 = some 2 := by decide +kernel
  refine ex_aload_n (pc' := 765) dL_law_764 rfl rfl ?_
  refine en_callvI (pc' := 768) (vs := []) (rest := []) (h2 := zsI (hh_487) 0 2 1) (v := (-1)) dL_law_765 ml_13_87 ⟨zble rfl, zble rfl⟩ rfl rfl s0 (zblt rfl) (zble rfl) rfl (kX11_mixed_1 _ hh_487 s0 s2 i2_4 r0_3) ?_
  refine ex_aload_n (pc' := 769) dL_law_768 rfl rfl ?_
  refine en_callvI (pc' := 772) (vs := []) (rest := [.inl (-1)]) (h2 := zsI (zsI (zsI (zsI (hh_487) 0 2 1) 196 0 0) 196 11 0) 196 11 1) (v := (-1)) dL_law_769 ml_13_90 ⟨zble rfl, zble rfl⟩ rfl rfl (zsiI s196) (zblt rfl) (zble rfl) rfl (kX12_mixed_1 _ (zsI (hh_487) 0 2 1) (zsiI s196) i196_14) ?_
  refine ex_icmp_t (pc' := 1834) dL_law_772 (by decide) (by decide) ?_
  refine ex_iinc (pc' := 1837) (v := 6) (ls' := [(4, .inl 6), (3, .inr (.inr (some 213))), (2, .inr (.inr (some 196))), (1, .inr (.inr (some 0))), (0, .inr (.inr (some 1000000)))]) dL_law_1834 rfl (by decide) (by decide) rfl rfl ?_
  refine ex_goto (pc' := 23) dL_law_1837 (by decide) ?_
  refine ex_iload (pc' := 25) dL_law_23 rfl rfl ?_
  refine ex_aload_n (pc' := 26) dL_law_25 rfl rfl ?_
  refine ex_slen (pc' := 27) (n := 6) (xs := xs) (v := 6) dL_law_26 (zsiI (zsiI (zsiI (zsiI s1000000)))) rfl (by decide) rfl ?_
  refine ex_bipush (v := 6) (pc' := 29) dL_law_27 (by decide) rfl ?_
  refine ex_isub (pc' := 30) (v := 0) dL_law_29 (by decide) rfl ?_
  refine ex_icmp_t (pc' := 1840) dL_law_30 (by decide) (by decide) ?_
  refine ex_iconst (v := 1) (pc' := 1841) dL_law_1840 (by decide) rfl ?_
  exact ex_iret dL_law_1841 rfl (by decide) ⟨rfl, zble rfl, zble rfl, zble rfl⟩
set_option maxRecDepth 10000 in
theorem kl_op_17 (d : Nat) (xs : Nat → Int32) : zEx (some (6, xs)) (d + 4) mL_law (777, [(4, .inl 0), (3, .inr (.inr (some 213))), (2, .inr (.inr (some 196))), (1, .inr (.inr (some 0))), (0, .inr (.inr (some 1000000)))], [], hh_487) zQL := by
  have s1000000 : zsh hh_487 1000000 = none := by decide +kernel
  have s0 : zsh hh_487 0 = some (11, 16) := by decide +kernel
  have s2 : zsh hh_487 2 = some (4, 15) := by decide +kernel
  have s196 : zsh hh_487 196 = some (12, 39) := by decide +kernel
  have i2_4 : hh_487.2.1 2 4 = 0 := by decide +kernel
  have i196_14 : hh_487.2.1 196 14 = 0 := by decide +kernel
  have r0_3 : hh_487.2.2.2.1 0 3 = some 2 := by decide +kernel
  refine ex_aload_n (pc' := 778) dL_law_777 rfl rfl ?_
  refine ex_aload_n (pc' := 779) dL_law_778 rfl rfl ?_
  refine ex_iload (pc' := 781) dL_law_779 rfl rfl ?_
  refine ex_iconst (v := 1) (pc' := 782) dL_law_781 (by decide) rfl ?_
  refine ex_iadd (pc' := 783) (v := 1) dL_law_782 (by decide) rfl ?_
  refine ex_sald (pc' := 784) (n := 6) (xs := xs) (v := xs 1) dL_law_783 s1000000 rfl (by decide) rfl rfl ?_
  refine ex_aload_n (pc' := 785) dL_law_784 rfl rfl ?_
  refine ex_iload (pc' := 787) dL_law_785 rfl rfl ?_
  refine ex_iconst (v := 2) (pc' := 788) dL_law_787 (by decide) rfl ?_
  refine ex_iadd (pc' := 789) (v := 2) dL_law_788 (by decide) rfl ?_
  refine ex_sald (pc' := 790) (n := 6) (xs := xs) (v := xs 2) dL_law_789 s1000000 rfl (by decide) rfl rfl ?_
  refine en_callvI (pc' := 793) (vs := [.inl (xs 1), .inl (xs 2)]) (rest := []) (h2 := zsI (hh_487) 0 2 1) (v := (-1)) dL_law_790 ml_13_91 ⟨zble rfl, zble rfl⟩ rfl rfl s0 (zblt rfl) (zble rfl) rfl (kX11_fresh_1 _ hh_487 (xs 1) (xs 2) s0 s2 i2_4 r0_3) ?_
  refine ex_aload_n (pc' := 794) dL_law_793 rfl rfl ?_
  refine ex_aload_n (pc' := 795) dL_law_794 rfl rfl ?_
  refine ex_iload (pc' := 797) dL_law_795 rfl rfl ?_
  refine ex_iconst (v := 1) (pc' := 798) dL_law_797 (by decide) rfl ?_
  refine ex_iadd (pc' := 799) (v := 1) dL_law_798 (by decide) rfl ?_
  refine ex_sald (pc' := 800) (n := 6) (xs := xs) (v := xs 1) dL_law_799 (zsiI s1000000) rfl (by decide) rfl rfl ?_
  refine ex_aload_n (pc' := 801) dL_law_800 rfl rfl ?_
  refine ex_iload (pc' := 803) dL_law_801 rfl rfl ?_
  refine ex_iconst (v := 2) (pc' := 804) dL_law_803 (by decide) rfl ?_
  refine ex_iadd (pc' := 805) (v := 2) dL_law_804 (by decide) rfl ?_
  refine ex_sald (pc' := 806) (n := 6) (xs := xs) (v := xs 2) dL_law_805 (zsiI s1000000) rfl (by decide) rfl rfl ?_
  refine en_callvI (pc' := 809) (vs := [.inl (xs 1), .inl (xs 2)]) (rest := [.inl (-1)]) (h2 := zsI (zsI (zsI (zsI (hh_487) 0 2 1) 196 0 0) 196 11 0) 196 11 1) (v := (-1)) dL_law_806 ml_13_94 ⟨zble rfl, zble rfl⟩ rfl rfl (zsiI s196) (zblt rfl) (zble rfl) rfl (kX12_fresh_1 _ (zsI (hh_487) 0 2 1) (xs 1) (xs 2) (zsiI s196) i196_14) ?_
  refine ex_icmp_t (pc' := 1834) dL_law_809 (by decide) (by decide) ?_
  refine ex_iinc (pc' := 1837) (v := 6) (ls' := [(4, .inl 6), (3, .inr (.inr (some 213))), (2, .inr (.inr (some 196))), (1, .inr (.inr (some 0))), (0, .inr (.inr (some 1000000)))]) dL_law_1834 rfl (by decide) (by decide) rfl rfl ?_
  refine ex_goto (pc' := 23) dL_law_1837 (by decide) ?_
  refine ex_iload (pc' := 25) dL_law_23 rfl rfl ?_
  refine ex_aload_n (pc' := 26) dL_law_25 rfl rfl ?_
  refine ex_slen (pc' := 27) (n := 6) (xs := xs) (v := 6) dL_law_26 (zsiI (zsiI (zsiI (zsiI s1000000)))) rfl (by decide) rfl ?_
  refine ex_bipush (v := 6) (pc' := 29) dL_law_27 (by decide) rfl ?_
  refine ex_isub (pc' := 30) (v := 0) dL_law_29 (by decide) rfl ?_
  refine ex_icmp_t (pc' := 1840) dL_law_30 (by decide) (by decide) ?_
  refine ex_iconst (v := 1) (pc' := 1841) dL_law_1840 (by decide) rfl ?_
  exact ex_iret dL_law_1841 rfl (by decide) ⟨rfl, zble rfl, zble rfl, zble rfl⟩
set_option maxRecDepth 10000 in
theorem kl_op_18 (d : Nat) (xs : Nat → Int32) : zEx (some (6, xs)) (d + 4) mL_law (814, [(4, .inl 0), (3, .inr (.inr (some 213))), (2, .inr (.inr (some 196))), (1, .inr (.inr (some 0))), (0, .inr (.inr (some 1000000)))], [], hh_487) zQL := by
  have s1000000 : zsh hh_487 1000000 = none := by decide +kernel
  have s0 : zsh hh_487 0 = some (11, 16) := by decide +kernel
  have s2 : zsh hh_487 2 = some (4, 15) := by decide +kernel
  have s196 : zsh hh_487 196 = some (12, 39) := by decide +kernel
  have i2_4 : hh_487.2.1 2 4 = 0 := by decide +kernel
  have i196_14 : hh_487.2.1 196 14 = 0 := by decide +kernel
  have r0_3 : hh_487.2.2.2.1 0 3 = some 2 := by decide +kernel
  refine ex_aload_n (pc' := 815) dL_law_814 rfl rfl ?_
  refine ex_aload_n (pc' := 816) dL_law_815 rfl rfl ?_
  refine ex_iload (pc' := 818) dL_law_816 rfl rfl ?_
  refine ex_iconst (v := 1) (pc' := 819) dL_law_818 (by decide) rfl ?_
  refine ex_iadd (pc' := 820) (v := 1) dL_law_819 (by decide) rfl ?_
  refine ex_sald (pc' := 821) (n := 6) (xs := xs) (v := xs 1) dL_law_820 s1000000 rfl (by decide) rfl rfl ?_
  refine ex_aload_n (pc' := 822) dL_law_821 rfl rfl ?_
  refine ex_iload (pc' := 824) dL_law_822 rfl rfl ?_
  refine ex_iconst (v := 2) (pc' := 825) dL_law_824 (by decide) rfl ?_
  refine ex_iadd (pc' := 826) (v := 2) dL_law_825 (by decide) rfl ?_
  refine ex_sald (pc' := 827) (n := 6) (xs := xs) (v := xs 2) dL_law_826 s1000000 rfl (by decide) rfl rfl ?_
  refine en_callvI (pc' := 830) (vs := [.inl (xs 1), .inl (xs 2)]) (rest := []) (h2 := zsI (hh_487) 0 2 1) (v := (-1)) dL_law_827 ml_13_95 ⟨zble rfl, zble rfl⟩ rfl rfl s0 (zblt rfl) (zble rfl) rfl (kX11_byTurns_1 _ hh_487 (xs 1) (xs 2) s0 s2 i2_4 r0_3) ?_
  refine ex_aload_n (pc' := 831) dL_law_830 rfl rfl ?_
  refine ex_aload_n (pc' := 832) dL_law_831 rfl rfl ?_
  refine ex_iload (pc' := 834) dL_law_832 rfl rfl ?_
  refine ex_iconst (v := 1) (pc' := 835) dL_law_834 (by decide) rfl ?_
  refine ex_iadd (pc' := 836) (v := 1) dL_law_835 (by decide) rfl ?_
  refine ex_sald (pc' := 837) (n := 6) (xs := xs) (v := xs 1) dL_law_836 (zsiI s1000000) rfl (by decide) rfl rfl ?_
  refine ex_aload_n (pc' := 838) dL_law_837 rfl rfl ?_
  refine ex_iload (pc' := 840) dL_law_838 rfl rfl ?_
  refine ex_iconst (v := 2) (pc' := 841) dL_law_840 (by decide) rfl ?_
  refine ex_iadd (pc' := 842) (v := 2) dL_law_841 (by decide) rfl ?_
  refine ex_sald (pc' := 843) (n := 6) (xs := xs) (v := xs 2) dL_law_842 (zsiI s1000000) rfl (by decide) rfl rfl ?_
  refine en_callvI (pc' := 846) (vs := [.inl (xs 1), .inl (xs 2)]) (rest := [.inl (-1)]) (h2 := zsI (zsI (zsI (zsI (hh_487) 0 2 1) 196 0 0) 196 11 0) 196 11 1) (v := (-1)) dL_law_843 ml_13_98 ⟨zble rfl, zble rfl⟩ rfl rfl (zsiI s196) (zblt rfl) (zble rfl) rfl (kX12_byTurns_1 _ (zsI (hh_487) 0 2 1) (xs 1) (xs 2) (zsiI s196) i196_14) ?_
  refine ex_icmp_t (pc' := 1834) dL_law_846 (by decide) (by decide) ?_
  refine ex_iinc (pc' := 1837) (v := 6) (ls' := [(4, .inl 6), (3, .inr (.inr (some 213))), (2, .inr (.inr (some 196))), (1, .inr (.inr (some 0))), (0, .inr (.inr (some 1000000)))]) dL_law_1834 rfl (by decide) (by decide) rfl rfl ?_
  refine ex_goto (pc' := 23) dL_law_1837 (by decide) ?_
  refine ex_iload (pc' := 25) dL_law_23 rfl rfl ?_
  refine ex_aload_n (pc' := 26) dL_law_25 rfl rfl ?_
  refine ex_slen (pc' := 27) (n := 6) (xs := xs) (v := 6) dL_law_26 (zsiI (zsiI (zsiI (zsiI s1000000)))) rfl (by decide) rfl ?_
  refine ex_bipush (v := 6) (pc' := 29) dL_law_27 (by decide) rfl ?_
  refine ex_isub (pc' := 30) (v := 0) dL_law_29 (by decide) rfl ?_
  refine ex_icmp_t (pc' := 1840) dL_law_30 (by decide) (by decide) ?_
  refine ex_iconst (v := 1) (pc' := 1841) dL_law_1840 (by decide) rfl ?_
  exact ex_iret dL_law_1841 rfl (by decide) ⟨rfl, zble rfl, zble rfl, zble rfl⟩
set_option maxRecDepth 10000 in
theorem kl_op_19 (d : Nat) (xs : Nat → Int32) : zEx (some (6, xs)) (d + 4) mL_law (851, [(4, .inl 0), (3, .inr (.inr (some 213))), (2, .inr (.inr (some 196))), (1, .inr (.inr (some 0))), (0, .inr (.inr (some 1000000)))], [], hh_487) zQL := by
  have s1000000 : zsh hh_487 1000000 = none := by decide +kernel
  have s0 : zsh hh_487 0 = some (11, 16) := by decide +kernel
  have s2 : zsh hh_487 2 = some (4, 15) := by decide +kernel
  have s196 : zsh hh_487 196 = some (12, 39) := by decide +kernel
  have i2_7 : hh_487.2.1 2 7 = 0 := by decide +kernel
  have i196_14 : hh_487.2.1 196 14 = 0 := by decide +kernel
  have r0_3 : hh_487.2.2.2.1 0 3 = some 2 := by decide +kernel
  refine ex_aload_n (pc' := 852) dL_law_851 rfl rfl ?_
  refine ex_aload_n (pc' := 853) dL_law_852 rfl rfl ?_
  refine ex_iload (pc' := 855) dL_law_853 rfl rfl ?_
  refine ex_iconst (v := 1) (pc' := 856) dL_law_855 (by decide) rfl ?_
  refine ex_iadd (pc' := 857) (v := 1) dL_law_856 (by decide) rfl ?_
  refine ex_sald (pc' := 858) (n := 6) (xs := xs) (v := xs 1) dL_law_857 s1000000 rfl (by decide) rfl rfl ?_
  refine en_callvI (pc' := 861) (vs := [.inl (xs 1)]) (rest := []) (h2 := zsI (hh_487) 0 2 1) (v := (-1)) dL_law_858 ml_13_99 ⟨zble rfl, zble rfl⟩ rfl rfl s0 (zblt rfl) (zble rfl) rfl (kX11_near_1 _ hh_487 (xs 1) s0 s2 i2_7 r0_3) ?_
  refine ex_aload_n (pc' := 862) dL_law_861 rfl rfl ?_
  refine ex_aload_n (pc' := 863) dL_law_862 rfl rfl ?_
  refine ex_iload (pc' := 865) dL_law_863 rfl rfl ?_
  refine ex_iconst (v := 1) (pc' := 866) dL_law_865 (by decide) rfl ?_
  refine ex_iadd (pc' := 867) (v := 1) dL_law_866 (by decide) rfl ?_
  refine ex_sald (pc' := 868) (n := 6) (xs := xs) (v := xs 1) dL_law_867 (zsiI s1000000) rfl (by decide) rfl rfl ?_
  refine en_callvI (pc' := 871) (vs := [.inl (xs 1)]) (rest := [.inl (-1)]) (h2 := zsI (zsI (zsI (zsI (hh_487) 0 2 1) 196 0 0) 196 11 0) 196 11 1) (v := (-1)) dL_law_868 ml_13_102 ⟨zble rfl, zble rfl⟩ rfl rfl (zsiI s196) (zblt rfl) (zble rfl) rfl (kX12_near_1 _ (zsI (hh_487) 0 2 1) (xs 1) (zsiI s196) i196_14) ?_
  refine ex_icmp_t (pc' := 1834) dL_law_871 (by decide) (by decide) ?_
  refine ex_iinc (pc' := 1837) (v := 6) (ls' := [(4, .inl 6), (3, .inr (.inr (some 213))), (2, .inr (.inr (some 196))), (1, .inr (.inr (some 0))), (0, .inr (.inr (some 1000000)))]) dL_law_1834 rfl (by decide) (by decide) rfl rfl ?_
  refine ex_goto (pc' := 23) dL_law_1837 (by decide) ?_
  refine ex_iload (pc' := 25) dL_law_23 rfl rfl ?_
  refine ex_aload_n (pc' := 26) dL_law_25 rfl rfl ?_
  refine ex_slen (pc' := 27) (n := 6) (xs := xs) (v := 6) dL_law_26 (zsiI (zsiI (zsiI (zsiI s1000000)))) rfl (by decide) rfl ?_
  refine ex_bipush (v := 6) (pc' := 29) dL_law_27 (by decide) rfl ?_
  refine ex_isub (pc' := 30) (v := 0) dL_law_29 (by decide) rfl ?_
  refine ex_icmp_t (pc' := 1840) dL_law_30 (by decide) (by decide) ?_
  refine ex_iconst (v := 1) (pc' := 1841) dL_law_1840 (by decide) rfl ?_
  exact ex_iret dL_law_1841 rfl (by decide) ⟨rfl, zble rfl, zble rfl, zble rfl⟩
set_option maxRecDepth 10000 in
theorem kl_op_20 (d : Nat) (xs : Nat → Int32) : zEx (some (6, xs)) (d + 4) mL_law (876, [(4, .inl 0), (3, .inr (.inr (some 213))), (2, .inr (.inr (some 196))), (1, .inr (.inr (some 0))), (0, .inr (.inr (some 1000000)))], [], hh_487) zQL := by
  have s1000000 : zsh hh_487 1000000 = none := by decide +kernel
  have s0 : zsh hh_487 0 = some (11, 16) := by decide +kernel
  have s2 : zsh hh_487 2 = some (4, 15) := by decide +kernel
  have s196 : zsh hh_487 196 = some (12, 39) := by decide +kernel
  have i2_7 : hh_487.2.1 2 7 = 0 := by decide +kernel
  have i196_14 : hh_487.2.1 196 14 = 0 := by decide +kernel
  have r0_3 : hh_487.2.2.2.1 0 3 = some 2 := by decide +kernel
  refine ex_aload_n (pc' := 877) dL_law_876 rfl rfl ?_
  refine ex_aload_n (pc' := 878) dL_law_877 rfl rfl ?_
  refine ex_iload (pc' := 880) dL_law_878 rfl rfl ?_
  refine ex_iconst (v := 1) (pc' := 881) dL_law_880 (by decide) rfl ?_
  refine ex_iadd (pc' := 882) (v := 1) dL_law_881 (by decide) rfl ?_
  refine ex_sald (pc' := 883) (n := 6) (xs := xs) (v := xs 1) dL_law_882 s1000000 rfl (by decide) rfl rfl ?_
  refine en_callvI (pc' := 886) (vs := [.inl (xs 1)]) (rest := []) (h2 := zsI (hh_487) 0 2 1) (v := (-1)) dL_law_883 ml_13_103 ⟨zble rfl, zble rfl⟩ rfl rfl s0 (zblt rfl) (zble rfl) rfl (kX11_asNear_1 _ hh_487 (xs 1) s0 s2 i2_7 r0_3) ?_
  refine ex_aload_n (pc' := 887) dL_law_886 rfl rfl ?_
  refine ex_aload_n (pc' := 888) dL_law_887 rfl rfl ?_
  refine ex_iload (pc' := 890) dL_law_888 rfl rfl ?_
  refine ex_iconst (v := 1) (pc' := 891) dL_law_890 (by decide) rfl ?_
  refine ex_iadd (pc' := 892) (v := 1) dL_law_891 (by decide) rfl ?_
  refine ex_sald (pc' := 893) (n := 6) (xs := xs) (v := xs 1) dL_law_892 (zsiI s1000000) rfl (by decide) rfl rfl ?_
  refine en_callvI (pc' := 896) (vs := [.inl (xs 1)]) (rest := [.inl (-1)]) (h2 := zsI (zsI (zsI (zsI (hh_487) 0 2 1) 196 0 0) 196 11 0) 196 11 1) (v := (-1)) dL_law_893 ml_13_106 ⟨zble rfl, zble rfl⟩ rfl rfl (zsiI s196) (zblt rfl) (zble rfl) rfl (kX12_asNear_1 _ (zsI (hh_487) 0 2 1) (xs 1) (zsiI s196) i196_14) ?_
  refine ex_icmp_t (pc' := 1834) dL_law_896 (by decide) (by decide) ?_
  refine ex_iinc (pc' := 1837) (v := 6) (ls' := [(4, .inl 6), (3, .inr (.inr (some 213))), (2, .inr (.inr (some 196))), (1, .inr (.inr (some 0))), (0, .inr (.inr (some 1000000)))]) dL_law_1834 rfl (by decide) (by decide) rfl rfl ?_
  refine ex_goto (pc' := 23) dL_law_1837 (by decide) ?_
  refine ex_iload (pc' := 25) dL_law_23 rfl rfl ?_
  refine ex_aload_n (pc' := 26) dL_law_25 rfl rfl ?_
  refine ex_slen (pc' := 27) (n := 6) (xs := xs) (v := 6) dL_law_26 (zsiI (zsiI (zsiI (zsiI s1000000)))) rfl (by decide) rfl ?_
  refine ex_bipush (v := 6) (pc' := 29) dL_law_27 (by decide) rfl ?_
  refine ex_isub (pc' := 30) (v := 0) dL_law_29 (by decide) rfl ?_
  refine ex_icmp_t (pc' := 1840) dL_law_30 (by decide) (by decide) ?_
  refine ex_iconst (v := 1) (pc' := 1841) dL_law_1840 (by decide) rfl ?_
  exact ex_iret dL_law_1841 rfl (by decide) ⟨rfl, zble rfl, zble rfl, zble rfl⟩
set_option maxRecDepth 10000 in
theorem kl_op_21 (d : Nat) (xs : Nat → Int32) : zEx (some (6, xs)) (d + 4) mL_law (901, [(4, .inl 0), (3, .inr (.inr (some 213))), (2, .inr (.inr (some 196))), (1, .inr (.inr (some 0))), (0, .inr (.inr (some 1000000)))], [], hh_487) zQL := by
  have s1000000 : zsh hh_487 1000000 = none := by decide +kernel
  have s0 : zsh hh_487 0 = some (11, 16) := by decide +kernel
  have s2 : zsh hh_487 2 = some (4, 15) := by decide +kernel
  have s196 : zsh hh_487 196 = some (12, 39) := by decide +kernel
  have i2_7 : hh_487.2.1 2 7 = 0 := by decide +kernel
  have i196_14 : hh_487.2.1 196 14 = 0 := by decide +kernel
  have r0_3 : hh_487.2.2.2.1 0 3 = some 2 := by decide +kernel
  refine ex_aload_n (pc' := 902) dL_law_901 rfl rfl ?_
  refine ex_aload_n (pc' := 903) dL_law_902 rfl rfl ?_
  refine ex_iload (pc' := 905) dL_law_903 rfl rfl ?_
  refine ex_iconst (v := 1) (pc' := 906) dL_law_905 (by decide) rfl ?_
  refine ex_iadd (pc' := 907) (v := 1) dL_law_906 (by decide) rfl ?_
  refine ex_sald (pc' := 908) (n := 6) (xs := xs) (v := xs 1) dL_law_907 s1000000 rfl (by decide) rfl rfl ?_
  refine ex_aload_n (pc' := 909) dL_law_908 rfl rfl ?_
  refine ex_iload (pc' := 911) dL_law_909 rfl rfl ?_
  refine ex_iconst (v := 2) (pc' := 912) dL_law_911 (by decide) rfl ?_
  refine ex_iadd (pc' := 913) (v := 2) dL_law_912 (by decide) rfl ?_
  refine ex_sald (pc' := 914) (n := 6) (xs := xs) (v := xs 2) dL_law_913 s1000000 rfl (by decide) rfl rfl ?_
  refine en_callvI (pc' := 917) (vs := [.inl (xs 1), .inl (xs 2)]) (rest := []) (h2 := zsI (hh_487) 0 2 1) (v := (-1)) dL_law_914 ml_13_107 ⟨zble rfl, zble rfl⟩ rfl rfl s0 (zblt rfl) (zble rfl) rfl (kX11_heardIn_1 _ hh_487 (xs 1) (xs 2) s0 s2 i2_7 r0_3) ?_
  refine ex_aload_n (pc' := 918) dL_law_917 rfl rfl ?_
  refine ex_aload_n (pc' := 919) dL_law_918 rfl rfl ?_
  refine ex_iload (pc' := 921) dL_law_919 rfl rfl ?_
  refine ex_iconst (v := 1) (pc' := 922) dL_law_921 (by decide) rfl ?_
  refine ex_iadd (pc' := 923) (v := 1) dL_law_922 (by decide) rfl ?_
  refine ex_sald (pc' := 924) (n := 6) (xs := xs) (v := xs 1) dL_law_923 (zsiI s1000000) rfl (by decide) rfl rfl ?_
  refine ex_aload_n (pc' := 925) dL_law_924 rfl rfl ?_
  refine ex_iload (pc' := 927) dL_law_925 rfl rfl ?_
  refine ex_iconst (v := 2) (pc' := 928) dL_law_927 (by decide) rfl ?_
  refine ex_iadd (pc' := 929) (v := 2) dL_law_928 (by decide) rfl ?_
  refine ex_sald (pc' := 930) (n := 6) (xs := xs) (v := xs 2) dL_law_929 (zsiI s1000000) rfl (by decide) rfl rfl ?_
  refine en_callvI (pc' := 933) (vs := [.inl (xs 1), .inl (xs 2)]) (rest := [.inl (-1)]) (h2 := zsI (zsI (zsI (zsI (hh_487) 0 2 1) 196 0 0) 196 11 0) 196 11 1) (v := (-1)) dL_law_930 ml_13_110 ⟨zble rfl, zble rfl⟩ rfl rfl (zsiI s196) (zblt rfl) (zble rfl) rfl (kX12_heardIn_1 _ (zsI (hh_487) 0 2 1) (xs 1) (xs 2) (zsiI s196) i196_14) ?_
  refine ex_icmp_t (pc' := 1834) dL_law_933 (by decide) (by decide) ?_
  refine ex_iinc (pc' := 1837) (v := 6) (ls' := [(4, .inl 6), (3, .inr (.inr (some 213))), (2, .inr (.inr (some 196))), (1, .inr (.inr (some 0))), (0, .inr (.inr (some 1000000)))]) dL_law_1834 rfl (by decide) (by decide) rfl rfl ?_
  refine ex_goto (pc' := 23) dL_law_1837 (by decide) ?_
  refine ex_iload (pc' := 25) dL_law_23 rfl rfl ?_
  refine ex_aload_n (pc' := 26) dL_law_25 rfl rfl ?_
  refine ex_slen (pc' := 27) (n := 6) (xs := xs) (v := 6) dL_law_26 (zsiI (zsiI (zsiI (zsiI s1000000)))) rfl (by decide) rfl ?_
  refine ex_bipush (v := 6) (pc' := 29) dL_law_27 (by decide) rfl ?_
  refine ex_isub (pc' := 30) (v := 0) dL_law_29 (by decide) rfl ?_
  refine ex_icmp_t (pc' := 1840) dL_law_30 (by decide) (by decide) ?_
  refine ex_iconst (v := 1) (pc' := 1841) dL_law_1840 (by decide) rfl ?_
  exact ex_iret dL_law_1841 rfl (by decide) ⟨rfl, zble rfl, zble rfl, zble rfl⟩
set_option maxRecDepth 10000 in
theorem kl_op_22 (d : Nat) (xs : Nat → Int32) : zEx (some (6, xs)) (d + 4) mL_law (938, [(4, .inl 0), (3, .inr (.inr (some 213))), (2, .inr (.inr (some 196))), (1, .inr (.inr (some 0))), (0, .inr (.inr (some 1000000)))], [], hh_487) zQL := by
  have s1000000 : zsh hh_487 1000000 = none := by decide +kernel
  have s0 : zsh hh_487 0 = some (11, 16) := by decide +kernel
  have s2 : zsh hh_487 2 = some (4, 15) := by decide +kernel
  have s196 : zsh hh_487 196 = some (12, 39) := by decide +kernel
  have i2_4 : hh_487.2.1 2 4 = 0 := by decide +kernel
  have i196_14 : hh_487.2.1 196 14 = 0 := by decide +kernel
  have r0_3 : hh_487.2.2.2.1 0 3 = some 2 := by decide +kernel
  refine ex_aload_n (pc' := 939) dL_law_938 rfl rfl ?_
  refine ex_aload_n (pc' := 940) dL_law_939 rfl rfl ?_
  refine ex_iload (pc' := 942) dL_law_940 rfl rfl ?_
  refine ex_iconst (v := 1) (pc' := 943) dL_law_942 (by decide) rfl ?_
  refine ex_iadd (pc' := 944) (v := 1) dL_law_943 (by decide) rfl ?_
  refine ex_sald (pc' := 945) (n := 6) (xs := xs) (v := xs 1) dL_law_944 s1000000 rfl (by decide) rfl rfl ?_
  refine en_callvI (pc' := 948) (vs := [.inl (xs 1)]) (rest := []) (h2 := zsI (hh_487) 0 2 1) (v := (-1)) dL_law_945 ml_13_111 ⟨zble rfl, zble rfl⟩ rfl rfl s0 (zblt rfl) (zble rfl) rfl (kX11_strange_1 _ hh_487 (xs 1) s0 s2 i2_4 r0_3) ?_
  refine ex_aload_n (pc' := 949) dL_law_948 rfl rfl ?_
  refine ex_aload_n (pc' := 950) dL_law_949 rfl rfl ?_
  refine ex_iload (pc' := 952) dL_law_950 rfl rfl ?_
  refine ex_iconst (v := 1) (pc' := 953) dL_law_952 (by decide) rfl ?_
  refine ex_iadd (pc' := 954) (v := 1) dL_law_953 (by decide) rfl ?_
  refine ex_sald (pc' := 955) (n := 6) (xs := xs) (v := xs 1) dL_law_954 (zsiI s1000000) rfl (by decide) rfl rfl ?_
  refine en_callvI (pc' := 958) (vs := [.inl (xs 1)]) (rest := [.inl (-1)]) (h2 := zsI (zsI (zsI (zsI (hh_487) 0 2 1) 196 0 0) 196 11 0) 196 11 1) (v := (-1)) dL_law_955 ml_13_114 ⟨zble rfl, zble rfl⟩ rfl rfl (zsiI s196) (zblt rfl) (zble rfl) rfl (kX12_strange_1 _ (zsI (hh_487) 0 2 1) (xs 1) (zsiI s196) i196_14) ?_
  refine ex_icmp_t (pc' := 1834) dL_law_958 (by decide) (by decide) ?_
  refine ex_iinc (pc' := 1837) (v := 6) (ls' := [(4, .inl 6), (3, .inr (.inr (some 213))), (2, .inr (.inr (some 196))), (1, .inr (.inr (some 0))), (0, .inr (.inr (some 1000000)))]) dL_law_1834 rfl (by decide) (by decide) rfl rfl ?_
  refine ex_goto (pc' := 23) dL_law_1837 (by decide) ?_
  refine ex_iload (pc' := 25) dL_law_23 rfl rfl ?_
  refine ex_aload_n (pc' := 26) dL_law_25 rfl rfl ?_
  refine ex_slen (pc' := 27) (n := 6) (xs := xs) (v := 6) dL_law_26 (zsiI (zsiI (zsiI (zsiI s1000000)))) rfl (by decide) rfl ?_
  refine ex_bipush (v := 6) (pc' := 29) dL_law_27 (by decide) rfl ?_
  refine ex_isub (pc' := 30) (v := 0) dL_law_29 (by decide) rfl ?_
  refine ex_icmp_t (pc' := 1840) dL_law_30 (by decide) (by decide) ?_
  refine ex_iconst (v := 1) (pc' := 1841) dL_law_1840 (by decide) rfl ?_
  exact ex_iret dL_law_1841 rfl (by decide) ⟨rfl, zble rfl, zble rfl, zble rfl⟩
set_option maxRecDepth 10000 in
theorem kl_op_23 (d : Nat) (xs : Nat → Int32) : zEx (some (6, xs)) (d + 4) mL_law (963, [(4, .inl 0), (3, .inr (.inr (some 213))), (2, .inr (.inr (some 196))), (1, .inr (.inr (some 0))), (0, .inr (.inr (some 1000000)))], [], hh_487) zQL := by
  have s1000000 : zsh hh_487 1000000 = none := by decide +kernel
  have s0 : zsh hh_487 0 = some (11, 16) := by decide +kernel
  have s2 : zsh hh_487 2 = some (4, 15) := by decide +kernel
  have s196 : zsh hh_487 196 = some (12, 39) := by decide +kernel
  have i2_6 : hh_487.2.1 2 6 = 0 := by decide +kernel
  have i196_14 : hh_487.2.1 196 14 = 0 := by decide +kernel
  have r0_3 : hh_487.2.2.2.1 0 3 = some 2 := by decide +kernel
  refine ex_aload_n (pc' := 964) dL_law_963 rfl rfl ?_
  refine ex_aload_n (pc' := 965) dL_law_964 rfl rfl ?_
  refine ex_iload (pc' := 967) dL_law_965 rfl rfl ?_
  refine ex_iconst (v := 1) (pc' := 968) dL_law_967 (by decide) rfl ?_
  refine ex_iadd (pc' := 969) (v := 1) dL_law_968 (by decide) rfl ?_
  refine ex_sald (pc' := 970) (n := 6) (xs := xs) (v := xs 1) dL_law_969 s1000000 rfl (by decide) rfl rfl ?_
  refine ex_aload_n (pc' := 971) dL_law_970 rfl rfl ?_
  refine ex_iload (pc' := 973) dL_law_971 rfl rfl ?_
  refine ex_iconst (v := 2) (pc' := 974) dL_law_973 (by decide) rfl ?_
  refine ex_iadd (pc' := 975) (v := 2) dL_law_974 (by decide) rfl ?_
  refine ex_sald (pc' := 976) (n := 6) (xs := xs) (v := xs 2) dL_law_975 s1000000 rfl (by decide) rfl rfl ?_
  refine ex_aload_n (pc' := 977) dL_law_976 rfl rfl ?_
  refine ex_iload (pc' := 979) dL_law_977 rfl rfl ?_
  refine ex_iconst (v := 3) (pc' := 980) dL_law_979 (by decide) rfl ?_
  refine ex_iadd (pc' := 981) (v := 3) dL_law_980 (by decide) rfl ?_
  refine ex_sald (pc' := 982) (n := 6) (xs := xs) (v := xs 3) dL_law_981 s1000000 rfl (by decide) rfl rfl ?_
  refine ex_aload_n (pc' := 983) dL_law_982 rfl rfl ?_
  refine ex_iload (pc' := 985) dL_law_983 rfl rfl ?_
  refine ex_iconst (v := 4) (pc' := 986) dL_law_985 (by decide) rfl ?_
  refine ex_iadd (pc' := 987) (v := 4) dL_law_986 (by decide) rfl ?_
  refine ex_sald (pc' := 988) (n := 6) (xs := xs) (v := xs 4) dL_law_987 s1000000 rfl (by decide) rfl rfl ?_
  refine en_callvI (pc' := 991) (vs := [.inl (xs 1), .inl (xs 2), .inl (xs 3), .inl (xs 4)]) (rest := []) (h2 := zsI (hh_487) 0 2 1) (v := (-1)) dL_law_988 ml_13_115 ⟨zble rfl, zble rfl⟩ rfl rfl s0 (zblt rfl) (zble rfl) rfl (kX11_arrival_1 _ hh_487 (xs 1) (xs 2) (xs 3) (xs 4) s0 s2 i2_6 r0_3) ?_
  refine ex_aload_n (pc' := 992) dL_law_991 rfl rfl ?_
  refine ex_aload_n (pc' := 993) dL_law_992 rfl rfl ?_
  refine ex_iload (pc' := 995) dL_law_993 rfl rfl ?_
  refine ex_iconst (v := 1) (pc' := 996) dL_law_995 (by decide) rfl ?_
  refine ex_iadd (pc' := 997) (v := 1) dL_law_996 (by decide) rfl ?_
  refine ex_sald (pc' := 998) (n := 6) (xs := xs) (v := xs 1) dL_law_997 (zsiI s1000000) rfl (by decide) rfl rfl ?_
  refine ex_aload_n (pc' := 999) dL_law_998 rfl rfl ?_
  refine ex_iload (pc' := 1001) dL_law_999 rfl rfl ?_
  refine ex_iconst (v := 2) (pc' := 1002) dL_law_1001 (by decide) rfl ?_
  refine ex_iadd (pc' := 1003) (v := 2) dL_law_1002 (by decide) rfl ?_
  refine ex_sald (pc' := 1004) (n := 6) (xs := xs) (v := xs 2) dL_law_1003 (zsiI s1000000) rfl (by decide) rfl rfl ?_
  refine ex_aload_n (pc' := 1005) dL_law_1004 rfl rfl ?_
  refine ex_iload (pc' := 1007) dL_law_1005 rfl rfl ?_
  refine ex_iconst (v := 3) (pc' := 1008) dL_law_1007 (by decide) rfl ?_
  refine ex_iadd (pc' := 1009) (v := 3) dL_law_1008 (by decide) rfl ?_
  refine ex_sald (pc' := 1010) (n := 6) (xs := xs) (v := xs 3) dL_law_1009 (zsiI s1000000) rfl (by decide) rfl rfl ?_
  refine ex_aload_n (pc' := 1011) dL_law_1010 rfl rfl ?_
  refine ex_iload (pc' := 1013) dL_law_1011 rfl rfl ?_
  refine ex_iconst (v := 4) (pc' := 1014) dL_law_1013 (by decide) rfl ?_
  refine ex_iadd (pc' := 1015) (v := 4) dL_law_1014 (by decide) rfl ?_
  refine ex_sald (pc' := 1016) (n := 6) (xs := xs) (v := xs 4) dL_law_1015 (zsiI s1000000) rfl (by decide) rfl rfl ?_
  refine en_callvI (pc' := 1019) (vs := [.inl (xs 1), .inl (xs 2), .inl (xs 3), .inl (xs 4)]) (rest := [.inl (-1)]) (h2 := zsI (zsI (zsI (zsI (hh_487) 0 2 1) 196 0 0) 196 11 0) 196 11 1) (v := (-1)) dL_law_1016 ml_13_119 ⟨zble rfl, zble rfl⟩ rfl rfl (zsiI s196) (zblt rfl) (zble rfl) rfl (kX12_arrival_1 _ (zsI (hh_487) 0 2 1) (xs 1) (xs 2) (xs 3) (xs 4) (zsiI s196) i196_14) ?_
  refine ex_icmp_t (pc' := 1834) dL_law_1019 (by decide) (by decide) ?_
  refine ex_iinc (pc' := 1837) (v := 6) (ls' := [(4, .inl 6), (3, .inr (.inr (some 213))), (2, .inr (.inr (some 196))), (1, .inr (.inr (some 0))), (0, .inr (.inr (some 1000000)))]) dL_law_1834 rfl (by decide) (by decide) rfl rfl ?_
  refine ex_goto (pc' := 23) dL_law_1837 (by decide) ?_
  refine ex_iload (pc' := 25) dL_law_23 rfl rfl ?_
  refine ex_aload_n (pc' := 26) dL_law_25 rfl rfl ?_
  refine ex_slen (pc' := 27) (n := 6) (xs := xs) (v := 6) dL_law_26 (zsiI (zsiI (zsiI (zsiI s1000000)))) rfl (by decide) rfl ?_
  refine ex_bipush (v := 6) (pc' := 29) dL_law_27 (by decide) rfl ?_
  refine ex_isub (pc' := 30) (v := 0) dL_law_29 (by decide) rfl ?_
  refine ex_icmp_t (pc' := 1840) dL_law_30 (by decide) (by decide) ?_
  refine ex_iconst (v := 1) (pc' := 1841) dL_law_1840 (by decide) rfl ?_
  exact ex_iret dL_law_1841 rfl (by decide) ⟨rfl, zble rfl, zble rfl, zble rfl⟩
set_option maxRecDepth 10000 in
theorem kl_op_24 (d : Nat) (xs : Nat → Int32) : zEx (some (6, xs)) (d + 4) mL_law (1024, [(4, .inl 0), (3, .inr (.inr (some 213))), (2, .inr (.inr (some 196))), (1, .inr (.inr (some 0))), (0, .inr (.inr (some 1000000)))], [], hh_487) zQL := by
  have s1000000 : zsh hh_487 1000000 = none := by decide +kernel
  have s0 : zsh hh_487 0 = some (11, 16) := by decide +kernel
  have s2 : zsh hh_487 2 = some (4, 15) := by decide +kernel
  have s196 : zsh hh_487 196 = some (12, 39) := by decide +kernel
  have i2_6 : hh_487.2.1 2 6 = 0 := by decide +kernel
  have i196_14 : hh_487.2.1 196 14 = 0 := by decide +kernel
  have r0_3 : hh_487.2.2.2.1 0 3 = some 2 := by decide +kernel
  refine ex_aload_n (pc' := 1025) dL_law_1024 rfl rfl ?_
  refine ex_aload_n (pc' := 1026) dL_law_1025 rfl rfl ?_
  refine ex_iload (pc' := 1028) dL_law_1026 rfl rfl ?_
  refine ex_iconst (v := 1) (pc' := 1029) dL_law_1028 (by decide) rfl ?_
  refine ex_iadd (pc' := 1030) (v := 1) dL_law_1029 (by decide) rfl ?_
  refine ex_sald (pc' := 1031) (n := 6) (xs := xs) (v := xs 1) dL_law_1030 s1000000 rfl (by decide) rfl rfl ?_
  refine ex_aload_n (pc' := 1032) dL_law_1031 rfl rfl ?_
  refine ex_iload (pc' := 1034) dL_law_1032 rfl rfl ?_
  refine ex_iconst (v := 2) (pc' := 1035) dL_law_1034 (by decide) rfl ?_
  refine ex_iadd (pc' := 1036) (v := 2) dL_law_1035 (by decide) rfl ?_
  refine ex_sald (pc' := 1037) (n := 6) (xs := xs) (v := xs 2) dL_law_1036 s1000000 rfl (by decide) rfl rfl ?_
  refine en_callvI (pc' := 1040) (vs := [.inl (xs 1), .inl (xs 2)]) (rest := []) (h2 := zsI (hh_487) 0 2 1) (v := (-1)) dL_law_1037 ml_13_120 ⟨zble rfl, zble rfl⟩ rfl rfl s0 (zblt rfl) (zble rfl) rfl (kX11_brings_1 _ hh_487 (xs 1) (xs 2) s0 s2 i2_6 r0_3) ?_
  refine ex_aload_n (pc' := 1041) dL_law_1040 rfl rfl ?_
  refine ex_aload_n (pc' := 1042) dL_law_1041 rfl rfl ?_
  refine ex_iload (pc' := 1044) dL_law_1042 rfl rfl ?_
  refine ex_iconst (v := 1) (pc' := 1045) dL_law_1044 (by decide) rfl ?_
  refine ex_iadd (pc' := 1046) (v := 1) dL_law_1045 (by decide) rfl ?_
  refine ex_sald (pc' := 1047) (n := 6) (xs := xs) (v := xs 1) dL_law_1046 (zsiI s1000000) rfl (by decide) rfl rfl ?_
  refine ex_aload_n (pc' := 1048) dL_law_1047 rfl rfl ?_
  refine ex_iload (pc' := 1050) dL_law_1048 rfl rfl ?_
  refine ex_iconst (v := 2) (pc' := 1051) dL_law_1050 (by decide) rfl ?_
  refine ex_iadd (pc' := 1052) (v := 2) dL_law_1051 (by decide) rfl ?_
  refine ex_sald (pc' := 1053) (n := 6) (xs := xs) (v := xs 2) dL_law_1052 (zsiI s1000000) rfl (by decide) rfl rfl ?_
  refine en_callvI (pc' := 1056) (vs := [.inl (xs 1), .inl (xs 2)]) (rest := [.inl (-1)]) (h2 := zsI (zsI (zsI (zsI (hh_487) 0 2 1) 196 0 0) 196 11 0) 196 11 1) (v := (-1)) dL_law_1053 ml_13_123 ⟨zble rfl, zble rfl⟩ rfl rfl (zsiI s196) (zblt rfl) (zble rfl) rfl (kX12_brings_1 _ (zsI (hh_487) 0 2 1) (xs 1) (xs 2) (zsiI s196) i196_14) ?_
  refine ex_icmp_t (pc' := 1834) dL_law_1056 (by decide) (by decide) ?_
  refine ex_iinc (pc' := 1837) (v := 6) (ls' := [(4, .inl 6), (3, .inr (.inr (some 213))), (2, .inr (.inr (some 196))), (1, .inr (.inr (some 0))), (0, .inr (.inr (some 1000000)))]) dL_law_1834 rfl (by decide) (by decide) rfl rfl ?_
  refine ex_goto (pc' := 23) dL_law_1837 (by decide) ?_
  refine ex_iload (pc' := 25) dL_law_23 rfl rfl ?_
  refine ex_aload_n (pc' := 26) dL_law_25 rfl rfl ?_
  refine ex_slen (pc' := 27) (n := 6) (xs := xs) (v := 6) dL_law_26 (zsiI (zsiI (zsiI (zsiI s1000000)))) rfl (by decide) rfl ?_
  refine ex_bipush (v := 6) (pc' := 29) dL_law_27 (by decide) rfl ?_
  refine ex_isub (pc' := 30) (v := 0) dL_law_29 (by decide) rfl ?_
  refine ex_icmp_t (pc' := 1840) dL_law_30 (by decide) (by decide) ?_
  refine ex_iconst (v := 1) (pc' := 1841) dL_law_1840 (by decide) rfl ?_
  exact ex_iret dL_law_1841 rfl (by decide) ⟨rfl, zble rfl, zble rfl, zble rfl⟩
set_option maxRecDepth 10000 in
theorem kl_op_25 (d : Nat) (xs : Nat → Int32) : zEx (some (6, xs)) (d + 4) mL_law (1061, [(4, .inl 0), (3, .inr (.inr (some 213))), (2, .inr (.inr (some 196))), (1, .inr (.inr (some 0))), (0, .inr (.inr (some 1000000)))], [], hh_487) zQL := by
  have s1000000 : zsh hh_487 1000000 = none := by decide +kernel
  have s0 : zsh hh_487 0 = some (11, 16) := by decide +kernel
  have s2 : zsh hh_487 2 = some (4, 15) := by decide +kernel
  have s196 : zsh hh_487 196 = some (12, 39) := by decide +kernel
  have i2_7 : hh_487.2.1 2 7 = 0 := by decide +kernel
  have i196_14 : hh_487.2.1 196 14 = 0 := by decide +kernel
  have r0_3 : hh_487.2.2.2.1 0 3 = some 2 := by decide +kernel
  refine ex_aload_n (pc' := 1062) dL_law_1061 rfl rfl ?_
  refine ex_aload_n (pc' := 1063) dL_law_1062 rfl rfl ?_
  refine ex_iload (pc' := 1065) dL_law_1063 rfl rfl ?_
  refine ex_iconst (v := 1) (pc' := 1066) dL_law_1065 (by decide) rfl ?_
  refine ex_iadd (pc' := 1067) (v := 1) dL_law_1066 (by decide) rfl ?_
  refine ex_sald (pc' := 1068) (n := 6) (xs := xs) (v := xs 1) dL_law_1067 s1000000 rfl (by decide) rfl rfl ?_
  refine en_callvI (pc' := 1071) (vs := [.inl (xs 1)]) (rest := []) (h2 := zsI (hh_487) 0 2 1) (v := (-1)) dL_law_1068 ml_13_124 ⟨zble rfl, zble rfl⟩ rfl rfl s0 (zblt rfl) (zble rfl) rfl (kX11_soonest_1 _ hh_487 (xs 1) s0 s2 i2_7 r0_3) ?_
  refine ex_aload_n (pc' := 1072) dL_law_1071 rfl rfl ?_
  refine ex_aload_n (pc' := 1073) dL_law_1072 rfl rfl ?_
  refine ex_iload (pc' := 1075) dL_law_1073 rfl rfl ?_
  refine ex_iconst (v := 1) (pc' := 1076) dL_law_1075 (by decide) rfl ?_
  refine ex_iadd (pc' := 1077) (v := 1) dL_law_1076 (by decide) rfl ?_
  refine ex_sald (pc' := 1078) (n := 6) (xs := xs) (v := xs 1) dL_law_1077 (zsiI s1000000) rfl (by decide) rfl rfl ?_
  refine en_callvI (pc' := 1081) (vs := [.inl (xs 1)]) (rest := [.inl (-1)]) (h2 := zsI (zsI (zsI (zsI (hh_487) 0 2 1) 196 0 0) 196 11 0) 196 11 1) (v := (-1)) dL_law_1078 ml_13_127 ⟨zble rfl, zble rfl⟩ rfl rfl (zsiI s196) (zblt rfl) (zble rfl) rfl (kX12_soonest_1 _ (zsI (hh_487) 0 2 1) (xs 1) (zsiI s196) i196_14) ?_
  refine ex_icmp_t (pc' := 1834) dL_law_1081 (by decide) (by decide) ?_
  refine ex_iinc (pc' := 1837) (v := 6) (ls' := [(4, .inl 6), (3, .inr (.inr (some 213))), (2, .inr (.inr (some 196))), (1, .inr (.inr (some 0))), (0, .inr (.inr (some 1000000)))]) dL_law_1834 rfl (by decide) (by decide) rfl rfl ?_
  refine ex_goto (pc' := 23) dL_law_1837 (by decide) ?_
  refine ex_iload (pc' := 25) dL_law_23 rfl rfl ?_
  refine ex_aload_n (pc' := 26) dL_law_25 rfl rfl ?_
  refine ex_slen (pc' := 27) (n := 6) (xs := xs) (v := 6) dL_law_26 (zsiI (zsiI (zsiI (zsiI s1000000)))) rfl (by decide) rfl ?_
  refine ex_bipush (v := 6) (pc' := 29) dL_law_27 (by decide) rfl ?_
  refine ex_isub (pc' := 30) (v := 0) dL_law_29 (by decide) rfl ?_
  refine ex_icmp_t (pc' := 1840) dL_law_30 (by decide) (by decide) ?_
  refine ex_iconst (v := 1) (pc' := 1841) dL_law_1840 (by decide) rfl ?_
  exact ex_iret dL_law_1841 rfl (by decide) ⟨rfl, zble rfl, zble rfl, zble rfl⟩
set_option maxRecDepth 10000 in
theorem kl_op_26 (d : Nat) (xs : Nat → Int32) : zEx (some (6, xs)) (d + 4) mL_law (1086, [(4, .inl 0), (3, .inr (.inr (some 213))), (2, .inr (.inr (some 196))), (1, .inr (.inr (some 0))), (0, .inr (.inr (some 1000000)))], [], hh_487) zQL := by
  have s1000000 : zsh hh_487 1000000 = none := by decide +kernel
  have s0 : zsh hh_487 0 = some (11, 16) := by decide +kernel
  have s2 : zsh hh_487 2 = some (4, 15) := by decide +kernel
  have s196 : zsh hh_487 196 = some (12, 39) := by decide +kernel
  have i2_7 : hh_487.2.1 2 7 = 0 := by decide +kernel
  have i196_14 : hh_487.2.1 196 14 = 0 := by decide +kernel
  have r0_3 : hh_487.2.2.2.1 0 3 = some 2 := by decide +kernel
  refine ex_aload_n (pc' := 1087) dL_law_1086 rfl rfl ?_
  refine ex_aload_n (pc' := 1088) dL_law_1087 rfl rfl ?_
  refine ex_iload (pc' := 1090) dL_law_1088 rfl rfl ?_
  refine ex_iconst (v := 1) (pc' := 1091) dL_law_1090 (by decide) rfl ?_
  refine ex_iadd (pc' := 1092) (v := 1) dL_law_1091 (by decide) rfl ?_
  refine ex_sald (pc' := 1093) (n := 6) (xs := xs) (v := xs 1) dL_law_1092 s1000000 rfl (by decide) rfl rfl ?_
  refine en_callvI (pc' := 1096) (vs := [.inl (xs 1)]) (rest := []) (h2 := zsI (hh_487) 0 2 1) (v := (-1)) dL_law_1093 ml_13_128 ⟨zble rfl, zble rfl⟩ rfl rfl s0 (zblt rfl) (zble rfl) rfl (kX11_surest_1 _ hh_487 (xs 1) s0 s2 i2_7 r0_3) ?_
  refine ex_aload_n (pc' := 1097) dL_law_1096 rfl rfl ?_
  refine ex_aload_n (pc' := 1098) dL_law_1097 rfl rfl ?_
  refine ex_iload (pc' := 1100) dL_law_1098 rfl rfl ?_
  refine ex_iconst (v := 1) (pc' := 1101) dL_law_1100 (by decide) rfl ?_
  refine ex_iadd (pc' := 1102) (v := 1) dL_law_1101 (by decide) rfl ?_
  refine ex_sald (pc' := 1103) (n := 6) (xs := xs) (v := xs 1) dL_law_1102 (zsiI s1000000) rfl (by decide) rfl rfl ?_
  refine en_callvI (pc' := 1106) (vs := [.inl (xs 1)]) (rest := [.inl (-1)]) (h2 := zsI (zsI (zsI (zsI (hh_487) 0 2 1) 196 0 0) 196 11 0) 196 11 1) (v := (-1)) dL_law_1103 ml_13_131 ⟨zble rfl, zble rfl⟩ rfl rfl (zsiI s196) (zblt rfl) (zble rfl) rfl (kX12_surest_1 _ (zsI (hh_487) 0 2 1) (xs 1) (zsiI s196) i196_14) ?_
  refine ex_icmp_t (pc' := 1834) dL_law_1106 (by decide) (by decide) ?_
  refine ex_iinc (pc' := 1837) (v := 6) (ls' := [(4, .inl 6), (3, .inr (.inr (some 213))), (2, .inr (.inr (some 196))), (1, .inr (.inr (some 0))), (0, .inr (.inr (some 1000000)))]) dL_law_1834 rfl (by decide) (by decide) rfl rfl ?_
  refine ex_goto (pc' := 23) dL_law_1837 (by decide) ?_
  refine ex_iload (pc' := 25) dL_law_23 rfl rfl ?_
  refine ex_aload_n (pc' := 26) dL_law_25 rfl rfl ?_
  refine ex_slen (pc' := 27) (n := 6) (xs := xs) (v := 6) dL_law_26 (zsiI (zsiI (zsiI (zsiI s1000000)))) rfl (by decide) rfl ?_
  refine ex_bipush (v := 6) (pc' := 29) dL_law_27 (by decide) rfl ?_
  refine ex_isub (pc' := 30) (v := 0) dL_law_29 (by decide) rfl ?_
  refine ex_icmp_t (pc' := 1840) dL_law_30 (by decide) (by decide) ?_
  refine ex_iconst (v := 1) (pc' := 1841) dL_law_1840 (by decide) rfl ?_
  exact ex_iret dL_law_1841 rfl (by decide) ⟨rfl, zble rfl, zble rfl, zble rfl⟩
set_option maxRecDepth 10000 in
theorem kl_op_27 (d : Nat) (xs : Nat → Int32) : zEx (some (6, xs)) (d + 4) mL_law (1111, [(4, .inl 0), (3, .inr (.inr (some 213))), (2, .inr (.inr (some 196))), (1, .inr (.inr (some 0))), (0, .inr (.inr (some 1000000)))], [], hh_487) zQL := by
  have s1000000 : zsh hh_487 1000000 = none := by decide +kernel
  have s0 : zsh hh_487 0 = some (11, 16) := by decide +kernel
  have s2 : zsh hh_487 2 = some (4, 15) := by decide +kernel
  have s196 : zsh hh_487 196 = some (12, 39) := by decide +kernel
  have i2_7 : hh_487.2.1 2 7 = 0 := by decide +kernel
  have i196_14 : hh_487.2.1 196 14 = 0 := by decide +kernel
  have r0_3 : hh_487.2.2.2.1 0 3 = some 2 := by decide +kernel
  refine ex_aload_n (pc' := 1112) dL_law_1111 rfl rfl ?_
  refine ex_aload_n (pc' := 1113) dL_law_1112 rfl rfl ?_
  refine ex_iload (pc' := 1115) dL_law_1113 rfl rfl ?_
  refine ex_iconst (v := 1) (pc' := 1116) dL_law_1115 (by decide) rfl ?_
  refine ex_iadd (pc' := 1117) (v := 1) dL_law_1116 (by decide) rfl ?_
  refine ex_sald (pc' := 1118) (n := 6) (xs := xs) (v := xs 1) dL_law_1117 s1000000 rfl (by decide) rfl rfl ?_
  refine ex_aload_n (pc' := 1119) dL_law_1118 rfl rfl ?_
  refine ex_iload (pc' := 1121) dL_law_1119 rfl rfl ?_
  refine ex_iconst (v := 2) (pc' := 1122) dL_law_1121 (by decide) rfl ?_
  refine ex_iadd (pc' := 1123) (v := 2) dL_law_1122 (by decide) rfl ?_
  refine ex_sald (pc' := 1124) (n := 6) (xs := xs) (v := xs 2) dL_law_1123 s1000000 rfl (by decide) rfl rfl ?_
  refine en_callvI (pc' := 1127) (vs := [.inl (xs 1), .inl (xs 2)]) (rest := []) (h2 := zsI (hh_487) 0 2 1) (v := (-1)) dL_law_1124 ml_13_132 ⟨zble rfl, zble rfl⟩ rfl rfl s0 (zblt rfl) (zble rfl) rfl (kX11_by_1 _ hh_487 (xs 1) (xs 2) s0 s2 i2_7 r0_3) ?_
  refine ex_aload_n (pc' := 1128) dL_law_1127 rfl rfl ?_
  refine ex_aload_n (pc' := 1129) dL_law_1128 rfl rfl ?_
  refine ex_iload (pc' := 1131) dL_law_1129 rfl rfl ?_
  refine ex_iconst (v := 1) (pc' := 1132) dL_law_1131 (by decide) rfl ?_
  refine ex_iadd (pc' := 1133) (v := 1) dL_law_1132 (by decide) rfl ?_
  refine ex_sald (pc' := 1134) (n := 6) (xs := xs) (v := xs 1) dL_law_1133 (zsiI s1000000) rfl (by decide) rfl rfl ?_
  refine ex_aload_n (pc' := 1135) dL_law_1134 rfl rfl ?_
  refine ex_iload (pc' := 1137) dL_law_1135 rfl rfl ?_
  refine ex_iconst (v := 2) (pc' := 1138) dL_law_1137 (by decide) rfl ?_
  refine ex_iadd (pc' := 1139) (v := 2) dL_law_1138 (by decide) rfl ?_
  refine ex_sald (pc' := 1140) (n := 6) (xs := xs) (v := xs 2) dL_law_1139 (zsiI s1000000) rfl (by decide) rfl rfl ?_
  refine en_callvI (pc' := 1143) (vs := [.inl (xs 1), .inl (xs 2)]) (rest := [.inl (-1)]) (h2 := zsI (zsI (zsI (zsI (hh_487) 0 2 1) 196 0 0) 196 11 0) 196 11 1) (v := (-1)) dL_law_1140 ml_13_135 ⟨zble rfl, zble rfl⟩ rfl rfl (zsiI s196) (zblt rfl) (zble rfl) rfl (kX12_by_1 _ (zsI (hh_487) 0 2 1) (xs 1) (xs 2) (zsiI s196) i196_14) ?_
  refine ex_icmp_t (pc' := 1834) dL_law_1143 (by decide) (by decide) ?_
  refine ex_iinc (pc' := 1837) (v := 6) (ls' := [(4, .inl 6), (3, .inr (.inr (some 213))), (2, .inr (.inr (some 196))), (1, .inr (.inr (some 0))), (0, .inr (.inr (some 1000000)))]) dL_law_1834 rfl (by decide) (by decide) rfl rfl ?_
  refine ex_goto (pc' := 23) dL_law_1837 (by decide) ?_
  refine ex_iload (pc' := 25) dL_law_23 rfl rfl ?_
  refine ex_aload_n (pc' := 26) dL_law_25 rfl rfl ?_
  refine ex_slen (pc' := 27) (n := 6) (xs := xs) (v := 6) dL_law_26 (zsiI (zsiI (zsiI (zsiI s1000000)))) rfl (by decide) rfl ?_
  refine ex_bipush (v := 6) (pc' := 29) dL_law_27 (by decide) rfl ?_
  refine ex_isub (pc' := 30) (v := 0) dL_law_29 (by decide) rfl ?_
  refine ex_icmp_t (pc' := 1840) dL_law_30 (by decide) (by decide) ?_
  refine ex_iconst (v := 1) (pc' := 1841) dL_law_1840 (by decide) rfl ?_
  exact ex_iret dL_law_1841 rfl (by decide) ⟨rfl, zble rfl, zble rfl, zble rfl⟩
set_option maxRecDepth 10000 in
theorem kl_op_28 (d : Nat) (xs : Nat → Int32) : zEx (some (6, xs)) (d + 4) mL_law (1148, [(4, .inl 0), (3, .inr (.inr (some 213))), (2, .inr (.inr (some 196))), (1, .inr (.inr (some 0))), (0, .inr (.inr (some 1000000)))], [], hh_487) zQL := by
  have s1000000 : zsh hh_487 1000000 = none := by decide +kernel
  have s0 : zsh hh_487 0 = some (11, 16) := by decide +kernel
  have s2 : zsh hh_487 2 = some (4, 15) := by decide +kernel
  have s196 : zsh hh_487 196 = some (12, 39) := by decide +kernel
  have i2_7 : hh_487.2.1 2 7 = 0 := by decide +kernel
  have i196_14 : hh_487.2.1 196 14 = 0 := by decide +kernel
  have r0_3 : hh_487.2.2.2.1 0 3 = some 2 := by decide +kernel
  refine ex_aload_n (pc' := 1149) dL_law_1148 rfl rfl ?_
  refine ex_aload_n (pc' := 1150) dL_law_1149 rfl rfl ?_
  refine ex_iload (pc' := 1152) dL_law_1150 rfl rfl ?_
  refine ex_iconst (v := 1) (pc' := 1153) dL_law_1152 (by decide) rfl ?_
  refine ex_iadd (pc' := 1154) (v := 1) dL_law_1153 (by decide) rfl ?_
  refine ex_sald (pc' := 1155) (n := 6) (xs := xs) (v := xs 1) dL_law_1154 s1000000 rfl (by decide) rfl rfl ?_
  refine ex_aload_n (pc' := 1156) dL_law_1155 rfl rfl ?_
  refine ex_iload (pc' := 1158) dL_law_1156 rfl rfl ?_
  refine ex_iconst (v := 2) (pc' := 1159) dL_law_1158 (by decide) rfl ?_
  refine ex_iadd (pc' := 1160) (v := 2) dL_law_1159 (by decide) rfl ?_
  refine ex_sald (pc' := 1161) (n := 6) (xs := xs) (v := xs 2) dL_law_1160 s1000000 rfl (by decide) rfl rfl ?_
  refine ex_if (pc' := 1168) (pc2 := 1164) dL_law_1161 (by decide) rfl (fun c574 => ?_) (fun c574 => ?_)
  · refine ex_iconst (v := 0) (pc' := 1169) dL_law_1168 (by decide) rfl ?_
    refine en_callvL (pc' := 1172) (vs := [.inl (xs 1), .inl 0]) (rest := []) (h2 := zsI (hh_487) 0 2 1) (v := (-1)) dL_law_1169 ml_13_136 ⟨zble rfl, zble rfl⟩ rfl rfl s0 (zblt rfl) (zble rfl) rfl (kX11_registered_1 _ hh_487 (xs 1) s0 s2 i2_7 r0_3) ?_
    refine ex_aload_n (pc' := 1173) dL_law_1172 rfl rfl ?_
    refine ex_aload_n (pc' := 1174) dL_law_1173 rfl rfl ?_
    refine ex_iload (pc' := 1176) dL_law_1174 rfl rfl ?_
    refine ex_iconst (v := 1) (pc' := 1177) dL_law_1176 (by decide) rfl ?_
    refine ex_iadd (pc' := 1178) (v := 1) dL_law_1177 (by decide) rfl ?_
    refine ex_sald (pc' := 1179) (n := 6) (xs := xs) (v := xs 1) dL_law_1178 (zsiI s1000000) rfl (by decide) rfl rfl ?_
    refine ex_aload_n (pc' := 1180) dL_law_1179 rfl rfl ?_
    refine ex_iload (pc' := 1182) dL_law_1180 rfl rfl ?_
    refine ex_iconst (v := 2) (pc' := 1183) dL_law_1182 (by decide) rfl ?_
    refine ex_iadd (pc' := 1184) (v := 2) dL_law_1183 (by decide) rfl ?_
    refine ex_sald (pc' := 1185) (n := 6) (xs := xs) (v := xs 2) dL_law_1184 (zsiI s1000000) rfl (by decide) rfl rfl ?_
    refine ex_if_t (pc' := 1192) dL_law_1185 c574 (by decide) ?_
    refine ex_iconst (v := 0) (pc' := 1193) dL_law_1192 (by decide) rfl ?_
    refine en_callvL (pc' := 1196) (vs := [.inl (xs 1), .inl 0]) (rest := [.inr (.inl (-1))]) (h2 := zsI (zsI (zsI (zsI (hh_487) 0 2 1) 196 0 0) 196 11 0) 196 11 1) (v := (-1)) dL_law_1193 ml_13_140 ⟨zble rfl, zble rfl⟩ rfl rfl (zsiI s196) (zblt rfl) (zble rfl) rfl (kX12_registered_1 _ (zsI (hh_487) 0 2 1) (xs 1) (zsiI s196) i196_14) ?_
    refine ex_lcmp (pc' := 1197) (v := 0) dL_law_1196 (by decide) rfl ?_
    refine ex_if_t (pc' := 1834) dL_law_1197 (by decide) (by decide) ?_
    refine ex_iinc (pc' := 1837) (v := 6) (ls' := [(4, .inl 6), (3, .inr (.inr (some 213))), (2, .inr (.inr (some 196))), (1, .inr (.inr (some 0))), (0, .inr (.inr (some 1000000)))]) dL_law_1834 rfl (by decide) (by decide) rfl rfl ?_
    refine ex_goto (pc' := 23) dL_law_1837 (by decide) ?_
    refine ex_iload (pc' := 25) dL_law_23 rfl rfl ?_
    refine ex_aload_n (pc' := 26) dL_law_25 rfl rfl ?_
    refine ex_slen (pc' := 27) (n := 6) (xs := xs) (v := 6) dL_law_26 (zsiI (zsiI (zsiI (zsiI s1000000)))) rfl (by decide) rfl ?_
    refine ex_bipush (v := 6) (pc' := 29) dL_law_27 (by decide) rfl ?_
    refine ex_isub (pc' := 30) (v := 0) dL_law_29 (by decide) rfl ?_
    refine ex_icmp_t (pc' := 1840) dL_law_30 (by decide) (by decide) ?_
    refine ex_iconst (v := 1) (pc' := 1841) dL_law_1840 (by decide) rfl ?_
    exact ex_iret dL_law_1841 rfl (by decide) ⟨rfl, zble rfl, zble rfl, zble rfl⟩
  · refine ex_iconst (v := 1) (pc' := 1165) dL_law_1164 (by decide) rfl ?_
    refine ex_goto (pc' := 1169) dL_law_1165 (by decide) ?_
    refine en_callvL (pc' := 1172) (vs := [.inl (xs 1), .inl 1]) (rest := []) (h2 := zsI (hh_487) 0 2 1) (v := (-1)) dL_law_1169 ml_13_136 ⟨zble rfl, zble rfl⟩ rfl rfl s0 (zblt rfl) (zble rfl) rfl (kX11_registered_2 _ hh_487 (xs 1) s0 s2 i2_7 r0_3) ?_
    refine ex_aload_n (pc' := 1173) dL_law_1172 rfl rfl ?_
    refine ex_aload_n (pc' := 1174) dL_law_1173 rfl rfl ?_
    refine ex_iload (pc' := 1176) dL_law_1174 rfl rfl ?_
    refine ex_iconst (v := 1) (pc' := 1177) dL_law_1176 (by decide) rfl ?_
    refine ex_iadd (pc' := 1178) (v := 1) dL_law_1177 (by decide) rfl ?_
    refine ex_sald (pc' := 1179) (n := 6) (xs := xs) (v := xs 1) dL_law_1178 (zsiI s1000000) rfl (by decide) rfl rfl ?_
    refine ex_aload_n (pc' := 1180) dL_law_1179 rfl rfl ?_
    refine ex_iload (pc' := 1182) dL_law_1180 rfl rfl ?_
    refine ex_iconst (v := 2) (pc' := 1183) dL_law_1182 (by decide) rfl ?_
    refine ex_iadd (pc' := 1184) (v := 2) dL_law_1183 (by decide) rfl ?_
    refine ex_sald (pc' := 1185) (n := 6) (xs := xs) (v := xs 2) dL_law_1184 (zsiI s1000000) rfl (by decide) rfl rfl ?_
    refine ex_if_f (pc' := 1188) dL_law_1185 c574 (by decide) rfl ?_
    refine ex_iconst (v := 1) (pc' := 1189) dL_law_1188 (by decide) rfl ?_
    refine ex_goto (pc' := 1193) dL_law_1189 (by decide) ?_
    refine en_callvL (pc' := 1196) (vs := [.inl (xs 1), .inl 1]) (rest := [.inr (.inl (-1))]) (h2 := zsI (zsI (zsI (zsI (hh_487) 0 2 1) 196 0 0) 196 11 0) 196 11 1) (v := (-1)) dL_law_1193 ml_13_140 ⟨zble rfl, zble rfl⟩ rfl rfl (zsiI s196) (zblt rfl) (zble rfl) rfl (kX12_registered_2 _ (zsI (hh_487) 0 2 1) (xs 1) (zsiI s196) i196_14) ?_
    refine ex_lcmp (pc' := 1197) (v := 0) dL_law_1196 (by decide) rfl ?_
    refine ex_if_t (pc' := 1834) dL_law_1197 (by decide) (by decide) ?_
    refine ex_iinc (pc' := 1837) (v := 6) (ls' := [(4, .inl 6), (3, .inr (.inr (some 213))), (2, .inr (.inr (some 196))), (1, .inr (.inr (some 0))), (0, .inr (.inr (some 1000000)))]) dL_law_1834 rfl (by decide) (by decide) rfl rfl ?_
    refine ex_goto (pc' := 23) dL_law_1837 (by decide) ?_
    refine ex_iload (pc' := 25) dL_law_23 rfl rfl ?_
    refine ex_aload_n (pc' := 26) dL_law_25 rfl rfl ?_
    refine ex_slen (pc' := 27) (n := 6) (xs := xs) (v := 6) dL_law_26 (zsiI (zsiI (zsiI (zsiI s1000000)))) rfl (by decide) rfl ?_
    refine ex_bipush (v := 6) (pc' := 29) dL_law_27 (by decide) rfl ?_
    refine ex_isub (pc' := 30) (v := 0) dL_law_29 (by decide) rfl ?_
    refine ex_icmp_t (pc' := 1840) dL_law_30 (by decide) (by decide) ?_
    refine ex_iconst (v := 1) (pc' := 1841) dL_law_1840 (by decide) rfl ?_
    exact ex_iret dL_law_1841 rfl (by decide) ⟨rfl, zble rfl, zble rfl, zble rfl⟩
set_option maxRecDepth 10000 in
theorem kl_op_29 (d : Nat) (xs : Nat → Int32) : zEx (some (6, xs)) (d + 4) mL_law (1202, [(4, .inl 0), (3, .inr (.inr (some 213))), (2, .inr (.inr (some 196))), (1, .inr (.inr (some 0))), (0, .inr (.inr (some 1000000)))], [], hh_487) zQL := by
  have s0 : zsh hh_487 0 = some (11, 16) := by decide +kernel
  have s2 : zsh hh_487 2 = some (4, 15) := by decide +kernel
  have s196 : zsh hh_487 196 = some (12, 39) := by decide +kernel
  have s1000000 : zsh hh_487 1000000 = none := by decide +kernel
  have i2_4 : hh_487.2.1 2 4 = 0 := by decide +kernel
  have i196_14 : hh_487.2.1 196 14 = 0 := by decide +kernel
  have r0_3 : hh_487.2.2.2.1 0 3 = some 2 := by decide +kernel
  refine ex_aload_n (pc' := 1203) dL_law_1202 rfl rfl ?_
  refine en_callvI (pc' := 1206) (vs := []) (rest := []) (h2 := zsI (hh_487) 0 2 1) (v := (-1)) dL_law_1203 ml_13_141 ⟨zble rfl, zble rfl⟩ rfl rfl s0 (zblt rfl) (zble rfl) rfl (kX11_match_1 _ hh_487 s0 s2 i2_4 r0_3) ?_
  refine ex_aload_n (pc' := 1207) dL_law_1206 rfl rfl ?_
  refine en_callvI (pc' := 1210) (vs := []) (rest := [.inl (-1)]) (h2 := zsI (zsI (zsI (zsI (hh_487) 0 2 1) 196 0 0) 196 11 0) 196 11 1) (v := (-1)) dL_law_1207 ml_13_144 ⟨zble rfl, zble rfl⟩ rfl rfl (zsiI s196) (zblt rfl) (zble rfl) rfl (kX12_match_1 _ (zsI (hh_487) 0 2 1) (zsiI s196) i196_14) ?_
  refine ex_icmp_t (pc' := 1834) dL_law_1210 (by decide) (by decide) ?_
  refine ex_iinc (pc' := 1837) (v := 6) (ls' := [(4, .inl 6), (3, .inr (.inr (some 213))), (2, .inr (.inr (some 196))), (1, .inr (.inr (some 0))), (0, .inr (.inr (some 1000000)))]) dL_law_1834 rfl (by decide) (by decide) rfl rfl ?_
  refine ex_goto (pc' := 23) dL_law_1837 (by decide) ?_
  refine ex_iload (pc' := 25) dL_law_23 rfl rfl ?_
  refine ex_aload_n (pc' := 26) dL_law_25 rfl rfl ?_
  refine ex_slen (pc' := 27) (n := 6) (xs := xs) (v := 6) dL_law_26 (zsiI (zsiI (zsiI (zsiI s1000000)))) rfl (by decide) rfl ?_
  refine ex_bipush (v := 6) (pc' := 29) dL_law_27 (by decide) rfl ?_
  refine ex_isub (pc' := 30) (v := 0) dL_law_29 (by decide) rfl ?_
  refine ex_icmp_t (pc' := 1840) dL_law_30 (by decide) (by decide) ?_
  refine ex_iconst (v := 1) (pc' := 1841) dL_law_1840 (by decide) rfl ?_
  exact ex_iret dL_law_1841 rfl (by decide) ⟨rfl, zble rfl, zble rfl, zble rfl⟩
set_option maxRecDepth 10000 in
theorem kl_op_30 (d : Nat) (xs : Nat → Int32) : zEx (some (6, xs)) (d + 4) mL_law (1215, [(4, .inl 0), (3, .inr (.inr (some 213))), (2, .inr (.inr (some 196))), (1, .inr (.inr (some 0))), (0, .inr (.inr (some 1000000)))], [], hh_487) zQL := by
  have s0 : zsh hh_487 0 = some (11, 16) := by decide +kernel
  have s2 : zsh hh_487 2 = some (4, 15) := by decide +kernel
  have s196 : zsh hh_487 196 = some (12, 39) := by decide +kernel
  have s1000000 : zsh hh_487 1000000 = none := by decide +kernel
  have i2_4 : hh_487.2.1 2 4 = 0 := by decide +kernel
  have i196_14 : hh_487.2.1 196 14 = 0 := by decide +kernel
  have r0_3 : hh_487.2.2.2.1 0 3 = some 2 := by decide +kernel
  refine ex_aload_n (pc' := 1216) dL_law_1215 rfl rfl ?_
  refine en_callvI (pc' := 1219) (vs := []) (rest := []) (h2 := zsI (hh_487) 0 2 1) (v := (-1)) dL_law_1216 ml_13_145 ⟨zble rfl, zble rfl⟩ rfl rfl s0 (zblt rfl) (zble rfl) rfl (kX11_matchDays_1 _ hh_487 s0 s2 i2_4 r0_3) ?_
  refine ex_aload_n (pc' := 1220) dL_law_1219 rfl rfl ?_
  refine en_callvI (pc' := 1223) (vs := []) (rest := [.inl (-1)]) (h2 := zsI (zsI (zsI (zsI (hh_487) 0 2 1) 196 0 0) 196 11 0) 196 11 1) (v := (-1)) dL_law_1220 ml_13_148 ⟨zble rfl, zble rfl⟩ rfl rfl (zsiI s196) (zblt rfl) (zble rfl) rfl (kX12_matchDays_1 _ (zsI (hh_487) 0 2 1) (zsiI s196) i196_14) ?_
  refine ex_icmp_t (pc' := 1834) dL_law_1223 (by decide) (by decide) ?_
  refine ex_iinc (pc' := 1837) (v := 6) (ls' := [(4, .inl 6), (3, .inr (.inr (some 213))), (2, .inr (.inr (some 196))), (1, .inr (.inr (some 0))), (0, .inr (.inr (some 1000000)))]) dL_law_1834 rfl (by decide) (by decide) rfl rfl ?_
  refine ex_goto (pc' := 23) dL_law_1837 (by decide) ?_
  refine ex_iload (pc' := 25) dL_law_23 rfl rfl ?_
  refine ex_aload_n (pc' := 26) dL_law_25 rfl rfl ?_
  refine ex_slen (pc' := 27) (n := 6) (xs := xs) (v := 6) dL_law_26 (zsiI (zsiI (zsiI (zsiI s1000000)))) rfl (by decide) rfl ?_
  refine ex_bipush (v := 6) (pc' := 29) dL_law_27 (by decide) rfl ?_
  refine ex_isub (pc' := 30) (v := 0) dL_law_29 (by decide) rfl ?_
  refine ex_icmp_t (pc' := 1840) dL_law_30 (by decide) (by decide) ?_
  refine ex_iconst (v := 1) (pc' := 1841) dL_law_1840 (by decide) rfl ?_
  exact ex_iret dL_law_1841 rfl (by decide) ⟨rfl, zble rfl, zble rfl, zble rfl⟩
set_option maxRecDepth 10000 in
theorem kl_op_31 (d : Nat) (xs : Nat → Int32) : zEx (some (6, xs)) (d + 4) mL_law (1228, [(4, .inl 0), (3, .inr (.inr (some 213))), (2, .inr (.inr (some 196))), (1, .inr (.inr (some 0))), (0, .inr (.inr (some 1000000)))], [], hh_487) zQL := by
  have s1000000 : zsh hh_487 1000000 = none := by decide +kernel
  have s0 : zsh hh_487 0 = some (11, 16) := by decide +kernel
  have s2 : zsh hh_487 2 = some (4, 15) := by decide +kernel
  have s196 : zsh hh_487 196 = some (12, 39) := by decide +kernel
  have i2_7 : hh_487.2.1 2 7 = 0 := by decide +kernel
  have i196_14 : hh_487.2.1 196 14 = 0 := by decide +kernel
  have r0_3 : hh_487.2.2.2.1 0 3 = some 2 := by decide +kernel
  refine ex_aload_n (pc' := 1229) dL_law_1228 rfl rfl ?_
  refine ex_aload_n (pc' := 1230) dL_law_1229 rfl rfl ?_
  refine ex_iload (pc' := 1232) dL_law_1230 rfl rfl ?_
  refine ex_iconst (v := 1) (pc' := 1233) dL_law_1232 (by decide) rfl ?_
  refine ex_iadd (pc' := 1234) (v := 1) dL_law_1233 (by decide) rfl ?_
  refine ex_sald (pc' := 1235) (n := 6) (xs := xs) (v := xs 1) dL_law_1234 s1000000 rfl (by decide) rfl rfl ?_
  refine en_callvI (pc' := 1238) (vs := [.inl (xs 1)]) (rest := []) (h2 := zsI (hh_487) 0 2 1) (v := (-1)) dL_law_1235 ml_13_149 ⟨zble rfl, zble rfl⟩ rfl rfl s0 (zblt rfl) (zble rfl) rfl (kX11_matchOf_1 _ hh_487 (xs 1) s0 s2 i2_7 r0_3) ?_
  refine ex_aload_n (pc' := 1239) dL_law_1238 rfl rfl ?_
  refine ex_aload_n (pc' := 1240) dL_law_1239 rfl rfl ?_
  refine ex_iload (pc' := 1242) dL_law_1240 rfl rfl ?_
  refine ex_iconst (v := 1) (pc' := 1243) dL_law_1242 (by decide) rfl ?_
  refine ex_iadd (pc' := 1244) (v := 1) dL_law_1243 (by decide) rfl ?_
  refine ex_sald (pc' := 1245) (n := 6) (xs := xs) (v := xs 1) dL_law_1244 (zsiI s1000000) rfl (by decide) rfl rfl ?_
  refine en_callvI (pc' := 1248) (vs := [.inl (xs 1)]) (rest := [.inl (-1)]) (h2 := zsI (zsI (zsI (zsI (hh_487) 0 2 1) 196 0 0) 196 11 0) 196 11 1) (v := (-1)) dL_law_1245 ml_13_152 ⟨zble rfl, zble rfl⟩ rfl rfl (zsiI s196) (zblt rfl) (zble rfl) rfl (kX12_matchOf_1 _ (zsI (hh_487) 0 2 1) (xs 1) (zsiI s196) i196_14) ?_
  refine ex_icmp_t (pc' := 1834) dL_law_1248 (by decide) (by decide) ?_
  refine ex_iinc (pc' := 1837) (v := 6) (ls' := [(4, .inl 6), (3, .inr (.inr (some 213))), (2, .inr (.inr (some 196))), (1, .inr (.inr (some 0))), (0, .inr (.inr (some 1000000)))]) dL_law_1834 rfl (by decide) (by decide) rfl rfl ?_
  refine ex_goto (pc' := 23) dL_law_1837 (by decide) ?_
  refine ex_iload (pc' := 25) dL_law_23 rfl rfl ?_
  refine ex_aload_n (pc' := 26) dL_law_25 rfl rfl ?_
  refine ex_slen (pc' := 27) (n := 6) (xs := xs) (v := 6) dL_law_26 (zsiI (zsiI (zsiI (zsiI s1000000)))) rfl (by decide) rfl ?_
  refine ex_bipush (v := 6) (pc' := 29) dL_law_27 (by decide) rfl ?_
  refine ex_isub (pc' := 30) (v := 0) dL_law_29 (by decide) rfl ?_
  refine ex_icmp_t (pc' := 1840) dL_law_30 (by decide) (by decide) ?_
  refine ex_iconst (v := 1) (pc' := 1841) dL_law_1840 (by decide) rfl ?_
  exact ex_iret dL_law_1841 rfl (by decide) ⟨rfl, zble rfl, zble rfl, zble rfl⟩
set_option maxRecDepth 10000 in
theorem kl_op_32 (d : Nat) (xs : Nat → Int32) : zEx (some (6, xs)) (d + 4) mL_law (1253, [(4, .inl 0), (3, .inr (.inr (some 213))), (2, .inr (.inr (some 196))), (1, .inr (.inr (some 0))), (0, .inr (.inr (some 1000000)))], [], hh_487) zQL := by
  have s1000000 : zsh hh_487 1000000 = none := by decide +kernel
  have s0 : zsh hh_487 0 = some (11, 16) := by decide +kernel
  have s2 : zsh hh_487 2 = some (4, 15) := by decide +kernel
  have s196 : zsh hh_487 196 = some (12, 39) := by decide +kernel
  have i2_7 : hh_487.2.1 2 7 = 0 := by decide +kernel
  have i196_14 : hh_487.2.1 196 14 = 0 := by decide +kernel
  have r0_3 : hh_487.2.2.2.1 0 3 = some 2 := by decide +kernel
  refine ex_aload_n (pc' := 1254) dL_law_1253 rfl rfl ?_
  refine ex_aload_n (pc' := 1255) dL_law_1254 rfl rfl ?_
  refine ex_iload (pc' := 1257) dL_law_1255 rfl rfl ?_
  refine ex_iconst (v := 1) (pc' := 1258) dL_law_1257 (by decide) rfl ?_
  refine ex_iadd (pc' := 1259) (v := 1) dL_law_1258 (by decide) rfl ?_
  refine ex_sald (pc' := 1260) (n := 6) (xs := xs) (v := xs 1) dL_law_1259 s1000000 rfl (by decide) rfl rfl ?_
  refine ex_aload_n (pc' := 1261) dL_law_1260 rfl rfl ?_
  refine ex_iload (pc' := 1263) dL_law_1261 rfl rfl ?_
  refine ex_iconst (v := 2) (pc' := 1264) dL_law_1263 (by decide) rfl ?_
  refine ex_iadd (pc' := 1265) (v := 2) dL_law_1264 (by decide) rfl ?_
  refine ex_sald (pc' := 1266) (n := 6) (xs := xs) (v := xs 2) dL_law_1265 s1000000 rfl (by decide) rfl rfl ?_
  refine ex_aload_n (pc' := 1267) dL_law_1266 rfl rfl ?_
  refine ex_iload (pc' := 1269) dL_law_1267 rfl rfl ?_
  refine ex_iconst (v := 3) (pc' := 1270) dL_law_1269 (by decide) rfl ?_
  refine ex_iadd (pc' := 1271) (v := 3) dL_law_1270 (by decide) rfl ?_
  refine ex_sald (pc' := 1272) (n := 6) (xs := xs) (v := xs 3) dL_law_1271 s1000000 rfl (by decide) rfl rfl ?_
  refine ex_aload_n (pc' := 1273) dL_law_1272 rfl rfl ?_
  refine ex_iload (pc' := 1275) dL_law_1273 rfl rfl ?_
  refine ex_iconst (v := 4) (pc' := 1276) dL_law_1275 (by decide) rfl ?_
  refine ex_iadd (pc' := 1277) (v := 4) dL_law_1276 (by decide) rfl ?_
  refine ex_sald (pc' := 1278) (n := 6) (xs := xs) (v := xs 4) dL_law_1277 s1000000 rfl (by decide) rfl rfl ?_
  refine en_callvI (pc' := 1281) (vs := [.inl (xs 1), .inl (xs 2), .inl (xs 3), .inl (xs 4)]) (rest := []) (h2 := zsI (hh_487) 0 2 1) (v := (-1)) dL_law_1278 ml_13_153 ⟨zble rfl, zble rfl⟩ rfl rfl s0 (zblt rfl) (zble rfl) rfl (kX11_meet_1 _ hh_487 (xs 1) (xs 2) (xs 3) (xs 4) s0 s2 i2_7 r0_3) ?_
  refine ex_aload_n (pc' := 1282) dL_law_1281 rfl rfl ?_
  refine ex_aload_n (pc' := 1283) dL_law_1282 rfl rfl ?_
  refine ex_iload (pc' := 1285) dL_law_1283 rfl rfl ?_
  refine ex_iconst (v := 1) (pc' := 1286) dL_law_1285 (by decide) rfl ?_
  refine ex_iadd (pc' := 1287) (v := 1) dL_law_1286 (by decide) rfl ?_
  refine ex_sald (pc' := 1288) (n := 6) (xs := xs) (v := xs 1) dL_law_1287 (zsiI s1000000) rfl (by decide) rfl rfl ?_
  refine ex_aload_n (pc' := 1289) dL_law_1288 rfl rfl ?_
  refine ex_iload (pc' := 1291) dL_law_1289 rfl rfl ?_
  refine ex_iconst (v := 2) (pc' := 1292) dL_law_1291 (by decide) rfl ?_
  refine ex_iadd (pc' := 1293) (v := 2) dL_law_1292 (by decide) rfl ?_
  refine ex_sald (pc' := 1294) (n := 6) (xs := xs) (v := xs 2) dL_law_1293 (zsiI s1000000) rfl (by decide) rfl rfl ?_
  refine ex_aload_n (pc' := 1295) dL_law_1294 rfl rfl ?_
  refine ex_iload (pc' := 1297) dL_law_1295 rfl rfl ?_
  refine ex_iconst (v := 3) (pc' := 1298) dL_law_1297 (by decide) rfl ?_
  refine ex_iadd (pc' := 1299) (v := 3) dL_law_1298 (by decide) rfl ?_
  refine ex_sald (pc' := 1300) (n := 6) (xs := xs) (v := xs 3) dL_law_1299 (zsiI s1000000) rfl (by decide) rfl rfl ?_
  refine ex_aload_n (pc' := 1301) dL_law_1300 rfl rfl ?_
  refine ex_iload (pc' := 1303) dL_law_1301 rfl rfl ?_
  refine ex_iconst (v := 4) (pc' := 1304) dL_law_1303 (by decide) rfl ?_
  refine ex_iadd (pc' := 1305) (v := 4) dL_law_1304 (by decide) rfl ?_
  refine ex_sald (pc' := 1306) (n := 6) (xs := xs) (v := xs 4) dL_law_1305 (zsiI s1000000) rfl (by decide) rfl rfl ?_
  refine en_callvI (pc' := 1309) (vs := [.inl (xs 1), .inl (xs 2), .inl (xs 3), .inl (xs 4)]) (rest := [.inl (-1)]) (h2 := zsI (zsI (zsI (zsI (hh_487) 0 2 1) 196 0 0) 196 11 0) 196 11 1) (v := (-1)) dL_law_1306 ml_13_156 ⟨zble rfl, zble rfl⟩ rfl rfl (zsiI s196) (zblt rfl) (zble rfl) rfl (kX12_meet_1 _ (zsI (hh_487) 0 2 1) (xs 1) (xs 2) (xs 3) (xs 4) (zsiI s196) i196_14) ?_
  refine ex_icmp_t (pc' := 1834) dL_law_1309 (by decide) (by decide) ?_
  refine ex_iinc (pc' := 1837) (v := 6) (ls' := [(4, .inl 6), (3, .inr (.inr (some 213))), (2, .inr (.inr (some 196))), (1, .inr (.inr (some 0))), (0, .inr (.inr (some 1000000)))]) dL_law_1834 rfl (by decide) (by decide) rfl rfl ?_
  refine ex_goto (pc' := 23) dL_law_1837 (by decide) ?_
  refine ex_iload (pc' := 25) dL_law_23 rfl rfl ?_
  refine ex_aload_n (pc' := 26) dL_law_25 rfl rfl ?_
  refine ex_slen (pc' := 27) (n := 6) (xs := xs) (v := 6) dL_law_26 (zsiI (zsiI (zsiI (zsiI s1000000)))) rfl (by decide) rfl ?_
  refine ex_bipush (v := 6) (pc' := 29) dL_law_27 (by decide) rfl ?_
  refine ex_isub (pc' := 30) (v := 0) dL_law_29 (by decide) rfl ?_
  refine ex_icmp_t (pc' := 1840) dL_law_30 (by decide) (by decide) ?_
  refine ex_iconst (v := 1) (pc' := 1841) dL_law_1840 (by decide) rfl ?_
  exact ex_iret dL_law_1841 rfl (by decide) ⟨rfl, zble rfl, zble rfl, zble rfl⟩
set_option maxRecDepth 10000 in
theorem kl_op_33 (d : Nat) (xs : Nat → Int32) : zEx (some (6, xs)) (d + 4) mL_law (1314, [(4, .inl 0), (3, .inr (.inr (some 213))), (2, .inr (.inr (some 196))), (1, .inr (.inr (some 0))), (0, .inr (.inr (some 1000000)))], [], hh_487) zQL := by
  have s0 : zsh hh_487 0 = some (11, 16) := by decide +kernel
  have s2 : zsh hh_487 2 = some (4, 15) := by decide +kernel
  have s196 : zsh hh_487 196 = some (12, 39) := by decide +kernel
  have s1000000 : zsh hh_487 1000000 = none := by decide +kernel
  have i2_4 : hh_487.2.1 2 4 = 0 := by decide +kernel
  have i196_14 : hh_487.2.1 196 14 = 0 := by decide +kernel
  have r0_3 : hh_487.2.2.2.1 0 3 = some 2 := by decide +kernel
  refine ex_aload_n (pc' := 1315) dL_law_1314 rfl rfl ?_
  refine en_callvI (pc' := 1318) (vs := []) (rest := []) (h2 := zsI (hh_487) 0 2 1) (v := (-1)) dL_law_1315 ml_13_157 ⟨zble rfl, zble rfl⟩ rfl rfl s0 (zblt rfl) (zble rfl) rfl (kX11_fits_1 _ hh_487 s0 s2 i2_4 r0_3) ?_
  refine ex_aload_n (pc' := 1319) dL_law_1318 rfl rfl ?_
  refine en_callvI (pc' := 1322) (vs := []) (rest := [.inl (-1)]) (h2 := zsI (zsI (zsI (zsI (hh_487) 0 2 1) 196 0 0) 196 11 0) 196 11 1) (v := (-1)) dL_law_1319 ml_13_160 ⟨zble rfl, zble rfl⟩ rfl rfl (zsiI s196) (zblt rfl) (zble rfl) rfl (kX12_fits_1 _ (zsI (hh_487) 0 2 1) (zsiI s196) i196_14) ?_
  refine ex_icmp_t (pc' := 1834) dL_law_1322 (by decide) (by decide) ?_
  refine ex_iinc (pc' := 1837) (v := 6) (ls' := [(4, .inl 6), (3, .inr (.inr (some 213))), (2, .inr (.inr (some 196))), (1, .inr (.inr (some 0))), (0, .inr (.inr (some 1000000)))]) dL_law_1834 rfl (by decide) (by decide) rfl rfl ?_
  refine ex_goto (pc' := 23) dL_law_1837 (by decide) ?_
  refine ex_iload (pc' := 25) dL_law_23 rfl rfl ?_
  refine ex_aload_n (pc' := 26) dL_law_25 rfl rfl ?_
  refine ex_slen (pc' := 27) (n := 6) (xs := xs) (v := 6) dL_law_26 (zsiI (zsiI (zsiI (zsiI s1000000)))) rfl (by decide) rfl ?_
  refine ex_bipush (v := 6) (pc' := 29) dL_law_27 (by decide) rfl ?_
  refine ex_isub (pc' := 30) (v := 0) dL_law_29 (by decide) rfl ?_
  refine ex_icmp_t (pc' := 1840) dL_law_30 (by decide) (by decide) ?_
  refine ex_iconst (v := 1) (pc' := 1841) dL_law_1840 (by decide) rfl ?_
  exact ex_iret dL_law_1841 rfl (by decide) ⟨rfl, zble rfl, zble rfl, zble rfl⟩
set_option maxRecDepth 10000 in
theorem kl_op_34 (d : Nat) (xs : Nat → Int32) : zEx (some (6, xs)) (d + 4) mL_law (1327, [(4, .inl 0), (3, .inr (.inr (some 213))), (2, .inr (.inr (some 196))), (1, .inr (.inr (some 0))), (0, .inr (.inr (some 1000000)))], [], hh_487) zQL := by
  have s1000000 : zsh hh_487 1000000 = none := by decide +kernel
  have s0 : zsh hh_487 0 = some (11, 16) := by decide +kernel
  have s2 : zsh hh_487 2 = some (4, 15) := by decide +kernel
  have s196 : zsh hh_487 196 = some (12, 39) := by decide +kernel
  have i2_6 : hh_487.2.1 2 6 = 0 := by decide +kernel
  have i196_14 : hh_487.2.1 196 14 = 0 := by decide +kernel
  have r0_3 : hh_487.2.2.2.1 0 3 = some 2 := by decide +kernel
  refine ex_aload_n (pc' := 1328) dL_law_1327 rfl rfl ?_
  refine ex_aload_n (pc' := 1329) dL_law_1328 rfl rfl ?_
  refine ex_iload (pc' := 1331) dL_law_1329 rfl rfl ?_
  refine ex_iconst (v := 1) (pc' := 1332) dL_law_1331 (by decide) rfl ?_
  refine ex_iadd (pc' := 1333) (v := 1) dL_law_1332 (by decide) rfl ?_
  refine ex_sald (pc' := 1334) (n := 6) (xs := xs) (v := xs 1) dL_law_1333 s1000000 rfl (by decide) rfl rfl ?_
  refine ex_aload_n (pc' := 1335) dL_law_1334 rfl rfl ?_
  refine ex_iload (pc' := 1337) dL_law_1335 rfl rfl ?_
  refine ex_iconst (v := 2) (pc' := 1338) dL_law_1337 (by decide) rfl ?_
  refine ex_iadd (pc' := 1339) (v := 2) dL_law_1338 (by decide) rfl ?_
  refine ex_sald (pc' := 1340) (n := 6) (xs := xs) (v := xs 2) dL_law_1339 s1000000 rfl (by decide) rfl rfl ?_
  refine en_callvI (pc' := 1343) (vs := [.inl (xs 1), .inl (xs 2)]) (rest := []) (h2 := zsI (hh_487) 0 2 1) (v := (-1)) dL_law_1340 ml_13_161 ⟨zble rfl, zble rfl⟩ rfl rfl s0 (zblt rfl) (zble rfl) rfl (kX11_reach_1 _ hh_487 (xs 1) (xs 2) s0 s2 i2_6 r0_3) ?_
  refine ex_aload_n (pc' := 1344) dL_law_1343 rfl rfl ?_
  refine ex_aload_n (pc' := 1345) dL_law_1344 rfl rfl ?_
  refine ex_iload (pc' := 1347) dL_law_1345 rfl rfl ?_
  refine ex_iconst (v := 1) (pc' := 1348) dL_law_1347 (by decide) rfl ?_
  refine ex_iadd (pc' := 1349) (v := 1) dL_law_1348 (by decide) rfl ?_
  refine ex_sald (pc' := 1350) (n := 6) (xs := xs) (v := xs 1) dL_law_1349 (zsiI s1000000) rfl (by decide) rfl rfl ?_
  refine ex_aload_n (pc' := 1351) dL_law_1350 rfl rfl ?_
  refine ex_iload (pc' := 1353) dL_law_1351 rfl rfl ?_
  refine ex_iconst (v := 2) (pc' := 1354) dL_law_1353 (by decide) rfl ?_
  refine ex_iadd (pc' := 1355) (v := 2) dL_law_1354 (by decide) rfl ?_
  refine ex_sald (pc' := 1356) (n := 6) (xs := xs) (v := xs 2) dL_law_1355 (zsiI s1000000) rfl (by decide) rfl rfl ?_
  refine en_callvI (pc' := 1359) (vs := [.inl (xs 1), .inl (xs 2)]) (rest := [.inl (-1)]) (h2 := zsI (zsI (zsI (zsI (hh_487) 0 2 1) 196 0 0) 196 11 0) 196 11 1) (v := (-1)) dL_law_1356 ml_13_164 ⟨zble rfl, zble rfl⟩ rfl rfl (zsiI s196) (zblt rfl) (zble rfl) rfl (kX12_reach_1 _ (zsI (hh_487) 0 2 1) (xs 1) (xs 2) (zsiI s196) i196_14) ?_
  refine ex_icmp_t (pc' := 1834) dL_law_1359 (by decide) (by decide) ?_
  refine ex_iinc (pc' := 1837) (v := 6) (ls' := [(4, .inl 6), (3, .inr (.inr (some 213))), (2, .inr (.inr (some 196))), (1, .inr (.inr (some 0))), (0, .inr (.inr (some 1000000)))]) dL_law_1834 rfl (by decide) (by decide) rfl rfl ?_
  refine ex_goto (pc' := 23) dL_law_1837 (by decide) ?_
  refine ex_iload (pc' := 25) dL_law_23 rfl rfl ?_
  refine ex_aload_n (pc' := 26) dL_law_25 rfl rfl ?_
  refine ex_slen (pc' := 27) (n := 6) (xs := xs) (v := 6) dL_law_26 (zsiI (zsiI (zsiI (zsiI s1000000)))) rfl (by decide) rfl ?_
  refine ex_bipush (v := 6) (pc' := 29) dL_law_27 (by decide) rfl ?_
  refine ex_isub (pc' := 30) (v := 0) dL_law_29 (by decide) rfl ?_
  refine ex_icmp_t (pc' := 1840) dL_law_30 (by decide) (by decide) ?_
  refine ex_iconst (v := 1) (pc' := 1841) dL_law_1840 (by decide) rfl ?_
  exact ex_iret dL_law_1841 rfl (by decide) ⟨rfl, zble rfl, zble rfl, zble rfl⟩
set_option maxRecDepth 10000 in
theorem kl_op_35 (d : Nat) (xs : Nat → Int32) : zEx (some (6, xs)) (d + 4) mL_law (1364, [(4, .inl 0), (3, .inr (.inr (some 213))), (2, .inr (.inr (some 196))), (1, .inr (.inr (some 0))), (0, .inr (.inr (some 1000000)))], [], hh_487) zQL := by
  have s1000000 : zsh hh_487 1000000 = none := by decide +kernel
  have s0 : zsh hh_487 0 = some (11, 16) := by decide +kernel
  have s2 : zsh hh_487 2 = some (4, 15) := by decide +kernel
  have s196 : zsh hh_487 196 = some (12, 39) := by decide +kernel
  have i2_4 : hh_487.2.1 2 4 = 0 := by decide +kernel
  have i196_14 : hh_487.2.1 196 14 = 0 := by decide +kernel
  have r0_3 : hh_487.2.2.2.1 0 3 = some 2 := by decide +kernel
  refine ex_aload_n (pc' := 1365) dL_law_1364 rfl rfl ?_
  refine ex_aload_n (pc' := 1366) dL_law_1365 rfl rfl ?_
  refine ex_iload (pc' := 1368) dL_law_1366 rfl rfl ?_
  refine ex_iconst (v := 1) (pc' := 1369) dL_law_1368 (by decide) rfl ?_
  refine ex_iadd (pc' := 1370) (v := 1) dL_law_1369 (by decide) rfl ?_
  refine ex_sald (pc' := 1371) (n := 6) (xs := xs) (v := xs 1) dL_law_1370 s1000000 rfl (by decide) rfl rfl ?_
  refine en_callvI (pc' := 1374) (vs := [.inl (xs 1)]) (rest := []) (h2 := zsI (hh_487) 0 2 1) (v := (-1)) dL_law_1371 ml_13_165 ⟨zble rfl, zble rfl⟩ rfl rfl s0 (zblt rfl) (zble rfl) rfl (kX11_pier_1 _ hh_487 (xs 1) s0 s2 i2_4 r0_3) ?_
  refine ex_aload_n (pc' := 1375) dL_law_1374 rfl rfl ?_
  refine ex_aload_n (pc' := 1376) dL_law_1375 rfl rfl ?_
  refine ex_iload (pc' := 1378) dL_law_1376 rfl rfl ?_
  refine ex_iconst (v := 1) (pc' := 1379) dL_law_1378 (by decide) rfl ?_
  refine ex_iadd (pc' := 1380) (v := 1) dL_law_1379 (by decide) rfl ?_
  refine ex_sald (pc' := 1381) (n := 6) (xs := xs) (v := xs 1) dL_law_1380 (zsiI s1000000) rfl (by decide) rfl rfl ?_
  refine en_callvI (pc' := 1384) (vs := [.inl (xs 1)]) (rest := [.inl (-1)]) (h2 := zsI (zsI (zsI (zsI (hh_487) 0 2 1) 196 0 0) 196 11 0) 196 11 1) (v := (-1)) dL_law_1381 ml_13_168 ⟨zble rfl, zble rfl⟩ rfl rfl (zsiI s196) (zblt rfl) (zble rfl) rfl (kX12_pier_1 _ (zsI (hh_487) 0 2 1) (xs 1) (zsiI s196) i196_14) ?_
  refine ex_icmp_t (pc' := 1834) dL_law_1384 (by decide) (by decide) ?_
  refine ex_iinc (pc' := 1837) (v := 6) (ls' := [(4, .inl 6), (3, .inr (.inr (some 213))), (2, .inr (.inr (some 196))), (1, .inr (.inr (some 0))), (0, .inr (.inr (some 1000000)))]) dL_law_1834 rfl (by decide) (by decide) rfl rfl ?_
  refine ex_goto (pc' := 23) dL_law_1837 (by decide) ?_
  refine ex_iload (pc' := 25) dL_law_23 rfl rfl ?_
  refine ex_aload_n (pc' := 26) dL_law_25 rfl rfl ?_
  refine ex_slen (pc' := 27) (n := 6) (xs := xs) (v := 6) dL_law_26 (zsiI (zsiI (zsiI (zsiI s1000000)))) rfl (by decide) rfl ?_
  refine ex_bipush (v := 6) (pc' := 29) dL_law_27 (by decide) rfl ?_
  refine ex_isub (pc' := 30) (v := 0) dL_law_29 (by decide) rfl ?_
  refine ex_icmp_t (pc' := 1840) dL_law_30 (by decide) (by decide) ?_
  refine ex_iconst (v := 1) (pc' := 1841) dL_law_1840 (by decide) rfl ?_
  exact ex_iret dL_law_1841 rfl (by decide) ⟨rfl, zble rfl, zble rfl, zble rfl⟩
set_option maxRecDepth 10000 in
theorem kl_op_36 (d : Nat) (xs : Nat → Int32) : zEx (some (6, xs)) (d + 4) mL_law (1389, [(4, .inl 0), (3, .inr (.inr (some 213))), (2, .inr (.inr (some 196))), (1, .inr (.inr (some 0))), (0, .inr (.inr (some 1000000)))], [], hh_487) zQL := by
  have s1000000 : zsh hh_487 1000000 = none := by decide +kernel
  have s0 : zsh hh_487 0 = some (11, 16) := by decide +kernel
  have s2 : zsh hh_487 2 = some (4, 15) := by decide +kernel
  have s196 : zsh hh_487 196 = some (12, 39) := by decide +kernel
  have i2_4 : hh_487.2.1 2 4 = 0 := by decide +kernel
  have i196_14 : hh_487.2.1 196 14 = 0 := by decide +kernel
  have r0_3 : hh_487.2.2.2.1 0 3 = some 2 := by decide +kernel
  refine ex_aload_n (pc' := 1390) dL_law_1389 rfl rfl ?_
  refine ex_aload_n (pc' := 1391) dL_law_1390 rfl rfl ?_
  refine ex_iload (pc' := 1393) dL_law_1391 rfl rfl ?_
  refine ex_iconst (v := 1) (pc' := 1394) dL_law_1393 (by decide) rfl ?_
  refine ex_iadd (pc' := 1395) (v := 1) dL_law_1394 (by decide) rfl ?_
  refine ex_sald (pc' := 1396) (n := 6) (xs := xs) (v := xs 1) dL_law_1395 s1000000 rfl (by decide) rfl rfl ?_
  refine ex_aload_n (pc' := 1397) dL_law_1396 rfl rfl ?_
  refine ex_iload (pc' := 1399) dL_law_1397 rfl rfl ?_
  refine ex_iconst (v := 2) (pc' := 1400) dL_law_1399 (by decide) rfl ?_
  refine ex_iadd (pc' := 1401) (v := 2) dL_law_1400 (by decide) rfl ?_
  refine ex_sald (pc' := 1402) (n := 6) (xs := xs) (v := xs 2) dL_law_1401 s1000000 rfl (by decide) rfl rfl ?_
  refine en_callvI (pc' := 1405) (vs := [.inl (xs 1), .inl (xs 2)]) (rest := []) (h2 := zsI (hh_487) 0 2 1) (v := (-1)) dL_law_1402 ml_13_169 ⟨zble rfl, zble rfl⟩ rfl rfl s0 (zblt rfl) (zble rfl) rfl (kX11_watch_1 _ hh_487 (xs 1) (xs 2) s0 s2 i2_4 r0_3) ?_
  refine ex_aload_n (pc' := 1406) dL_law_1405 rfl rfl ?_
  refine ex_aload_n (pc' := 1407) dL_law_1406 rfl rfl ?_
  refine ex_iload (pc' := 1409) dL_law_1407 rfl rfl ?_
  refine ex_iconst (v := 1) (pc' := 1410) dL_law_1409 (by decide) rfl ?_
  refine ex_iadd (pc' := 1411) (v := 1) dL_law_1410 (by decide) rfl ?_
  refine ex_sald (pc' := 1412) (n := 6) (xs := xs) (v := xs 1) dL_law_1411 (zsiI s1000000) rfl (by decide) rfl rfl ?_
  refine ex_aload_n (pc' := 1413) dL_law_1412 rfl rfl ?_
  refine ex_iload (pc' := 1415) dL_law_1413 rfl rfl ?_
  refine ex_iconst (v := 2) (pc' := 1416) dL_law_1415 (by decide) rfl ?_
  refine ex_iadd (pc' := 1417) (v := 2) dL_law_1416 (by decide) rfl ?_
  refine ex_sald (pc' := 1418) (n := 6) (xs := xs) (v := xs 2) dL_law_1417 (zsiI s1000000) rfl (by decide) rfl rfl ?_
  refine en_callvI (pc' := 1421) (vs := [.inl (xs 1), .inl (xs 2)]) (rest := [.inl (-1)]) (h2 := zsI (zsI (zsI (zsI (hh_487) 0 2 1) 196 0 0) 196 11 0) 196 11 1) (v := (-1)) dL_law_1418 ml_13_172 ⟨zble rfl, zble rfl⟩ rfl rfl (zsiI s196) (zblt rfl) (zble rfl) rfl (kX12_watch_1 _ (zsI (hh_487) 0 2 1) (xs 1) (xs 2) (zsiI s196) i196_14) ?_
  refine ex_icmp_t (pc' := 1834) dL_law_1421 (by decide) (by decide) ?_
  refine ex_iinc (pc' := 1837) (v := 6) (ls' := [(4, .inl 6), (3, .inr (.inr (some 213))), (2, .inr (.inr (some 196))), (1, .inr (.inr (some 0))), (0, .inr (.inr (some 1000000)))]) dL_law_1834 rfl (by decide) (by decide) rfl rfl ?_
  refine ex_goto (pc' := 23) dL_law_1837 (by decide) ?_
  refine ex_iload (pc' := 25) dL_law_23 rfl rfl ?_
  refine ex_aload_n (pc' := 26) dL_law_25 rfl rfl ?_
  refine ex_slen (pc' := 27) (n := 6) (xs := xs) (v := 6) dL_law_26 (zsiI (zsiI (zsiI (zsiI s1000000)))) rfl (by decide) rfl ?_
  refine ex_bipush (v := 6) (pc' := 29) dL_law_27 (by decide) rfl ?_
  refine ex_isub (pc' := 30) (v := 0) dL_law_29 (by decide) rfl ?_
  refine ex_icmp_t (pc' := 1840) dL_law_30 (by decide) (by decide) ?_
  refine ex_iconst (v := 1) (pc' := 1841) dL_law_1840 (by decide) rfl ?_
  exact ex_iret dL_law_1841 rfl (by decide) ⟨rfl, zble rfl, zble rfl, zble rfl⟩
set_option maxRecDepth 10000 in
theorem kl_op_37 (d : Nat) (xs : Nat → Int32) : zEx (some (6, xs)) (d + 4) mL_law (1426, [(4, .inl 0), (3, .inr (.inr (some 213))), (2, .inr (.inr (some 196))), (1, .inr (.inr (some 0))), (0, .inr (.inr (some 1000000)))], [], hh_487) zQL := by
  have s1000000 : zsh hh_487 1000000 = none := by decide +kernel
  have s0 : zsh hh_487 0 = some (11, 16) := by decide +kernel
  have s2 : zsh hh_487 2 = some (4, 15) := by decide +kernel
  have s196 : zsh hh_487 196 = some (12, 39) := by decide +kernel
  have i2_4 : hh_487.2.1 2 4 = 0 := by decide +kernel
  have i196_14 : hh_487.2.1 196 14 = 0 := by decide +kernel
  have r0_3 : hh_487.2.2.2.1 0 3 = some 2 := by decide +kernel
  refine ex_aload_n (pc' := 1427) dL_law_1426 rfl rfl ?_
  refine ex_aload_n (pc' := 1428) dL_law_1427 rfl rfl ?_
  refine ex_iload (pc' := 1430) dL_law_1428 rfl rfl ?_
  refine ex_iconst (v := 1) (pc' := 1431) dL_law_1430 (by decide) rfl ?_
  refine ex_iadd (pc' := 1432) (v := 1) dL_law_1431 (by decide) rfl ?_
  refine ex_sald (pc' := 1433) (n := 6) (xs := xs) (v := xs 1) dL_law_1432 s1000000 rfl (by decide) rfl rfl ?_
  refine en_callvI (pc' := 1436) (vs := [.inl (xs 1)]) (rest := []) (h2 := zsI (hh_487) 0 2 1) (v := (-1)) dL_law_1433 ml_13_173 ⟨zble rfl, zble rfl⟩ rfl rfl s0 (zblt rfl) (zble rfl) rfl (kX11_round_1 _ hh_487 (xs 1) s0 s2 i2_4 r0_3) ?_
  refine ex_aload_n (pc' := 1437) dL_law_1436 rfl rfl ?_
  refine ex_aload_n (pc' := 1438) dL_law_1437 rfl rfl ?_
  refine ex_iload (pc' := 1440) dL_law_1438 rfl rfl ?_
  refine ex_iconst (v := 1) (pc' := 1441) dL_law_1440 (by decide) rfl ?_
  refine ex_iadd (pc' := 1442) (v := 1) dL_law_1441 (by decide) rfl ?_
  refine ex_sald (pc' := 1443) (n := 6) (xs := xs) (v := xs 1) dL_law_1442 (zsiI s1000000) rfl (by decide) rfl rfl ?_
  refine en_callvI (pc' := 1446) (vs := [.inl (xs 1)]) (rest := [.inl (-1)]) (h2 := zsI (zsI (zsI (zsI (hh_487) 0 2 1) 196 0 0) 196 11 0) 196 11 1) (v := (-1)) dL_law_1443 ml_13_176 ⟨zble rfl, zble rfl⟩ rfl rfl (zsiI s196) (zblt rfl) (zble rfl) rfl (kX12_round_1 _ (zsI (hh_487) 0 2 1) (xs 1) (zsiI s196) i196_14) ?_
  refine ex_icmp_t (pc' := 1834) dL_law_1446 (by decide) (by decide) ?_
  refine ex_iinc (pc' := 1837) (v := 6) (ls' := [(4, .inl 6), (3, .inr (.inr (some 213))), (2, .inr (.inr (some 196))), (1, .inr (.inr (some 0))), (0, .inr (.inr (some 1000000)))]) dL_law_1834 rfl (by decide) (by decide) rfl rfl ?_
  refine ex_goto (pc' := 23) dL_law_1837 (by decide) ?_
  refine ex_iload (pc' := 25) dL_law_23 rfl rfl ?_
  refine ex_aload_n (pc' := 26) dL_law_25 rfl rfl ?_
  refine ex_slen (pc' := 27) (n := 6) (xs := xs) (v := 6) dL_law_26 (zsiI (zsiI (zsiI (zsiI s1000000)))) rfl (by decide) rfl ?_
  refine ex_bipush (v := 6) (pc' := 29) dL_law_27 (by decide) rfl ?_
  refine ex_isub (pc' := 30) (v := 0) dL_law_29 (by decide) rfl ?_
  refine ex_icmp_t (pc' := 1840) dL_law_30 (by decide) (by decide) ?_
  refine ex_iconst (v := 1) (pc' := 1841) dL_law_1840 (by decide) rfl ?_
  exact ex_iret dL_law_1841 rfl (by decide) ⟨rfl, zble rfl, zble rfl, zble rfl⟩
set_option maxRecDepth 10000 in
theorem kl_op_38 (d : Nat) (xs : Nat → Int32) : zEx (some (6, xs)) (d + 4) mL_law (1451, [(4, .inl 0), (3, .inr (.inr (some 213))), (2, .inr (.inr (some 196))), (1, .inr (.inr (some 0))), (0, .inr (.inr (some 1000000)))], [], hh_487) zQL := by
  have s1000000 : zsh hh_487 1000000 = none := by decide +kernel
  have s0 : zsh hh_487 0 = some (11, 16) := by decide +kernel
  have s2 : zsh hh_487 2 = some (4, 15) := by decide +kernel
  have s196 : zsh hh_487 196 = some (12, 39) := by decide +kernel
  have i2_4 : hh_487.2.1 2 4 = 0 := by decide +kernel
  have i196_14 : hh_487.2.1 196 14 = 0 := by decide +kernel
  have r0_3 : hh_487.2.2.2.1 0 3 = some 2 := by decide +kernel
  refine ex_aload_n (pc' := 1452) dL_law_1451 rfl rfl ?_
  refine ex_aload_n (pc' := 1453) dL_law_1452 rfl rfl ?_
  refine ex_iload (pc' := 1455) dL_law_1453 rfl rfl ?_
  refine ex_iconst (v := 1) (pc' := 1456) dL_law_1455 (by decide) rfl ?_
  refine ex_iadd (pc' := 1457) (v := 1) dL_law_1456 (by decide) rfl ?_
  refine ex_sald (pc' := 1458) (n := 6) (xs := xs) (v := xs 1) dL_law_1457 s1000000 rfl (by decide) rfl rfl ?_
  refine ex_aload_n (pc' := 1459) dL_law_1458 rfl rfl ?_
  refine ex_iload (pc' := 1461) dL_law_1459 rfl rfl ?_
  refine ex_iconst (v := 2) (pc' := 1462) dL_law_1461 (by decide) rfl ?_
  refine ex_iadd (pc' := 1463) (v := 2) dL_law_1462 (by decide) rfl ?_
  refine ex_sald (pc' := 1464) (n := 6) (xs := xs) (v := xs 2) dL_law_1463 s1000000 rfl (by decide) rfl rfl ?_
  refine en_callvI (pc' := 1467) (vs := [.inl (xs 1), .inl (xs 2)]) (rest := []) (h2 := zsI (hh_487) 0 2 1) (v := (-1)) dL_law_1464 ml_13_177 ⟨zble rfl, zble rfl⟩ rfl rfl s0 (zblt rfl) (zble rfl) rfl (kX11_roundAt_1 _ hh_487 (xs 1) (xs 2) s0 s2 i2_4 r0_3) ?_
  refine ex_aload_n (pc' := 1468) dL_law_1467 rfl rfl ?_
  refine ex_aload_n (pc' := 1469) dL_law_1468 rfl rfl ?_
  refine ex_iload (pc' := 1471) dL_law_1469 rfl rfl ?_
  refine ex_iconst (v := 1) (pc' := 1472) dL_law_1471 (by decide) rfl ?_
  refine ex_iadd (pc' := 1473) (v := 1) dL_law_1472 (by decide) rfl ?_
  refine ex_sald (pc' := 1474) (n := 6) (xs := xs) (v := xs 1) dL_law_1473 (zsiI s1000000) rfl (by decide) rfl rfl ?_
  refine ex_aload_n (pc' := 1475) dL_law_1474 rfl rfl ?_
  refine ex_iload (pc' := 1477) dL_law_1475 rfl rfl ?_
  refine ex_iconst (v := 2) (pc' := 1478) dL_law_1477 (by decide) rfl ?_
  refine ex_iadd (pc' := 1479) (v := 2) dL_law_1478 (by decide) rfl ?_
  refine ex_sald (pc' := 1480) (n := 6) (xs := xs) (v := xs 2) dL_law_1479 (zsiI s1000000) rfl (by decide) rfl rfl ?_
  refine en_callvI (pc' := 1483) (vs := [.inl (xs 1), .inl (xs 2)]) (rest := [.inl (-1)]) (h2 := zsI (zsI (zsI (zsI (hh_487) 0 2 1) 196 0 0) 196 11 0) 196 11 1) (v := (-1)) dL_law_1480 ml_13_180 ⟨zble rfl, zble rfl⟩ rfl rfl (zsiI s196) (zblt rfl) (zble rfl) rfl (kX12_roundAt_1 _ (zsI (hh_487) 0 2 1) (xs 1) (xs 2) (zsiI s196) i196_14) ?_
  refine ex_icmp_t (pc' := 1834) dL_law_1483 (by decide) (by decide) ?_
  refine ex_iinc (pc' := 1837) (v := 6) (ls' := [(4, .inl 6), (3, .inr (.inr (some 213))), (2, .inr (.inr (some 196))), (1, .inr (.inr (some 0))), (0, .inr (.inr (some 1000000)))]) dL_law_1834 rfl (by decide) (by decide) rfl rfl ?_
  refine ex_goto (pc' := 23) dL_law_1837 (by decide) ?_
  refine ex_iload (pc' := 25) dL_law_23 rfl rfl ?_
  refine ex_aload_n (pc' := 26) dL_law_25 rfl rfl ?_
  refine ex_slen (pc' := 27) (n := 6) (xs := xs) (v := 6) dL_law_26 (zsiI (zsiI (zsiI (zsiI s1000000)))) rfl (by decide) rfl ?_
  refine ex_bipush (v := 6) (pc' := 29) dL_law_27 (by decide) rfl ?_
  refine ex_isub (pc' := 30) (v := 0) dL_law_29 (by decide) rfl ?_
  refine ex_icmp_t (pc' := 1840) dL_law_30 (by decide) (by decide) ?_
  refine ex_iconst (v := 1) (pc' := 1841) dL_law_1840 (by decide) rfl ?_
  exact ex_iret dL_law_1841 rfl (by decide) ⟨rfl, zble rfl, zble rfl, zble rfl⟩
set_option maxRecDepth 10000 in
theorem kl_op_39 (d : Nat) (xs : Nat → Int32) : zEx (some (6, xs)) (d + 4) mL_law (1488, [(4, .inl 0), (3, .inr (.inr (some 213))), (2, .inr (.inr (some 196))), (1, .inr (.inr (some 0))), (0, .inr (.inr (some 1000000)))], [], hh_487) zQL := by
  have s1000000 : zsh hh_487 1000000 = none := by decide +kernel
  have s0 : zsh hh_487 0 = some (11, 16) := by decide +kernel
  have s2 : zsh hh_487 2 = some (4, 15) := by decide +kernel
  have s196 : zsh hh_487 196 = some (12, 39) := by decide +kernel
  have i2_4 : hh_487.2.1 2 4 = 0 := by decide +kernel
  have i196_14 : hh_487.2.1 196 14 = 0 := by decide +kernel
  have r0_3 : hh_487.2.2.2.1 0 3 = some 2 := by decide +kernel
  refine ex_aload_n (pc' := 1489) dL_law_1488 rfl rfl ?_
  refine ex_aload_n (pc' := 1490) dL_law_1489 rfl rfl ?_
  refine ex_iload (pc' := 1492) dL_law_1490 rfl rfl ?_
  refine ex_iconst (v := 1) (pc' := 1493) dL_law_1492 (by decide) rfl ?_
  refine ex_iadd (pc' := 1494) (v := 1) dL_law_1493 (by decide) rfl ?_
  refine ex_sald (pc' := 1495) (n := 6) (xs := xs) (v := xs 1) dL_law_1494 s1000000 rfl (by decide) rfl rfl ?_
  refine ex_aload_n (pc' := 1496) dL_law_1495 rfl rfl ?_
  refine ex_iload (pc' := 1498) dL_law_1496 rfl rfl ?_
  refine ex_iconst (v := 2) (pc' := 1499) dL_law_1498 (by decide) rfl ?_
  refine ex_iadd (pc' := 1500) (v := 2) dL_law_1499 (by decide) rfl ?_
  refine ex_sald (pc' := 1501) (n := 6) (xs := xs) (v := xs 2) dL_law_1500 s1000000 rfl (by decide) rfl rfl ?_
  refine en_callvI (pc' := 1504) (vs := [.inl (xs 1), .inl (xs 2)]) (rest := []) (h2 := zsI (hh_487) 0 2 1) (v := (-1)) dL_law_1501 ml_13_181 ⟨zble rfl, zble rfl⟩ rfl rfl s0 (zblt rfl) (zble rfl) rfl (kX11_decade_1 _ hh_487 (xs 1) (xs 2) s0 s2 i2_4 r0_3) ?_
  refine ex_aload_n (pc' := 1505) dL_law_1504 rfl rfl ?_
  refine ex_aload_n (pc' := 1506) dL_law_1505 rfl rfl ?_
  refine ex_iload (pc' := 1508) dL_law_1506 rfl rfl ?_
  refine ex_iconst (v := 1) (pc' := 1509) dL_law_1508 (by decide) rfl ?_
  refine ex_iadd (pc' := 1510) (v := 1) dL_law_1509 (by decide) rfl ?_
  refine ex_sald (pc' := 1511) (n := 6) (xs := xs) (v := xs 1) dL_law_1510 (zsiI s1000000) rfl (by decide) rfl rfl ?_
  refine ex_aload_n (pc' := 1512) dL_law_1511 rfl rfl ?_
  refine ex_iload (pc' := 1514) dL_law_1512 rfl rfl ?_
  refine ex_iconst (v := 2) (pc' := 1515) dL_law_1514 (by decide) rfl ?_
  refine ex_iadd (pc' := 1516) (v := 2) dL_law_1515 (by decide) rfl ?_
  refine ex_sald (pc' := 1517) (n := 6) (xs := xs) (v := xs 2) dL_law_1516 (zsiI s1000000) rfl (by decide) rfl rfl ?_
  refine en_callvI (pc' := 1520) (vs := [.inl (xs 1), .inl (xs 2)]) (rest := [.inl (-1)]) (h2 := zsI (zsI (zsI (zsI (hh_487) 0 2 1) 196 0 0) 196 11 0) 196 11 1) (v := (-1)) dL_law_1517 ml_13_184 ⟨zble rfl, zble rfl⟩ rfl rfl (zsiI s196) (zblt rfl) (zble rfl) rfl (kX12_decade_1 _ (zsI (hh_487) 0 2 1) (xs 1) (xs 2) (zsiI s196) i196_14) ?_
  refine ex_icmp_t (pc' := 1834) dL_law_1520 (by decide) (by decide) ?_
  refine ex_iinc (pc' := 1837) (v := 6) (ls' := [(4, .inl 6), (3, .inr (.inr (some 213))), (2, .inr (.inr (some 196))), (1, .inr (.inr (some 0))), (0, .inr (.inr (some 1000000)))]) dL_law_1834 rfl (by decide) (by decide) rfl rfl ?_
  refine ex_goto (pc' := 23) dL_law_1837 (by decide) ?_
  refine ex_iload (pc' := 25) dL_law_23 rfl rfl ?_
  refine ex_aload_n (pc' := 26) dL_law_25 rfl rfl ?_
  refine ex_slen (pc' := 27) (n := 6) (xs := xs) (v := 6) dL_law_26 (zsiI (zsiI (zsiI (zsiI s1000000)))) rfl (by decide) rfl ?_
  refine ex_bipush (v := 6) (pc' := 29) dL_law_27 (by decide) rfl ?_
  refine ex_isub (pc' := 30) (v := 0) dL_law_29 (by decide) rfl ?_
  refine ex_icmp_t (pc' := 1840) dL_law_30 (by decide) (by decide) ?_
  refine ex_iconst (v := 1) (pc' := 1841) dL_law_1840 (by decide) rfl ?_
  exact ex_iret dL_law_1841 rfl (by decide) ⟨rfl, zble rfl, zble rfl, zble rfl⟩
set_option maxRecDepth 10000 in
theorem kl_op_40 (d : Nat) (xs : Nat → Int32) : zEx (some (6, xs)) (d + 4) mL_law (1525, [(4, .inl 0), (3, .inr (.inr (some 213))), (2, .inr (.inr (some 196))), (1, .inr (.inr (some 0))), (0, .inr (.inr (some 1000000)))], [], hh_487) zQL := by
  have s1000000 : zsh hh_487 1000000 = none := by decide +kernel
  have s0 : zsh hh_487 0 = some (11, 16) := by decide +kernel
  have s2 : zsh hh_487 2 = some (4, 15) := by decide +kernel
  have s196 : zsh hh_487 196 = some (12, 39) := by decide +kernel
  have i2_6 : hh_487.2.1 2 6 = 0 := by decide +kernel
  have i196_14 : hh_487.2.1 196 14 = 0 := by decide +kernel
  have r0_3 : hh_487.2.2.2.1 0 3 = some 2 := by decide +kernel
  refine ex_aload_n (pc' := 1526) dL_law_1525 rfl rfl ?_
  refine ex_aload_n (pc' := 1527) dL_law_1526 rfl rfl ?_
  refine ex_iload (pc' := 1529) dL_law_1527 rfl rfl ?_
  refine ex_iconst (v := 1) (pc' := 1530) dL_law_1529 (by decide) rfl ?_
  refine ex_iadd (pc' := 1531) (v := 1) dL_law_1530 (by decide) rfl ?_
  refine ex_sald (pc' := 1532) (n := 6) (xs := xs) (v := xs 1) dL_law_1531 s1000000 rfl (by decide) rfl rfl ?_
  refine ex_aload_n (pc' := 1533) dL_law_1532 rfl rfl ?_
  refine ex_iload (pc' := 1535) dL_law_1533 rfl rfl ?_
  refine ex_iconst (v := 2) (pc' := 1536) dL_law_1535 (by decide) rfl ?_
  refine ex_iadd (pc' := 1537) (v := 2) dL_law_1536 (by decide) rfl ?_
  refine ex_sald (pc' := 1538) (n := 6) (xs := xs) (v := xs 2) dL_law_1537 s1000000 rfl (by decide) rfl rfl ?_
  refine en_callvI (pc' := 1541) (vs := [.inl (xs 1), .inl (xs 2)]) (rest := []) (h2 := zsI (hh_487) 0 2 1) (v := (-1)) dL_law_1538 ml_13_185 ⟨zble rfl, zble rfl⟩ rfl rfl s0 (zblt rfl) (zble rfl) rfl (kX11_send_1 _ hh_487 (xs 1) (xs 2) s0 s2 i2_6 r0_3) ?_
  refine ex_aload_n (pc' := 1542) dL_law_1541 rfl rfl ?_
  refine ex_aload_n (pc' := 1543) dL_law_1542 rfl rfl ?_
  refine ex_iload (pc' := 1545) dL_law_1543 rfl rfl ?_
  refine ex_iconst (v := 1) (pc' := 1546) dL_law_1545 (by decide) rfl ?_
  refine ex_iadd (pc' := 1547) (v := 1) dL_law_1546 (by decide) rfl ?_
  refine ex_sald (pc' := 1548) (n := 6) (xs := xs) (v := xs 1) dL_law_1547 (zsiI s1000000) rfl (by decide) rfl rfl ?_
  refine ex_aload_n (pc' := 1549) dL_law_1548 rfl rfl ?_
  refine ex_iload (pc' := 1551) dL_law_1549 rfl rfl ?_
  refine ex_iconst (v := 2) (pc' := 1552) dL_law_1551 (by decide) rfl ?_
  refine ex_iadd (pc' := 1553) (v := 2) dL_law_1552 (by decide) rfl ?_
  refine ex_sald (pc' := 1554) (n := 6) (xs := xs) (v := xs 2) dL_law_1553 (zsiI s1000000) rfl (by decide) rfl rfl ?_
  refine en_callvI (pc' := 1557) (vs := [.inl (xs 1), .inl (xs 2)]) (rest := [.inl (-1)]) (h2 := zsI (zsI (zsI (zsI (hh_487) 0 2 1) 196 0 0) 196 11 0) 196 11 1) (v := (-1)) dL_law_1554 ml_13_188 ⟨zble rfl, zble rfl⟩ rfl rfl (zsiI s196) (zblt rfl) (zble rfl) rfl (kX12_send_1 _ (zsI (hh_487) 0 2 1) (xs 1) (xs 2) (zsiI s196) i196_14) ?_
  refine ex_icmp_t (pc' := 1834) dL_law_1557 (by decide) (by decide) ?_
  refine ex_iinc (pc' := 1837) (v := 6) (ls' := [(4, .inl 6), (3, .inr (.inr (some 213))), (2, .inr (.inr (some 196))), (1, .inr (.inr (some 0))), (0, .inr (.inr (some 1000000)))]) dL_law_1834 rfl (by decide) (by decide) rfl rfl ?_
  refine ex_goto (pc' := 23) dL_law_1837 (by decide) ?_
  refine ex_iload (pc' := 25) dL_law_23 rfl rfl ?_
  refine ex_aload_n (pc' := 26) dL_law_25 rfl rfl ?_
  refine ex_slen (pc' := 27) (n := 6) (xs := xs) (v := 6) dL_law_26 (zsiI (zsiI (zsiI (zsiI s1000000)))) rfl (by decide) rfl ?_
  refine ex_bipush (v := 6) (pc' := 29) dL_law_27 (by decide) rfl ?_
  refine ex_isub (pc' := 30) (v := 0) dL_law_29 (by decide) rfl ?_
  refine ex_icmp_t (pc' := 1840) dL_law_30 (by decide) (by decide) ?_
  refine ex_iconst (v := 1) (pc' := 1841) dL_law_1840 (by decide) rfl ?_
  exact ex_iret dL_law_1841 rfl (by decide) ⟨rfl, zble rfl, zble rfl, zble rfl⟩
set_option maxRecDepth 10000 in
theorem kl_op_41 (d : Nat) (xs : Nat → Int32) : zEx (some (6, xs)) (d + 4) mL_law (1562, [(4, .inl 0), (3, .inr (.inr (some 213))), (2, .inr (.inr (some 196))), (1, .inr (.inr (some 0))), (0, .inr (.inr (some 1000000)))], [], hh_487) zQL := by
  have s1000000 : zsh hh_487 1000000 = none := by decide +kernel
  have s0 : zsh hh_487 0 = some (11, 16) := by decide +kernel
  have s2 : zsh hh_487 2 = some (4, 15) := by decide +kernel
  have s196 : zsh hh_487 196 = some (12, 39) := by decide +kernel
  have i2_7 : hh_487.2.1 2 7 = 0 := by decide +kernel
  have i196_14 : hh_487.2.1 196 14 = 0 := by decide +kernel
  have r0_3 : hh_487.2.2.2.1 0 3 = some 2 := by decide +kernel
  refine ex_aload_n (pc' := 1563) dL_law_1562 rfl rfl ?_
  refine ex_aload_n (pc' := 1564) dL_law_1563 rfl rfl ?_
  refine ex_iload (pc' := 1566) dL_law_1564 rfl rfl ?_
  refine ex_iconst (v := 1) (pc' := 1567) dL_law_1566 (by decide) rfl ?_
  refine ex_iadd (pc' := 1568) (v := 1) dL_law_1567 (by decide) rfl ?_
  refine ex_sald (pc' := 1569) (n := 6) (xs := xs) (v := xs 1) dL_law_1568 s1000000 rfl (by decide) rfl rfl ?_
  refine ex_aload_n (pc' := 1570) dL_law_1569 rfl rfl ?_
  refine ex_iload (pc' := 1572) dL_law_1570 rfl rfl ?_
  refine ex_iconst (v := 2) (pc' := 1573) dL_law_1572 (by decide) rfl ?_
  refine ex_iadd (pc' := 1574) (v := 2) dL_law_1573 (by decide) rfl ?_
  refine ex_sald (pc' := 1575) (n := 6) (xs := xs) (v := xs 2) dL_law_1574 s1000000 rfl (by decide) rfl rfl ?_
  refine ex_aload_n (pc' := 1576) dL_law_1575 rfl rfl ?_
  refine ex_iload (pc' := 1578) dL_law_1576 rfl rfl ?_
  refine ex_iconst (v := 3) (pc' := 1579) dL_law_1578 (by decide) rfl ?_
  refine ex_iadd (pc' := 1580) (v := 3) dL_law_1579 (by decide) rfl ?_
  refine ex_sald (pc' := 1581) (n := 6) (xs := xs) (v := xs 3) dL_law_1580 s1000000 rfl (by decide) rfl rfl ?_
  refine en_callvI (pc' := 1584) (vs := [.inl (xs 1), .inl (xs 2), .inl (xs 3)]) (rest := []) (h2 := zsI (hh_487) 0 2 1) (v := 0) dL_law_1581 ml_13_189 ⟨zble rfl, zble rfl⟩ rfl rfl s0 (zblt rfl) (zble rfl) rfl (kX11_tune_1 _ hh_487 (xs 1) (xs 2) (xs 3) s0 s2 i2_7 r0_3) ?_
  refine ex_aload_n (pc' := 1585) dL_law_1584 rfl rfl ?_
  refine ex_aload_n (pc' := 1586) dL_law_1585 rfl rfl ?_
  refine ex_iload (pc' := 1588) dL_law_1586 rfl rfl ?_
  refine ex_iconst (v := 1) (pc' := 1589) dL_law_1588 (by decide) rfl ?_
  refine ex_iadd (pc' := 1590) (v := 1) dL_law_1589 (by decide) rfl ?_
  refine ex_sald (pc' := 1591) (n := 6) (xs := xs) (v := xs 1) dL_law_1590 (zsiI s1000000) rfl (by decide) rfl rfl ?_
  refine ex_aload_n (pc' := 1592) dL_law_1591 rfl rfl ?_
  refine ex_iload (pc' := 1594) dL_law_1592 rfl rfl ?_
  refine ex_iconst (v := 2) (pc' := 1595) dL_law_1594 (by decide) rfl ?_
  refine ex_iadd (pc' := 1596) (v := 2) dL_law_1595 (by decide) rfl ?_
  refine ex_sald (pc' := 1597) (n := 6) (xs := xs) (v := xs 2) dL_law_1596 (zsiI s1000000) rfl (by decide) rfl rfl ?_
  refine ex_aload_n (pc' := 1598) dL_law_1597 rfl rfl ?_
  refine ex_iload (pc' := 1600) dL_law_1598 rfl rfl ?_
  refine ex_iconst (v := 3) (pc' := 1601) dL_law_1600 (by decide) rfl ?_
  refine ex_iadd (pc' := 1602) (v := 3) dL_law_1601 (by decide) rfl ?_
  refine ex_sald (pc' := 1603) (n := 6) (xs := xs) (v := xs 3) dL_law_1602 (zsiI s1000000) rfl (by decide) rfl rfl ?_
  refine en_callvI (pc' := 1606) (vs := [.inl (xs 1), .inl (xs 2), .inl (xs 3)]) (rest := [.inl 0]) (h2 := zsI (zsI (zsI (zsI (hh_487) 0 2 1) 196 0 0) 196 11 0) 196 11 1) (v := 0) dL_law_1603 ml_13_193 ⟨zble rfl, zble rfl⟩ rfl rfl (zsiI s196) (zblt rfl) (zble rfl) rfl (kX12_tune_1 _ (zsI (hh_487) 0 2 1) (xs 1) (xs 2) (xs 3) (zsiI s196) i196_14) ?_
  refine ex_icmp_t (pc' := 1834) dL_law_1606 (by decide) (by decide) ?_
  refine ex_iinc (pc' := 1837) (v := 6) (ls' := [(4, .inl 6), (3, .inr (.inr (some 213))), (2, .inr (.inr (some 196))), (1, .inr (.inr (some 0))), (0, .inr (.inr (some 1000000)))]) dL_law_1834 rfl (by decide) (by decide) rfl rfl ?_
  refine ex_goto (pc' := 23) dL_law_1837 (by decide) ?_
  refine ex_iload (pc' := 25) dL_law_23 rfl rfl ?_
  refine ex_aload_n (pc' := 26) dL_law_25 rfl rfl ?_
  refine ex_slen (pc' := 27) (n := 6) (xs := xs) (v := 6) dL_law_26 (zsiI (zsiI (zsiI (zsiI s1000000)))) rfl (by decide) rfl ?_
  refine ex_bipush (v := 6) (pc' := 29) dL_law_27 (by decide) rfl ?_
  refine ex_isub (pc' := 30) (v := 0) dL_law_29 (by decide) rfl ?_
  refine ex_icmp_t (pc' := 1840) dL_law_30 (by decide) (by decide) ?_
  refine ex_iconst (v := 1) (pc' := 1841) dL_law_1840 (by decide) rfl ?_
  exact ex_iret dL_law_1841 rfl (by decide) ⟨rfl, zble rfl, zble rfl, zble rfl⟩
set_option maxRecDepth 10000 in
theorem kl_op_42 (d : Nat) (xs : Nat → Int32) : zEx (some (6, xs)) (d + 4) mL_law (1611, [(4, .inl 0), (3, .inr (.inr (some 213))), (2, .inr (.inr (some 196))), (1, .inr (.inr (some 0))), (0, .inr (.inr (some 1000000)))], [], hh_487) zQL := by
  have s1000000 : zsh hh_487 1000000 = none := by decide +kernel
  have s0 : zsh hh_487 0 = some (11, 16) := by decide +kernel
  have s2 : zsh hh_487 2 = some (4, 15) := by decide +kernel
  have s196 : zsh hh_487 196 = some (12, 39) := by decide +kernel
  have i2_4 : hh_487.2.1 2 4 = 0 := by decide +kernel
  have i196_14 : hh_487.2.1 196 14 = 0 := by decide +kernel
  have r0_3 : hh_487.2.2.2.1 0 3 = some 2 := by decide +kernel
  refine ex_aload_n (pc' := 1612) dL_law_1611 rfl rfl ?_
  refine ex_aload_n (pc' := 1613) dL_law_1612 rfl rfl ?_
  refine ex_iload (pc' := 1615) dL_law_1613 rfl rfl ?_
  refine ex_iconst (v := 1) (pc' := 1616) dL_law_1615 (by decide) rfl ?_
  refine ex_iadd (pc' := 1617) (v := 1) dL_law_1616 (by decide) rfl ?_
  refine ex_sald (pc' := 1618) (n := 6) (xs := xs) (v := xs 1) dL_law_1617 s1000000 rfl (by decide) rfl rfl ?_
  refine en_callvI (pc' := 1621) (vs := [.inl (xs 1)]) (rest := []) (h2 := zsI (hh_487) 0 2 1) (v := (-1)) dL_law_1618 ml_13_194 ⟨zble rfl, zble rfl⟩ rfl rfl s0 (zblt rfl) (zble rfl) rfl (kX11_years_1 _ hh_487 (xs 1) s0 s2 i2_4 r0_3) ?_
  refine ex_aload_n (pc' := 1622) dL_law_1621 rfl rfl ?_
  refine ex_aload_n (pc' := 1623) dL_law_1622 rfl rfl ?_
  refine ex_iload (pc' := 1625) dL_law_1623 rfl rfl ?_
  refine ex_iconst (v := 1) (pc' := 1626) dL_law_1625 (by decide) rfl ?_
  refine ex_iadd (pc' := 1627) (v := 1) dL_law_1626 (by decide) rfl ?_
  refine ex_sald (pc' := 1628) (n := 6) (xs := xs) (v := xs 1) dL_law_1627 (zsiI s1000000) rfl (by decide) rfl rfl ?_
  refine en_callvI (pc' := 1631) (vs := [.inl (xs 1)]) (rest := [.inl (-1)]) (h2 := zsI (zsI (zsI (zsI (hh_487) 0 2 1) 196 0 0) 196 11 0) 196 11 1) (v := (-1)) dL_law_1628 ml_13_197 ⟨zble rfl, zble rfl⟩ rfl rfl (zsiI s196) (zblt rfl) (zble rfl) rfl (kX12_years_1 _ (zsI (hh_487) 0 2 1) (xs 1) (zsiI s196) i196_14) ?_
  refine ex_icmp_t (pc' := 1834) dL_law_1631 (by decide) (by decide) ?_
  refine ex_iinc (pc' := 1837) (v := 6) (ls' := [(4, .inl 6), (3, .inr (.inr (some 213))), (2, .inr (.inr (some 196))), (1, .inr (.inr (some 0))), (0, .inr (.inr (some 1000000)))]) dL_law_1834 rfl (by decide) (by decide) rfl rfl ?_
  refine ex_goto (pc' := 23) dL_law_1837 (by decide) ?_
  refine ex_iload (pc' := 25) dL_law_23 rfl rfl ?_
  refine ex_aload_n (pc' := 26) dL_law_25 rfl rfl ?_
  refine ex_slen (pc' := 27) (n := 6) (xs := xs) (v := 6) dL_law_26 (zsiI (zsiI (zsiI (zsiI s1000000)))) rfl (by decide) rfl ?_
  refine ex_bipush (v := 6) (pc' := 29) dL_law_27 (by decide) rfl ?_
  refine ex_isub (pc' := 30) (v := 0) dL_law_29 (by decide) rfl ?_
  refine ex_icmp_t (pc' := 1840) dL_law_30 (by decide) (by decide) ?_
  refine ex_iconst (v := 1) (pc' := 1841) dL_law_1840 (by decide) rfl ?_
  exact ex_iret dL_law_1841 rfl (by decide) ⟨rfl, zble rfl, zble rfl, zble rfl⟩
set_option maxRecDepth 10000 in
theorem kl_op_43 (d : Nat) (xs : Nat → Int32) : zEx (some (6, xs)) (d + 4) mL_law (1636, [(4, .inl 0), (3, .inr (.inr (some 213))), (2, .inr (.inr (some 196))), (1, .inr (.inr (some 0))), (0, .inr (.inr (some 1000000)))], [], hh_487) zQL := by
  have s1000000 : zsh hh_487 1000000 = none := by decide +kernel
  have s0 : zsh hh_487 0 = some (11, 16) := by decide +kernel
  have s2 : zsh hh_487 2 = some (4, 15) := by decide +kernel
  have s196 : zsh hh_487 196 = some (12, 39) := by decide +kernel
  have i2_5 : hh_487.2.1 2 5 = 0 := by decide +kernel
  have i196_14 : hh_487.2.1 196 14 = 0 := by decide +kernel
  have r0_3 : hh_487.2.2.2.1 0 3 = some 2 := by decide +kernel
  refine ex_aload_n (pc' := 1637) dL_law_1636 rfl rfl ?_
  refine ex_aload_n (pc' := 1638) dL_law_1637 rfl rfl ?_
  refine ex_iload (pc' := 1640) dL_law_1638 rfl rfl ?_
  refine ex_iconst (v := 1) (pc' := 1641) dL_law_1640 (by decide) rfl ?_
  refine ex_iadd (pc' := 1642) (v := 1) dL_law_1641 (by decide) rfl ?_
  refine ex_sald (pc' := 1643) (n := 6) (xs := xs) (v := xs 1) dL_law_1642 s1000000 rfl (by decide) rfl rfl ?_
  refine ex_aload_n (pc' := 1644) dL_law_1643 rfl rfl ?_
  refine ex_iload (pc' := 1646) dL_law_1644 rfl rfl ?_
  refine ex_iconst (v := 2) (pc' := 1647) dL_law_1646 (by decide) rfl ?_
  refine ex_iadd (pc' := 1648) (v := 2) dL_law_1647 (by decide) rfl ?_
  refine ex_sald (pc' := 1649) (n := 6) (xs := xs) (v := xs 2) dL_law_1648 s1000000 rfl (by decide) rfl rfl ?_
  refine ex_if (pc' := 1656) (pc2 := 1652) dL_law_1649 (by decide) rfl (fun c893 => ?_) (fun c893 => ?_)
  · refine ex_iconst (v := 0) (pc' := 1657) dL_law_1656 (by decide) rfl ?_
    refine en_callvI (pc' := 1660) (vs := [.inl (xs 1), .inl 0]) (rest := []) (h2 := zsI (hh_487) 0 2 1) (v := 0) dL_law_1657 ml_13_198 ⟨zble rfl, zble rfl⟩ rfl rfl s0 (zblt rfl) (zble rfl) rfl (kX11_close_1 _ hh_487 (xs 1) s0 s2 i2_5 r0_3) ?_
    refine ex_aload_n (pc' := 1661) dL_law_1660 rfl rfl ?_
    refine ex_aload_n (pc' := 1662) dL_law_1661 rfl rfl ?_
    refine ex_iload (pc' := 1664) dL_law_1662 rfl rfl ?_
    refine ex_iconst (v := 1) (pc' := 1665) dL_law_1664 (by decide) rfl ?_
    refine ex_iadd (pc' := 1666) (v := 1) dL_law_1665 (by decide) rfl ?_
    refine ex_sald (pc' := 1667) (n := 6) (xs := xs) (v := xs 1) dL_law_1666 (zsiI s1000000) rfl (by decide) rfl rfl ?_
    refine ex_aload_n (pc' := 1668) dL_law_1667 rfl rfl ?_
    refine ex_iload (pc' := 1670) dL_law_1668 rfl rfl ?_
    refine ex_iconst (v := 2) (pc' := 1671) dL_law_1670 (by decide) rfl ?_
    refine ex_iadd (pc' := 1672) (v := 2) dL_law_1671 (by decide) rfl ?_
    refine ex_sald (pc' := 1673) (n := 6) (xs := xs) (v := xs 2) dL_law_1672 (zsiI s1000000) rfl (by decide) rfl rfl ?_
    refine ex_if_t (pc' := 1680) dL_law_1673 c893 (by decide) ?_
    refine ex_iconst (v := 0) (pc' := 1681) dL_law_1680 (by decide) rfl ?_
    refine en_callvI (pc' := 1684) (vs := [.inl (xs 1), .inl 0]) (rest := [.inl 0]) (h2 := zsI (zsI (zsI (zsI (hh_487) 0 2 1) 196 0 0) 196 11 0) 196 11 1) (v := 0) dL_law_1681 ml_13_202 ⟨zble rfl, zble rfl⟩ rfl rfl (zsiI s196) (zblt rfl) (zble rfl) rfl (kX12_close_1 _ (zsI (hh_487) 0 2 1) (xs 1) (zsiI s196) i196_14) ?_
    refine ex_icmp_t (pc' := 1834) dL_law_1684 (by decide) (by decide) ?_
    refine ex_iinc (pc' := 1837) (v := 6) (ls' := [(4, .inl 6), (3, .inr (.inr (some 213))), (2, .inr (.inr (some 196))), (1, .inr (.inr (some 0))), (0, .inr (.inr (some 1000000)))]) dL_law_1834 rfl (by decide) (by decide) rfl rfl ?_
    refine ex_goto (pc' := 23) dL_law_1837 (by decide) ?_
    refine ex_iload (pc' := 25) dL_law_23 rfl rfl ?_
    refine ex_aload_n (pc' := 26) dL_law_25 rfl rfl ?_
    refine ex_slen (pc' := 27) (n := 6) (xs := xs) (v := 6) dL_law_26 (zsiI (zsiI (zsiI (zsiI s1000000)))) rfl (by decide) rfl ?_
    refine ex_bipush (v := 6) (pc' := 29) dL_law_27 (by decide) rfl ?_
    refine ex_isub (pc' := 30) (v := 0) dL_law_29 (by decide) rfl ?_
    refine ex_icmp_t (pc' := 1840) dL_law_30 (by decide) (by decide) ?_
    refine ex_iconst (v := 1) (pc' := 1841) dL_law_1840 (by decide) rfl ?_
    exact ex_iret dL_law_1841 rfl (by decide) ⟨rfl, zble rfl, zble rfl, zble rfl⟩
  · refine ex_iconst (v := 1) (pc' := 1653) dL_law_1652 (by decide) rfl ?_
    refine ex_goto (pc' := 1657) dL_law_1653 (by decide) ?_
    refine en_callvI (pc' := 1660) (vs := [.inl (xs 1), .inl 1]) (rest := []) (h2 := zsI (hh_487) 0 2 1) (v := 0) dL_law_1657 ml_13_198 ⟨zble rfl, zble rfl⟩ rfl rfl s0 (zblt rfl) (zble rfl) rfl (kX11_close_2 _ hh_487 (xs 1) s0 s2 i2_5 r0_3) ?_
    refine ex_aload_n (pc' := 1661) dL_law_1660 rfl rfl ?_
    refine ex_aload_n (pc' := 1662) dL_law_1661 rfl rfl ?_
    refine ex_iload (pc' := 1664) dL_law_1662 rfl rfl ?_
    refine ex_iconst (v := 1) (pc' := 1665) dL_law_1664 (by decide) rfl ?_
    refine ex_iadd (pc' := 1666) (v := 1) dL_law_1665 (by decide) rfl ?_
    refine ex_sald (pc' := 1667) (n := 6) (xs := xs) (v := xs 1) dL_law_1666 (zsiI s1000000) rfl (by decide) rfl rfl ?_
    refine ex_aload_n (pc' := 1668) dL_law_1667 rfl rfl ?_
    refine ex_iload (pc' := 1670) dL_law_1668 rfl rfl ?_
    refine ex_iconst (v := 2) (pc' := 1671) dL_law_1670 (by decide) rfl ?_
    refine ex_iadd (pc' := 1672) (v := 2) dL_law_1671 (by decide) rfl ?_
    refine ex_sald (pc' := 1673) (n := 6) (xs := xs) (v := xs 2) dL_law_1672 (zsiI s1000000) rfl (by decide) rfl rfl ?_
    refine ex_if_f (pc' := 1676) dL_law_1673 c893 (by decide) rfl ?_
    refine ex_iconst (v := 1) (pc' := 1677) dL_law_1676 (by decide) rfl ?_
    refine ex_goto (pc' := 1681) dL_law_1677 (by decide) ?_
    refine en_callvI (pc' := 1684) (vs := [.inl (xs 1), .inl 1]) (rest := [.inl 0]) (h2 := zsI (zsI (zsI (zsI (hh_487) 0 2 1) 196 0 0) 196 11 0) 196 11 1) (v := 0) dL_law_1681 ml_13_202 ⟨zble rfl, zble rfl⟩ rfl rfl (zsiI s196) (zblt rfl) (zble rfl) rfl (kX12_close_2 _ (zsI (hh_487) 0 2 1) (xs 1) (zsiI s196) i196_14) ?_
    refine ex_icmp_t (pc' := 1834) dL_law_1684 (by decide) (by decide) ?_
    refine ex_iinc (pc' := 1837) (v := 6) (ls' := [(4, .inl 6), (3, .inr (.inr (some 213))), (2, .inr (.inr (some 196))), (1, .inr (.inr (some 0))), (0, .inr (.inr (some 1000000)))]) dL_law_1834 rfl (by decide) (by decide) rfl rfl ?_
    refine ex_goto (pc' := 23) dL_law_1837 (by decide) ?_
    refine ex_iload (pc' := 25) dL_law_23 rfl rfl ?_
    refine ex_aload_n (pc' := 26) dL_law_25 rfl rfl ?_
    refine ex_slen (pc' := 27) (n := 6) (xs := xs) (v := 6) dL_law_26 (zsiI (zsiI (zsiI (zsiI s1000000)))) rfl (by decide) rfl ?_
    refine ex_bipush (v := 6) (pc' := 29) dL_law_27 (by decide) rfl ?_
    refine ex_isub (pc' := 30) (v := 0) dL_law_29 (by decide) rfl ?_
    refine ex_icmp_t (pc' := 1840) dL_law_30 (by decide) (by decide) ?_
    refine ex_iconst (v := 1) (pc' := 1841) dL_law_1840 (by decide) rfl ?_
    exact ex_iret dL_law_1841 rfl (by decide) ⟨rfl, zble rfl, zble rfl, zble rfl⟩
set_option maxRecDepth 10000 in
theorem kl_op_44 (d : Nat) (xs : Nat → Int32) : zEx (some (6, xs)) (d + 4) mL_law (1689, [(4, .inl 0), (3, .inr (.inr (some 213))), (2, .inr (.inr (some 196))), (1, .inr (.inr (some 0))), (0, .inr (.inr (some 1000000)))], [], hh_487) zQL := by
  have s0 : zsh hh_487 0 = some (11, 16) := by decide +kernel
  have s196 : zsh hh_487 196 = some (12, 39) := by decide +kernel
  have s1000000 : zsh hh_487 1000000 = none := by decide +kernel
  have i0_13 : hh_487.2.1 0 13 = 0 := by decide +kernel
  have i196_20 : hh_487.2.1 196 20 = 0 := by decide +kernel
  refine ex_aload_n (pc' := 1690) dL_law_1689 rfl rfl ?_
  refine en_callvI (pc' := 1693) (vs := []) (rest := []) (h2 := zsI (hh_487) 0 2 6) (v := 0) dL_law_1690 ml_13_203 ⟨zble rfl, zble rfl⟩ rfl rfl s0 (zblt rfl) (zble rfl) rfl (kX11_undo_1 _ hh_487 s0 i0_13) ?_
  refine ex_aload_n (pc' := 1694) dL_law_1693 rfl rfl ?_
  refine en_callvI (pc' := 1697) (vs := []) (rest := [.inl 0]) (h2 := zsI (zsI (zsI (zsI (hh_487) 0 2 6) 196 0 0) 196 11 0) 196 11 6) (v := 0) dL_law_1694 ml_13_207 ⟨zble rfl, zble rfl⟩ rfl rfl (zsiI s196) (zblt rfl) (zble rfl) rfl (kX12_undo_1 _ (zsI (hh_487) 0 2 6) (zsiI s196) i196_20) ?_
  refine ex_icmp_t (pc' := 1834) dL_law_1697 (by decide) (by decide) ?_
  refine ex_iinc (pc' := 1837) (v := 6) (ls' := [(4, .inl 6), (3, .inr (.inr (some 213))), (2, .inr (.inr (some 196))), (1, .inr (.inr (some 0))), (0, .inr (.inr (some 1000000)))]) dL_law_1834 rfl (by decide) (by decide) rfl rfl ?_
  refine ex_goto (pc' := 23) dL_law_1837 (by decide) ?_
  refine ex_iload (pc' := 25) dL_law_23 rfl rfl ?_
  refine ex_aload_n (pc' := 26) dL_law_25 rfl rfl ?_
  refine ex_slen (pc' := 27) (n := 6) (xs := xs) (v := 6) dL_law_26 (zsiI (zsiI (zsiI (zsiI s1000000)))) rfl (by decide) rfl ?_
  refine ex_bipush (v := 6) (pc' := 29) dL_law_27 (by decide) rfl ?_
  refine ex_isub (pc' := 30) (v := 0) dL_law_29 (by decide) rfl ?_
  refine ex_icmp_t (pc' := 1840) dL_law_30 (by decide) (by decide) ?_
  refine ex_iconst (v := 1) (pc' := 1841) dL_law_1840 (by decide) rfl ?_
  exact ex_iret dL_law_1841 rfl (by decide) ⟨rfl, zble rfl, zble rfl, zble rfl⟩
set_option maxRecDepth 10000 in
theorem kl_op_45 (d : Nat) (xs : Nat → Int32) : zEx (some (6, xs)) (d + 4) mL_law (1702, [(4, .inl 0), (3, .inr (.inr (some 213))), (2, .inr (.inr (some 196))), (1, .inr (.inr (some 0))), (0, .inr (.inr (some 1000000)))], [], hh_487) zQL := by
  have s0 : zsh hh_487 0 = some (11, 16) := by decide +kernel
  have s2 : zsh hh_487 2 = some (4, 15) := by decide +kernel
  have s196 : zsh hh_487 196 = some (12, 39) := by decide +kernel
  have s1000000 : zsh hh_487 1000000 = none := by decide +kernel
  have i2_4 : hh_487.2.1 2 4 = 0 := by decide +kernel
  have i196_14 : hh_487.2.1 196 14 = 0 := by decide +kernel
  have r0_3 : hh_487.2.2.2.1 0 3 = some 2 := by decide +kernel
  refine ex_aload_n (pc' := 1703) dL_law_1702 rfl rfl ?_
  refine en_callvI (pc' := 1706) (vs := []) (rest := []) (h2 := zsI (hh_487) 0 2 1) (v := (-1)) dL_law_1703 ml_13_208 ⟨zble rfl, zble rfl⟩ rfl rfl s0 (zblt rfl) (zble rfl) rfl (kX11_image_1 _ hh_487 s0 s2 i2_4 r0_3) ?_
  refine ex_aload_n (pc' := 1707) dL_law_1706 rfl rfl ?_
  refine en_callvI (pc' := 1710) (vs := []) (rest := [.inl (-1)]) (h2 := zsI (zsI (zsI (zsI (hh_487) 0 2 1) 196 0 0) 196 11 0) 196 11 1) (v := (-1)) dL_law_1707 ml_13_211 ⟨zble rfl, zble rfl⟩ rfl rfl (zsiI s196) (zblt rfl) (zble rfl) rfl (kX12_image_1 _ (zsI (hh_487) 0 2 1) (zsiI s196) i196_14) ?_
  refine ex_icmp_t (pc' := 1834) dL_law_1710 (by decide) (by decide) ?_
  refine ex_iinc (pc' := 1837) (v := 6) (ls' := [(4, .inl 6), (3, .inr (.inr (some 213))), (2, .inr (.inr (some 196))), (1, .inr (.inr (some 0))), (0, .inr (.inr (some 1000000)))]) dL_law_1834 rfl (by decide) (by decide) rfl rfl ?_
  refine ex_goto (pc' := 23) dL_law_1837 (by decide) ?_
  refine ex_iload (pc' := 25) dL_law_23 rfl rfl ?_
  refine ex_aload_n (pc' := 26) dL_law_25 rfl rfl ?_
  refine ex_slen (pc' := 27) (n := 6) (xs := xs) (v := 6) dL_law_26 (zsiI (zsiI (zsiI (zsiI s1000000)))) rfl (by decide) rfl ?_
  refine ex_bipush (v := 6) (pc' := 29) dL_law_27 (by decide) rfl ?_
  refine ex_isub (pc' := 30) (v := 0) dL_law_29 (by decide) rfl ?_
  refine ex_icmp_t (pc' := 1840) dL_law_30 (by decide) (by decide) ?_
  refine ex_iconst (v := 1) (pc' := 1841) dL_law_1840 (by decide) rfl ?_
  exact ex_iret dL_law_1841 rfl (by decide) ⟨rfl, zble rfl, zble rfl, zble rfl⟩
set_option maxRecDepth 10000 in
theorem kl_op_46_lt (d : Nat) (xs : Nat → Int32) (b1 : zcond .lt (xs 1) 0 = true) : zEx (some (6, xs)) (d + 4) mL_law (1715, [(4, .inl 0), (3, .inr (.inr (some 213))), (2, .inr (.inr (some 196))), (1, .inr (.inr (some 0))), (0, .inr (.inr (some 1000000)))], [], hh_487) zQL := by
  have s1000000 : zsh hh_487 1000000 = none := by decide +kernel
  have s0 : zsh hh_487 0 = some (11, 16) := by decide +kernel
  have s196 : zsh hh_487 196 = some (12, 39) := by decide +kernel
  have i196_21 : hh_487.2.1 196 21 = 0 := by decide +kernel
  refine ex_aload_n (pc' := 1716) dL_law_1715 rfl rfl ?_
  refine ex_aload_n (pc' := 1717) dL_law_1716 rfl rfl ?_
  refine ex_iload (pc' := 1719) dL_law_1717 rfl rfl ?_
  refine ex_iconst (v := 1) (pc' := 1720) dL_law_1719 (by decide) rfl ?_
  refine ex_iadd (pc' := 1721) (v := 1) dL_law_1720 (by decide) rfl ?_
  refine ex_sald (pc' := 1722) (n := 6) (xs := xs) (v := xs 1) dL_law_1721 s1000000 rfl (by decide) rfl rfl ?_
  refine en_callvI (pc' := 1725) (vs := [.inl (xs 1)]) (rest := []) (h2 := zsI (hh_487) 0 2 1) (v := 0) dL_law_1722 ml_13_212 ⟨zble rfl, zble rfl⟩ rfl rfl s0 (zblt rfl) (zble rfl) rfl (kX11_back_1 _ hh_487 (xs 1) s0 b1) ?_
  refine ex_aload_n (pc' := 1726) dL_law_1725 rfl rfl ?_
  refine ex_aload_n (pc' := 1727) dL_law_1726 rfl rfl ?_
  refine ex_iload (pc' := 1729) dL_law_1727 rfl rfl ?_
  refine ex_iconst (v := 1) (pc' := 1730) dL_law_1729 (by decide) rfl ?_
  refine ex_iadd (pc' := 1731) (v := 1) dL_law_1730 (by decide) rfl ?_
  refine ex_sald (pc' := 1732) (n := 6) (xs := xs) (v := xs 1) dL_law_1731 (zsiI s1000000) rfl (by decide) rfl rfl ?_
  refine en_callvI (pc' := 1735) (vs := [.inl (xs 1)]) (rest := [.inl 0]) (h2 := zsI (zsI (zsI (zsI (hh_487) 0 2 1) 196 0 0) 196 11 0) 196 11 1) (v := 0) dL_law_1732 ml_13_216 ⟨zble rfl, zble rfl⟩ rfl rfl (zsiI s196) (zblt rfl) (zble rfl) rfl (kX12_back_1 _ (zsI (hh_487) 0 2 1) (xs 1) (zsiI s196) b1 i196_21) ?_
  refine ex_icmp_t (pc' := 1834) dL_law_1735 (by decide) (by decide) ?_
  refine ex_iinc (pc' := 1837) (v := 6) (ls' := [(4, .inl 6), (3, .inr (.inr (some 213))), (2, .inr (.inr (some 196))), (1, .inr (.inr (some 0))), (0, .inr (.inr (some 1000000)))]) dL_law_1834 rfl (by decide) (by decide) rfl rfl ?_
  refine ex_goto (pc' := 23) dL_law_1837 (by decide) ?_
  refine ex_iload (pc' := 25) dL_law_23 rfl rfl ?_
  refine ex_aload_n (pc' := 26) dL_law_25 rfl rfl ?_
  refine ex_slen (pc' := 27) (n := 6) (xs := xs) (v := 6) dL_law_26 (zsiI (zsiI (zsiI (zsiI s1000000)))) rfl (by decide) rfl ?_
  refine ex_bipush (v := 6) (pc' := 29) dL_law_27 (by decide) rfl ?_
  refine ex_isub (pc' := 30) (v := 0) dL_law_29 (by decide) rfl ?_
  refine ex_icmp_t (pc' := 1840) dL_law_30 (by decide) (by decide) ?_
  refine ex_iconst (v := 1) (pc' := 1841) dL_law_1840 (by decide) rfl ?_
  exact ex_iret dL_law_1841 rfl (by decide) ⟨rfl, zble rfl, zble rfl, zble rfl⟩
set_option maxRecDepth 10000 in
theorem kl_op_46_ge (d : Nat) (xs : Nat → Int32) (b1 : zcond .lt (xs 1) 0 = false) (b2 : zcond .gt (xs 1) (-1) = true) : zEx (some (6, xs)) (d + 4) mL_law (1715, [(4, .inl 0), (3, .inr (.inr (some 213))), (2, .inr (.inr (some 196))), (1, .inr (.inr (some 0))), (0, .inr (.inr (some 1000000)))], [], hh_487) zQL := by
  have s1000000 : zsh hh_487 1000000 = none := by decide +kernel
  have s0 : zsh hh_487 0 = some (11, 16) := by decide +kernel
  have s196 : zsh hh_487 196 = some (12, 39) := by decide +kernel
  have i0_15 : hh_487.2.1 0 15 = 0 := by decide +kernel
  have i196_21 : hh_487.2.1 196 21 = 0 := by decide +kernel
  refine ex_aload_n (pc' := 1716) dL_law_1715 rfl rfl ?_
  refine ex_aload_n (pc' := 1717) dL_law_1716 rfl rfl ?_
  refine ex_iload (pc' := 1719) dL_law_1717 rfl rfl ?_
  refine ex_iconst (v := 1) (pc' := 1720) dL_law_1719 (by decide) rfl ?_
  refine ex_iadd (pc' := 1721) (v := 1) dL_law_1720 (by decide) rfl ?_
  refine ex_sald (pc' := 1722) (n := 6) (xs := xs) (v := xs 1) dL_law_1721 s1000000 rfl (by decide) rfl rfl ?_
  refine en_callvI (pc' := 1725) (vs := [.inl (xs 1)]) (rest := []) (h2 := zsI (hh_487) 0 2 1) (v := 0) dL_law_1722 ml_13_212 ⟨zble rfl, zble rfl⟩ rfl rfl s0 (zblt rfl) (zble rfl) rfl (kX11_back_2 _ hh_487 (xs 1) s0 b1 i0_15) ?_
  refine ex_aload_n (pc' := 1726) dL_law_1725 rfl rfl ?_
  refine ex_aload_n (pc' := 1727) dL_law_1726 rfl rfl ?_
  refine ex_iload (pc' := 1729) dL_law_1727 rfl rfl ?_
  refine ex_iconst (v := 1) (pc' := 1730) dL_law_1729 (by decide) rfl ?_
  refine ex_iadd (pc' := 1731) (v := 1) dL_law_1730 (by decide) rfl ?_
  refine ex_sald (pc' := 1732) (n := 6) (xs := xs) (v := xs 1) dL_law_1731 (zsiI s1000000) rfl (by decide) rfl rfl ?_
  refine en_callvI (pc' := 1735) (vs := [.inl (xs 1)]) (rest := [.inl 0]) (h2 := zsI (zsI (zsI (zsI (hh_487) 0 2 1) 196 0 0) 196 11 0) 196 11 1) (v := 0) dL_law_1732 ml_13_216 ⟨zble rfl, zble rfl⟩ rfl rfl (zsiI s196) (zblt rfl) (zble rfl) rfl (kX12_back_2 _ (zsI (hh_487) 0 2 1) (xs 1) (zsiI s196) b1 b2 i196_21) ?_
  refine ex_icmp_t (pc' := 1834) dL_law_1735 (by decide) (by decide) ?_
  refine ex_iinc (pc' := 1837) (v := 6) (ls' := [(4, .inl 6), (3, .inr (.inr (some 213))), (2, .inr (.inr (some 196))), (1, .inr (.inr (some 0))), (0, .inr (.inr (some 1000000)))]) dL_law_1834 rfl (by decide) (by decide) rfl rfl ?_
  refine ex_goto (pc' := 23) dL_law_1837 (by decide) ?_
  refine ex_iload (pc' := 25) dL_law_23 rfl rfl ?_
  refine ex_aload_n (pc' := 26) dL_law_25 rfl rfl ?_
  refine ex_slen (pc' := 27) (n := 6) (xs := xs) (v := 6) dL_law_26 (zsiI (zsiI (zsiI (zsiI s1000000)))) rfl (by decide) rfl ?_
  refine ex_bipush (v := 6) (pc' := 29) dL_law_27 (by decide) rfl ?_
  refine ex_isub (pc' := 30) (v := 0) dL_law_29 (by decide) rfl ?_
  refine ex_icmp_t (pc' := 1840) dL_law_30 (by decide) (by decide) ?_
  refine ex_iconst (v := 1) (pc' := 1841) dL_law_1840 (by decide) rfl ?_
  exact ex_iret dL_law_1841 rfl (by decide) ⟨rfl, zble rfl, zble rfl, zble rfl⟩
set_option maxRecDepth 10000 in
theorem kl_op_47 (d : Nat) (xs : Nat → Int32) : zEx (some (6, xs)) (d + 4) mL_law (1740, [(4, .inl 0), (3, .inr (.inr (some 213))), (2, .inr (.inr (some 196))), (1, .inr (.inr (some 0))), (0, .inr (.inr (some 1000000)))], [], hh_487) zQL := by
  have s1000000 : zsh hh_487 1000000 = none := by decide +kernel
  have s0 : zsh hh_487 0 = some (11, 16) := by decide +kernel
  have s213 : zsh hh_487 213 = some (15, 1) := by decide +kernel
  have s2 : zsh hh_487 2 = some (4, 15) := by decide +kernel
  have s196 : zsh hh_487 196 = some (12, 39) := by decide +kernel
  have i2_7 : hh_487.2.1 2 7 = 0 := by decide +kernel
  have i196_14 : hh_487.2.1 196 14 = 0 := by decide +kernel
  have r0_3 : hh_487.2.2.2.1 0 3 = some 2 := by decide +kernel
  refine ex_aload_n (pc' := 1741) dL_law_1740 rfl rfl ?_
  refine ex_aload_n (pc' := 1742) dL_law_1741 rfl rfl ?_
  refine ex_iload (pc' := 1744) dL_law_1742 rfl rfl ?_
  refine ex_iconst (v := 1) (pc' := 1745) dL_law_1744 (by decide) rfl ?_
  refine ex_iadd (pc' := 1746) (v := 1) dL_law_1745 (by decide) rfl ?_
  refine ex_sald (pc' := 1747) (n := 6) (xs := xs) (v := xs 1) dL_law_1746 s1000000 rfl (by decide) rfl rfl ?_
  refine ex_aload_n (pc' := 1748) dL_law_1747 rfl rfl ?_
  refine ex_ledT (pc' := 1751) (h2 := zthr (hh_487)) (rest := []) dL_law_1748 ml_13_217 rfl ⟨zble rfl, s0, s213, zblt rfl⟩ rfl (kX11_led_1 _ hh_487 (xs 1) s0 s2 i2_7 r0_3 (zblt rfl)) ?_
  refine ex_istore (pc' := 1753) (ls' := [(5, .inl 1), (4, .inl 0), (3, .inr (.inr (some 213))), (2, .inr (.inr (some 196))), (1, .inr (.inr (some 0))), (0, .inr (.inr (some 1000000)))]) dL_law_1751 (by decide) rfl rfl ?_
  refine ex_aload_n (pc' := 1754) dL_law_1753 rfl rfl ?_
  refine ex_aload_n (pc' := 1755) dL_law_1754 rfl rfl ?_
  refine ex_iload (pc' := 1757) dL_law_1755 rfl rfl ?_
  refine ex_iconst (v := 1) (pc' := 1758) dL_law_1757 (by decide) rfl ?_
  refine ex_iadd (pc' := 1759) (v := 1) dL_law_1758 (by decide) rfl ?_
  refine ex_sald (pc' := 1760) (n := 6) (xs := xs) (v := xs 1) dL_law_1759 (zsiT s1000000) rfl (by decide) rfl rfl ?_
  refine en_callvI (pc' := 1763) (vs := [.inl (xs 1)]) (rest := []) (h2 := zsI (zthr (hh_487)) 196 0 1) (v := 0) dL_law_1760 ml_13_222 ⟨zble rfl, zble rfl⟩ rfl rfl (zsiT s196) (zblt rfl) (zble rfl) rfl (kX12_led_1 _ (zthr (hh_487)) (xs 1) (zsiT s196) i196_14) ?_
  refine ex_istore (pc' := 1765) (ls' := [(6, .inl 0), (5, .inl 1), (4, .inl 0), (3, .inr (.inr (some 213))), (2, .inr (.inr (some 196))), (1, .inr (.inr (some 0))), (0, .inr (.inr (some 1000000)))]) dL_law_1763 (by decide) rfl rfl ?_
  refine ex_aload_n (pc' := 1766) dL_law_1765 rfl rfl ?_
  refine en_callvI (pc' := 1769) (vs := []) (rest := []) (h2 := zsI (zthr (hh_487)) 196 0 1) (v := 1) dL_law_1766 ml_13_223 ⟨zble rfl, zble rfl⟩ rfl rfl (zsiI (zsiT s196)) (zblt rfl) (zble rfl) rfl (kX12_thrown_1 _ (zsI (zthr (hh_487)) 196 0 1) (zsiI (zsiT s196)) rfl) ?_
  refine ex_iload (pc' := 1771) dL_law_1769 rfl rfl ?_
  refine ex_icmp_t (pc' := 1776) dL_law_1771 (by decide) (by decide) ?_
  refine ex_iload (pc' := 1778) dL_law_1776 rfl rfl ?_
  refine ex_if_t (pc' := 1793) dL_law_1778 (by decide) (by decide) ?_
  refine ex_goto (pc' := 1834) dL_law_1793 (by decide) ?_
  refine ex_iinc (pc' := 1837) (v := 6) (ls' := [(4, .inl 6), (6, .inl 0), (5, .inl 1), (3, .inr (.inr (some 213))), (2, .inr (.inr (some 196))), (1, .inr (.inr (some 0))), (0, .inr (.inr (some 1000000)))]) dL_law_1834 rfl (by decide) (by decide) rfl rfl ?_
  refine ex_goto (pc' := 23) dL_law_1837 (by decide) ?_
  refine ex_iload (pc' := 25) dL_law_23 rfl rfl ?_
  refine ex_aload_n (pc' := 26) dL_law_25 rfl rfl ?_
  refine ex_slen (pc' := 27) (n := 6) (xs := xs) (v := 6) dL_law_26 (zsiI (zsiT s1000000)) rfl (by decide) rfl ?_
  refine ex_bipush (v := 6) (pc' := 29) dL_law_27 (by decide) rfl ?_
  refine ex_isub (pc' := 30) (v := 0) dL_law_29 (by decide) rfl ?_
  refine ex_icmp_t (pc' := 1840) dL_law_30 (by decide) (by decide) ?_
  refine ex_iconst (v := 1) (pc' := 1841) dL_law_1840 (by decide) rfl ?_
  exact ex_iret dL_law_1841 rfl (by decide) ⟨rfl, zble rfl, zble rfl, zble rfl⟩
set_option maxRecDepth 10000 in
theorem kl_op_48_lt (d : Nat) (xs : Nat → Int32) (b1 : zcond .lt (xs 1) 0 = true) (b2 : zcond .ne (xs 1) 12 = true) : zEx (some (6, xs)) (d + 4) mL_law (1796, [(4, .inl 0), (3, .inr (.inr (some 213))), (2, .inr (.inr (some 196))), (1, .inr (.inr (some 0))), (0, .inr (.inr (some 1000000)))], [], hh_487) zQL := by
  have s1000000 : zsh hh_487 1000000 = none := by decide +kernel
  have s0 : zsh hh_487 0 = some (11, 16) := by decide +kernel
  have s196 : zsh hh_487 196 = some (12, 39) := by decide +kernel
  have i196_14 : hh_487.2.1 196 14 = 0 := by decide +kernel
  refine ex_aload_n (pc' := 1797) dL_law_1796 rfl rfl ?_
  refine ex_aload_n (pc' := 1798) dL_law_1797 rfl rfl ?_
  refine ex_iload (pc' := 1800) dL_law_1798 rfl rfl ?_
  refine ex_iconst (v := 1) (pc' := 1801) dL_law_1800 (by decide) rfl ?_
  refine ex_iadd (pc' := 1802) (v := 1) dL_law_1801 (by decide) rfl ?_
  refine ex_sald (pc' := 1803) (n := 6) (xs := xs) (v := xs 1) dL_law_1802 s1000000 rfl (by decide) rfl rfl ?_
  refine en_callvI (pc' := 1806) (vs := [.inl (xs 1)]) (rest := []) (h2 := hh_487) (v := (-1)) dL_law_1803 ml_13_226 ⟨zble rfl, zble rfl⟩ rfl rfl s0 (zblt rfl) (zble rfl) rfl (kX11_size_1 _ hh_487 (xs 1) b1) ?_
  refine ex_aload_n (pc' := 1807) dL_law_1806 rfl rfl ?_
  refine ex_aload_n (pc' := 1808) dL_law_1807 rfl rfl ?_
  refine ex_iload (pc' := 1810) dL_law_1808 rfl rfl ?_
  refine ex_iconst (v := 1) (pc' := 1811) dL_law_1810 (by decide) rfl ?_
  refine ex_iadd (pc' := 1812) (v := 1) dL_law_1811 (by decide) rfl ?_
  refine ex_sald (pc' := 1813) (n := 6) (xs := xs) (v := xs 1) dL_law_1812 s1000000 rfl (by decide) rfl rfl ?_
  refine en_callvI (pc' := 1816) (vs := [.inl (xs 1)]) (rest := [.inl (-1)]) (h2 := zsI (hh_487) 196 0 0) (v := (-1)) dL_law_1813 ml_13_229 ⟨zble rfl, zble rfl⟩ rfl rfl s196 (zblt rfl) (zble rfl) rfl (kX12_size_1 _ hh_487 (xs 1) s196 b2 b1 i196_14) ?_
  refine ex_icmp_t (pc' := 1834) dL_law_1816 (by decide) (by decide) ?_
  refine ex_iinc (pc' := 1837) (v := 6) (ls' := [(4, .inl 6), (3, .inr (.inr (some 213))), (2, .inr (.inr (some 196))), (1, .inr (.inr (some 0))), (0, .inr (.inr (some 1000000)))]) dL_law_1834 rfl (by decide) (by decide) rfl rfl ?_
  refine ex_goto (pc' := 23) dL_law_1837 (by decide) ?_
  refine ex_iload (pc' := 25) dL_law_23 rfl rfl ?_
  refine ex_aload_n (pc' := 26) dL_law_25 rfl rfl ?_
  refine ex_slen (pc' := 27) (n := 6) (xs := xs) (v := 6) dL_law_26 (zsiI s1000000) rfl (by decide) rfl ?_
  refine ex_bipush (v := 6) (pc' := 29) dL_law_27 (by decide) rfl ?_
  refine ex_isub (pc' := 30) (v := 0) dL_law_29 (by decide) rfl ?_
  refine ex_icmp_t (pc' := 1840) dL_law_30 (by decide) (by decide) ?_
  refine ex_iconst (v := 1) (pc' := 1841) dL_law_1840 (by decide) rfl ?_
  exact ex_iret dL_law_1841 rfl (by decide) ⟨rfl, zble rfl, zble rfl, zble rfl⟩
set_option maxRecDepth 10000 in
theorem kl_op_48_gt (d : Nat) (xs : Nat → Int32) (b1 : zcond .lt (xs 1) 0 = false) (b2 : zcond .gt (xs 1) 11 = true) (b3 : zcond .ne (xs 1) 12 = true) (b4 : zcond .gt (xs 1) 12 = true) : zEx (some (6, xs)) (d + 4) mL_law (1796, [(4, .inl 0), (3, .inr (.inr (some 213))), (2, .inr (.inr (some 196))), (1, .inr (.inr (some 0))), (0, .inr (.inr (some 1000000)))], [], hh_487) zQL := by
  have s1000000 : zsh hh_487 1000000 = none := by decide +kernel
  have s0 : zsh hh_487 0 = some (11, 16) := by decide +kernel
  have s196 : zsh hh_487 196 = some (12, 39) := by decide +kernel
  have i196_14 : hh_487.2.1 196 14 = 0 := by decide +kernel
  refine ex_aload_n (pc' := 1797) dL_law_1796 rfl rfl ?_
  refine ex_aload_n (pc' := 1798) dL_law_1797 rfl rfl ?_
  refine ex_iload (pc' := 1800) dL_law_1798 rfl rfl ?_
  refine ex_iconst (v := 1) (pc' := 1801) dL_law_1800 (by decide) rfl ?_
  refine ex_iadd (pc' := 1802) (v := 1) dL_law_1801 (by decide) rfl ?_
  refine ex_sald (pc' := 1803) (n := 6) (xs := xs) (v := xs 1) dL_law_1802 s1000000 rfl (by decide) rfl rfl ?_
  refine en_callvI (pc' := 1806) (vs := [.inl (xs 1)]) (rest := []) (h2 := hh_487) (v := (-1)) dL_law_1803 ml_13_226 ⟨zble rfl, zble rfl⟩ rfl rfl s0 (zblt rfl) (zble rfl) rfl (kX11_size_2 _ hh_487 (xs 1) b1 b4) ?_
  refine ex_aload_n (pc' := 1807) dL_law_1806 rfl rfl ?_
  refine ex_aload_n (pc' := 1808) dL_law_1807 rfl rfl ?_
  refine ex_iload (pc' := 1810) dL_law_1808 rfl rfl ?_
  refine ex_iconst (v := 1) (pc' := 1811) dL_law_1810 (by decide) rfl ?_
  refine ex_iadd (pc' := 1812) (v := 1) dL_law_1811 (by decide) rfl ?_
  refine ex_sald (pc' := 1813) (n := 6) (xs := xs) (v := xs 1) dL_law_1812 s1000000 rfl (by decide) rfl rfl ?_
  refine en_callvI (pc' := 1816) (vs := [.inl (xs 1)]) (rest := [.inl (-1)]) (h2 := zsI (hh_487) 196 0 0) (v := (-1)) dL_law_1813 ml_13_229 ⟨zble rfl, zble rfl⟩ rfl rfl s196 (zblt rfl) (zble rfl) rfl (kX12_size_2 _ hh_487 (xs 1) s196 b3 b1 b2 i196_14) ?_
  refine ex_icmp_t (pc' := 1834) dL_law_1816 (by decide) (by decide) ?_
  refine ex_iinc (pc' := 1837) (v := 6) (ls' := [(4, .inl 6), (3, .inr (.inr (some 213))), (2, .inr (.inr (some 196))), (1, .inr (.inr (some 0))), (0, .inr (.inr (some 1000000)))]) dL_law_1834 rfl (by decide) (by decide) rfl rfl ?_
  refine ex_goto (pc' := 23) dL_law_1837 (by decide) ?_
  refine ex_iload (pc' := 25) dL_law_23 rfl rfl ?_
  refine ex_aload_n (pc' := 26) dL_law_25 rfl rfl ?_
  refine ex_slen (pc' := 27) (n := 6) (xs := xs) (v := 6) dL_law_26 (zsiI s1000000) rfl (by decide) rfl ?_
  refine ex_bipush (v := 6) (pc' := 29) dL_law_27 (by decide) rfl ?_
  refine ex_isub (pc' := 30) (v := 0) dL_law_29 (by decide) rfl ?_
  refine ex_icmp_t (pc' := 1840) dL_law_30 (by decide) (by decide) ?_
  refine ex_iconst (v := 1) (pc' := 1841) dL_law_1840 (by decide) rfl ?_
  exact ex_iret dL_law_1841 rfl (by decide) ⟨rfl, zble rfl, zble rfl, zble rfl⟩
set_option maxRecDepth 10000 in
theorem kl_op_48_0 (d : Nat) (xs : Nat → Int32) (e1 : xs 1 = 0) : zEx (some (6, xs)) (d + 4) mL_law (1796, [(4, .inl 0), (3, .inr (.inr (some 213))), (2, .inr (.inr (some 196))), (1, .inr (.inr (some 0))), (0, .inr (.inr (some 1000000)))], [], hh_487) zQL := by
  have s1000000 : zsh hh_487 1000000 = none := by decide +kernel
  have s0 : zsh hh_487 0 = some (11, 16) := by decide +kernel
  have s2 : zsh hh_487 2 = some (4, 15) := by decide +kernel
  have s196 : zsh hh_487 196 = some (12, 39) := by decide +kernel
  have i2_0 : hh_487.2.1 2 0 = 0 := by decide +kernel
  have i196_14 : hh_487.2.1 196 14 = 0 := by decide +kernel
  have r0_3 : hh_487.2.2.2.1 0 3 = some 2 := by decide +kernel
  refine ex_aload_n (pc' := 1797) dL_law_1796 rfl rfl ?_
  refine ex_aload_n (pc' := 1798) dL_law_1797 rfl rfl ?_
  refine ex_iload (pc' := 1800) dL_law_1798 rfl rfl ?_
  refine ex_iconst (v := 1) (pc' := 1801) dL_law_1800 (by decide) rfl ?_
  refine ex_iadd (pc' := 1802) (v := 1) dL_law_1801 (by decide) rfl ?_
  refine ex_sald (pc' := 1803) (n := 6) (xs := xs) (v := 0) dL_law_1802 s1000000 rfl (by decide) e1 rfl ?_
  refine en_callvI (pc' := 1806) (vs := [.inl 0]) (rest := []) (h2 := hh_487) (v := 0) dL_law_1803 ml_13_226 ⟨zble rfl, zble rfl⟩ rfl rfl s0 (zblt rfl) (zble rfl) rfl (kX11_size_3 _ hh_487 s0 s2 i2_0 r0_3) ?_
  refine ex_aload_n (pc' := 1807) dL_law_1806 rfl rfl ?_
  refine ex_aload_n (pc' := 1808) dL_law_1807 rfl rfl ?_
  refine ex_iload (pc' := 1810) dL_law_1808 rfl rfl ?_
  refine ex_iconst (v := 1) (pc' := 1811) dL_law_1810 (by decide) rfl ?_
  refine ex_iadd (pc' := 1812) (v := 1) dL_law_1811 (by decide) rfl ?_
  refine ex_sald (pc' := 1813) (n := 6) (xs := xs) (v := 0) dL_law_1812 s1000000 rfl (by decide) e1 rfl ?_
  refine en_callvI (pc' := 1816) (vs := [.inl 0]) (rest := [.inl 0]) (h2 := zsI (hh_487) 196 0 0) (v := 0) dL_law_1813 ml_13_229 ⟨zble rfl, zble rfl⟩ rfl rfl s196 (zblt rfl) (zble rfl) rfl (kX12_size_3 _ hh_487 s196 i196_14) ?_
  refine ex_icmp_t (pc' := 1834) dL_law_1816 (by decide) (by decide) ?_
  refine ex_iinc (pc' := 1837) (v := 6) (ls' := [(4, .inl 6), (3, .inr (.inr (some 213))), (2, .inr (.inr (some 196))), (1, .inr (.inr (some 0))), (0, .inr (.inr (some 1000000)))]) dL_law_1834 rfl (by decide) (by decide) rfl rfl ?_
  refine ex_goto (pc' := 23) dL_law_1837 (by decide) ?_
  refine ex_iload (pc' := 25) dL_law_23 rfl rfl ?_
  refine ex_aload_n (pc' := 26) dL_law_25 rfl rfl ?_
  refine ex_slen (pc' := 27) (n := 6) (xs := xs) (v := 6) dL_law_26 (zsiI s1000000) rfl (by decide) rfl ?_
  refine ex_bipush (v := 6) (pc' := 29) dL_law_27 (by decide) rfl ?_
  refine ex_isub (pc' := 30) (v := 0) dL_law_29 (by decide) rfl ?_
  refine ex_icmp_t (pc' := 1840) dL_law_30 (by decide) (by decide) ?_
  refine ex_iconst (v := 1) (pc' := 1841) dL_law_1840 (by decide) rfl ?_
  exact ex_iret dL_law_1841 rfl (by decide) ⟨rfl, zble rfl, zble rfl, zble rfl⟩
set_option maxRecDepth 10000 in
theorem kl_op_48_1 (d : Nat) (xs : Nat → Int32) (e1 : xs 1 = 1) : zEx (some (6, xs)) (d + 4) mL_law (1796, [(4, .inl 0), (3, .inr (.inr (some 213))), (2, .inr (.inr (some 196))), (1, .inr (.inr (some 0))), (0, .inr (.inr (some 1000000)))], [], hh_487) zQL := by
  have s1000000 : zsh hh_487 1000000 = none := by decide +kernel
  have s0 : zsh hh_487 0 = some (11, 16) := by decide +kernel
  have s2 : zsh hh_487 2 = some (4, 15) := by decide +kernel
  have s196 : zsh hh_487 196 = some (12, 39) := by decide +kernel
  have i2_1 : hh_487.2.1 2 1 = 0 := by decide +kernel
  have i196_14 : hh_487.2.1 196 14 = 0 := by decide +kernel
  have r0_3 : hh_487.2.2.2.1 0 3 = some 2 := by decide +kernel
  refine ex_aload_n (pc' := 1797) dL_law_1796 rfl rfl ?_
  refine ex_aload_n (pc' := 1798) dL_law_1797 rfl rfl ?_
  refine ex_iload (pc' := 1800) dL_law_1798 rfl rfl ?_
  refine ex_iconst (v := 1) (pc' := 1801) dL_law_1800 (by decide) rfl ?_
  refine ex_iadd (pc' := 1802) (v := 1) dL_law_1801 (by decide) rfl ?_
  refine ex_sald (pc' := 1803) (n := 6) (xs := xs) (v := 1) dL_law_1802 s1000000 rfl (by decide) e1 rfl ?_
  refine en_callvI (pc' := 1806) (vs := [.inl 1]) (rest := []) (h2 := hh_487) (v := 0) dL_law_1803 ml_13_226 ⟨zble rfl, zble rfl⟩ rfl rfl s0 (zblt rfl) (zble rfl) rfl (kX11_size_4 _ hh_487 s0 s2 i2_1 r0_3) ?_
  refine ex_aload_n (pc' := 1807) dL_law_1806 rfl rfl ?_
  refine ex_aload_n (pc' := 1808) dL_law_1807 rfl rfl ?_
  refine ex_iload (pc' := 1810) dL_law_1808 rfl rfl ?_
  refine ex_iconst (v := 1) (pc' := 1811) dL_law_1810 (by decide) rfl ?_
  refine ex_iadd (pc' := 1812) (v := 1) dL_law_1811 (by decide) rfl ?_
  refine ex_sald (pc' := 1813) (n := 6) (xs := xs) (v := 1) dL_law_1812 s1000000 rfl (by decide) e1 rfl ?_
  refine en_callvI (pc' := 1816) (vs := [.inl 1]) (rest := [.inl 0]) (h2 := zsI (hh_487) 196 0 0) (v := 0) dL_law_1813 ml_13_229 ⟨zble rfl, zble rfl⟩ rfl rfl s196 (zblt rfl) (zble rfl) rfl (kX12_size_4 _ hh_487 s196 i196_14) ?_
  refine ex_icmp_t (pc' := 1834) dL_law_1816 (by decide) (by decide) ?_
  refine ex_iinc (pc' := 1837) (v := 6) (ls' := [(4, .inl 6), (3, .inr (.inr (some 213))), (2, .inr (.inr (some 196))), (1, .inr (.inr (some 0))), (0, .inr (.inr (some 1000000)))]) dL_law_1834 rfl (by decide) (by decide) rfl rfl ?_
  refine ex_goto (pc' := 23) dL_law_1837 (by decide) ?_
  refine ex_iload (pc' := 25) dL_law_23 rfl rfl ?_
  refine ex_aload_n (pc' := 26) dL_law_25 rfl rfl ?_
  refine ex_slen (pc' := 27) (n := 6) (xs := xs) (v := 6) dL_law_26 (zsiI s1000000) rfl (by decide) rfl ?_
  refine ex_bipush (v := 6) (pc' := 29) dL_law_27 (by decide) rfl ?_
  refine ex_isub (pc' := 30) (v := 0) dL_law_29 (by decide) rfl ?_
  refine ex_icmp_t (pc' := 1840) dL_law_30 (by decide) (by decide) ?_
  refine ex_iconst (v := 1) (pc' := 1841) dL_law_1840 (by decide) rfl ?_
  exact ex_iret dL_law_1841 rfl (by decide) ⟨rfl, zble rfl, zble rfl, zble rfl⟩
set_option maxRecDepth 10000 in
theorem kl_op_48_2 (d : Nat) (xs : Nat → Int32) (e1 : xs 1 = 2) : zEx (some (6, xs)) (d + 4) mL_law (1796, [(4, .inl 0), (3, .inr (.inr (some 213))), (2, .inr (.inr (some 196))), (1, .inr (.inr (some 0))), (0, .inr (.inr (some 1000000)))], [], hh_487) zQL := by
  have s1000000 : zsh hh_487 1000000 = none := by decide +kernel
  have s0 : zsh hh_487 0 = some (11, 16) := by decide +kernel
  have s2 : zsh hh_487 2 = some (4, 15) := by decide +kernel
  have s196 : zsh hh_487 196 = some (12, 39) := by decide +kernel
  have i2_2 : hh_487.2.1 2 2 = 0 := by decide +kernel
  have i196_14 : hh_487.2.1 196 14 = 0 := by decide +kernel
  have r0_3 : hh_487.2.2.2.1 0 3 = some 2 := by decide +kernel
  refine ex_aload_n (pc' := 1797) dL_law_1796 rfl rfl ?_
  refine ex_aload_n (pc' := 1798) dL_law_1797 rfl rfl ?_
  refine ex_iload (pc' := 1800) dL_law_1798 rfl rfl ?_
  refine ex_iconst (v := 1) (pc' := 1801) dL_law_1800 (by decide) rfl ?_
  refine ex_iadd (pc' := 1802) (v := 1) dL_law_1801 (by decide) rfl ?_
  refine ex_sald (pc' := 1803) (n := 6) (xs := xs) (v := 2) dL_law_1802 s1000000 rfl (by decide) e1 rfl ?_
  refine en_callvI (pc' := 1806) (vs := [.inl 2]) (rest := []) (h2 := hh_487) (v := 0) dL_law_1803 ml_13_226 ⟨zble rfl, zble rfl⟩ rfl rfl s0 (zblt rfl) (zble rfl) rfl (kX11_size_5 _ hh_487 s0 s2 i2_2 r0_3) ?_
  refine ex_aload_n (pc' := 1807) dL_law_1806 rfl rfl ?_
  refine ex_aload_n (pc' := 1808) dL_law_1807 rfl rfl ?_
  refine ex_iload (pc' := 1810) dL_law_1808 rfl rfl ?_
  refine ex_iconst (v := 1) (pc' := 1811) dL_law_1810 (by decide) rfl ?_
  refine ex_iadd (pc' := 1812) (v := 1) dL_law_1811 (by decide) rfl ?_
  refine ex_sald (pc' := 1813) (n := 6) (xs := xs) (v := 2) dL_law_1812 s1000000 rfl (by decide) e1 rfl ?_
  refine en_callvI (pc' := 1816) (vs := [.inl 2]) (rest := [.inl 0]) (h2 := zsI (hh_487) 196 0 0) (v := 0) dL_law_1813 ml_13_229 ⟨zble rfl, zble rfl⟩ rfl rfl s196 (zblt rfl) (zble rfl) rfl (kX12_size_5 _ hh_487 s196 i196_14) ?_
  refine ex_icmp_t (pc' := 1834) dL_law_1816 (by decide) (by decide) ?_
  refine ex_iinc (pc' := 1837) (v := 6) (ls' := [(4, .inl 6), (3, .inr (.inr (some 213))), (2, .inr (.inr (some 196))), (1, .inr (.inr (some 0))), (0, .inr (.inr (some 1000000)))]) dL_law_1834 rfl (by decide) (by decide) rfl rfl ?_
  refine ex_goto (pc' := 23) dL_law_1837 (by decide) ?_
  refine ex_iload (pc' := 25) dL_law_23 rfl rfl ?_
  refine ex_aload_n (pc' := 26) dL_law_25 rfl rfl ?_
  refine ex_slen (pc' := 27) (n := 6) (xs := xs) (v := 6) dL_law_26 (zsiI s1000000) rfl (by decide) rfl ?_
  refine ex_bipush (v := 6) (pc' := 29) dL_law_27 (by decide) rfl ?_
  refine ex_isub (pc' := 30) (v := 0) dL_law_29 (by decide) rfl ?_
  refine ex_icmp_t (pc' := 1840) dL_law_30 (by decide) (by decide) ?_
  refine ex_iconst (v := 1) (pc' := 1841) dL_law_1840 (by decide) rfl ?_
  exact ex_iret dL_law_1841 rfl (by decide) ⟨rfl, zble rfl, zble rfl, zble rfl⟩
set_option maxRecDepth 10000 in
theorem kl_op_48_3 (d : Nat) (xs : Nat → Int32) (e1 : xs 1 = 3) : zEx (some (6, xs)) (d + 4) mL_law (1796, [(4, .inl 0), (3, .inr (.inr (some 213))), (2, .inr (.inr (some 196))), (1, .inr (.inr (some 0))), (0, .inr (.inr (some 1000000)))], [], hh_487) zQL := by
  have s1000000 : zsh hh_487 1000000 = none := by decide +kernel
  have s0 : zsh hh_487 0 = some (11, 16) := by decide +kernel
  have s2 : zsh hh_487 2 = some (4, 15) := by decide +kernel
  have s196 : zsh hh_487 196 = some (12, 39) := by decide +kernel
  have i2_3 : hh_487.2.1 2 3 = 0 := by decide +kernel
  have i196_14 : hh_487.2.1 196 14 = 0 := by decide +kernel
  have r0_3 : hh_487.2.2.2.1 0 3 = some 2 := by decide +kernel
  refine ex_aload_n (pc' := 1797) dL_law_1796 rfl rfl ?_
  refine ex_aload_n (pc' := 1798) dL_law_1797 rfl rfl ?_
  refine ex_iload (pc' := 1800) dL_law_1798 rfl rfl ?_
  refine ex_iconst (v := 1) (pc' := 1801) dL_law_1800 (by decide) rfl ?_
  refine ex_iadd (pc' := 1802) (v := 1) dL_law_1801 (by decide) rfl ?_
  refine ex_sald (pc' := 1803) (n := 6) (xs := xs) (v := 3) dL_law_1802 s1000000 rfl (by decide) e1 rfl ?_
  refine en_callvI (pc' := 1806) (vs := [.inl 3]) (rest := []) (h2 := hh_487) (v := 0) dL_law_1803 ml_13_226 ⟨zble rfl, zble rfl⟩ rfl rfl s0 (zblt rfl) (zble rfl) rfl (kX11_size_6 _ hh_487 s0 s2 i2_3 r0_3) ?_
  refine ex_aload_n (pc' := 1807) dL_law_1806 rfl rfl ?_
  refine ex_aload_n (pc' := 1808) dL_law_1807 rfl rfl ?_
  refine ex_iload (pc' := 1810) dL_law_1808 rfl rfl ?_
  refine ex_iconst (v := 1) (pc' := 1811) dL_law_1810 (by decide) rfl ?_
  refine ex_iadd (pc' := 1812) (v := 1) dL_law_1811 (by decide) rfl ?_
  refine ex_sald (pc' := 1813) (n := 6) (xs := xs) (v := 3) dL_law_1812 s1000000 rfl (by decide) e1 rfl ?_
  refine en_callvI (pc' := 1816) (vs := [.inl 3]) (rest := [.inl 0]) (h2 := zsI (hh_487) 196 0 0) (v := 0) dL_law_1813 ml_13_229 ⟨zble rfl, zble rfl⟩ rfl rfl s196 (zblt rfl) (zble rfl) rfl (kX12_size_6 _ hh_487 s196 i196_14) ?_
  refine ex_icmp_t (pc' := 1834) dL_law_1816 (by decide) (by decide) ?_
  refine ex_iinc (pc' := 1837) (v := 6) (ls' := [(4, .inl 6), (3, .inr (.inr (some 213))), (2, .inr (.inr (some 196))), (1, .inr (.inr (some 0))), (0, .inr (.inr (some 1000000)))]) dL_law_1834 rfl (by decide) (by decide) rfl rfl ?_
  refine ex_goto (pc' := 23) dL_law_1837 (by decide) ?_
  refine ex_iload (pc' := 25) dL_law_23 rfl rfl ?_
  refine ex_aload_n (pc' := 26) dL_law_25 rfl rfl ?_
  refine ex_slen (pc' := 27) (n := 6) (xs := xs) (v := 6) dL_law_26 (zsiI s1000000) rfl (by decide) rfl ?_
  refine ex_bipush (v := 6) (pc' := 29) dL_law_27 (by decide) rfl ?_
  refine ex_isub (pc' := 30) (v := 0) dL_law_29 (by decide) rfl ?_
  refine ex_icmp_t (pc' := 1840) dL_law_30 (by decide) (by decide) ?_
  refine ex_iconst (v := 1) (pc' := 1841) dL_law_1840 (by decide) rfl ?_
  exact ex_iret dL_law_1841 rfl (by decide) ⟨rfl, zble rfl, zble rfl, zble rfl⟩
set_option maxRecDepth 10000 in
theorem kl_op_48_4 (d : Nat) (xs : Nat → Int32) (e1 : xs 1 = 4) : zEx (some (6, xs)) (d + 4) mL_law (1796, [(4, .inl 0), (3, .inr (.inr (some 213))), (2, .inr (.inr (some 196))), (1, .inr (.inr (some 0))), (0, .inr (.inr (some 1000000)))], [], hh_487) zQL := by
  have s1000000 : zsh hh_487 1000000 = none := by decide +kernel
  have s0 : zsh hh_487 0 = some (11, 16) := by decide +kernel
  have s2 : zsh hh_487 2 = some (4, 15) := by decide +kernel
  have s196 : zsh hh_487 196 = some (12, 39) := by decide +kernel
  have i2_4 : hh_487.2.1 2 4 = 0 := by decide +kernel
  have i196_14 : hh_487.2.1 196 14 = 0 := by decide +kernel
  have r0_3 : hh_487.2.2.2.1 0 3 = some 2 := by decide +kernel
  refine ex_aload_n (pc' := 1797) dL_law_1796 rfl rfl ?_
  refine ex_aload_n (pc' := 1798) dL_law_1797 rfl rfl ?_
  refine ex_iload (pc' := 1800) dL_law_1798 rfl rfl ?_
  refine ex_iconst (v := 1) (pc' := 1801) dL_law_1800 (by decide) rfl ?_
  refine ex_iadd (pc' := 1802) (v := 1) dL_law_1801 (by decide) rfl ?_
  refine ex_sald (pc' := 1803) (n := 6) (xs := xs) (v := 4) dL_law_1802 s1000000 rfl (by decide) e1 rfl ?_
  refine en_callvI (pc' := 1806) (vs := [.inl 4]) (rest := []) (h2 := hh_487) (v := 0) dL_law_1803 ml_13_226 ⟨zble rfl, zble rfl⟩ rfl rfl s0 (zblt rfl) (zble rfl) rfl (kX11_size_7 _ hh_487 s0 s2 i2_4 r0_3) ?_
  refine ex_aload_n (pc' := 1807) dL_law_1806 rfl rfl ?_
  refine ex_aload_n (pc' := 1808) dL_law_1807 rfl rfl ?_
  refine ex_iload (pc' := 1810) dL_law_1808 rfl rfl ?_
  refine ex_iconst (v := 1) (pc' := 1811) dL_law_1810 (by decide) rfl ?_
  refine ex_iadd (pc' := 1812) (v := 1) dL_law_1811 (by decide) rfl ?_
  refine ex_sald (pc' := 1813) (n := 6) (xs := xs) (v := 4) dL_law_1812 s1000000 rfl (by decide) e1 rfl ?_
  refine en_callvI (pc' := 1816) (vs := [.inl 4]) (rest := [.inl 0]) (h2 := zsI (hh_487) 196 0 0) (v := 0) dL_law_1813 ml_13_229 ⟨zble rfl, zble rfl⟩ rfl rfl s196 (zblt rfl) (zble rfl) rfl (kX12_size_7 _ hh_487 s196 i196_14) ?_
  refine ex_icmp_t (pc' := 1834) dL_law_1816 (by decide) (by decide) ?_
  refine ex_iinc (pc' := 1837) (v := 6) (ls' := [(4, .inl 6), (3, .inr (.inr (some 213))), (2, .inr (.inr (some 196))), (1, .inr (.inr (some 0))), (0, .inr (.inr (some 1000000)))]) dL_law_1834 rfl (by decide) (by decide) rfl rfl ?_
  refine ex_goto (pc' := 23) dL_law_1837 (by decide) ?_
  refine ex_iload (pc' := 25) dL_law_23 rfl rfl ?_
  refine ex_aload_n (pc' := 26) dL_law_25 rfl rfl ?_
  refine ex_slen (pc' := 27) (n := 6) (xs := xs) (v := 6) dL_law_26 (zsiI s1000000) rfl (by decide) rfl ?_
  refine ex_bipush (v := 6) (pc' := 29) dL_law_27 (by decide) rfl ?_
  refine ex_isub (pc' := 30) (v := 0) dL_law_29 (by decide) rfl ?_
  refine ex_icmp_t (pc' := 1840) dL_law_30 (by decide) (by decide) ?_
  refine ex_iconst (v := 1) (pc' := 1841) dL_law_1840 (by decide) rfl ?_
  exact ex_iret dL_law_1841 rfl (by decide) ⟨rfl, zble rfl, zble rfl, zble rfl⟩
set_option maxRecDepth 10000 in
theorem kl_op_48_5 (d : Nat) (xs : Nat → Int32) (e1 : xs 1 = 5) : zEx (some (6, xs)) (d + 4) mL_law (1796, [(4, .inl 0), (3, .inr (.inr (some 213))), (2, .inr (.inr (some 196))), (1, .inr (.inr (some 0))), (0, .inr (.inr (some 1000000)))], [], hh_487) zQL := by
  have s1000000 : zsh hh_487 1000000 = none := by decide +kernel
  have s0 : zsh hh_487 0 = some (11, 16) := by decide +kernel
  have s2 : zsh hh_487 2 = some (4, 15) := by decide +kernel
  have s196 : zsh hh_487 196 = some (12, 39) := by decide +kernel
  have i2_5 : hh_487.2.1 2 5 = 0 := by decide +kernel
  have i196_14 : hh_487.2.1 196 14 = 0 := by decide +kernel
  have r0_3 : hh_487.2.2.2.1 0 3 = some 2 := by decide +kernel
  refine ex_aload_n (pc' := 1797) dL_law_1796 rfl rfl ?_
  refine ex_aload_n (pc' := 1798) dL_law_1797 rfl rfl ?_
  refine ex_iload (pc' := 1800) dL_law_1798 rfl rfl ?_
  refine ex_iconst (v := 1) (pc' := 1801) dL_law_1800 (by decide) rfl ?_
  refine ex_iadd (pc' := 1802) (v := 1) dL_law_1801 (by decide) rfl ?_
  refine ex_sald (pc' := 1803) (n := 6) (xs := xs) (v := 5) dL_law_1802 s1000000 rfl (by decide) e1 rfl ?_
  refine en_callvI (pc' := 1806) (vs := [.inl 5]) (rest := []) (h2 := hh_487) (v := 0) dL_law_1803 ml_13_226 ⟨zble rfl, zble rfl⟩ rfl rfl s0 (zblt rfl) (zble rfl) rfl (kX11_size_8 _ hh_487 s0 s2 i2_5 r0_3) ?_
  refine ex_aload_n (pc' := 1807) dL_law_1806 rfl rfl ?_
  refine ex_aload_n (pc' := 1808) dL_law_1807 rfl rfl ?_
  refine ex_iload (pc' := 1810) dL_law_1808 rfl rfl ?_
  refine ex_iconst (v := 1) (pc' := 1811) dL_law_1810 (by decide) rfl ?_
  refine ex_iadd (pc' := 1812) (v := 1) dL_law_1811 (by decide) rfl ?_
  refine ex_sald (pc' := 1813) (n := 6) (xs := xs) (v := 5) dL_law_1812 s1000000 rfl (by decide) e1 rfl ?_
  refine en_callvI (pc' := 1816) (vs := [.inl 5]) (rest := [.inl 0]) (h2 := zsI (hh_487) 196 0 0) (v := 0) dL_law_1813 ml_13_229 ⟨zble rfl, zble rfl⟩ rfl rfl s196 (zblt rfl) (zble rfl) rfl (kX12_size_8 _ hh_487 s196 i196_14) ?_
  refine ex_icmp_t (pc' := 1834) dL_law_1816 (by decide) (by decide) ?_
  refine ex_iinc (pc' := 1837) (v := 6) (ls' := [(4, .inl 6), (3, .inr (.inr (some 213))), (2, .inr (.inr (some 196))), (1, .inr (.inr (some 0))), (0, .inr (.inr (some 1000000)))]) dL_law_1834 rfl (by decide) (by decide) rfl rfl ?_
  refine ex_goto (pc' := 23) dL_law_1837 (by decide) ?_
  refine ex_iload (pc' := 25) dL_law_23 rfl rfl ?_
  refine ex_aload_n (pc' := 26) dL_law_25 rfl rfl ?_
  refine ex_slen (pc' := 27) (n := 6) (xs := xs) (v := 6) dL_law_26 (zsiI s1000000) rfl (by decide) rfl ?_
  refine ex_bipush (v := 6) (pc' := 29) dL_law_27 (by decide) rfl ?_
  refine ex_isub (pc' := 30) (v := 0) dL_law_29 (by decide) rfl ?_
  refine ex_icmp_t (pc' := 1840) dL_law_30 (by decide) (by decide) ?_
  refine ex_iconst (v := 1) (pc' := 1841) dL_law_1840 (by decide) rfl ?_
  exact ex_iret dL_law_1841 rfl (by decide) ⟨rfl, zble rfl, zble rfl, zble rfl⟩
set_option maxRecDepth 10000 in
theorem kl_op_48_6 (d : Nat) (xs : Nat → Int32) (e1 : xs 1 = 6) : zEx (some (6, xs)) (d + 4) mL_law (1796, [(4, .inl 0), (3, .inr (.inr (some 213))), (2, .inr (.inr (some 196))), (1, .inr (.inr (some 0))), (0, .inr (.inr (some 1000000)))], [], hh_487) zQL := by
  have s1000000 : zsh hh_487 1000000 = none := by decide +kernel
  have s0 : zsh hh_487 0 = some (11, 16) := by decide +kernel
  have s2 : zsh hh_487 2 = some (4, 15) := by decide +kernel
  have s196 : zsh hh_487 196 = some (12, 39) := by decide +kernel
  have i2_6 : hh_487.2.1 2 6 = 0 := by decide +kernel
  have i196_14 : hh_487.2.1 196 14 = 0 := by decide +kernel
  have r0_3 : hh_487.2.2.2.1 0 3 = some 2 := by decide +kernel
  refine ex_aload_n (pc' := 1797) dL_law_1796 rfl rfl ?_
  refine ex_aload_n (pc' := 1798) dL_law_1797 rfl rfl ?_
  refine ex_iload (pc' := 1800) dL_law_1798 rfl rfl ?_
  refine ex_iconst (v := 1) (pc' := 1801) dL_law_1800 (by decide) rfl ?_
  refine ex_iadd (pc' := 1802) (v := 1) dL_law_1801 (by decide) rfl ?_
  refine ex_sald (pc' := 1803) (n := 6) (xs := xs) (v := 6) dL_law_1802 s1000000 rfl (by decide) e1 rfl ?_
  refine en_callvI (pc' := 1806) (vs := [.inl 6]) (rest := []) (h2 := hh_487) (v := 0) dL_law_1803 ml_13_226 ⟨zble rfl, zble rfl⟩ rfl rfl s0 (zblt rfl) (zble rfl) rfl (kX11_size_9 _ hh_487 s0 s2 i2_6 r0_3) ?_
  refine ex_aload_n (pc' := 1807) dL_law_1806 rfl rfl ?_
  refine ex_aload_n (pc' := 1808) dL_law_1807 rfl rfl ?_
  refine ex_iload (pc' := 1810) dL_law_1808 rfl rfl ?_
  refine ex_iconst (v := 1) (pc' := 1811) dL_law_1810 (by decide) rfl ?_
  refine ex_iadd (pc' := 1812) (v := 1) dL_law_1811 (by decide) rfl ?_
  refine ex_sald (pc' := 1813) (n := 6) (xs := xs) (v := 6) dL_law_1812 s1000000 rfl (by decide) e1 rfl ?_
  refine en_callvI (pc' := 1816) (vs := [.inl 6]) (rest := [.inl 0]) (h2 := zsI (hh_487) 196 0 0) (v := 0) dL_law_1813 ml_13_229 ⟨zble rfl, zble rfl⟩ rfl rfl s196 (zblt rfl) (zble rfl) rfl (kX12_size_9 _ hh_487 s196 i196_14) ?_
  refine ex_icmp_t (pc' := 1834) dL_law_1816 (by decide) (by decide) ?_
  refine ex_iinc (pc' := 1837) (v := 6) (ls' := [(4, .inl 6), (3, .inr (.inr (some 213))), (2, .inr (.inr (some 196))), (1, .inr (.inr (some 0))), (0, .inr (.inr (some 1000000)))]) dL_law_1834 rfl (by decide) (by decide) rfl rfl ?_
  refine ex_goto (pc' := 23) dL_law_1837 (by decide) ?_
  refine ex_iload (pc' := 25) dL_law_23 rfl rfl ?_
  refine ex_aload_n (pc' := 26) dL_law_25 rfl rfl ?_
  refine ex_slen (pc' := 27) (n := 6) (xs := xs) (v := 6) dL_law_26 (zsiI s1000000) rfl (by decide) rfl ?_
  refine ex_bipush (v := 6) (pc' := 29) dL_law_27 (by decide) rfl ?_
  refine ex_isub (pc' := 30) (v := 0) dL_law_29 (by decide) rfl ?_
  refine ex_icmp_t (pc' := 1840) dL_law_30 (by decide) (by decide) ?_
  refine ex_iconst (v := 1) (pc' := 1841) dL_law_1840 (by decide) rfl ?_
  exact ex_iret dL_law_1841 rfl (by decide) ⟨rfl, zble rfl, zble rfl, zble rfl⟩
set_option maxRecDepth 10000 in
theorem kl_op_48_7 (d : Nat) (xs : Nat → Int32) (e1 : xs 1 = 7) : zEx (some (6, xs)) (d + 4) mL_law (1796, [(4, .inl 0), (3, .inr (.inr (some 213))), (2, .inr (.inr (some 196))), (1, .inr (.inr (some 0))), (0, .inr (.inr (some 1000000)))], [], hh_487) zQL := by
  have s1000000 : zsh hh_487 1000000 = none := by decide +kernel
  have s0 : zsh hh_487 0 = some (11, 16) := by decide +kernel
  have s2 : zsh hh_487 2 = some (4, 15) := by decide +kernel
  have s196 : zsh hh_487 196 = some (12, 39) := by decide +kernel
  have i2_7 : hh_487.2.1 2 7 = 0 := by decide +kernel
  have i196_14 : hh_487.2.1 196 14 = 0 := by decide +kernel
  have r0_3 : hh_487.2.2.2.1 0 3 = some 2 := by decide +kernel
  refine ex_aload_n (pc' := 1797) dL_law_1796 rfl rfl ?_
  refine ex_aload_n (pc' := 1798) dL_law_1797 rfl rfl ?_
  refine ex_iload (pc' := 1800) dL_law_1798 rfl rfl ?_
  refine ex_iconst (v := 1) (pc' := 1801) dL_law_1800 (by decide) rfl ?_
  refine ex_iadd (pc' := 1802) (v := 1) dL_law_1801 (by decide) rfl ?_
  refine ex_sald (pc' := 1803) (n := 6) (xs := xs) (v := 7) dL_law_1802 s1000000 rfl (by decide) e1 rfl ?_
  refine en_callvI (pc' := 1806) (vs := [.inl 7]) (rest := []) (h2 := hh_487) (v := 0) dL_law_1803 ml_13_226 ⟨zble rfl, zble rfl⟩ rfl rfl s0 (zblt rfl) (zble rfl) rfl (kX11_size_10 _ hh_487 s0 s2 i2_7 r0_3) ?_
  refine ex_aload_n (pc' := 1807) dL_law_1806 rfl rfl ?_
  refine ex_aload_n (pc' := 1808) dL_law_1807 rfl rfl ?_
  refine ex_iload (pc' := 1810) dL_law_1808 rfl rfl ?_
  refine ex_iconst (v := 1) (pc' := 1811) dL_law_1810 (by decide) rfl ?_
  refine ex_iadd (pc' := 1812) (v := 1) dL_law_1811 (by decide) rfl ?_
  refine ex_sald (pc' := 1813) (n := 6) (xs := xs) (v := 7) dL_law_1812 s1000000 rfl (by decide) e1 rfl ?_
  refine en_callvI (pc' := 1816) (vs := [.inl 7]) (rest := [.inl 0]) (h2 := zsI (hh_487) 196 0 0) (v := 0) dL_law_1813 ml_13_229 ⟨zble rfl, zble rfl⟩ rfl rfl s196 (zblt rfl) (zble rfl) rfl (kX12_size_10 _ hh_487 s196 i196_14) ?_
  refine ex_icmp_t (pc' := 1834) dL_law_1816 (by decide) (by decide) ?_
  refine ex_iinc (pc' := 1837) (v := 6) (ls' := [(4, .inl 6), (3, .inr (.inr (some 213))), (2, .inr (.inr (some 196))), (1, .inr (.inr (some 0))), (0, .inr (.inr (some 1000000)))]) dL_law_1834 rfl (by decide) (by decide) rfl rfl ?_
  refine ex_goto (pc' := 23) dL_law_1837 (by decide) ?_
  refine ex_iload (pc' := 25) dL_law_23 rfl rfl ?_
  refine ex_aload_n (pc' := 26) dL_law_25 rfl rfl ?_
  refine ex_slen (pc' := 27) (n := 6) (xs := xs) (v := 6) dL_law_26 (zsiI s1000000) rfl (by decide) rfl ?_
  refine ex_bipush (v := 6) (pc' := 29) dL_law_27 (by decide) rfl ?_
  refine ex_isub (pc' := 30) (v := 0) dL_law_29 (by decide) rfl ?_
  refine ex_icmp_t (pc' := 1840) dL_law_30 (by decide) (by decide) ?_
  refine ex_iconst (v := 1) (pc' := 1841) dL_law_1840 (by decide) rfl ?_
  exact ex_iret dL_law_1841 rfl (by decide) ⟨rfl, zble rfl, zble rfl, zble rfl⟩
set_option maxRecDepth 10000 in
theorem kl_op_48_8 (d : Nat) (xs : Nat → Int32) (e1 : xs 1 = 8) : zEx (some (6, xs)) (d + 4) mL_law (1796, [(4, .inl 0), (3, .inr (.inr (some 213))), (2, .inr (.inr (some 196))), (1, .inr (.inr (some 0))), (0, .inr (.inr (some 1000000)))], [], hh_487) zQL := by
  have s1000000 : zsh hh_487 1000000 = none := by decide +kernel
  have s0 : zsh hh_487 0 = some (11, 16) := by decide +kernel
  have s2 : zsh hh_487 2 = some (4, 15) := by decide +kernel
  have s196 : zsh hh_487 196 = some (12, 39) := by decide +kernel
  have i2_8 : hh_487.2.1 2 8 = 0 := by decide +kernel
  have i196_14 : hh_487.2.1 196 14 = 0 := by decide +kernel
  have r0_3 : hh_487.2.2.2.1 0 3 = some 2 := by decide +kernel
  refine ex_aload_n (pc' := 1797) dL_law_1796 rfl rfl ?_
  refine ex_aload_n (pc' := 1798) dL_law_1797 rfl rfl ?_
  refine ex_iload (pc' := 1800) dL_law_1798 rfl rfl ?_
  refine ex_iconst (v := 1) (pc' := 1801) dL_law_1800 (by decide) rfl ?_
  refine ex_iadd (pc' := 1802) (v := 1) dL_law_1801 (by decide) rfl ?_
  refine ex_sald (pc' := 1803) (n := 6) (xs := xs) (v := 8) dL_law_1802 s1000000 rfl (by decide) e1 rfl ?_
  refine en_callvI (pc' := 1806) (vs := [.inl 8]) (rest := []) (h2 := hh_487) (v := 0) dL_law_1803 ml_13_226 ⟨zble rfl, zble rfl⟩ rfl rfl s0 (zblt rfl) (zble rfl) rfl (kX11_size_11 _ hh_487 s0 s2 i2_8 r0_3) ?_
  refine ex_aload_n (pc' := 1807) dL_law_1806 rfl rfl ?_
  refine ex_aload_n (pc' := 1808) dL_law_1807 rfl rfl ?_
  refine ex_iload (pc' := 1810) dL_law_1808 rfl rfl ?_
  refine ex_iconst (v := 1) (pc' := 1811) dL_law_1810 (by decide) rfl ?_
  refine ex_iadd (pc' := 1812) (v := 1) dL_law_1811 (by decide) rfl ?_
  refine ex_sald (pc' := 1813) (n := 6) (xs := xs) (v := 8) dL_law_1812 s1000000 rfl (by decide) e1 rfl ?_
  refine en_callvI (pc' := 1816) (vs := [.inl 8]) (rest := [.inl 0]) (h2 := zsI (hh_487) 196 0 0) (v := 0) dL_law_1813 ml_13_229 ⟨zble rfl, zble rfl⟩ rfl rfl s196 (zblt rfl) (zble rfl) rfl (kX12_size_11 _ hh_487 s196 i196_14) ?_
  refine ex_icmp_t (pc' := 1834) dL_law_1816 (by decide) (by decide) ?_
  refine ex_iinc (pc' := 1837) (v := 6) (ls' := [(4, .inl 6), (3, .inr (.inr (some 213))), (2, .inr (.inr (some 196))), (1, .inr (.inr (some 0))), (0, .inr (.inr (some 1000000)))]) dL_law_1834 rfl (by decide) (by decide) rfl rfl ?_
  refine ex_goto (pc' := 23) dL_law_1837 (by decide) ?_
  refine ex_iload (pc' := 25) dL_law_23 rfl rfl ?_
  refine ex_aload_n (pc' := 26) dL_law_25 rfl rfl ?_
  refine ex_slen (pc' := 27) (n := 6) (xs := xs) (v := 6) dL_law_26 (zsiI s1000000) rfl (by decide) rfl ?_
  refine ex_bipush (v := 6) (pc' := 29) dL_law_27 (by decide) rfl ?_
  refine ex_isub (pc' := 30) (v := 0) dL_law_29 (by decide) rfl ?_
  refine ex_icmp_t (pc' := 1840) dL_law_30 (by decide) (by decide) ?_
  refine ex_iconst (v := 1) (pc' := 1841) dL_law_1840 (by decide) rfl ?_
  exact ex_iret dL_law_1841 rfl (by decide) ⟨rfl, zble rfl, zble rfl, zble rfl⟩
set_option maxRecDepth 10000 in
theorem kl_op_48_9 (d : Nat) (xs : Nat → Int32) (e1 : xs 1 = 9) : zEx (some (6, xs)) (d + 4) mL_law (1796, [(4, .inl 0), (3, .inr (.inr (some 213))), (2, .inr (.inr (some 196))), (1, .inr (.inr (some 0))), (0, .inr (.inr (some 1000000)))], [], hh_487) zQL := by
  have s1000000 : zsh hh_487 1000000 = none := by decide +kernel
  have s0 : zsh hh_487 0 = some (11, 16) := by decide +kernel
  have s86 : zsh hh_487 86 = some (2, 7) := by decide +kernel
  have s196 : zsh hh_487 196 = some (12, 39) := by decide +kernel
  have i86_0 : hh_487.2.1 86 0 = 0 := by decide +kernel
  have i196_14 : hh_487.2.1 196 14 = 0 := by decide +kernel
  have r0_6 : hh_487.2.2.2.1 0 6 = some 86 := by decide +kernel
  refine ex_aload_n (pc' := 1797) dL_law_1796 rfl rfl ?_
  refine ex_aload_n (pc' := 1798) dL_law_1797 rfl rfl ?_
  refine ex_iload (pc' := 1800) dL_law_1798 rfl rfl ?_
  refine ex_iconst (v := 1) (pc' := 1801) dL_law_1800 (by decide) rfl ?_
  refine ex_iadd (pc' := 1802) (v := 1) dL_law_1801 (by decide) rfl ?_
  refine ex_sald (pc' := 1803) (n := 6) (xs := xs) (v := 9) dL_law_1802 s1000000 rfl (by decide) e1 rfl ?_
  refine en_callvI (pc' := 1806) (vs := [.inl 9]) (rest := []) (h2 := hh_487) (v := 0) dL_law_1803 ml_13_226 ⟨zble rfl, zble rfl⟩ rfl rfl s0 (zblt rfl) (zble rfl) rfl (kX11_size_12 _ hh_487 s0 s86 i86_0 r0_6) ?_
  refine ex_aload_n (pc' := 1807) dL_law_1806 rfl rfl ?_
  refine ex_aload_n (pc' := 1808) dL_law_1807 rfl rfl ?_
  refine ex_iload (pc' := 1810) dL_law_1808 rfl rfl ?_
  refine ex_iconst (v := 1) (pc' := 1811) dL_law_1810 (by decide) rfl ?_
  refine ex_iadd (pc' := 1812) (v := 1) dL_law_1811 (by decide) rfl ?_
  refine ex_sald (pc' := 1813) (n := 6) (xs := xs) (v := 9) dL_law_1812 s1000000 rfl (by decide) e1 rfl ?_
  refine en_callvI (pc' := 1816) (vs := [.inl 9]) (rest := [.inl 0]) (h2 := zsI (hh_487) 196 0 0) (v := 0) dL_law_1813 ml_13_229 ⟨zble rfl, zble rfl⟩ rfl rfl s196 (zblt rfl) (zble rfl) rfl (kX12_size_12 _ hh_487 s196 i196_14) ?_
  refine ex_icmp_t (pc' := 1834) dL_law_1816 (by decide) (by decide) ?_
  refine ex_iinc (pc' := 1837) (v := 6) (ls' := [(4, .inl 6), (3, .inr (.inr (some 213))), (2, .inr (.inr (some 196))), (1, .inr (.inr (some 0))), (0, .inr (.inr (some 1000000)))]) dL_law_1834 rfl (by decide) (by decide) rfl rfl ?_
  refine ex_goto (pc' := 23) dL_law_1837 (by decide) ?_
  refine ex_iload (pc' := 25) dL_law_23 rfl rfl ?_
  refine ex_aload_n (pc' := 26) dL_law_25 rfl rfl ?_
  refine ex_slen (pc' := 27) (n := 6) (xs := xs) (v := 6) dL_law_26 (zsiI s1000000) rfl (by decide) rfl ?_
  refine ex_bipush (v := 6) (pc' := 29) dL_law_27 (by decide) rfl ?_
  refine ex_isub (pc' := 30) (v := 0) dL_law_29 (by decide) rfl ?_
  refine ex_icmp_t (pc' := 1840) dL_law_30 (by decide) (by decide) ?_
  refine ex_iconst (v := 1) (pc' := 1841) dL_law_1840 (by decide) rfl ?_
  exact ex_iret dL_law_1841 rfl (by decide) ⟨rfl, zble rfl, zble rfl, zble rfl⟩
set_option maxRecDepth 10000 in
theorem kl_op_48_10 (d : Nat) (xs : Nat → Int32) (e1 : xs 1 = 10) : zEx (some (6, xs)) (d + 4) mL_law (1796, [(4, .inl 0), (3, .inr (.inr (some 213))), (2, .inr (.inr (some 196))), (1, .inr (.inr (some 0))), (0, .inr (.inr (some 1000000)))], [], hh_487) zQL := by
  have s1000000 : zsh hh_487 1000000 = none := by decide +kernel
  have s0 : zsh hh_487 0 = some (11, 16) := by decide +kernel
  have s196 : zsh hh_487 196 = some (12, 39) := by decide +kernel
  have i0_13 : hh_487.2.1 0 13 = 0 := by decide +kernel
  have i196_14 : hh_487.2.1 196 14 = 0 := by decide +kernel
  refine ex_aload_n (pc' := 1797) dL_law_1796 rfl rfl ?_
  refine ex_aload_n (pc' := 1798) dL_law_1797 rfl rfl ?_
  refine ex_iload (pc' := 1800) dL_law_1798 rfl rfl ?_
  refine ex_iconst (v := 1) (pc' := 1801) dL_law_1800 (by decide) rfl ?_
  refine ex_iadd (pc' := 1802) (v := 1) dL_law_1801 (by decide) rfl ?_
  refine ex_sald (pc' := 1803) (n := 6) (xs := xs) (v := 10) dL_law_1802 s1000000 rfl (by decide) e1 rfl ?_
  refine en_callvI (pc' := 1806) (vs := [.inl 10]) (rest := []) (h2 := hh_487) (v := 0) dL_law_1803 ml_13_226 ⟨zble rfl, zble rfl⟩ rfl rfl s0 (zblt rfl) (zble rfl) rfl (kX11_size_13 _ hh_487 s0 i0_13) ?_
  refine ex_aload_n (pc' := 1807) dL_law_1806 rfl rfl ?_
  refine ex_aload_n (pc' := 1808) dL_law_1807 rfl rfl ?_
  refine ex_iload (pc' := 1810) dL_law_1808 rfl rfl ?_
  refine ex_iconst (v := 1) (pc' := 1811) dL_law_1810 (by decide) rfl ?_
  refine ex_iadd (pc' := 1812) (v := 1) dL_law_1811 (by decide) rfl ?_
  refine ex_sald (pc' := 1813) (n := 6) (xs := xs) (v := 10) dL_law_1812 s1000000 rfl (by decide) e1 rfl ?_
  refine en_callvI (pc' := 1816) (vs := [.inl 10]) (rest := [.inl 0]) (h2 := zsI (hh_487) 196 0 0) (v := 0) dL_law_1813 ml_13_229 ⟨zble rfl, zble rfl⟩ rfl rfl s196 (zblt rfl) (zble rfl) rfl (kX12_size_13 _ hh_487 s196 i196_14) ?_
  refine ex_icmp_t (pc' := 1834) dL_law_1816 (by decide) (by decide) ?_
  refine ex_iinc (pc' := 1837) (v := 6) (ls' := [(4, .inl 6), (3, .inr (.inr (some 213))), (2, .inr (.inr (some 196))), (1, .inr (.inr (some 0))), (0, .inr (.inr (some 1000000)))]) dL_law_1834 rfl (by decide) (by decide) rfl rfl ?_
  refine ex_goto (pc' := 23) dL_law_1837 (by decide) ?_
  refine ex_iload (pc' := 25) dL_law_23 rfl rfl ?_
  refine ex_aload_n (pc' := 26) dL_law_25 rfl rfl ?_
  refine ex_slen (pc' := 27) (n := 6) (xs := xs) (v := 6) dL_law_26 (zsiI s1000000) rfl (by decide) rfl ?_
  refine ex_bipush (v := 6) (pc' := 29) dL_law_27 (by decide) rfl ?_
  refine ex_isub (pc' := 30) (v := 0) dL_law_29 (by decide) rfl ?_
  refine ex_icmp_t (pc' := 1840) dL_law_30 (by decide) (by decide) ?_
  refine ex_iconst (v := 1) (pc' := 1841) dL_law_1840 (by decide) rfl ?_
  exact ex_iret dL_law_1841 rfl (by decide) ⟨rfl, zble rfl, zble rfl, zble rfl⟩
set_option maxRecDepth 10000 in
theorem kl_op_48_11 (d : Nat) (xs : Nat → Int32) (e1 : xs 1 = 11) : zEx (some (6, xs)) (d + 4) mL_law (1796, [(4, .inl 0), (3, .inr (.inr (some 213))), (2, .inr (.inr (some 196))), (1, .inr (.inr (some 0))), (0, .inr (.inr (some 1000000)))], [], hh_487) zQL := by
  have s1000000 : zsh hh_487 1000000 = none := by decide +kernel
  have s0 : zsh hh_487 0 = some (11, 16) := by decide +kernel
  have s196 : zsh hh_487 196 = some (12, 39) := by decide +kernel
  have i0_15 : hh_487.2.1 0 15 = 0 := by decide +kernel
  have i196_14 : hh_487.2.1 196 14 = 0 := by decide +kernel
  refine ex_aload_n (pc' := 1797) dL_law_1796 rfl rfl ?_
  refine ex_aload_n (pc' := 1798) dL_law_1797 rfl rfl ?_
  refine ex_iload (pc' := 1800) dL_law_1798 rfl rfl ?_
  refine ex_iconst (v := 1) (pc' := 1801) dL_law_1800 (by decide) rfl ?_
  refine ex_iadd (pc' := 1802) (v := 1) dL_law_1801 (by decide) rfl ?_
  refine ex_sald (pc' := 1803) (n := 6) (xs := xs) (v := 11) dL_law_1802 s1000000 rfl (by decide) e1 rfl ?_
  refine en_callvI (pc' := 1806) (vs := [.inl 11]) (rest := []) (h2 := hh_487) (v := 0) dL_law_1803 ml_13_226 ⟨zble rfl, zble rfl⟩ rfl rfl s0 (zblt rfl) (zble rfl) rfl (kX11_size_14 _ hh_487 s0 i0_15) ?_
  refine ex_aload_n (pc' := 1807) dL_law_1806 rfl rfl ?_
  refine ex_aload_n (pc' := 1808) dL_law_1807 rfl rfl ?_
  refine ex_iload (pc' := 1810) dL_law_1808 rfl rfl ?_
  refine ex_iconst (v := 1) (pc' := 1811) dL_law_1810 (by decide) rfl ?_
  refine ex_iadd (pc' := 1812) (v := 1) dL_law_1811 (by decide) rfl ?_
  refine ex_sald (pc' := 1813) (n := 6) (xs := xs) (v := 11) dL_law_1812 s1000000 rfl (by decide) e1 rfl ?_
  refine en_callvI (pc' := 1816) (vs := [.inl 11]) (rest := [.inl 0]) (h2 := zsI (hh_487) 196 0 0) (v := 0) dL_law_1813 ml_13_229 ⟨zble rfl, zble rfl⟩ rfl rfl s196 (zblt rfl) (zble rfl) rfl (kX12_size_14 _ hh_487 s196 i196_14) ?_
  refine ex_icmp_t (pc' := 1834) dL_law_1816 (by decide) (by decide) ?_
  refine ex_iinc (pc' := 1837) (v := 6) (ls' := [(4, .inl 6), (3, .inr (.inr (some 213))), (2, .inr (.inr (some 196))), (1, .inr (.inr (some 0))), (0, .inr (.inr (some 1000000)))]) dL_law_1834 rfl (by decide) (by decide) rfl rfl ?_
  refine ex_goto (pc' := 23) dL_law_1837 (by decide) ?_
  refine ex_iload (pc' := 25) dL_law_23 rfl rfl ?_
  refine ex_aload_n (pc' := 26) dL_law_25 rfl rfl ?_
  refine ex_slen (pc' := 27) (n := 6) (xs := xs) (v := 6) dL_law_26 (zsiI s1000000) rfl (by decide) rfl ?_
  refine ex_bipush (v := 6) (pc' := 29) dL_law_27 (by decide) rfl ?_
  refine ex_isub (pc' := 30) (v := 0) dL_law_29 (by decide) rfl ?_
  refine ex_icmp_t (pc' := 1840) dL_law_30 (by decide) (by decide) ?_
  refine ex_iconst (v := 1) (pc' := 1841) dL_law_1840 (by decide) rfl ?_
  exact ex_iret dL_law_1841 rfl (by decide) ⟨rfl, zble rfl, zble rfl, zble rfl⟩
set_option maxRecDepth 10000 in
theorem kl_op_48_12 (d : Nat) (xs : Nat → Int32) (e1 : xs 1 = 12) : zEx (some (6, xs)) (d + 4) mL_law (1796, [(4, .inl 0), (3, .inr (.inr (some 213))), (2, .inr (.inr (some 196))), (1, .inr (.inr (some 0))), (0, .inr (.inr (some 1000000)))], [], hh_487) zQL := by
  have s1000000 : zsh hh_487 1000000 = none := by decide +kernel
  have s0 : zsh hh_487 0 = some (11, 16) := by decide +kernel
  have s196 : zsh hh_487 196 = some (12, 39) := by decide +kernel
  have i0_1 : hh_487.2.1 0 1 = 0 := by decide +kernel
  have i196_2 : hh_487.2.1 196 2 = 0 := by decide +kernel
  refine ex_aload_n (pc' := 1797) dL_law_1796 rfl rfl ?_
  refine ex_aload_n (pc' := 1798) dL_law_1797 rfl rfl ?_
  refine ex_iload (pc' := 1800) dL_law_1798 rfl rfl ?_
  refine ex_iconst (v := 1) (pc' := 1801) dL_law_1800 (by decide) rfl ?_
  refine ex_iadd (pc' := 1802) (v := 1) dL_law_1801 (by decide) rfl ?_
  refine ex_sald (pc' := 1803) (n := 6) (xs := xs) (v := 12) dL_law_1802 s1000000 rfl (by decide) e1 rfl ?_
  refine en_callvI (pc' := 1806) (vs := [.inl 12]) (rest := []) (h2 := hh_487) (v := 0) dL_law_1803 ml_13_226 ⟨zble rfl, zble rfl⟩ rfl rfl s0 (zblt rfl) (zble rfl) rfl (kX11_size_15 _ hh_487 s0 i0_1) ?_
  refine ex_aload_n (pc' := 1807) dL_law_1806 rfl rfl ?_
  refine ex_aload_n (pc' := 1808) dL_law_1807 rfl rfl ?_
  refine ex_iload (pc' := 1810) dL_law_1808 rfl rfl ?_
  refine ex_iconst (v := 1) (pc' := 1811) dL_law_1810 (by decide) rfl ?_
  refine ex_iadd (pc' := 1812) (v := 1) dL_law_1811 (by decide) rfl ?_
  refine ex_sald (pc' := 1813) (n := 6) (xs := xs) (v := 12) dL_law_1812 s1000000 rfl (by decide) e1 rfl ?_
  refine en_callvI (pc' := 1816) (vs := [.inl 12]) (rest := [.inl 0]) (h2 := zsI (hh_487) 196 0 0) (v := 0) dL_law_1813 ml_13_229 ⟨zble rfl, zble rfl⟩ rfl rfl s196 (zblt rfl) (zble rfl) rfl (kX12_size_15 _ hh_487 s196 i196_2) ?_
  refine ex_icmp_t (pc' := 1834) dL_law_1816 (by decide) (by decide) ?_
  refine ex_iinc (pc' := 1837) (v := 6) (ls' := [(4, .inl 6), (3, .inr (.inr (some 213))), (2, .inr (.inr (some 196))), (1, .inr (.inr (some 0))), (0, .inr (.inr (some 1000000)))]) dL_law_1834 rfl (by decide) (by decide) rfl rfl ?_
  refine ex_goto (pc' := 23) dL_law_1837 (by decide) ?_
  refine ex_iload (pc' := 25) dL_law_23 rfl rfl ?_
  refine ex_aload_n (pc' := 26) dL_law_25 rfl rfl ?_
  refine ex_slen (pc' := 27) (n := 6) (xs := xs) (v := 6) dL_law_26 (zsiI s1000000) rfl (by decide) rfl ?_
  refine ex_bipush (v := 6) (pc' := 29) dL_law_27 (by decide) rfl ?_
  refine ex_isub (pc' := 30) (v := 0) dL_law_29 (by decide) rfl ?_
  refine ex_icmp_t (pc' := 1840) dL_law_30 (by decide) (by decide) ?_
  refine ex_iconst (v := 1) (pc' := 1841) dL_law_1840 (by decide) rfl ?_
  exact ex_iret dL_law_1841 rfl (by decide) ⟨rfl, zble rfl, zble rfl, zble rfl⟩
set_option maxRecDepth 10000 in
theorem kl_op_49 (d : Nat) (xs : Nat → Int32) : zEx (some (6, xs)) (d + 4) mL_law (1821, [(4, .inl 0), (3, .inr (.inr (some 213))), (2, .inr (.inr (some 196))), (1, .inr (.inr (some 0))), (0, .inr (.inr (some 1000000)))], [], hh_487) zQL := by
  have s0 : zsh hh_487 0 = some (11, 16) := by decide +kernel
  have s196 : zsh hh_487 196 = some (12, 39) := by decide +kernel
  have s1000000 : zsh hh_487 1000000 = none := by decide +kernel
  have i0_2 : hh_487.2.1 0 2 = 0 := by decide +kernel
  have i196_11 : hh_487.2.1 196 11 = 0 := by decide +kernel
  refine ex_aload_n (pc' := 1822) dL_law_1821 rfl rfl ?_
  refine en_callvI (pc' := 1825) (vs := []) (rest := []) (h2 := hh_487) (v := 0) dL_law_1822 ml_13_230 ⟨zble rfl, zble rfl⟩ rfl rfl s0 (zblt rfl) (zble rfl) rfl (kX11_trouble_1 _ hh_487 s0 i0_2) ?_
  refine ex_aload_n (pc' := 1826) dL_law_1825 rfl rfl ?_
  refine en_callvI (pc' := 1829) (vs := []) (rest := [.inl 0]) (h2 := zsI (hh_487) 196 0 0) (v := 0) dL_law_1826 ml_13_233 ⟨zble rfl, zble rfl⟩ rfl rfl s196 (zblt rfl) (zble rfl) rfl (kX12_trouble_1 _ hh_487 s196 i196_11) ?_
  refine ex_icmp_t (pc' := 1834) dL_law_1829 (by decide) (by decide) ?_
  refine ex_iinc (pc' := 1837) (v := 6) (ls' := [(4, .inl 6), (3, .inr (.inr (some 213))), (2, .inr (.inr (some 196))), (1, .inr (.inr (some 0))), (0, .inr (.inr (some 1000000)))]) dL_law_1834 rfl (by decide) (by decide) rfl rfl ?_
  refine ex_goto (pc' := 23) dL_law_1837 (by decide) ?_
  refine ex_iload (pc' := 25) dL_law_23 rfl rfl ?_
  refine ex_aload_n (pc' := 26) dL_law_25 rfl rfl ?_
  refine ex_slen (pc' := 27) (n := 6) (xs := xs) (v := 6) dL_law_26 (zsiI s1000000) rfl (by decide) rfl ?_
  refine ex_bipush (v := 6) (pc' := 29) dL_law_27 (by decide) rfl ?_
  refine ex_isub (pc' := 30) (v := 0) dL_law_29 (by decide) rfl ?_
  refine ex_icmp_t (pc' := 1840) dL_law_30 (by decide) (by decide) ?_
  refine ex_iconst (v := 1) (pc' := 1841) dL_law_1840 (by decide) rfl ?_
  exact ex_iret dL_law_1841 rfl (by decide) ⟨rfl, zble rfl, zble rfl, zble rfl⟩
set_option maxRecDepth 10000 in
theorem kl_op_x (d : Nat) (xs : Nat → Int32) : zEx (some (6, xs)) (d + 4) mL_law (1834, [(4, .inl 0), (3, .inr (.inr (some 213))), (2, .inr (.inr (some 196))), (1, .inr (.inr (some 0))), (0, .inr (.inr (some 1000000)))], [], hh_487) zQL := by
  have s1000000 : zsh hh_487 1000000 = none := by decide +kernel
  refine ex_iinc (pc' := 1837) (v := 6) (ls' := [(4, .inl 6), (3, .inr (.inr (some 213))), (2, .inr (.inr (some 196))), (1, .inr (.inr (some 0))), (0, .inr (.inr (some 1000000)))]) dL_law_1834 rfl (by decide) (by decide) rfl rfl ?_
  refine ex_goto (pc' := 23) dL_law_1837 (by decide) ?_
  refine ex_iload (pc' := 25) dL_law_23 rfl rfl ?_
  refine ex_aload_n (pc' := 26) dL_law_25 rfl rfl ?_
  refine ex_slen (pc' := 27) (n := 6) (xs := xs) (v := 6) dL_law_26 s1000000 rfl (by decide) rfl ?_
  refine ex_bipush (v := 6) (pc' := 29) dL_law_27 (by decide) rfl ?_
  refine ex_isub (pc' := 30) (v := 0) dL_law_29 (by decide) rfl ?_
  refine ex_icmp_t (pc' := 1840) dL_law_30 (by decide) (by decide) ?_
  refine ex_iconst (v := 1) (pc' := 1841) dL_law_1840 (by decide) rfl ?_
  exact ex_iret dL_law_1841 rfl (by decide) ⟨rfl, zble rfl, zble rfl, zble rfl⟩
