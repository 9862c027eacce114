set_option maxRecDepth 20000 in
theorem k_law0 {L : Nat} {xs : Nat → Int32} {Q : Option zV → zH → Prop} (d : Nat) (kk : zEx (some (L, xs)) (d + 4) mL_law (20, [(3, .inr (.inr (some 213))), (2, .inr (.inr (some 196))), (1, .inr (.inr (some 0))), (0, .inr (.inr (some 1000000)))], [], hh_487) Q) : zEx (some (L, xs)) (d + 4) mL_law (0, [(0, .inr (.inr (some 1000000)))], [], hh_0) Q := by
  refine en_new (pc' := 3) (a := 0) (nf := 16) (h2 := hh_1) dL_law_0 kl_13_8 (by decide +kernel) rfl rfl ?_
  refine ex_dup (pc' := 4) dL_law_3 rfl rfl ?_
  refine en_calliV (pc' := 7) (a := 0) (n := 16) (h2 := hh_452) (vs := []) (rest := [.inr (.inr (some 0))]) dL_law_4 ml_13_15 (by decide) ⟨by decide, by decide⟩ rfl rfl (by decide +kernel) (by decide) (by decide) rfl (kc_1 _) ?_
  refine ex_astore_n (pc' := 8) (ls' := [(1, .inr (.inr (some 0))), (0, .inr (.inr (some 1000000)))]) dL_law_7 (by decide) rfl rfl ?_
  refine en_new (pc' := 11) (a := 196) (nf := 39) (h2 := hh_453) dL_law_8 kl_13_16 (by decide +kernel) rfl rfl ?_
  refine ex_dup (pc' := 12) dL_law_11 rfl rfl ?_
  refine en_calliV (pc' := 15) (a := 196) (n := 39) (h2 := hh_486) (vs := []) (rest := [.inr (.inr (some 196))]) dL_law_12 ml_13_18 (by decide) ⟨by decide, by decide⟩ rfl rfl (by decide +kernel) (by decide) (by decide) rfl (kc_91 _) ?_
  refine ex_astore_n (pc' := 16) (ls' := [(2, .inr (.inr (some 196))), (1, .inr (.inr (some 0))), (0, .inr (.inr (some 1000000)))]) dL_law_15 (by decide) rfl rfl ?_
  refine ex_iconst (v := 1) (pc' := 17) dL_law_16 (by decide) rfl ?_
  refine en_narrL (pc' := 19) (a := 213) (nn := 1) (h2 := hh_487) dL_law_17 (by decide +kernel) rfl rfl ?_
  refine ex_astore_n (pc' := 20) (ls' := [(3, .inr (.inr (some 213))), (2, .inr (.inr (some 196))), (1, .inr (.inr (some 0))), (0, .inr (.inr (some 1000000)))]) dL_law_19 (by decide) rfl rfl ?_
  exact kk
