/-! post(0), by program -/
set_option maxRecDepth 20000 in
theorem kc_94 (d : Nat) : zCv (d + 0) mX4_clear [.inr (.inr (some 42))] hh_489 (fun h' => h' = hh_498) := by
  show zEx none (d + 0) mX4_clear (0, [(0, .inr (.inr (some 42)))], [], hh_489) _
  refine ex_aload_n (pc' := 1) dX4_clear_0 rfl rfl ?_
  refine ex_iconst (v := 0) (pc' := 2) dX4_clear_1 (by decide) rfl ?_
  refine en_putI (pc' := 5) (n := 15) (h2 := hh_490) dX4_clear_2 fl_4_46 (by decide +kernel) (by decide) (by decide) rfl rfl ?_
  refine ex_aload_n (pc' := 6) dX4_clear_5 rfl rfl ?_
  refine ex_iconst (v := 0) (pc' := 7) dX4_clear_6 (by decide) rfl ?_
  refine en_putI (pc' := 10) (n := 15) (h2 := hh_491) dX4_clear_7 fl_4_50 (by decide +kernel) (by decide) (by decide) rfl rfl ?_
  refine ex_aload_n (pc' := 11) dX4_clear_10 rfl rfl ?_
  refine ex_iconst (v := 0) (pc' := 12) dX4_clear_11 (by decide) rfl ?_
  refine en_putI (pc' := 15) (n := 15) (h2 := hh_492) dX4_clear_12 fl_4_53 (by decide +kernel) (by decide) (by decide) rfl rfl ?_
  refine ex_aload_n (pc' := 16) dX4_clear_15 rfl rfl ?_
  refine ex_iconst (v := 0) (pc' := 17) dX4_clear_16 (by decide) rfl ?_
  refine en_putI (pc' := 20) (n := 15) (h2 := hh_493) dX4_clear_17 fl_4_56 (by decide +kernel) (by decide) (by decide) rfl rfl ?_
  refine ex_aload_n (pc' := 21) dX4_clear_20 rfl rfl ?_
  refine ex_iconst (v := 0) (pc' := 22) dX4_clear_21 (by decide) rfl ?_
  refine en_putI (pc' := 25) (n := 15) (h2 := hh_494) dX4_clear_22 fl_4_59 (by decide +kernel) (by decide) (by decide) rfl rfl ?_
  refine ex_aload_n (pc' := 26) dX4_clear_25 rfl rfl ?_
  refine ex_iconst (v := 0) (pc' := 27) dX4_clear_26 (by decide) rfl ?_
  refine en_putI (pc' := 30) (n := 15) (h2 := hh_495) dX4_clear_27 fl_4_62 (by decide +kernel) (by decide) (by decide) rfl rfl ?_
  refine ex_aload_n (pc' := 31) dX4_clear_30 rfl rfl ?_
  refine ex_iconst (v := 0) (pc' := 32) dX4_clear_31 (by decide) rfl ?_
  refine en_putI (pc' := 35) (n := 15) (h2 := hh_496) dX4_clear_32 fl_4_65 (by decide +kernel) (by decide) (by decide) rfl rfl ?_
  refine ex_aload_n (pc' := 36) dX4_clear_35 rfl rfl ?_
  refine ex_iconst (v := 0) (pc' := 37) dX4_clear_36 (by decide) rfl ?_
  refine en_putI (pc' := 40) (n := 15) (h2 := hh_497) dX4_clear_37 fl_4_68 (by decide +kernel) (by decide) (by decide) rfl rfl ?_
  refine ex_aload_n (pc' := 41) dX4_clear_40 rfl rfl ?_
  refine ex_iconst (v := 0) (pc' := 42) dX4_clear_41 (by decide) rfl ?_
  refine en_putI (pc' := 45) (n := 15) (h2 := hh_498) dX4_clear_42 fl_4_71 (by decide +kernel) (by decide) (by decide) rfl rfl ?_
  exact ex_vretV dX4_clear_45 rfl rfl
set_option maxRecDepth 20000 in
theorem kc_96 (d : Nat) : zCv (d + 0) mX5_nextToken [.inr (.inr (some 82))] hh_503 (fun h' => h' = hh_505) := by
  show zEx none (d + 0) mX5_nextToken (0, [(0, .inr (.inr (some 82)))], [], hh_503) _
  refine ex_aload_n (pc' := 1) dX5_nextToken_0 rfl rfl ?_
  refine ex_getI (pc' := 4) (n := 13) (v := 0) dX5_nextToken_1 fl_5_15 (by decide +kernel) (by decide) (by decide +kernel) rfl ?_
  refine ex_aload_n (pc' := 5) dX5_nextToken_4 rfl rfl ?_
  refine ex_getI (pc' := 8) (n := 13) (v := 0) dX5_nextToken_5 fl_5_9 (by decide +kernel) (by decide) (by decide +kernel) rfl ?_
  refine ex_icmp_t (pc' := 38) dX5_nextToken_8 (by decide) (by decide) ?_
  refine ex_aload_n (pc' := 39) dX5_nextToken_38 rfl rfl ?_
  refine ex_aload_n (pc' := 40) dX5_nextToken_39 rfl rfl ?_
  refine ex_getI (pc' := 43) (n := 13) (v := 0) dX5_nextToken_40 fl_5_15 (by decide +kernel) (by decide) (by decide +kernel) rfl ?_
  refine en_putI (pc' := 46) (n := 13) (h2 := hh_504) dX5_nextToken_43 fl_5_21 (by decide +kernel) (by decide) (by decide) rfl rfl ?_
  refine ex_aload_n (pc' := 47) dX5_nextToken_46 rfl rfl ?_
  refine ex_getI (pc' := 50) (n := 13) (v := 0) dX5_nextToken_47 fl_5_15 (by decide +kernel) (by decide) (by decide +kernel) rfl ?_
  refine ex_aload_n (pc' := 51) dX5_nextToken_50 rfl rfl ?_
  refine ex_getI (pc' := 54) (n := 13) (v := 0) dX5_nextToken_51 fl_5_9 (by decide +kernel) (by decide) (by decide +kernel) rfl ?_
  refine ex_icmp_f (pc' := 57) dX5_nextToken_54 (by decide) (by decide) rfl ?_
  refine ex_aload_n (pc' := 58) dX5_nextToken_57 rfl rfl ?_
  refine ex_iconst (v := 0) (pc' := 59) dX5_nextToken_58 (by decide) rfl ?_
  refine en_putI (pc' := 62) (n := 13) (h2 := hh_505) dX5_nextToken_59 fl_5_18 (by decide +kernel) (by decide) (by decide) rfl rfl ?_
  refine ex_goto (pc' := 175) dX5_nextToken_62 (by decide) ?_
  exact ex_vretV dX5_nextToken_175 rfl rfl
set_option maxRecDepth 20000 in
theorem kc_98 (d : Nat) : zCi (d + 0) mX5_isToken [.inr (.inr (some 82)), .inr (.inr (some 1000010))] hh_505 (fun x h' => x = 0 ∧ h' = hh_505) := by
  show zEx none (d + 0) mX5_isToken (0, [(0, .inr (.inr (some 82))), (1, .inr (.inr (some 1000010)))], [], hh_505) _
  refine ex_aload_n (pc' := 1) dX5_isToken_0 rfl rfl ?_
  refine ex_getI (pc' := 4) (n := 13) (v := 0) dX5_isToken_1 fl_5_18 (by decide +kernel) (by decide) (by decide +kernel) rfl ?_
  refine ex_iconst (v := 1) (pc' := 5) dX5_isToken_4 (by decide) rfl ?_
  refine ex_icmp_t (pc' := 24) dX5_isToken_5 (by decide) (by decide) ?_
  refine ex_iconst (v := 0) (pc' := 25) dX5_isToken_24 (by decide) rfl ?_
  exact ex_iretI dX5_isToken_25 rfl (by decide) ⟨rfl, rfl⟩
set_option maxRecDepth 20000 in
theorem kc_99 (d : Nat) : zCi (d + 0) mX5_isToken [.inr (.inr (some 82)), .inr (.inr (some 1000011))] hh_505 (fun x h' => x = 0 ∧ h' = hh_505) := by
  show zEx none (d + 0) mX5_isToken (0, [(0, .inr (.inr (some 82))), (1, .inr (.inr (some 1000011)))], [], hh_505) _
  refine ex_aload_n (pc' := 1) dX5_isToken_0 rfl rfl ?_
  refine ex_getI (pc' := 4) (n := 13) (v := 0) dX5_isToken_1 fl_5_18 (by decide +kernel) (by decide) (by decide +kernel) rfl ?_
  refine ex_iconst (v := 1) (pc' := 5) dX5_isToken_4 (by decide) rfl ?_
  refine ex_icmp_t (pc' := 24) dX5_isToken_5 (by decide) (by decide) ?_
  refine ex_iconst (v := 0) (pc' := 25) dX5_isToken_24 (by decide) rfl ?_
  exact ex_iretI dX5_isToken_25 rfl (by decide) ⟨rfl, rfl⟩
set_option maxRecDepth 20000 in
theorem kc_100 (d : Nat) : zCi (d + 0) mX5_isToken [.inr (.inr (some 82)), .inr (.inr (some 1000012))] hh_505 (fun x h' => x = 0 ∧ h' = hh_505) := by
  show zEx none (d + 0) mX5_isToken (0, [(0, .inr (.inr (some 82))), (1, .inr (.inr (some 1000012)))], [], hh_505) _
  refine ex_aload_n (pc' := 1) dX5_isToken_0 rfl rfl ?_
  refine ex_getI (pc' := 4) (n := 13) (v := 0) dX5_isToken_1 fl_5_18 (by decide +kernel) (by decide) (by decide +kernel) rfl ?_
  refine ex_iconst (v := 1) (pc' := 5) dX5_isToken_4 (by decide) rfl ?_
  refine ex_icmp_t (pc' := 24) dX5_isToken_5 (by decide) (by decide) ?_
  refine ex_iconst (v := 0) (pc' := 25) dX5_isToken_24 (by decide) rfl ?_
  exact ex_iretI dX5_isToken_25 rfl (by decide) ⟨rfl, rfl⟩
set_option maxRecDepth 20000 in
theorem kc_101 (d : Nat) : zCi (d + 0) mX5_isToken [.inr (.inr (some 82)), .inr (.inr (some 1000013))] hh_505 (fun x h' => x = 0 ∧ h' = hh_505) := by
  show zEx none (d + 0) mX5_isToken (0, [(0, .inr (.inr (some 82))), (1, .inr (.inr (some 1000013)))], [], hh_505) _
  refine ex_aload_n (pc' := 1) dX5_isToken_0 rfl rfl ?_
  refine ex_getI (pc' := 4) (n := 13) (v := 0) dX5_isToken_1 fl_5_18 (by decide +kernel) (by decide) (by decide +kernel) rfl ?_
  refine ex_iconst (v := 1) (pc' := 5) dX5_isToken_4 (by decide) rfl ?_
  refine ex_icmp_t (pc' := 24) dX5_isToken_5 (by decide) (by decide) ?_
  refine ex_iconst (v := 0) (pc' := 25) dX5_isToken_24 (by decide) rfl ?_
  exact ex_iretI dX5_isToken_25 rfl (by decide) ⟨rfl, rfl⟩
set_option maxRecDepth 20000 in
theorem kc_102 (d : Nat) : zCi (d + 0) mX5_isToken [.inr (.inr (some 82)), .inr (.inr (some 1000014))] hh_505 (fun x h' => x = 0 ∧ h' = hh_505) := by
  show zEx none (d + 0) mX5_isToken (0, [(0, .inr (.inr (some 82))), (1, .inr (.inr (some 1000014)))], [], hh_505) _
  refine ex_aload_n (pc' := 1) dX5_isToken_0 rfl rfl ?_
  refine ex_getI (pc' := 4) (n := 13) (v := 0) dX5_isToken_1 fl_5_18 (by decide +kernel) (by decide) (by decide +kernel) rfl ?_
  refine ex_iconst (v := 1) (pc' := 5) dX5_isToken_4 (by decide) rfl ?_
  refine ex_icmp_t (pc' := 24) dX5_isToken_5 (by decide) (by decide) ?_
  refine ex_iconst (v := 0) (pc' := 25) dX5_isToken_24 (by decide) rfl ?_
  exact ex_iretI dX5_isToken_25 rfl (by decide) ⟨rfl, rfl⟩
set_option maxRecDepth 20000 in
theorem kc_103 (d : Nat) : zCi (d + 0) mX5_isToken [.inr (.inr (some 82)), .inr (.inr (some 1000015))] hh_505 (fun x h' => x = 0 ∧ h' = hh_505) := by
  show zEx none (d + 0) mX5_isToken (0, [(0, .inr (.inr (some 82))), (1, .inr (.inr (some 1000015)))], [], hh_505) _
  refine ex_aload_n (pc' := 1) dX5_isToken_0 rfl rfl ?_
  refine ex_getI (pc' := 4) (n := 13) (v := 0) dX5_isToken_1 fl_5_18 (by decide +kernel) (by decide) (by decide +kernel) rfl ?_
  refine ex_iconst (v := 1) (pc' := 5) dX5_isToken_4 (by decide) rfl ?_
  refine ex_icmp_t (pc' := 24) dX5_isToken_5 (by decide) (by decide) ?_
  refine ex_iconst (v := 0) (pc' := 25) dX5_isToken_24 (by decide) rfl ?_
  exact ex_iretI dX5_isToken_25 rfl (by decide) ⟨rfl, rfl⟩
set_option maxRecDepth 20000 in
theorem kc_97 (d : Nat) : zCi (d + 1) mX5_sortOfLine [.inr (.inr (some 82))] hh_505 (fun x h' => x = (-2) ∧ h' = hh_505) := by
  show zEx none (d + 1) mX5_sortOfLine (0, [(0, .inr (.inr (some 82)))], [], hh_505) _
  refine ex_aload_n (pc' := 1) dX5_sortOfLine_0 rfl rfl ?_
  refine ex_ldcw (v := .inr (.inr (some 1000010))) (pc' := 4) dX5_sortOfLine_1 cl_5_263 rfl rfl ?_
  refine en_callvI (pc' := 7) (a := 82) (n := 13) (h2 := hh_505) (v := 0) (vs := [.inr (.inr (some 1000010))]) (rest := []) dX5_sortOfLine_4 ml_5_245 ⟨by decide, by decide⟩ rfl rfl (by decide +kernel) (by decide) (by decide) rfl (kc_98 _) ?_
  refine ex_if_t (pc' := 12) dX5_sortOfLine_7 (by decide) (by decide) ?_
  refine ex_aload_n (pc' := 13) dX5_sortOfLine_12 rfl rfl ?_
  refine ex_ldcw (v := .inr (.inr (some 1000011))) (pc' := 16) dX5_sortOfLine_13 cl_5_264 rfl rfl ?_
  refine en_callvI (pc' := 19) (a := 82) (n := 13) (h2 := hh_505) (v := 0) (vs := [.inr (.inr (some 1000011))]) (rest := []) dX5_sortOfLine_16 ml_5_245 ⟨by decide, by decide⟩ rfl rfl (by decide +kernel) (by decide) (by decide) rfl (kc_99 _) ?_
  refine ex_if_t (pc' := 24) dX5_sortOfLine_19 (by decide) (by decide) ?_
  refine ex_aload_n (pc' := 25) dX5_sortOfLine_24 rfl rfl ?_
  refine ex_ldcw (v := .inr (.inr (some 1000012))) (pc' := 28) dX5_sortOfLine_25 cl_5_265 rfl rfl ?_
  refine en_callvI (pc' := 31) (a := 82) (n := 13) (h2 := hh_505) (v := 0) (vs := [.inr (.inr (some 1000012))]) (rest := []) dX5_sortOfLine_28 ml_5_245 ⟨by decide, by decide⟩ rfl rfl (by decide +kernel) (by decide) (by decide) rfl (kc_100 _) ?_
  refine ex_if_t (pc' := 36) dX5_sortOfLine_31 (by decide) (by decide) ?_
  refine ex_aload_n (pc' := 37) dX5_sortOfLine_36 rfl rfl ?_
  refine ex_ldcw (v := .inr (.inr (some 1000013))) (pc' := 40) dX5_sortOfLine_37 cl_5_266 rfl rfl ?_
  refine en_callvI (pc' := 43) (a := 82) (n := 13) (h2 := hh_505) (v := 0) (vs := [.inr (.inr (some 1000013))]) (rest := []) dX5_sortOfLine_40 ml_5_245 ⟨by decide, by decide⟩ rfl rfl (by decide +kernel) (by decide) (by decide) rfl (kc_101 _) ?_
  refine ex_if_t (pc' := 48) dX5_sortOfLine_43 (by decide) (by decide) ?_
  refine ex_aload_n (pc' := 49) dX5_sortOfLine_48 rfl rfl ?_
  refine ex_ldcw (v := .inr (.inr (some 1000014))) (pc' := 52) dX5_sortOfLine_49 cl_5_267 rfl rfl ?_
  refine en_callvI (pc' := 55) (a := 82) (n := 13) (h2 := hh_505) (v := 0) (vs := [.inr (.inr (some 1000014))]) (rest := []) dX5_sortOfLine_52 ml_5_245 ⟨by decide, by decide⟩ rfl rfl (by decide +kernel) (by decide) (by decide) rfl (kc_102 _) ?_
  refine ex_if_t (pc' := 60) dX5_sortOfLine_55 (by decide) (by decide) ?_
  refine ex_aload_n (pc' := 61) dX5_sortOfLine_60 rfl rfl ?_
  refine ex_ldcw (v := .inr (.inr (some 1000015))) (pc' := 64) dX5_sortOfLine_61 cl_5_268 rfl rfl ?_
  refine en_callvI (pc' := 67) (a := 82) (n := 13) (h2 := hh_505) (v := 0) (vs := [.inr (.inr (some 1000015))]) (rest := []) dX5_sortOfLine_64 ml_5_245 ⟨by decide, by decide⟩ rfl rfl (by decide +kernel) (by decide) (by decide) rfl (kc_103 _) ?_
  refine ex_if_t (pc' := 74) dX5_sortOfLine_67 (by decide) (by decide) ?_
  refine ex_bipush (v := (-2)) (pc' := 76) dX5_sortOfLine_74 (by decide) rfl ?_
  exact ex_iretI dX5_sortOfLine_76 rfl (by decide) ⟨rfl, rfl⟩
set_option maxRecDepth 20000 in
theorem kc_104 (d : Nat) : zCi (d + 0) mX5_faulty [.inr (.inr (some 82)), .inl 1] hh_505 (fun x h' => x = 0 ∧ h' = hh_507) := by
  show zEx none (d + 0) mX5_faulty (0, [(0, .inr (.inr (some 82))), (1, .inl 1)], [], hh_505) _
  refine ex_aload_n (pc' := 1) dX5_faulty_0 rfl rfl ?_
  refine ex_iload_n (pc' := 2) dX5_faulty_1 rfl rfl ?_
  refine en_putI (pc' := 5) (n := 13) (h2 := hh_506) dX5_faulty_2 fl_5_41 (by decide +kernel) (by decide) (by decide) rfl rfl ?_
  refine ex_aload_n (pc' := 6) dX5_faulty_5 rfl rfl ?_
  refine ex_aload_n (pc' := 7) dX5_faulty_6 rfl rfl ?_
  refine ex_getI (pc' := 10) (n := 13) (v := 0) dX5_faulty_7 fl_5_21 (by decide +kernel) (by decide) (by decide +kernel) rfl ?_
  refine en_putI (pc' := 13) (n := 13) (h2 := hh_507) dX5_faulty_10 fl_5_44 (by decide +kernel) (by decide) (by decide) rfl rfl ?_
  refine ex_iconst (v := 0) (pc' := 14) dX5_faulty_13 (by decide) rfl ?_
  exact ex_iretI dX5_faulty_14 rfl (by decide) ⟨rfl, rfl⟩
set_option maxRecDepth 20000 in
theorem kc_95 (d : Nat) : zCi (d + 2) mX5_readLine [.inr (.inr (some 82))] hh_503 (fun x h' => x = 0 ∧ h' = hh_507) := by
  show zEx none (d + 2) mX5_readLine (0, [(0, .inr (.inr (some 82)))], [], hh_503) _
  refine ex_aload_n (pc' := 1) dX5_readLine_0 rfl rfl ?_
  refine en_callvV (pc' := 4) (a := 82) (n := 13) (h2 := hh_505) (vs := []) (rest := []) dX5_readLine_1 ml_5_70 ⟨by decide, by decide⟩ rfl rfl (by decide +kernel) (by decide) (by decide) rfl (kc_96 _) ?_
  refine ex_aload_n (pc' := 5) dX5_readLine_4 rfl rfl ?_
  refine en_callvI (pc' := 8) (a := 82) (n := 13) (h2 := hh_505) (v := (-2)) (vs := []) (rest := []) dX5_readLine_5 ml_5_80 ⟨by decide, by decide⟩ rfl rfl (by decide +kernel) (by decide) (by decide) rfl (kc_97 _) ?_
  refine ex_istore_n (pc' := 9) (ls' := [(1, .inl (-2)), (0, .inr (.inr (some 82)))]) dX5_readLine_8 (by decide) rfl rfl ?_
  refine ex_iload_n (pc' := 10) dX5_readLine_9 rfl rfl ?_
  refine ex_bipush (v := (-2)) (pc' := 12) dX5_readLine_10 (by decide) rfl ?_
  refine ex_icmp_f (pc' := 15) dX5_readLine_12 (by decide) (by decide) rfl ?_
  refine ex_aload_n (pc' := 16) dX5_readLine_15 rfl rfl ?_
  refine ex_iconst (v := 1) (pc' := 17) dX5_readLine_16 (by decide) rfl ?_
  refine en_callvI (pc' := 20) (a := 82) (n := 13) (h2 := hh_507) (v := 0) (vs := [.inl 1]) (rest := []) dX5_readLine_17 ml_5_76 ⟨by decide, by decide⟩ rfl rfl (by decide +kernel) (by decide) (by decide) rfl (kc_104 _) ?_
  exact ex_iretI dX5_readLine_20 rfl (by decide) ⟨rfl, rfl⟩
set_option maxRecDepth 20000 in
theorem kc_93 (d : Nat) : zCi (d + 3) mX5_readPost [.inr (.inr (some 82)), .inl 0, .inr (.inr (some 42))] hh_488 (fun x h' => x = 0 ∧ h' = hh_507) := by
  show zEx none (d + 3) mX5_readPost (0, [(0, .inr (.inr (some 82))), (1, .inl 0), (2, .inr (.inr (some 42)))], [], hh_488) _
  refine ex_aload_n (pc' := 1) dX5_readPost_0 rfl rfl ?_
  refine ex_aload_n (pc' := 2) dX5_readPost_1 rfl rfl ?_
  refine en_putR (pc' := 5) (n := 13) (h2 := hh_489) dX5_readPost_2 fl_5_51 (by decide +kernel) (by decide) (by decide) rfl rfl ?_
  refine ex_aload_n (pc' := 6) dX5_readPost_5 rfl rfl ?_
  refine ex_getR (pc' := 9) (n := 13) (r := 42) dX5_readPost_6 fl_5_51 (by decide +kernel) (by decide) (by decide +kernel) rfl ?_
  refine en_callvV (pc' := 12) (a := 42) (n := 15) (h2 := hh_498) (vs := []) (rest := []) dX5_readPost_9 ml_5_55 ⟨by decide, by decide⟩ rfl rfl (by decide +kernel) (by decide) (by decide) rfl (kc_94 _) ?_
  refine ex_aload_n (pc' := 13) dX5_readPost_12 rfl rfl ?_
  refine ex_iload_n (pc' := 14) dX5_readPost_13 rfl rfl ?_
  refine ex_aload_n (pc' := 15) dX5_readPost_14 rfl rfl ?_
  refine ex_getR (pc' := 18) (n := 13) (r := 1) dX5_readPost_15 fl_5_47 (by decide +kernel) (by decide) (by decide +kernel) rfl ?_
  refine ex_alen (pc' := 19) (kd := 13) (n := 1000) (v := 1000) dX5_readPost_18 (by decide +kernel) (by decide) rfl rfl ?_
  refine ex_min (pc' := 22) (v := 0) dX5_readPost_19 ml_5_60 (by decide) (by decide) rfl ?_
  refine en_putI (pc' := 25) (n := 13) (h2 := hh_499) dX5_readPost_22 fl_5_9 (by decide +kernel) (by decide) (by decide) rfl rfl ?_
  refine ex_aload_n (pc' := 26) dX5_readPost_25 rfl rfl ?_
  refine ex_iconst (v := 0) (pc' := 27) dX5_readPost_26 (by decide) rfl ?_
  refine en_putI (pc' := 30) (n := 13) (h2 := hh_500) dX5_readPost_27 fl_5_15 (by decide +kernel) (by decide) (by decide) rfl rfl ?_
  refine ex_aload_n (pc' := 31) dX5_readPost_30 rfl rfl ?_
  refine ex_iconst (v := 0) (pc' := 32) dX5_readPost_31 (by decide) rfl ?_
  refine en_putI (pc' := 35) (n := 13) (h2 := hh_501) dX5_readPost_32 fl_5_38 (by decide +kernel) (by decide) (by decide) rfl rfl ?_
  refine ex_aload_n (pc' := 36) dX5_readPost_35 rfl rfl ?_
  refine ex_iconst (v := 0) (pc' := 37) dX5_readPost_36 (by decide) rfl ?_
  refine en_putI (pc' := 40) (n := 13) (h2 := hh_502) dX5_readPost_37 fl_5_41 (by decide +kernel) (by decide) (by decide) rfl rfl ?_
  refine ex_aload_n (pc' := 41) dX5_readPost_40 rfl rfl ?_
  refine ex_iconst (v := (-1)) (pc' := 42) dX5_readPost_41 (by decide) rfl ?_
  refine en_putI (pc' := 45) (n := 13) (h2 := hh_503) dX5_readPost_42 fl_5_44 (by decide +kernel) (by decide) (by decide) rfl rfl ?_
  refine ex_iconst (v := 0) (pc' := 46) dX5_readPost_45 (by decide) rfl ?_
  refine ex_istore_n (pc' := 47) (ls' := [(3, .inl 0), (0, .inr (.inr (some 82))), (1, .inl 0), (2, .inr (.inr (some 42)))]) dX5_readPost_46 (by decide) rfl rfl ?_
  refine ex_iload_n (pc' := 48) dX5_readPost_47 rfl rfl ?_
  refine ex_aload_n (pc' := 49) dX5_readPost_48 rfl rfl ?_
  refine ex_getI (pc' := 52) (n := 13) (v := 0) dX5_readPost_49 fl_5_9 (by decide +kernel) (by decide) (by decide +kernel) rfl ?_
  refine ex_icmp_f (pc' := 55) dX5_readPost_52 (by decide) (by decide) rfl ?_
  refine ex_aload_n (pc' := 56) dX5_readPost_55 rfl rfl ?_
  refine en_callvI (pc' := 59) (a := 82) (n := 13) (h2 := hh_507) (v := 0) (vs := []) (rest := []) dX5_readPost_56 ml_5_66 ⟨by decide, by decide⟩ rfl rfl (by decide +kernel) (by decide) (by decide) rfl (kc_95 _) ?_
  refine ex_if_f (pc' := 62) dX5_readPost_59 (by decide) (by decide) rfl ?_
  refine ex_iconst (v := 0) (pc' := 63) dX5_readPost_62 (by decide) rfl ?_
  exact ex_iretI dX5_readPost_63 rfl (by decide) ⟨rfl, rfl⟩
set_option maxRecDepth 20000 in
theorem kc_105 (d : Nat) : zCi (d + 0) mX11_refused [.inr (.inr (some 0)), .inl 4] hh_507 (fun x h' => x = (-1) ∧ h' = hh_508) := by
  show zEx none (d + 0) mX11_refused (0, [(0, .inr (.inr (some 0))), (1, .inl 4)], [], hh_507) _
  refine ex_aload_n (pc' := 1) dX11_refused_0 rfl rfl ?_
  refine ex_iload_n (pc' := 2) dX11_refused_1 rfl rfl ?_
  refine en_putI (pc' := 5) (n := 16) (h2 := hh_508) dX11_refused_2 fl_11_17 (by decide +kernel) (by decide) (by decide) rfl rfl ?_
  refine ex_iconst (v := (-1)) (pc' := 6) dX11_refused_5 (by decide) rfl ?_
  exact ex_iretI dX11_refused_6 rfl (by decide) ⟨rfl, rfl⟩
set_option maxRecDepth 20000 in
theorem kc_92 (d : Nat) : zCi (d + 4) mX11_post [.inr (.inr (some 0)), .inl 0] hh_487 (fun x h' => x = (-1) ∧ h' = hh_508) := by
  show zEx none (d + 4) mX11_post (0, [(0, .inr (.inr (some 0))), (1, .inl 0)], [], hh_487) _
  refine ex_iload_n (pc' := 1) dX11_post_0 rfl rfl ?_
  refine ex_if_f (pc' := 4) dX11_post_1 (by decide) (by decide) rfl ?_
  refine ex_iload_n (pc' := 5) dX11_post_4 rfl rfl ?_
  refine ex_aload_n (pc' := 6) dX11_post_5 rfl rfl ?_
  refine ex_getI (pc' := 9) (n := 16) (v := 0) dX11_post_6 fl_11_13 (by decide +kernel) (by decide) (by decide +kernel) rfl ?_
  refine ex_icmp_t (pc' := 18) dX11_post_9 (by decide) (by decide) ?_
  refine ex_aload_n (pc' := 19) dX11_post_18 rfl rfl ?_
  refine ex_iconst (v := 0) (pc' := 20) dX11_post_19 (by decide) rfl ?_
  refine en_putI (pc' := 23) (n := 16) (h2 := hh_488) dX11_post_20 fl_11_13 (by decide +kernel) (by decide) (by decide) rfl rfl ?_
  refine ex_aload_n (pc' := 24) dX11_post_23 rfl rfl ?_
  refine ex_getR (pc' := 27) (n := 16) (r := 82) dX11_post_24 fl_11_35 (by decide +kernel) (by decide) (by decide +kernel) rfl ?_
  refine ex_iload_n (pc' := 28) dX11_post_27 rfl rfl ?_
  refine ex_aload_n (pc' := 29) dX11_post_28 rfl rfl ?_
  refine ex_getR (pc' := 32) (n := 16) (r := 42) dX11_post_29 fl_11_27 (by decide +kernel) (by decide) (by decide +kernel) rfl ?_
  refine en_callvI (pc' := 35) (a := 82) (n := 13) (h2 := hh_507) (v := 0) (vs := [.inl 0, .inr (.inr (some 42))]) (rest := []) dX11_post_32 ml_11_102 ⟨by decide, by decide⟩ rfl rfl (by decide +kernel) (by decide) (by decide) rfl (kc_93 _) ?_
  refine ex_if_f (pc' := 38) dX11_post_35 (by decide) (by decide) rfl ?_
  refine ex_aload_n (pc' := 39) dX11_post_38 rfl rfl ?_
  refine ex_iconst (v := 4) (pc' := 40) dX11_post_39 (by decide) rfl ?_
  refine en_callvI (pc' := 43) (a := 0) (n := 16) (h2 := hh_508) (v := (-1)) (vs := [.inl 4]) (rest := []) dX11_post_40 ml_11_98 ⟨by decide, by decide⟩ rfl rfl (by decide +kernel) (by decide) (by decide) rfl (kc_105 _) ?_
  exact ex_iretI dX11_post_43 rfl (by decide) ⟨rfl, rfl⟩
set_option maxRecDepth 20000 in
theorem kc_107 (d : Nat) : zCv (d + 0) mX12_good [.inr (.inr (some 196))] hh_508 (fun h' => h' = hh_510) := by
  show zEx none (d + 0) mX12_good (0, [(0, .inr (.inr (some 196)))], [], hh_508) _
  refine ex_aload_n (pc' := 1) dX12_good_0 rfl rfl ?_
  refine ex_iconst (v := 0) (pc' := 2) dX12_good_1 (by decide) rfl ?_
  refine en_putI (pc' := 5) (n := 39) (h2 := hh_509) dX12_good_2 fl_12_62 (by decide +kernel) (by decide) (by decide) rfl rfl ?_
  refine ex_aload_n (pc' := 6) dX12_good_5 rfl rfl ?_
  refine ex_iconst (v := 0) (pc' := 7) dX12_good_6 (by decide) rfl ?_
  refine en_putI (pc' := 10) (n := 39) (h2 := hh_510) dX12_good_7 fl_12_65 (by decide +kernel) (by decide) (by decide) rfl rfl ?_
  exact ex_vretV dX12_good_10 rfl rfl
set_option maxRecDepth 20000 in
theorem kc_108 (d : Nat) : zCi (d + 0) mX12_in [.inl 0, .inl 0, .inl 0] hh_510 (fun x h' => x = 1 ∧ h' = hh_510) := by
  show zEx none (d + 0) mX12_in (0, [(0, .inl 0), (1, .inl 0), (2, .inl 0)], [], hh_510) _
  refine ex_iload_n (pc' := 1) dX12_in_0 rfl rfl ?_
  refine ex_iload_n (pc' := 2) dX12_in_1 rfl rfl ?_
  refine ex_icmp_f (pc' := 5) dX12_in_2 (by decide) (by decide) rfl ?_
  refine ex_iload_n (pc' := 6) dX12_in_5 rfl rfl ?_
  refine ex_iload_n (pc' := 7) dX12_in_6 rfl rfl ?_
  refine ex_icmp_f (pc' := 10) dX12_in_7 (by decide) (by decide) rfl ?_
  refine ex_iconst (v := 1) (pc' := 11) dX12_in_10 (by decide) rfl ?_
  refine ex_goto (pc' := 15) dX12_in_11 (by decide) ?_
  exact ex_iretI dX12_in_15 rfl (by decide) ⟨rfl, rfl⟩
set_option maxRecDepth 20000 in
theorem kc_110 (d : Nat) : zCi (d + 0) mX12_look [.inr (.inr (some 196)), .inl 0] hh_878 (fun x h' => x = (-1) ∧ h' = hh_878) := by
  show zEx none (d + 0) mX12_look (0, [(0, .inr (.inr (some 196))), (1, .inl 0)], [], hh_878) _
  refine ex_iload_n (pc' := 1) dX12_look_0 rfl rfl ?_
  refine ex_aload_n (pc' := 2) dX12_look_1 rfl rfl ?_
  refine ex_getI (pc' := 5) (n := 39) (v := 0) dX12_look_2 fl_12_71 (by decide +kernel) (by decide) (by decide +kernel) rfl ?_
  refine ex_icmp_t (pc' := 17) dX12_look_5 (by decide) (by decide) ?_
  refine ex_iconst (v := (-1)) (pc' := 18) dX12_look_17 (by decide) rfl ?_
  exact ex_iretI dX12_look_18 rfl (by decide) ⟨rfl, rfl⟩
set_option maxRecDepth 20000 in
theorem kc_111 (d : Nat) : zCi (d + 0) mX12_look [.inr (.inr (some 196)), .inl 0] hh_879 (fun x h' => x = (-1) ∧ h' = hh_879) := by
  show zEx none (d + 0) mX12_look (0, [(0, .inr (.inr (some 196))), (1, .inl 0)], [], hh_879) _
  refine ex_iload_n (pc' := 1) dX12_look_0 rfl rfl ?_
  refine ex_aload_n (pc' := 2) dX12_look_1 rfl rfl ?_
  refine ex_getI (pc' := 5) (n := 39) (v := 0) dX12_look_2 fl_12_71 (by decide +kernel) (by decide) (by decide +kernel) rfl ?_
  refine ex_icmp_t (pc' := 17) dX12_look_5 (by decide) (by decide) ?_
  refine ex_iconst (v := (-1)) (pc' := 18) dX12_look_17 (by decide) rfl ?_
  exact ex_iretI dX12_look_18 rfl (by decide) ⟨rfl, rfl⟩
set_option maxRecDepth 20000 in
theorem kc_109 (d : Nat) : zCv (d + 1) mX12_next [.inr (.inr (some 196))] hh_878 (fun h' => h' = hh_883) := by
  show zEx none (d + 1) mX12_next (0, [(0, .inr (.inr (some 196)))], [], hh_878) _
  refine ex_aload_n (pc' := 1) dX12_next_0 rfl rfl ?_
  refine ex_getI (pc' := 4) (n := 39) (v := 0) dX12_next_1 fl_12_74 (by decide +kernel) (by decide) (by decide +kernel) rfl ?_
  refine ex_istore_n (pc' := 5) (ls' := [(1, .inl 0), (0, .inr (.inr (some 196)))]) dX12_next_4 (by decide) rfl rfl ?_
  refine ex_aload_n (pc' := 6) dX12_next_5 rfl rfl ?_
  refine ex_iload_n (pc' := 7) dX12_next_6 rfl rfl ?_
  refine en_callvI (pc' := 10) (a := 196) (n := 39) (h2 := hh_878) (v := (-1)) (vs := [.inl 0]) (rest := []) dX12_next_7 ml_12_77 ⟨by decide, by decide⟩ rfl rfl (by decide +kernel) (by decide) (by decide) rfl (kc_110 _) ?_
  refine ex_bipush (v := 32) (pc' := 12) dX12_next_10 (by decide) rfl ?_
  refine ex_icmp_t (pc' := 21) dX12_next_12 (by decide) (by decide) ?_
  refine ex_aload_n (pc' := 22) dX12_next_21 rfl rfl ?_
  refine ex_iload_n (pc' := 23) dX12_next_22 rfl rfl ?_
  refine en_putI (pc' := 26) (n := 39) (h2 := hh_879) dX12_next_23 fl_12_81 (by decide +kernel) (by decide) (by decide) rfl rfl ?_
  refine ex_aload_n (pc' := 27) dX12_next_26 rfl rfl ?_
  refine ex_iload_n (pc' := 28) dX12_next_27 rfl rfl ?_
  refine en_callvI (pc' := 31) (a := 196) (n := 39) (h2 := hh_879) (v := (-1)) (vs := [.inl 0]) (rest := []) dX12_next_28 ml_12_77 ⟨by decide, by decide⟩ rfl rfl (by decide +kernel) (by decide) (by decide) rfl (kc_111 _) ?_
  refine ex_istore_n (pc' := 32) (ls' := [(2, .inl (-1)), (1, .inl 0), (0, .inr (.inr (some 196)))]) dX12_next_31 (by decide) rfl rfl ?_
  refine ex_aload_n (pc' := 33) dX12_next_32 rfl rfl ?_
  refine ex_iconst (v := 0) (pc' := 34) dX12_next_33 (by decide) rfl ?_
  refine en_putI (pc' := 37) (n := 39) (h2 := hh_880) dX12_next_34 fl_12_84 (by decide +kernel) (by decide) (by decide) rfl rfl ?_
  refine ex_aload_n (pc' := 38) dX12_next_37 rfl rfl ?_
  refine ex_iconst (v := 0) (pc' := 39) dX12_next_38 (by decide) rfl ?_
  refine en_putI (pc' := 42) (n := 39) (h2 := hh_881) dX12_next_39 fl_12_87 (by decide +kernel) (by decide) (by decide) rfl rfl ?_
  refine ex_iload_n (pc' := 43) dX12_next_42 rfl rfl ?_
  refine ex_iconst (v := (-1)) (pc' := 44) dX12_next_43 (by decide) rfl ?_
  refine ex_icmp_f (pc' := 47) dX12_next_44 (by decide) (by decide) rfl ?_
  refine ex_aload_n (pc' := 48) dX12_next_47 rfl rfl ?_
  refine ex_iconst (v := 0) (pc' := 49) dX12_next_48 (by decide) rfl ?_
  refine en_putI (pc' := 52) (n := 39) (h2 := hh_882) dX12_next_49 fl_12_90 (by decide +kernel) (by decide) (by decide) rfl rfl ?_
  refine ex_aload_n (pc' := 53) dX12_next_52 rfl rfl ?_
  refine ex_iload_n (pc' := 54) dX12_next_53 rfl rfl ?_
  refine en_putI (pc' := 57) (n := 39) (h2 := hh_883) dX12_next_54 fl_12_74 (by decide +kernel) (by decide) (by decide) rfl rfl ?_
  refine ex_goto (pc' := 241) dX12_next_57 (by decide) ?_
  exact ex_vretV dX12_next_241 rfl rfl
set_option maxRecDepth 20000 in
theorem kc_113 (d : Nat) : zCi (d + 0) mX12_isWord [.inr (.inr (some 196)), .inr (.inr (some 1000034))] hh_883 (fun x h' => x = 0 ∧ h' = hh_883) := by
  show zEx none (d + 0) mX12_isWord (0, [(0, .inr (.inr (some 196))), (1, .inr (.inr (some 1000034)))], [], hh_883) _
  refine ex_aload_n (pc' := 1) dX12_isWord_0 rfl rfl ?_
  refine ex_getI (pc' := 4) (n := 39) (v := 0) dX12_isWord_1 fl_12_100 (by decide +kernel) (by decide) (by decide +kernel) rfl ?_
  refine ex_if_f (pc' := 7) dX12_isWord_4 (by decide) (by decide) rfl ?_
  refine ex_aload_n (pc' := 8) dX12_isWord_7 rfl rfl ?_
  refine ex_getI (pc' := 11) (n := 39) (v := 0) dX12_isWord_8 fl_12_90 (by decide +kernel) (by decide) (by decide +kernel) rfl ?_
  refine ex_iconst (v := 2) (pc' := 12) dX12_isWord_11 (by decide) rfl ?_
  refine ex_icmp_t (pc' := 26) dX12_isWord_12 (by decide) (by decide) ?_
  refine ex_iconst (v := 0) (pc' := 27) dX12_isWord_26 (by decide) rfl ?_
  exact ex_iretI dX12_isWord_27 rfl (by decide) ⟨rfl, rfl⟩
set_option maxRecDepth 20000 in
theorem kc_115 (d : Nat) : zCi (d + 0) mX12_isWord [.inr (.inr (some 196)), .inr (.inr (some 1000039))] hh_883 (fun x h' => x = 0 ∧ h' = hh_883) := by
  show zEx none (d + 0) mX12_isWord (0, [(0, .inr (.inr (some 196))), (1, .inr (.inr (some 1000039)))], [], hh_883) _
  refine ex_aload_n (pc' := 1) dX12_isWord_0 rfl rfl ?_
  refine ex_getI (pc' := 4) (n := 39) (v := 0) dX12_isWord_1 fl_12_100 (by decide +kernel) (by decide) (by decide +kernel) rfl ?_
  refine ex_if_f (pc' := 7) dX12_isWord_4 (by decide) (by decide) rfl ?_
  refine ex_aload_n (pc' := 8) dX12_isWord_7 rfl rfl ?_
  refine ex_getI (pc' := 11) (n := 39) (v := 0) dX12_isWord_8 fl_12_90 (by decide +kernel) (by decide) (by decide +kernel) rfl ?_
  refine ex_iconst (v := 2) (pc' := 12) dX12_isWord_11 (by decide) rfl ?_
  refine ex_icmp_t (pc' := 26) dX12_isWord_12 (by decide) (by decide) ?_
  refine ex_iconst (v := 0) (pc' := 27) dX12_isWord_26 (by decide) rfl ?_
  exact ex_iretI dX12_isWord_27 rfl (by decide) ⟨rfl, rfl⟩
set_option maxRecDepth 20000 in
theorem kc_114 (d : Nat) : zCi (d + 1) mX12_begins [.inr (.inr (some 196)), .inr (.inr (some 1000039)), .inl 1] hh_883 (fun x h' => x = 0 ∧ h' = hh_883) := by
  show zEx none (d + 1) mX12_begins (0, [(0, .inr (.inr (some 196))), (1, .inr (.inr (some 1000039))), (2, .inl 1)], [], hh_883) _
  refine ex_aload_n (pc' := 1) dX12_begins_0 rfl rfl ?_
  refine ex_aload_n (pc' := 2) dX12_begins_1 rfl rfl ?_
  refine en_callvI (pc' := 5) (a := 196) (n := 39) (h2 := hh_883) (v := 0) (vs := [.inr (.inr (some 1000039))]) (rest := []) dX12_begins_2 ml_12_117 ⟨by decide, by decide⟩ rfl rfl (by decide +kernel) (by decide) (by decide) rfl (kc_115 _) ?_
  refine ex_if_f (pc' := 8) dX12_begins_5 (by decide) (by decide) rfl ?_
  refine ex_iconst (v := 0) (pc' := 9) dX12_begins_8 (by decide) rfl ?_
  exact ex_iretI dX12_begins_9 rfl (by decide) ⟨rfl, rfl⟩
set_option maxRecDepth 20000 in
theorem kc_117 (d : Nat) : zCi (d + 0) mX12_isWord [.inr (.inr (some 196)), .inr (.inr (some 1000040))] hh_883 (fun x h' => x = 0 ∧ h' = hh_883) := by
  show zEx none (d + 0) mX12_isWord (0, [(0, .inr (.inr (some 196))), (1, .inr (.inr (some 1000040)))], [], hh_883) _
  refine ex_aload_n (pc' := 1) dX12_isWord_0 rfl rfl ?_
  refine ex_getI (pc' := 4) (n := 39) (v := 0) dX12_isWord_1 fl_12_100 (by decide +kernel) (by decide) (by decide +kernel) rfl ?_
  refine ex_if_f (pc' := 7) dX12_isWord_4 (by decide) (by decide) rfl ?_
  refine ex_aload_n (pc' := 8) dX12_isWord_7 rfl rfl ?_
  refine ex_getI (pc' := 11) (n := 39) (v := 0) dX12_isWord_8 fl_12_90 (by decide +kernel) (by decide) (by decide +kernel) rfl ?_
  refine ex_iconst (v := 2) (pc' := 12) dX12_isWord_11 (by decide) rfl ?_
  refine ex_icmp_t (pc' := 26) dX12_isWord_12 (by decide) (by decide) ?_
  refine ex_iconst (v := 0) (pc' := 27) dX12_isWord_26 (by decide) rfl ?_
  exact ex_iretI dX12_isWord_27 rfl (by decide) ⟨rfl, rfl⟩
set_option maxRecDepth 20000 in
theorem kc_116 (d : Nat) : zCi (d + 1) mX12_begins [.inr (.inr (some 196)), .inr (.inr (some 1000040)), .inl 1] hh_883 (fun x h' => x = 0 ∧ h' = hh_883) := by
  show zEx none (d + 1) mX12_begins (0, [(0, .inr (.inr (some 196))), (1, .inr (.inr (some 1000040))), (2, .inl 1)], [], hh_883) _
  refine ex_aload_n (pc' := 1) dX12_begins_0 rfl rfl ?_
  refine ex_aload_n (pc' := 2) dX12_begins_1 rfl rfl ?_
  refine en_callvI (pc' := 5) (a := 196) (n := 39) (h2 := hh_883) (v := 0) (vs := [.inr (.inr (some 1000040))]) (rest := []) dX12_begins_2 ml_12_117 ⟨by decide, by decide⟩ rfl rfl (by decide +kernel) (by decide) (by decide) rfl (kc_117 _) ?_
  refine ex_if_f (pc' := 8) dX12_begins_5 (by decide) (by decide) rfl ?_
  refine ex_iconst (v := 0) (pc' := 9) dX12_begins_8 (by decide) rfl ?_
  exact ex_iretI dX12_begins_9 rfl (by decide) ⟨rfl, rfl⟩
set_option maxRecDepth 20000 in
theorem kc_119 (d : Nat) : zCi (d + 0) mX12_isWord [.inr (.inr (some 196)), .inr (.inr (some 1000041))] hh_883 (fun x h' => x = 0 ∧ h' = hh_883) := by
  show zEx none (d + 0) mX12_isWord (0, [(0, .inr (.inr (some 196))), (1, .inr (.inr (some 1000041)))], [], hh_883) _
  refine ex_aload_n (pc' := 1) dX12_isWord_0 rfl rfl ?_
  refine ex_getI (pc' := 4) (n := 39) (v := 0) dX12_isWord_1 fl_12_100 (by decide +kernel) (by decide) (by decide +kernel) rfl ?_
  refine ex_if_f (pc' := 7) dX12_isWord_4 (by decide) (by decide) rfl ?_
  refine ex_aload_n (pc' := 8) dX12_isWord_7 rfl rfl ?_
  refine ex_getI (pc' := 11) (n := 39) (v := 0) dX12_isWord_8 fl_12_90 (by decide +kernel) (by decide) (by decide +kernel) rfl ?_
  refine ex_iconst (v := 2) (pc' := 12) dX12_isWord_11 (by decide) rfl ?_
  refine ex_icmp_t (pc' := 26) dX12_isWord_12 (by decide) (by decide) ?_
  refine ex_iconst (v := 0) (pc' := 27) dX12_isWord_26 (by decide) rfl ?_
  exact ex_iretI dX12_isWord_27 rfl (by decide) ⟨rfl, rfl⟩
set_option maxRecDepth 20000 in
theorem kc_118 (d : Nat) : zCi (d + 1) mX12_begins [.inr (.inr (some 196)), .inr (.inr (some 1000041)), .inl 1] hh_883 (fun x h' => x = 0 ∧ h' = hh_883) := by
  show zEx none (d + 1) mX12_begins (0, [(0, .inr (.inr (some 196))), (1, .inr (.inr (some 1000041))), (2, .inl 1)], [], hh_883) _
  refine ex_aload_n (pc' := 1) dX12_begins_0 rfl rfl ?_
  refine ex_aload_n (pc' := 2) dX12_begins_1 rfl rfl ?_
  refine en_callvI (pc' := 5) (a := 196) (n := 39) (h2 := hh_883) (v := 0) (vs := [.inr (.inr (some 1000041))]) (rest := []) dX12_begins_2 ml_12_117 ⟨by decide, by decide⟩ rfl rfl (by decide +kernel) (by decide) (by decide) rfl (kc_119 _) ?_
  refine ex_if_f (pc' := 8) dX12_begins_5 (by decide) (by decide) rfl ?_
  refine ex_iconst (v := 0) (pc' := 9) dX12_begins_8 (by decide) rfl ?_
  exact ex_iretI dX12_begins_9 rfl (by decide) ⟨rfl, rfl⟩
set_option maxRecDepth 20000 in
theorem kc_121 (d : Nat) : zCi (d + 0) mX12_isWord [.inr (.inr (some 196)), .inr (.inr (some 1000042))] hh_883 (fun x h' => x = 0 ∧ h' = hh_883) := by
  show zEx none (d + 0) mX12_isWord (0, [(0, .inr (.inr (some 196))), (1, .inr (.inr (some 1000042)))], [], hh_883) _
  refine ex_aload_n (pc' := 1) dX12_isWord_0 rfl rfl ?_
  refine ex_getI (pc' := 4) (n := 39) (v := 0) dX12_isWord_1 fl_12_100 (by decide +kernel) (by decide) (by decide +kernel) rfl ?_
  refine ex_if_f (pc' := 7) dX12_isWord_4 (by decide) (by decide) rfl ?_
  refine ex_aload_n (pc' := 8) dX12_isWord_7 rfl rfl ?_
  refine ex_getI (pc' := 11) (n := 39) (v := 0) dX12_isWord_8 fl_12_90 (by decide +kernel) (by decide) (by decide +kernel) rfl ?_
  refine ex_iconst (v := 2) (pc' := 12) dX12_isWord_11 (by decide) rfl ?_
  refine ex_icmp_t (pc' := 26) dX12_isWord_12 (by decide) (by decide) ?_
  refine ex_iconst (v := 0) (pc' := 27) dX12_isWord_26 (by decide) rfl ?_
  exact ex_iretI dX12_isWord_27 rfl (by decide) ⟨rfl, rfl⟩
set_option maxRecDepth 20000 in
theorem kc_120 (d : Nat) : zCi (d + 1) mX12_begins [.inr (.inr (some 196)), .inr (.inr (some 1000042)), .inl 1] hh_883 (fun x h' => x = 0 ∧ h' = hh_883) := by
  show zEx none (d + 1) mX12_begins (0, [(0, .inr (.inr (some 196))), (1, .inr (.inr (some 1000042))), (2, .inl 1)], [], hh_883) _
  refine ex_aload_n (pc' := 1) dX12_begins_0 rfl rfl ?_
  refine ex_aload_n (pc' := 2) dX12_begins_1 rfl rfl ?_
  refine en_callvI (pc' := 5) (a := 196) (n := 39) (h2 := hh_883) (v := 0) (vs := [.inr (.inr (some 1000042))]) (rest := []) dX12_begins_2 ml_12_117 ⟨by decide, by decide⟩ rfl rfl (by decide +kernel) (by decide) (by decide) rfl (kc_121 _) ?_
  refine ex_if_f (pc' := 8) dX12_begins_5 (by decide) (by decide) rfl ?_
  refine ex_iconst (v := 0) (pc' := 9) dX12_begins_8 (by decide) rfl ?_
  exact ex_iretI dX12_begins_9 rfl (by decide) ⟨rfl, rfl⟩
set_option maxRecDepth 20000 in
theorem kc_123 (d : Nat) : zCi (d + 0) mX12_isWord [.inr (.inr (some 196)), .inr (.inr (some 1000043))] hh_883 (fun x h' => x = 0 ∧ h' = hh_883) := by
  show zEx none (d + 0) mX12_isWord (0, [(0, .inr (.inr (some 196))), (1, .inr (.inr (some 1000043)))], [], hh_883) _
  refine ex_aload_n (pc' := 1) dX12_isWord_0 rfl rfl ?_
  refine ex_getI (pc' := 4) (n := 39) (v := 0) dX12_isWord_1 fl_12_100 (by decide +kernel) (by decide) (by decide +kernel) rfl ?_
  refine ex_if_f (pc' := 7) dX12_isWord_4 (by decide) (by decide) rfl ?_
  refine ex_aload_n (pc' := 8) dX12_isWord_7 rfl rfl ?_
  refine ex_getI (pc' := 11) (n := 39) (v := 0) dX12_isWord_8 fl_12_90 (by decide +kernel) (by decide) (by decide +kernel) rfl ?_
  refine ex_iconst (v := 2) (pc' := 12) dX12_isWord_11 (by decide) rfl ?_
  refine ex_icmp_t (pc' := 26) dX12_isWord_12 (by decide) (by decide) ?_
  refine ex_iconst (v := 0) (pc' := 27) dX12_isWord_26 (by decide) rfl ?_
  exact ex_iretI dX12_isWord_27 rfl (by decide) ⟨rfl, rfl⟩
set_option maxRecDepth 20000 in
theorem kc_122 (d : Nat) : zCi (d + 1) mX12_begins [.inr (.inr (some 196)), .inr (.inr (some 1000043)), .inl 1] hh_883 (fun x h' => x = 0 ∧ h' = hh_883) := by
  show zEx none (d + 1) mX12_begins (0, [(0, .inr (.inr (some 196))), (1, .inr (.inr (some 1000043))), (2, .inl 1)], [], hh_883) _
  refine ex_aload_n (pc' := 1) dX12_begins_0 rfl rfl ?_
  refine ex_aload_n (pc' := 2) dX12_begins_1 rfl rfl ?_
  refine en_callvI (pc' := 5) (a := 196) (n := 39) (h2 := hh_883) (v := 0) (vs := [.inr (.inr (some 1000043))]) (rest := []) dX12_begins_2 ml_12_117 ⟨by decide, by decide⟩ rfl rfl (by decide +kernel) (by decide) (by decide) rfl (kc_123 _) ?_
  refine ex_if_f (pc' := 8) dX12_begins_5 (by decide) (by decide) rfl ?_
  refine ex_iconst (v := 0) (pc' := 9) dX12_begins_8 (by decide) rfl ?_
  exact ex_iretI dX12_begins_9 rfl (by decide) ⟨rfl, rfl⟩
set_option maxRecDepth 20000 in
theorem kc_124 (d : Nat) : zCv (d + 0) mX12_wrong [.inr (.inr (some 196)), .inl 1, .inl 0] hh_883 (fun h' => h' = hh_886) := by
  show zEx none (d + 0) mX12_wrong (0, [(0, .inr (.inr (some 196))), (1, .inl 1), (2, .inl 0)], [], hh_883) _
  refine ex_aload_n (pc' := 1) dX12_wrong_0 rfl rfl ?_
  refine ex_getI (pc' := 4) (n := 39) (v := 0) dX12_wrong_1 fl_12_100 (by decide +kernel) (by decide) (by decide +kernel) rfl ?_
  refine ex_if_t (pc' := 8) dX12_wrong_4 (by decide) (by decide) ?_
  refine ex_aload_n (pc' := 9) dX12_wrong_8 rfl rfl ?_
  refine ex_iconst (v := 1) (pc' := 10) dX12_wrong_9 (by decide) rfl ?_
  refine en_putI (pc' := 13) (n := 39) (h2 := hh_884) dX12_wrong_10 fl_12_100 (by decide +kernel) (by decide) (by decide) rfl rfl ?_
  refine ex_aload_n (pc' := 14) dX12_wrong_13 rfl rfl ?_
  refine ex_iload_n (pc' := 15) dX12_wrong_14 rfl rfl ?_
  refine en_putI (pc' := 18) (n := 39) (h2 := hh_885) dX12_wrong_15 fl_12_104 (by decide +kernel) (by decide) (by decide) rfl rfl ?_
  refine ex_aload_n (pc' := 19) dX12_wrong_18 rfl rfl ?_
  refine ex_iload_n (pc' := 20) dX12_wrong_19 rfl rfl ?_
  refine en_putI (pc' := 23) (n := 39) (h2 := hh_886) dX12_wrong_20 fl_12_13 (by decide +kernel) (by decide) (by decide) rfl rfl ?_
  exact ex_vretV dX12_wrong_23 rfl rfl
set_option maxRecDepth 20000 in
theorem kc_112 (d : Nat) : zCv (d + 2) mX12_readLine [.inr (.inr (some 196))] hh_883 (fun h' => h' = hh_886) := by
  show zEx none (d + 2) mX12_readLine (0, [(0, .inr (.inr (some 196)))], [], hh_883) _
  refine ex_aload_n (pc' := 1) dX12_readLine_0 rfl rfl ?_
  refine ex_ldc (v := .inr (.inr (some 1000034))) (pc' := 3) dX12_readLine_1 cl_12_131 rfl rfl ?_
  refine en_callvI (pc' := 6) (a := 196) (n := 39) (h2 := hh_883) (v := 0) (vs := [.inr (.inr (some 1000034))]) (rest := []) dX12_readLine_3 ml_12_117 ⟨by decide, by decide⟩ rfl rfl (by decide +kernel) (by decide) (by decide) rfl (kc_113 _) ?_
  refine ex_if_t (pc' := 16) dX12_readLine_6 (by decide) (by decide) ?_
  refine ex_aload_n (pc' := 17) dX12_readLine_16 rfl rfl ?_
  refine ex_ldc (v := .inr (.inr (some 1000039))) (pc' := 19) dX12_readLine_17 cl_12_133 rfl rfl ?_
  refine ex_aload_n (pc' := 20) dX12_readLine_19 rfl rfl ?_
  refine ex_getR (pc' := 23) (n := 39) (r := 200) dX12_readLine_20 fl_12_23 (by decide +kernel) (by decide) (by decide +kernel) rfl ?_
  refine ex_iconst (v := 4) (pc' := 24) dX12_readLine_23 (by decide) rfl ?_
  refine ex_iald (pc' := 25) (n := 363) (v := 0) dX12_readLine_24 (by decide +kernel) (by decide) (by decide +kernel) rfl ?_
  refine ex_bipush (v := 7) (pc' := 27) dX12_readLine_25 (by decide) rfl ?_
  refine ex_icmp_f (pc' := 30) dX12_readLine_27 (by decide) (by decide) rfl ?_
  refine ex_iconst (v := 1) (pc' := 31) dX12_readLine_30 (by decide) rfl ?_
  refine ex_goto (pc' := 35) dX12_readLine_31 (by decide) ?_
  refine en_callvI (pc' := 38) (a := 196) (n := 39) (h2 := hh_883) (v := 0) (vs := [.inr (.inr (some 1000039)), .inl 1]) (rest := []) dX12_readLine_35 ml_12_192 ⟨by decide, by decide⟩ rfl rfl (by decide +kernel) (by decide) (by decide) rfl (kc_114 _) ?_
  refine ex_if_t (pc' := 48) dX12_readLine_38 (by decide) (by decide) ?_
  refine ex_aload_n (pc' := 49) dX12_readLine_48 rfl rfl ?_
  refine ex_ldc (v := .inr (.inr (some 1000040))) (pc' := 51) dX12_readLine_49 cl_12_135 rfl rfl ?_
  refine ex_aload_n (pc' := 52) dX12_readLine_51 rfl rfl ?_
  refine ex_getR (pc' := 55) (n := 39) (r := 200) dX12_readLine_52 fl_12_23 (by decide +kernel) (by decide) (by decide +kernel) rfl ?_
  refine ex_iconst (v := 5) (pc' := 56) dX12_readLine_55 (by decide) rfl ?_
  refine ex_iald (pc' := 57) (n := 363) (v := 0) dX12_readLine_56 (by decide +kernel) (by decide) (by decide +kernel) rfl ?_
  refine ex_bipush (v := 12) (pc' := 59) dX12_readLine_57 (by decide) rfl ?_
  refine ex_icmp_f (pc' := 62) dX12_readLine_59 (by decide) (by decide) rfl ?_
  refine ex_iconst (v := 1) (pc' := 63) dX12_readLine_62 (by decide) rfl ?_
  refine ex_goto (pc' := 67) dX12_readLine_63 (by decide) ?_
  refine en_callvI (pc' := 70) (a := 196) (n := 39) (h2 := hh_883) (v := 0) (vs := [.inr (.inr (some 1000040)), .inl 1]) (rest := []) dX12_readLine_67 ml_12_192 ⟨by decide, by decide⟩ rfl rfl (by decide +kernel) (by decide) (by decide) rfl (kc_116 _) ?_
  refine ex_if_t (pc' := 80) dX12_readLine_70 (by decide) (by decide) ?_
  refine ex_aload_n (pc' := 81) dX12_readLine_80 rfl rfl ?_
  refine ex_ldc (v := .inr (.inr (some 1000041))) (pc' := 83) dX12_readLine_81 cl_12_137 rfl rfl ?_
  refine ex_aload_n (pc' := 84) dX12_readLine_83 rfl rfl ?_
  refine ex_getR (pc' := 87) (n := 39) (r := 200) dX12_readLine_84 fl_12_23 (by decide +kernel) (by decide) (by decide +kernel) rfl ?_
  refine ex_bipush (v := 6) (pc' := 89) dX12_readLine_87 (by decide) rfl ?_
  refine ex_iald (pc' := 90) (n := 363) (v := 0) dX12_readLine_89 (by decide +kernel) (by decide) (by decide +kernel) rfl ?_
  refine ex_iconst (v := 5) (pc' := 91) dX12_readLine_90 (by decide) rfl ?_
  refine ex_icmp_f (pc' := 94) dX12_readLine_91 (by decide) (by decide) rfl ?_
  refine ex_iconst (v := 1) (pc' := 95) dX12_readLine_94 (by decide) rfl ?_
  refine ex_goto (pc' := 99) dX12_readLine_95 (by decide) ?_
  refine en_callvI (pc' := 102) (a := 196) (n := 39) (h2 := hh_883) (v := 0) (vs := [.inr (.inr (some 1000041)), .inl 1]) (rest := []) dX12_readLine_99 ml_12_192 ⟨by decide, by decide⟩ rfl rfl (by decide +kernel) (by decide) (by decide) rfl (kc_118 _) ?_
  refine ex_if_t (pc' := 112) dX12_readLine_102 (by decide) (by decide) ?_
  refine ex_aload_n (pc' := 113) dX12_readLine_112 rfl rfl ?_
  refine ex_ldc (v := .inr (.inr (some 1000042))) (pc' := 115) dX12_readLine_113 cl_12_139 rfl rfl ?_
  refine ex_aload_n (pc' := 116) dX12_readLine_115 rfl rfl ?_
  refine ex_getR (pc' := 119) (n := 39) (r := 200) dX12_readLine_116 fl_12_23 (by decide +kernel) (by decide) (by decide +kernel) rfl ?_
  refine ex_bipush (v := 7) (pc' := 121) dX12_readLine_119 (by decide) rfl ?_
  refine ex_iald (pc' := 122) (n := 363) (v := 0) dX12_readLine_121 (by decide +kernel) (by decide) (by decide +kernel) rfl ?_
  refine ex_bipush (v := 8) (pc' := 124) dX12_readLine_122 (by decide) rfl ?_
  refine ex_icmp_f (pc' := 127) dX12_readLine_124 (by decide) (by decide) rfl ?_
  refine ex_iconst (v := 1) (pc' := 128) dX12_readLine_127 (by decide) rfl ?_
  refine ex_goto (pc' := 132) dX12_readLine_128 (by decide) ?_
  refine en_callvI (pc' := 135) (a := 196) (n := 39) (h2 := hh_883) (v := 0) (vs := [.inr (.inr (some 1000042)), .inl 1]) (rest := []) dX12_readLine_132 ml_12_192 ⟨by decide, by decide⟩ rfl rfl (by decide +kernel) (by decide) (by decide) rfl (kc_120 _) ?_
  refine ex_if_t (pc' := 145) dX12_readLine_135 (by decide) (by decide) ?_
  refine ex_aload_n (pc' := 146) dX12_readLine_145 rfl rfl ?_
  refine ex_ldc (v := .inr (.inr (some 1000043))) (pc' := 148) dX12_readLine_146 cl_12_141 rfl rfl ?_
  refine ex_aload_n (pc' := 149) dX12_readLine_148 rfl rfl ?_
  refine ex_getR (pc' := 152) (n := 39) (r := 200) dX12_readLine_149 fl_12_23 (by decide +kernel) (by decide) (by decide +kernel) rfl ?_
  refine ex_bipush (v := 8) (pc' := 154) dX12_readLine_152 (by decide) rfl ?_
  refine ex_iald (pc' := 155) (n := 363) (v := 0) dX12_readLine_154 (by decide +kernel) (by decide) (by decide +kernel) rfl ?_
  refine ex_bipush (v := 8) (pc' := 157) dX12_readLine_155 (by decide) rfl ?_
  refine ex_icmp_f (pc' := 160) dX12_readLine_157 (by decide) (by decide) rfl ?_
  refine ex_iconst (v := 1) (pc' := 161) dX12_readLine_160 (by decide) rfl ?_
  refine ex_goto (pc' := 165) dX12_readLine_161 (by decide) ?_
  refine en_callvI (pc' := 168) (a := 196) (n := 39) (h2 := hh_883) (v := 0) (vs := [.inr (.inr (some 1000043)), .inl 1]) (rest := []) dX12_readLine_165 ml_12_192 ⟨by decide, by decide⟩ rfl rfl (by decide +kernel) (by decide) (by decide) rfl (kc_122 _) ?_
  refine ex_if_t (pc' := 178) dX12_readLine_168 (by decide) (by decide) ?_
  refine ex_aload_n (pc' := 179) dX12_readLine_178 rfl rfl ?_
  refine ex_iconst (v := 1) (pc' := 180) dX12_readLine_179 (by decide) rfl ?_
  refine ex_aload_n (pc' := 181) dX12_readLine_180 rfl rfl ?_
  refine ex_getI (pc' := 184) (n := 39) (v := 0) dX12_readLine_181 fl_12_81 (by decide +kernel) (by decide) (by decide +kernel) rfl ?_
  refine en_callvV (pc' := 187) (a := 196) (n := 39) (h2 := hh_886) (vs := [.inl 1, .inl 0]) (rest := []) dX12_readLine_184 ml_12_127 ⟨by decide, by decide⟩ rfl rfl (by decide +kernel) (by decide) (by decide) rfl (kc_124 _) ?_
  exact ex_vretV dX12_readLine_187 rfl rfl
set_option maxRecDepth 20000 in
theorem kc_125 (d : Nat) : zCi (d + 0) mX12_no [.inr (.inr (some 196)), .inl 4] hh_886 (fun x h' => x = (-1) ∧ h' = hh_887) := by
  show zEx none (d + 0) mX12_no (0, [(0, .inr (.inr (some 196))), (1, .inl 4)], [], hh_886) _
  refine ex_aload_n (pc' := 1) dX12_no_0 rfl rfl ?_
  refine ex_iload_n (pc' := 2) dX12_no_1 rfl rfl ?_
  refine en_putI (pc' := 5) (n := 39) (h2 := hh_887) dX12_no_2 fl_12_65 (by decide +kernel) (by decide) (by decide) rfl rfl ?_
  refine ex_iconst (v := (-1)) (pc' := 6) dX12_no_5 (by decide) rfl ?_
  exact ex_iretI dX12_no_6 rfl (by decide) ⟨rfl, rfl⟩
set_option maxRecDepth 20000 in
theorem kc_106 (d : Nat) : zCi (d + 3) mX12_post [.inr (.inr (some 196)), .inl 0] hh_508 (fun x h' => x = (-1) ∧ h' = hh_887) := by
  show zEx none (d + 3) mX12_post (0, [(0, .inr (.inr (some 196))), (1, .inl 0)], [], hh_508) _
  refine ex_aload_n (pc' := 1) dX12_post_0 rfl rfl ?_
  refine en_callvV (pc' := 4) (a := 196) (n := 39) (h2 := hh_510) (vs := []) (rest := []) dX12_post_1 ml_12_167 ⟨by decide, by decide⟩ rfl rfl (by decide +kernel) (by decide) (by decide) rfl (kc_107 _) ?_
  refine ex_iload_n (pc' := 5) dX12_post_4 rfl rfl ?_
  refine ex_iconst (v := 0) (pc' := 6) dX12_post_5 (by decide) rfl ?_
  refine ex_aload_n (pc' := 7) dX12_post_6 rfl rfl ?_
  refine ex_getI (pc' := 10) (n := 39) (v := 0) dX12_post_7 fl_12_68 (by decide +kernel) (by decide) (by decide +kernel) rfl ?_
  refine en_callsI (pc' := 13) (h2 := hh_510) (v := 1) (vs := [.inl 0, .inl 0, .inl 0]) (rest := []) dX12_post_10 ml_12_149 (by decide) ⟨by decide, by decide⟩ rfl rfl (by decide) rfl (kc_108 _) ?_
  refine ex_if_t (pc' := 22) dX12_post_13 (by decide) (by decide) ?_
  refine ex_aload_n (pc' := 23) dX12_post_22 rfl rfl ?_
  refine ex_iconst (v := 0) (pc' := 24) dX12_post_23 (by decide) rfl ?_
  refine en_putI (pc' := 27) (n := 39) (h2 := hh_511) dX12_post_24 fl_12_68 (by decide +kernel) (by decide) (by decide) rfl rfl ?_
  refine ex_aload_n (pc' := 28) dX12_post_27 rfl rfl ?_
  refine ex_iconst (v := 0) (pc' := 29) dX12_post_28 (by decide) rfl ?_
  refine en_putI (pc' := 32) (n := 39) (h2 := hh_512) dX12_post_29 fl_12_104 (by decide +kernel) (by decide) (by decide) rfl rfl ?_
  refine ex_aload_n (pc' := 33) dX12_post_32 rfl rfl ?_
  refine ex_iconst (v := 0) (pc' := 34) dX12_post_33 (by decide) rfl ?_
  refine en_putI (pc' := 37) (n := 39) (h2 := hh_513) dX12_post_34 fl_12_100 (by decide +kernel) (by decide) (by decide) rfl rfl ?_
  refine ex_iconst (v := 0) (pc' := 38) dX12_post_37 (by decide) rfl ?_
  refine ex_istore_n (pc' := 39) (ls' := [(2, .inl 0), (0, .inr (.inr (some 196))), (1, .inl 0)]) dX12_post_38 (by decide) rfl rfl ?_
  refine ex_iload_n (pc' := 40) dX12_post_39 rfl rfl ?_
  refine ex_sipush (v := 363) (pc' := 43) dX12_post_40 (by decide) rfl ?_
  refine ex_icmp_f (pc' := 46) dX12_post_43 (by decide) (by decide) rfl ?_
  refine ex_aload_n (pc' := 47) dX12_post_46 rfl rfl ?_
  refine ex_getR (pc' := 50) (n := 39) (r := 200) dX12_post_47 fl_12_23 (by decide +kernel) (by decide) (by decide +kernel) rfl ?_
  refine ex_iload_n (pc' := 51) dX12_post_50 rfl rfl ?_
  refine ex_iconst (v := 0) (pc' := 52) dX12_post_51 (by decide) rfl ?_
  refine en_iast (pc' := 53) (n := 363) (jj := 0) (h2 := hh_514) dX12_post_52 (by decide +kernel) (by decide) rfl rfl ?_
  refine ex_iinc (pc' := 56) (v := 1) (ls' := [(2, .inl 1), (0, .inr (.inr (some 196))), (1, .inl 0)]) dX12_post_53 rfl (by decide) (by decide) rfl rfl ?_
  refine ex_goto (pc' := 39) dX12_post_56 (by decide) ?_
  refine ex_iload_n (pc' := 40) dX12_post_39 rfl rfl ?_
  refine ex_sipush (v := 363) (pc' := 43) dX12_post_40 (by decide) rfl ?_
  refine ex_icmp_f (pc' := 46) dX12_post_43 (by decide) (by decide) rfl ?_
  refine ex_aload_n (pc' := 47) dX12_post_46 rfl rfl ?_
  refine ex_getR (pc' := 50) (n := 39) (r := 200) dX12_post_47 fl_12_23 (by decide +kernel) (by decide) (by decide +kernel) rfl ?_
  refine ex_iload_n (pc' := 51) dX12_post_50 rfl rfl ?_
  refine ex_iconst (v := 0) (pc' := 52) dX12_post_51 (by decide) rfl ?_
  refine en_iast (pc' := 53) (n := 363) (jj := 1) (h2 := hh_515) dX12_post_52 (by decide +kernel) (by decide) rfl rfl ?_
  refine ex_iinc (pc' := 56) (v := 2) (ls' := [(2, .inl 2), (0, .inr (.inr (some 196))), (1, .inl 0)]) dX12_post_53 rfl (by decide) (by decide) rfl rfl ?_
  refine ex_goto (pc' := 39) dX12_post_56 (by decide) ?_
  refine ex_iload_n (pc' := 40) dX12_post_39 rfl rfl ?_
  refine ex_sipush (v := 363) (pc' := 43) dX12_post_40 (by decide) rfl ?_
  refine ex_icmp_f (pc' := 46) dX12_post_43 (by decide) (by decide) rfl ?_
  refine ex_aload_n (pc' := 47) dX12_post_46 rfl rfl ?_
  refine ex_getR (pc' := 50) (n := 39) (r := 200) dX12_post_47 fl_12_23 (by decide +kernel) (by decide) (by decide +kernel) rfl ?_
  refine ex_iload_n (pc' := 51) dX12_post_50 rfl rfl ?_
  refine ex_iconst (v := 0) (pc' := 52) dX12_post_51 (by decide) rfl ?_
  refine en_iast (pc' := 53) (n := 363) (jj := 2) (h2 := hh_516) dX12_post_52 (by decide +kernel) (by decide) rfl rfl ?_
  refine ex_iinc (pc' := 56) (v := 3) (ls' := [(2, .inl 3), (0, .inr (.inr (some 196))), (1, .inl 0)]) dX12_post_53 rfl (by decide) (by decide) rfl rfl ?_
  refine ex_goto (pc' := 39) dX12_post_56 (by decide) ?_
  refine ex_iload_n (pc' := 40) dX12_post_39 rfl rfl ?_
  refine ex_sipush (v := 363) (pc' := 43) dX12_post_40 (by decide) rfl ?_
  refine ex_icmp_f (pc' := 46) dX12_post_43 (by decide) (by decide) rfl ?_
  refine ex_aload_n (pc' := 47) dX12_post_46 rfl rfl ?_
  refine ex_getR (pc' := 50) (n := 39) (r := 200) dX12_post_47 fl_12_23 (by decide +kernel) (by decide) (by decide +kernel) rfl ?_
  refine ex_iload_n (pc' := 51) dX12_post_50 rfl rfl ?_
  refine ex_iconst (v := 0) (pc' := 52) dX12_post_51 (by decide) rfl ?_
  refine en_iast (pc' := 53) (n := 363) (jj := 3) (h2 := hh_517) dX12_post_52 (by decide +kernel) (by decide) rfl rfl ?_
  refine ex_iinc (pc' := 56) (v := 4) (ls' := [(2, .inl 4), (0, .inr (.inr (some 196))), (1, .inl 0)]) dX12_post_53 rfl (by decide) (by decide) rfl rfl ?_
  refine ex_goto (pc' := 39) dX12_post_56 (by decide) ?_
  refine ex_iload_n (pc' := 40) dX12_post_39 rfl rfl ?_
  refine ex_sipush (v := 363) (pc' := 43) dX12_post_40 (by decide) rfl ?_
  refine ex_icmp_f (pc' := 46) dX12_post_43 (by decide) (by decide) rfl ?_
  refine ex_aload_n (pc' := 47) dX12_post_46 rfl rfl ?_
  refine ex_getR (pc' := 50) (n := 39) (r := 200) dX12_post_47 fl_12_23 (by decide +kernel) (by decide) (by decide +kernel) rfl ?_
  refine ex_iload_n (pc' := 51) dX12_post_50 rfl rfl ?_
  refine ex_iconst (v := 0) (pc' := 52) dX12_post_51 (by decide) rfl ?_
  refine en_iast (pc' := 53) (n := 363) (jj := 4) (h2 := hh_518) dX12_post_52 (by decide +kernel) (by decide) rfl rfl ?_
  refine ex_iinc (pc' := 56) (v := 5) (ls' := [(2, .inl 5), (0, .inr (.inr (some 196))), (1, .inl 0)]) dX12_post_53 rfl (by decide) (by decide) rfl rfl ?_
  refine ex_goto (pc' := 39) dX12_post_56 (by decide) ?_
  refine ex_iload_n (pc' := 40) dX12_post_39 rfl rfl ?_
  refine ex_sipush (v := 363) (pc' := 43) dX12_post_40 (by decide) rfl ?_
  refine ex_icmp_f (pc' := 46) dX12_post_43 (by decide) (by decide) rfl ?_
  refine ex_aload_n (pc' := 47) dX12_post_46 rfl rfl ?_
  refine ex_getR (pc' := 50) (n := 39) (r := 200) dX12_post_47 fl_12_23 (by decide +kernel) (by decide) (by decide +kernel) rfl ?_
  refine ex_iload_n (pc' := 51) dX12_post_50 rfl rfl ?_
  refine ex_iconst (v := 0) (pc' := 52) dX12_post_51 (by decide) rfl ?_
  refine en_iast (pc' := 53) (n := 363) (jj := 5) (h2 := hh_519) dX12_post_52 (by decide +kernel) (by decide) rfl rfl ?_
  refine ex_iinc (pc' := 56) (v := 6) (ls' := [(2, .inl 6), (0, .inr (.inr (some 196))), (1, .inl 0)]) dX12_post_53 rfl (by decide) (by decide) rfl rfl ?_
  refine ex_goto (pc' := 39) dX12_post_56 (by decide) ?_
  refine ex_iload_n (pc' := 40) dX12_post_39 rfl rfl ?_
  refine ex_sipush (v := 363) (pc' := 43) dX12_post_40 (by decide) rfl ?_
  refine ex_icmp_f (pc' := 46) dX12_post_43 (by decide) (by decide) rfl ?_
  refine ex_aload_n (pc' := 47) dX12_post_46 rfl rfl ?_
  refine ex_getR (pc' := 50) (n := 39) (r := 200) dX12_post_47 fl_12_23 (by decide +kernel) (by decide) (by decide +kernel) rfl ?_
  refine ex_iload_n (pc' := 51) dX12_post_50 rfl rfl ?_
  refine ex_iconst (v := 0) (pc' := 52) dX12_post_51 (by decide) rfl ?_
  refine en_iast (pc' := 53) (n := 363) (jj := 6) (h2 := hh_520) dX12_post_52 (by decide +kernel) (by decide) rfl rfl ?_
  refine ex_iinc (pc' := 56) (v := 7) (ls' := [(2, .inl 7), (0, .inr (.inr (some 196))), (1, .inl 0)]) dX12_post_53 rfl (by decide) (by decide) rfl rfl ?_
  refine ex_goto (pc' := 39) dX12_post_56 (by decide) ?_
  refine ex_iload_n (pc' := 40) dX12_post_39 rfl rfl ?_
  refine ex_sipush (v := 363) (pc' := 43) dX12_post_40 (by decide) rfl ?_
  refine ex_icmp_f (pc' := 46) dX12_post_43 (by decide) (by decide) rfl ?_
  refine ex_aload_n (pc' := 47) dX12_post_46 rfl rfl ?_
  refine ex_getR (pc' := 50) (n := 39) (r := 200) dX12_post_47 fl_12_23 (by decide +kernel) (by decide) (by decide +kernel) rfl ?_
  refine ex_iload_n (pc' := 51) dX12_post_50 rfl rfl ?_
  refine ex_iconst (v := 0) (pc' := 52) dX12_post_51 (by decide) rfl ?_
  refine en_iast (pc' := 53) (n := 363) (jj := 7) (h2 := hh_521) dX12_post_52 (by decide +kernel) (by decide) rfl rfl ?_
  refine ex_iinc (pc' := 56) (v := 8) (ls' := [(2, .inl 8), (0, .inr (.inr (some 196))), (1, .inl 0)]) dX12_post_53 rfl (by decide) (by decide) rfl rfl ?_
  refine ex_goto (pc' := 39) dX12_post_56 (by decide) ?_
  refine ex_iload_n (pc' := 40) dX12_post_39 rfl rfl ?_
  refine ex_sipush (v := 363) (pc' := 43) dX12_post_40 (by decide) rfl ?_
  refine ex_icmp_f (pc' := 46) dX12_post_43 (by decide) (by decide) rfl ?_
  refine ex_aload_n (pc' := 47) dX12_post_46 rfl rfl ?_
  refine ex_getR (pc' := 50) (n := 39) (r := 200) dX12_post_47 fl_12_23 (by decide +kernel) (by decide) (by decide +kernel) rfl ?_
  refine ex_iload_n (pc' := 51) dX12_post_50 rfl rfl ?_
  refine ex_iconst (v := 0) (pc' := 52) dX12_post_51 (by decide) rfl ?_
  refine en_iast (pc' := 53) (n := 363) (jj := 8) (h2 := hh_522) dX12_post_52 (by decide +kernel) (by decide) rfl rfl ?_
  refine ex_iinc (pc' := 56) (v := 9) (ls' := [(2, .inl 9), (0, .inr (.inr (some 196))), (1, .inl 0)]) dX12_post_53 rfl (by decide) (by decide) rfl rfl ?_
  refine ex_goto (pc' := 39) dX12_post_56 (by decide) ?_
  refine ex_iload_n (pc' := 40) dX12_post_39 rfl rfl ?_
  refine ex_sipush (v := 363) (pc' := 43) dX12_post_40 (by decide) rfl ?_
  refine ex_icmp_f (pc' := 46) dX12_post_43 (by decide) (by decide) rfl ?_
  refine ex_aload_n (pc' := 47) dX12_post_46 rfl rfl ?_
  refine ex_getR (pc' := 50) (n := 39) (r := 200) dX12_post_47 fl_12_23 (by decide +kernel) (by decide) (by decide +kernel) rfl ?_
  refine ex_iload_n (pc' := 51) dX12_post_50 rfl rfl ?_
  refine ex_iconst (v := 0) (pc' := 52) dX12_post_51 (by decide) rfl ?_
  refine en_iast (pc' := 53) (n := 363) (jj := 9) (h2 := hh_523) dX12_post_52 (by decide +kernel) (by decide) rfl rfl ?_
  refine ex_iinc (pc' := 56) (v := 10) (ls' := [(2, .inl 10), (0, .inr (.inr (some 196))), (1, .inl 0)]) dX12_post_53 rfl (by decide) (by decide) rfl rfl ?_
  refine ex_goto (pc' := 39) dX12_post_56 (by decide) ?_
  refine ex_iload_n (pc' := 40) dX12_post_39 rfl rfl ?_
  refine ex_sipush (v := 363) (pc' := 43) dX12_post_40 (by decide) rfl ?_
  refine ex_icmp_f (pc' := 46) dX12_post_43 (by decide) (by decide) rfl ?_
  refine ex_aload_n (pc' := 47) dX12_post_46 rfl rfl ?_
  refine ex_getR (pc' := 50) (n := 39) (r := 200) dX12_post_47 fl_12_23 (by decide +kernel) (by decide) (by decide +kernel) rfl ?_
  refine ex_iload_n (pc' := 51) dX12_post_50 rfl rfl ?_
  refine ex_iconst (v := 0) (pc' := 52) dX12_post_51 (by decide) rfl ?_
  refine en_iast (pc' := 53) (n := 363) (jj := 10) (h2 := hh_524) dX12_post_52 (by decide +kernel) (by decide) rfl rfl ?_
  refine ex_iinc (pc' := 56) (v := 11) (ls' := [(2, .inl 11), (0, .inr (.inr (some 196))), (1, .inl 0)]) dX12_post_53 rfl (by decide) (by decide) rfl rfl ?_
  refine ex_goto (pc' := 39) dX12_post_56 (by decide) ?_
  refine ex_iload_n (pc' := 40) dX12_post_39 rfl rfl ?_
  refine ex_sipush (v := 363) (pc' := 43) dX12_post_40 (by decide) rfl ?_
  refine ex_icmp_f (pc' := 46) dX12_post_43 (by decide) (by decide) rfl ?_
  refine ex_aload_n (pc' := 47) dX12_post_46 rfl rfl ?_
  refine ex_getR (pc' := 50) (n := 39) (r := 200) dX12_post_47 fl_12_23 (by decide +kernel) (by decide) (by decide +kernel) rfl ?_
  refine ex_iload_n (pc' := 51) dX12_post_50 rfl rfl ?_
  refine ex_iconst (v := 0) (pc' := 52) dX12_post_51 (by decide) rfl ?_
  refine en_iast (pc' := 53) (n := 363) (jj := 11) (h2 := hh_525) dX12_post_52 (by decide +kernel) (by decide) rfl rfl ?_
  refine ex_iinc (pc' := 56) (v := 12) (ls' := [(2, .inl 12), (0, .inr (.inr (some 196))), (1, .inl 0)]) dX12_post_53 rfl (by decide) (by decide) rfl rfl ?_
  refine ex_goto (pc' := 39) dX12_post_56 (by decide) ?_
  refine ex_iload_n (pc' := 40) dX12_post_39 rfl rfl ?_
  refine ex_sipush (v := 363) (pc' := 43) dX12_post_40 (by decide) rfl ?_
  refine ex_icmp_f (pc' := 46) dX12_post_43 (by decide) (by decide) rfl ?_
  refine ex_aload_n (pc' := 47) dX12_post_46 rfl rfl ?_
  refine ex_getR (pc' := 50) (n := 39) (r := 200) dX12_post_47 fl_12_23 (by decide +kernel) (by decide) (by decide +kernel) rfl ?_
  refine ex_iload_n (pc' := 51) dX12_post_50 rfl rfl ?_
  refine ex_iconst (v := 0) (pc' := 52) dX12_post_51 (by decide) rfl ?_
  refine en_iast (pc' := 53) (n := 363) (jj := 12) (h2 := hh_526) dX12_post_52 (by decide +kernel) (by decide) rfl rfl ?_
  refine ex_iinc (pc' := 56) (v := 13) (ls' := [(2, .inl 13), (0, .inr (.inr (some 196))), (1, .inl 0)]) dX12_post_53 rfl (by decide) (by decide) rfl rfl ?_
  refine ex_goto (pc' := 39) dX12_post_56 (by decide) ?_
  refine ex_iload_n (pc' := 40) dX12_post_39 rfl rfl ?_
  refine ex_sipush (v := 363) (pc' := 43) dX12_post_40 (by decide) rfl ?_
  refine ex_icmp_f (pc' := 46) dX12_post_43 (by decide) (by decide) rfl ?_
  refine ex_aload_n (pc' := 47) dX12_post_46 rfl rfl ?_
  refine ex_getR (pc' := 50) (n := 39) (r := 200) dX12_post_47 fl_12_23 (by decide +kernel) (by decide) (by decide +kernel) rfl ?_
  refine ex_iload_n (pc' := 51) dX12_post_50 rfl rfl ?_
  refine ex_iconst (v := 0) (pc' := 52) dX12_post_51 (by decide) rfl ?_
  refine en_iast (pc' := 53) (n := 363) (jj := 13) (h2 := hh_527) dX12_post_52 (by decide +kernel) (by decide) rfl rfl ?_
  refine ex_iinc (pc' := 56) (v := 14) (ls' := [(2, .inl 14), (0, .inr (.inr (some 196))), (1, .inl 0)]) dX12_post_53 rfl (by decide) (by decide) rfl rfl ?_
  refine ex_goto (pc' := 39) dX12_post_56 (by decide) ?_
  refine ex_iload_n (pc' := 40) dX12_post_39 rfl rfl ?_
  refine ex_sipush (v := 363) (pc' := 43) dX12_post_40 (by decide) rfl ?_
  refine ex_icmp_f (pc' := 46) dX12_post_43 (by decide) (by decide) rfl ?_
  refine ex_aload_n (pc' := 47) dX12_post_46 rfl rfl ?_
  refine ex_getR (pc' := 50) (n := 39) (r := 200) dX12_post_47 fl_12_23 (by decide +kernel) (by decide) (by decide +kernel) rfl ?_
  refine ex_iload_n (pc' := 51) dX12_post_50 rfl rfl ?_
  refine ex_iconst (v := 0) (pc' := 52) dX12_post_51 (by decide) rfl ?_
  refine en_iast (pc' := 53) (n := 363) (jj := 14) (h2 := hh_528) dX12_post_52 (by decide +kernel) (by decide) rfl rfl ?_
  refine ex_iinc (pc' := 56) (v := 15) (ls' := [(2, .inl 15), (0, .inr (.inr (some 196))), (1, .inl 0)]) dX12_post_53 rfl (by decide) (by decide) rfl rfl ?_
  refine ex_goto (pc' := 39) dX12_post_56 (by decide) ?_
  refine ex_iload_n (pc' := 40) dX12_post_39 rfl rfl ?_
  refine ex_sipush (v := 363) (pc' := 43) dX12_post_40 (by decide) rfl ?_
  refine ex_icmp_f (pc' := 46) dX12_post_43 (by decide) (by decide) rfl ?_
  refine ex_aload_n (pc' := 47) dX12_post_46 rfl rfl ?_
  refine ex_getR (pc' := 50) (n := 39) (r := 200) dX12_post_47 fl_12_23 (by decide +kernel) (by decide) (by decide +kernel) rfl ?_
  refine ex_iload_n (pc' := 51) dX12_post_50 rfl rfl ?_
  refine ex_iconst (v := 0) (pc' := 52) dX12_post_51 (by decide) rfl ?_
  refine en_iast (pc' := 53) (n := 363) (jj := 15) (h2 := hh_529) dX12_post_52 (by decide +kernel) (by decide) rfl rfl ?_
  refine ex_iinc (pc' := 56) (v := 16) (ls' := [(2, .inl 16), (0, .inr (.inr (some 196))), (1, .inl 0)]) dX12_post_53 rfl (by decide) (by decide) rfl rfl ?_
  refine ex_goto (pc' := 39) dX12_post_56 (by decide) ?_
  refine ex_iload_n (pc' := 40) dX12_post_39 rfl rfl ?_
  refine ex_sipush (v := 363) (pc' := 43) dX12_post_40 (by decide) rfl ?_
  refine ex_icmp_f (pc' := 46) dX12_post_43 (by decide) (by decide) rfl ?_
  refine ex_aload_n (pc' := 47) dX12_post_46 rfl rfl ?_
  refine ex_getR (pc' := 50) (n := 39) (r := 200) dX12_post_47 fl_12_23 (by decide +kernel) (by decide) (by decide +kernel) rfl ?_
  refine ex_iload_n (pc' := 51) dX12_post_50 rfl rfl ?_
  refine ex_iconst (v := 0) (pc' := 52) dX12_post_51 (by decide) rfl ?_
  refine en_iast (pc' := 53) (n := 363) (jj := 16) (h2 := hh_530) dX12_post_52 (by decide +kernel) (by decide) rfl rfl ?_
  refine ex_iinc (pc' := 56) (v := 17) (ls' := [(2, .inl 17), (0, .inr (.inr (some 196))), (1, .inl 0)]) dX12_post_53 rfl (by decide) (by decide) rfl rfl ?_
  refine ex_goto (pc' := 39) dX12_post_56 (by decide) ?_
  refine ex_iload_n (pc' := 40) dX12_post_39 rfl rfl ?_
  refine ex_sipush (v := 363) (pc' := 43) dX12_post_40 (by decide) rfl ?_
  refine ex_icmp_f (pc' := 46) dX12_post_43 (by decide) (by decide) rfl ?_
  refine ex_aload_n (pc' := 47) dX12_post_46 rfl rfl ?_
  refine ex_getR (pc' := 50) (n := 39) (r := 200) dX12_post_47 fl_12_23 (by decide +kernel) (by decide) (by decide +kernel) rfl ?_
  refine ex_iload_n (pc' := 51) dX12_post_50 rfl rfl ?_
  refine ex_iconst (v := 0) (pc' := 52) dX12_post_51 (by decide) rfl ?_
  refine en_iast (pc' := 53) (n := 363) (jj := 17) (h2 := hh_531) dX12_post_52 (by decide +kernel) (by decide) rfl rfl ?_
  refine ex_iinc (pc' := 56) (v := 18) (ls' := [(2, .inl 18), (0, .inr (.inr (some 196))), (1, .inl 0)]) dX12_post_53 rfl (by decide) (by decide) rfl rfl ?_
  refine ex_goto (pc' := 39) dX12_post_56 (by decide) ?_
  refine ex_iload_n (pc' := 40) dX12_post_39 rfl rfl ?_
  refine ex_sipush (v := 363) (pc' := 43) dX12_post_40 (by decide) rfl ?_
  refine ex_icmp_f (pc' := 46) dX12_post_43 (by decide) (by decide) rfl ?_
  refine ex_aload_n (pc' := 47) dX12_post_46 rfl rfl ?_
  refine ex_getR (pc' := 50) (n := 39) (r := 200) dX12_post_47 fl_12_23 (by decide +kernel) (by decide) (by decide +kernel) rfl ?_
  refine ex_iload_n (pc' := 51) dX12_post_50 rfl rfl ?_
  refine ex_iconst (v := 0) (pc' := 52) dX12_post_51 (by decide) rfl ?_
  refine en_iast (pc' := 53) (n := 363) (jj := 18) (h2 := hh_532) dX12_post_52 (by decide +kernel) (by decide) rfl rfl ?_
  refine ex_iinc (pc' := 56) (v := 19) (ls' := [(2, .inl 19), (0, .inr (.inr (some 196))), (1, .inl 0)]) dX12_post_53 rfl (by decide) (by decide) rfl rfl ?_
  refine ex_goto (pc' := 39) dX12_post_56 (by decide) ?_
  refine ex_iload_n (pc' := 40) dX12_post_39 rfl rfl ?_
  refine ex_sipush (v := 363) (pc' := 43) dX12_post_40 (by decide) rfl ?_
  refine ex_icmp_f (pc' := 46) dX12_post_43 (by decide) (by decide) rfl ?_
  refine ex_aload_n (pc' := 47) dX12_post_46 rfl rfl ?_
  refine ex_getR (pc' := 50) (n := 39) (r := 200) dX12_post_47 fl_12_23 (by decide +kernel) (by decide) (by decide +kernel) rfl ?_
  refine ex_iload_n (pc' := 51) dX12_post_50 rfl rfl ?_
  refine ex_iconst (v := 0) (pc' := 52) dX12_post_51 (by decide) rfl ?_
  refine en_iast (pc' := 53) (n := 363) (jj := 19) (h2 := hh_533) dX12_post_52 (by decide +kernel) (by decide) rfl rfl ?_
  refine ex_iinc (pc' := 56) (v := 20) (ls' := [(2, .inl 20), (0, .inr (.inr (some 196))), (1, .inl 0)]) dX12_post_53 rfl (by decide) (by decide) rfl rfl ?_
  refine ex_goto (pc' := 39) dX12_post_56 (by decide) ?_
  refine ex_iload_n (pc' := 40) dX12_post_39 rfl rfl ?_
  refine ex_sipush (v := 363) (pc' := 43) dX12_post_40 (by decide) rfl ?_
  refine ex_icmp_f (pc' := 46) dX12_post_43 (by decide) (by decide) rfl ?_
  refine ex_aload_n (pc' := 47) dX12_post_46 rfl rfl ?_
  refine ex_getR (pc' := 50) (n := 39) (r := 200) dX12_post_47 fl_12_23 (by decide +kernel) (by decide) (by decide +kernel) rfl ?_
  refine ex_iload_n (pc' := 51) dX12_post_50 rfl rfl ?_
  refine ex_iconst (v := 0) (pc' := 52) dX12_post_51 (by decide) rfl ?_
  refine en_iast (pc' := 53) (n := 363) (jj := 20) (h2 := hh_534) dX12_post_52 (by decide +kernel) (by decide) rfl rfl ?_
  refine ex_iinc (pc' := 56) (v := 21) (ls' := [(2, .inl 21), (0, .inr (.inr (some 196))), (1, .inl 0)]) dX12_post_53 rfl (by decide) (by decide) rfl rfl ?_
  refine ex_goto (pc' := 39) dX12_post_56 (by decide) ?_
  refine ex_iload_n (pc' := 40) dX12_post_39 rfl rfl ?_
  refine ex_sipush (v := 363) (pc' := 43) dX12_post_40 (by decide) rfl ?_
  refine ex_icmp_f (pc' := 46) dX12_post_43 (by decide) (by decide) rfl ?_
  refine ex_aload_n (pc' := 47) dX12_post_46 rfl rfl ?_
  refine ex_getR (pc' := 50) (n := 39) (r := 200) dX12_post_47 fl_12_23 (by decide +kernel) (by decide) (by decide +kernel) rfl ?_
  refine ex_iload_n (pc' := 51) dX12_post_50 rfl rfl ?_
  refine ex_iconst (v := 0) (pc' := 52) dX12_post_51 (by decide) rfl ?_
  refine en_iast (pc' := 53) (n := 363) (jj := 21) (h2 := hh_535) dX12_post_52 (by decide +kernel) (by decide) rfl rfl ?_
  refine ex_iinc (pc' := 56) (v := 22) (ls' := [(2, .inl 22), (0, .inr (.inr (some 196))), (1, .inl 0)]) dX12_post_53 rfl (by decide) (by decide) rfl rfl ?_
  refine ex_goto (pc' := 39) dX12_post_56 (by decide) ?_
  refine ex_iload_n (pc' := 40) dX12_post_39 rfl rfl ?_
  refine ex_sipush (v := 363) (pc' := 43) dX12_post_40 (by decide) rfl ?_
  refine ex_icmp_f (pc' := 46) dX12_post_43 (by decide) (by decide) rfl ?_
  refine ex_aload_n (pc' := 47) dX12_post_46 rfl rfl ?_
  refine ex_getR (pc' := 50) (n := 39) (r := 200) dX12_post_47 fl_12_23 (by decide +kernel) (by decide) (by decide +kernel) rfl ?_
  refine ex_iload_n (pc' := 51) dX12_post_50 rfl rfl ?_
  refine ex_iconst (v := 0) (pc' := 52) dX12_post_51 (by decide) rfl ?_
  refine en_iast (pc' := 53) (n := 363) (jj := 22) (h2 := hh_536) dX12_post_52 (by decide +kernel) (by decide) rfl rfl ?_
  refine ex_iinc (pc' := 56) (v := 23) (ls' := [(2, .inl 23), (0, .inr (.inr (some 196))), (1, .inl 0)]) dX12_post_53 rfl (by decide) (by decide) rfl rfl ?_
  refine ex_goto (pc' := 39) dX12_post_56 (by decide) ?_
  refine ex_iload_n (pc' := 40) dX12_post_39 rfl rfl ?_
  refine ex_sipush (v := 363) (pc' := 43) dX12_post_40 (by decide) rfl ?_
  refine ex_icmp_f (pc' := 46) dX12_post_43 (by decide) (by decide) rfl ?_
  refine ex_aload_n (pc' := 47) dX12_post_46 rfl rfl ?_
  refine ex_getR (pc' := 50) (n := 39) (r := 200) dX12_post_47 fl_12_23 (by decide +kernel) (by decide) (by decide +kernel) rfl ?_
  refine ex_iload_n (pc' := 51) dX12_post_50 rfl rfl ?_
  refine ex_iconst (v := 0) (pc' := 52) dX12_post_51 (by decide) rfl ?_
  refine en_iast (pc' := 53) (n := 363) (jj := 23) (h2 := hh_537) dX12_post_52 (by decide +kernel) (by decide) rfl rfl ?_
  refine ex_iinc (pc' := 56) (v := 24) (ls' := [(2, .inl 24), (0, .inr (.inr (some 196))), (1, .inl 0)]) dX12_post_53 rfl (by decide) (by decide) rfl rfl ?_
  refine ex_goto (pc' := 39) dX12_post_56 (by decide) ?_
  refine ex_iload_n (pc' := 40) dX12_post_39 rfl rfl ?_
  refine ex_sipush (v := 363) (pc' := 43) dX12_post_40 (by decide) rfl ?_
  refine ex_icmp_f (pc' := 46) dX12_post_43 (by decide) (by decide) rfl ?_
  refine ex_aload_n (pc' := 47) dX12_post_46 rfl rfl ?_
  refine ex_getR (pc' := 50) (n := 39) (r := 200) dX12_post_47 fl_12_23 (by decide +kernel) (by decide) (by decide +kernel) rfl ?_
  refine ex_iload_n (pc' := 51) dX12_post_50 rfl rfl ?_
  refine ex_iconst (v := 0) (pc' := 52) dX12_post_51 (by decide) rfl ?_
  refine en_iast (pc' := 53) (n := 363) (jj := 24) (h2 := hh_538) dX12_post_52 (by decide +kernel) (by decide) rfl rfl ?_
  refine ex_iinc (pc' := 56) (v := 25) (ls' := [(2, .inl 25), (0, .inr (.inr (some 196))), (1, .inl 0)]) dX12_post_53 rfl (by decide) (by decide) rfl rfl ?_
  refine ex_goto (pc' := 39) dX12_post_56 (by decide) ?_
  refine ex_iload_n (pc' := 40) dX12_post_39 rfl rfl ?_
  refine ex_sipush (v := 363) (pc' := 43) dX12_post_40 (by decide) rfl ?_
  refine ex_icmp_f (pc' := 46) dX12_post_43 (by decide) (by decide) rfl ?_
  refine ex_aload_n (pc' := 47) dX12_post_46 rfl rfl ?_
  refine ex_getR (pc' := 50) (n := 39) (r := 200) dX12_post_47 fl_12_23 (by decide +kernel) (by decide) (by decide +kernel) rfl ?_
  refine ex_iload_n (pc' := 51) dX12_post_50 rfl rfl ?_
  refine ex_iconst (v := 0) (pc' := 52) dX12_post_51 (by decide) rfl ?_
  refine en_iast (pc' := 53) (n := 363) (jj := 25) (h2 := hh_539) dX12_post_52 (by decide +kernel) (by decide) rfl rfl ?_
  refine ex_iinc (pc' := 56) (v := 26) (ls' := [(2, .inl 26), (0, .inr (.inr (some 196))), (1, .inl 0)]) dX12_post_53 rfl (by decide) (by decide) rfl rfl ?_
  refine ex_goto (pc' := 39) dX12_post_56 (by decide) ?_
  refine ex_iload_n (pc' := 40) dX12_post_39 rfl rfl ?_
  refine ex_sipush (v := 363) (pc' := 43) dX12_post_40 (by decide) rfl ?_
  refine ex_icmp_f (pc' := 46) dX12_post_43 (by decide) (by decide) rfl ?_
  refine ex_aload_n (pc' := 47) dX12_post_46 rfl rfl ?_
  refine ex_getR (pc' := 50) (n := 39) (r := 200) dX12_post_47 fl_12_23 (by decide +kernel) (by decide) (by decide +kernel) rfl ?_
  refine ex_iload_n (pc' := 51) dX12_post_50 rfl rfl ?_
  refine ex_iconst (v := 0) (pc' := 52) dX12_post_51 (by decide) rfl ?_
  refine en_iast (pc' := 53) (n := 363) (jj := 26) (h2 := hh_540) dX12_post_52 (by decide +kernel) (by decide) rfl rfl ?_
  refine ex_iinc (pc' := 56) (v := 27) (ls' := [(2, .inl 27), (0, .inr (.inr (some 196))), (1, .inl 0)]) dX12_post_53 rfl (by decide) (by decide) rfl rfl ?_
  refine ex_goto (pc' := 39) dX12_post_56 (by decide) ?_
  refine ex_iload_n (pc' := 40) dX12_post_39 rfl rfl ?_
  refine ex_sipush (v := 363) (pc' := 43) dX12_post_40 (by decide) rfl ?_
  refine ex_icmp_f (pc' := 46) dX12_post_43 (by decide) (by decide) rfl ?_
  refine ex_aload_n (pc' := 47) dX12_post_46 rfl rfl ?_
  refine ex_getR (pc' := 50) (n := 39) (r := 200) dX12_post_47 fl_12_23 (by decide +kernel) (by decide) (by decide +kernel) rfl ?_
  refine ex_iload_n (pc' := 51) dX12_post_50 rfl rfl ?_
  refine ex_iconst (v := 0) (pc' := 52) dX12_post_51 (by decide) rfl ?_
  refine en_iast (pc' := 53) (n := 363) (jj := 27) (h2 := hh_541) dX12_post_52 (by decide +kernel) (by decide) rfl rfl ?_
  refine ex_iinc (pc' := 56) (v := 28) (ls' := [(2, .inl 28), (0, .inr (.inr (some 196))), (1, .inl 0)]) dX12_post_53 rfl (by decide) (by decide) rfl rfl ?_
  refine ex_goto (pc' := 39) dX12_post_56 (by decide) ?_
  refine ex_iload_n (pc' := 40) dX12_post_39 rfl rfl ?_
  refine ex_sipush (v := 363) (pc' := 43) dX12_post_40 (by decide) rfl ?_
  refine ex_icmp_f (pc' := 46) dX12_post_43 (by decide) (by decide) rfl ?_
  refine ex_aload_n (pc' := 47) dX12_post_46 rfl rfl ?_
  refine ex_getR (pc' := 50) (n := 39) (r := 200) dX12_post_47 fl_12_23 (by decide +kernel) (by decide) (by decide +kernel) rfl ?_
  refine ex_iload_n (pc' := 51) dX12_post_50 rfl rfl ?_
  refine ex_iconst (v := 0) (pc' := 52) dX12_post_51 (by decide) rfl ?_
  refine en_iast (pc' := 53) (n := 363) (jj := 28) (h2 := hh_542) dX12_post_52 (by decide +kernel) (by decide) rfl rfl ?_
  refine ex_iinc (pc' := 56) (v := 29) (ls' := [(2, .inl 29), (0, .inr (.inr (some 196))), (1, .inl 0)]) dX12_post_53 rfl (by decide) (by decide) rfl rfl ?_
  refine ex_goto (pc' := 39) dX12_post_56 (by decide) ?_
  refine ex_iload_n (pc' := 40) dX12_post_39 rfl rfl ?_
  refine ex_sipush (v := 363) (pc' := 43) dX12_post_40 (by decide) rfl ?_
  refine ex_icmp_f (pc' := 46) dX12_post_43 (by decide) (by decide) rfl ?_
  refine ex_aload_n (pc' := 47) dX12_post_46 rfl rfl ?_
  refine ex_getR (pc' := 50) (n := 39) (r := 200) dX12_post_47 fl_12_23 (by decide +kernel) (by decide) (by decide +kernel) rfl ?_
  refine ex_iload_n (pc' := 51) dX12_post_50 rfl rfl ?_
  refine ex_iconst (v := 0) (pc' := 52) dX12_post_51 (by decide) rfl ?_
  refine en_iast (pc' := 53) (n := 363) (jj := 29) (h2 := hh_543) dX12_post_52 (by decide +kernel) (by decide) rfl rfl ?_
  refine ex_iinc (pc' := 56) (v := 30) (ls' := [(2, .inl 30), (0, .inr (.inr (some 196))), (1, .inl 0)]) dX12_post_53 rfl (by decide) (by decide) rfl rfl ?_
  refine ex_goto (pc' := 39) dX12_post_56 (by decide) ?_
  refine ex_iload_n (pc' := 40) dX12_post_39 rfl rfl ?_
  refine ex_sipush (v := 363) (pc' := 43) dX12_post_40 (by decide) rfl ?_
  refine ex_icmp_f (pc' := 46) dX12_post_43 (by decide) (by decide) rfl ?_
  refine ex_aload_n (pc' := 47) dX12_post_46 rfl rfl ?_
  refine ex_getR (pc' := 50) (n := 39) (r := 200) dX12_post_47 fl_12_23 (by decide +kernel) (by decide) (by decide +kernel) rfl ?_
  refine ex_iload_n (pc' := 51) dX12_post_50 rfl rfl ?_
  refine ex_iconst (v := 0) (pc' := 52) dX12_post_51 (by decide) rfl ?_
  refine en_iast (pc' := 53) (n := 363) (jj := 30) (h2 := hh_544) dX12_post_52 (by decide +kernel) (by decide) rfl rfl ?_
  refine ex_iinc (pc' := 56) (v := 31) (ls' := [(2, .inl 31), (0, .inr (.inr (some 196))), (1, .inl 0)]) dX12_post_53 rfl (by decide) (by decide) rfl rfl ?_
  refine ex_goto (pc' := 39) dX12_post_56 (by decide) ?_
  refine ex_iload_n (pc' := 40) dX12_post_39 rfl rfl ?_
  refine ex_sipush (v := 363) (pc' := 43) dX12_post_40 (by decide) rfl ?_
  refine ex_icmp_f (pc' := 46) dX12_post_43 (by decide) (by decide) rfl ?_
  refine ex_aload_n (pc' := 47) dX12_post_46 rfl rfl ?_
  refine ex_getR (pc' := 50) (n := 39) (r := 200) dX12_post_47 fl_12_23 (by decide +kernel) (by decide) (by decide +kernel) rfl ?_
  refine ex_iload_n (pc' := 51) dX12_post_50 rfl rfl ?_
  refine ex_iconst (v := 0) (pc' := 52) dX12_post_51 (by decide) rfl ?_
  refine en_iast (pc' := 53) (n := 363) (jj := 31) (h2 := hh_545) dX12_post_52 (by decide +kernel) (by decide) rfl rfl ?_
  refine ex_iinc (pc' := 56) (v := 32) (ls' := [(2, .inl 32), (0, .inr (.inr (some 196))), (1, .inl 0)]) dX12_post_53 rfl (by decide) (by decide) rfl rfl ?_
  refine ex_goto (pc' := 39) dX12_post_56 (by decide) ?_
  refine ex_iload_n (pc' := 40) dX12_post_39 rfl rfl ?_
  refine ex_sipush (v := 363) (pc' := 43) dX12_post_40 (by decide) rfl ?_
  refine ex_icmp_f (pc' := 46) dX12_post_43 (by decide) (by decide) rfl ?_
  refine ex_aload_n (pc' := 47) dX12_post_46 rfl rfl ?_
  refine ex_getR (pc' := 50) (n := 39) (r := 200) dX12_post_47 fl_12_23 (by decide +kernel) (by decide) (by decide +kernel) rfl ?_
  refine ex_iload_n (pc' := 51) dX12_post_50 rfl rfl ?_
  refine ex_iconst (v := 0) (pc' := 52) dX12_post_51 (by decide) rfl ?_
  refine en_iast (pc' := 53) (n := 363) (jj := 32) (h2 := hh_546) dX12_post_52 (by decide +kernel) (by decide) rfl rfl ?_
  refine ex_iinc (pc' := 56) (v := 33) (ls' := [(2, .inl 33), (0, .inr (.inr (some 196))), (1, .inl 0)]) dX12_post_53 rfl (by decide) (by decide) rfl rfl ?_
  refine ex_goto (pc' := 39) dX12_post_56 (by decide) ?_
  refine ex_iload_n (pc' := 40) dX12_post_39 rfl rfl ?_
  refine ex_sipush (v := 363) (pc' := 43) dX12_post_40 (by decide) rfl ?_
  refine ex_icmp_f (pc' := 46) dX12_post_43 (by decide) (by decide) rfl ?_
  refine ex_aload_n (pc' := 47) dX12_post_46 rfl rfl ?_
  refine ex_getR (pc' := 50) (n := 39) (r := 200) dX12_post_47 fl_12_23 (by decide +kernel) (by decide) (by decide +kernel) rfl ?_
  refine ex_iload_n (pc' := 51) dX12_post_50 rfl rfl ?_
  refine ex_iconst (v := 0) (pc' := 52) dX12_post_51 (by decide) rfl ?_
  refine en_iast (pc' := 53) (n := 363) (jj := 33) (h2 := hh_547) dX12_post_52 (by decide +kernel) (by decide) rfl rfl ?_
  refine ex_iinc (pc' := 56) (v := 34) (ls' := [(2, .inl 34), (0, .inr (.inr (some 196))), (1, .inl 0)]) dX12_post_53 rfl (by decide) (by decide) rfl rfl ?_
  refine ex_goto (pc' := 39) dX12_post_56 (by decide) ?_
  refine ex_iload_n (pc' := 40) dX12_post_39 rfl rfl ?_
  refine ex_sipush (v := 363) (pc' := 43) dX12_post_40 (by decide) rfl ?_
  refine ex_icmp_f (pc' := 46) dX12_post_43 (by decide) (by decide) rfl ?_
  refine ex_aload_n (pc' := 47) dX12_post_46 rfl rfl ?_
  refine ex_getR (pc' := 50) (n := 39) (r := 200) dX12_post_47 fl_12_23 (by decide +kernel) (by decide) (by decide +kernel) rfl ?_
  refine ex_iload_n (pc' := 51) dX12_post_50 rfl rfl ?_
  refine ex_iconst (v := 0) (pc' := 52) dX12_post_51 (by decide) rfl ?_
  refine en_iast (pc' := 53) (n := 363) (jj := 34) (h2 := hh_548) dX12_post_52 (by decide +kernel) (by decide) rfl rfl ?_
  refine ex_iinc (pc' := 56) (v := 35) (ls' := [(2, .inl 35), (0, .inr (.inr (some 196))), (1, .inl 0)]) dX12_post_53 rfl (by decide) (by decide) rfl rfl ?_
  refine ex_goto (pc' := 39) dX12_post_56 (by decide) ?_
  refine ex_iload_n (pc' := 40) dX12_post_39 rfl rfl ?_
  refine ex_sipush (v := 363) (pc' := 43) dX12_post_40 (by decide) rfl ?_
  refine ex_icmp_f (pc' := 46) dX12_post_43 (by decide) (by decide) rfl ?_
  refine ex_aload_n (pc' := 47) dX12_post_46 rfl rfl ?_
  refine ex_getR (pc' := 50) (n := 39) (r := 200) dX12_post_47 fl_12_23 (by decide +kernel) (by decide) (by decide +kernel) rfl ?_
  refine ex_iload_n (pc' := 51) dX12_post_50 rfl rfl ?_
  refine ex_iconst (v := 0) (pc' := 52) dX12_post_51 (by decide) rfl ?_
  refine en_iast (pc' := 53) (n := 363) (jj := 35) (h2 := hh_549) dX12_post_52 (by decide +kernel) (by decide) rfl rfl ?_
  refine ex_iinc (pc' := 56) (v := 36) (ls' := [(2, .inl 36), (0, .inr (.inr (some 196))), (1, .inl 0)]) dX12_post_53 rfl (by decide) (by decide) rfl rfl ?_
  refine ex_goto (pc' := 39) dX12_post_56 (by decide) ?_
  refine ex_iload_n (pc' := 40) dX12_post_39 rfl rfl ?_
  refine ex_sipush (v := 363) (pc' := 43) dX12_post_40 (by decide) rfl ?_
  refine ex_icmp_f (pc' := 46) dX12_post_43 (by decide) (by decide) rfl ?_
  refine ex_aload_n (pc' := 47) dX12_post_46 rfl rfl ?_
  refine ex_getR (pc' := 50) (n := 39) (r := 200) dX12_post_47 fl_12_23 (by decide +kernel) (by decide) (by decide +kernel) rfl ?_
  refine ex_iload_n (pc' := 51) dX12_post_50 rfl rfl ?_
  refine ex_iconst (v := 0) (pc' := 52) dX12_post_51 (by decide) rfl ?_
  refine en_iast (pc' := 53) (n := 363) (jj := 36) (h2 := hh_550) dX12_post_52 (by decide +kernel) (by decide) rfl rfl ?_
  refine ex_iinc (pc' := 56) (v := 37) (ls' := [(2, .inl 37), (0, .inr (.inr (some 196))), (1, .inl 0)]) dX12_post_53 rfl (by decide) (by decide) rfl rfl ?_
  refine ex_goto (pc' := 39) dX12_post_56 (by decide) ?_
  refine ex_iload_n (pc' := 40) dX12_post_39 rfl rfl ?_
  refine ex_sipush (v := 363) (pc' := 43) dX12_post_40 (by decide) rfl ?_
  refine ex_icmp_f (pc' := 46) dX12_post_43 (by decide) (by decide) rfl ?_
  refine ex_aload_n (pc' := 47) dX12_post_46 rfl rfl ?_
  refine ex_getR (pc' := 50) (n := 39) (r := 200) dX12_post_47 fl_12_23 (by decide +kernel) (by decide) (by decide +kernel) rfl ?_
  refine ex_iload_n (pc' := 51) dX12_post_50 rfl rfl ?_
  refine ex_iconst (v := 0) (pc' := 52) dX12_post_51 (by decide) rfl ?_
  refine en_iast (pc' := 53) (n := 363) (jj := 37) (h2 := hh_551) dX12_post_52 (by decide +kernel) (by decide) rfl rfl ?_
  refine ex_iinc (pc' := 56) (v := 38) (ls' := [(2, .inl 38), (0, .inr (.inr (some 196))), (1, .inl 0)]) dX12_post_53 rfl (by decide) (by decide) rfl rfl ?_
  refine ex_goto (pc' := 39) dX12_post_56 (by decide) ?_
  refine ex_iload_n (pc' := 40) dX12_post_39 rfl rfl ?_
  refine ex_sipush (v := 363) (pc' := 43) dX12_post_40 (by decide) rfl ?_
  refine ex_icmp_f (pc' := 46) dX12_post_43 (by decide) (by decide) rfl ?_
  refine ex_aload_n (pc' := 47) dX12_post_46 rfl rfl ?_
  refine ex_getR (pc' := 50) (n := 39) (r := 200) dX12_post_47 fl_12_23 (by decide +kernel) (by decide) (by decide +kernel) rfl ?_
  refine ex_iload_n (pc' := 51) dX12_post_50 rfl rfl ?_
  refine ex_iconst (v := 0) (pc' := 52) dX12_post_51 (by decide) rfl ?_
  refine en_iast (pc' := 53) (n := 363) (jj := 38) (h2 := hh_552) dX12_post_52 (by decide +kernel) (by decide) rfl rfl ?_
  refine ex_iinc (pc' := 56) (v := 39) (ls' := [(2, .inl 39), (0, .inr (.inr (some 196))), (1, .inl 0)]) dX12_post_53 rfl (by decide) (by decide) rfl rfl ?_
  refine ex_goto (pc' := 39) dX12_post_56 (by decide) ?_
  refine ex_iload_n (pc' := 40) dX12_post_39 rfl rfl ?_
  refine ex_sipush (v := 363) (pc' := 43) dX12_post_40 (by decide) rfl ?_
  refine ex_icmp_f (pc' := 46) dX12_post_43 (by decide) (by decide) rfl ?_
  refine ex_aload_n (pc' := 47) dX12_post_46 rfl rfl ?_
  refine ex_getR (pc' := 50) (n := 39) (r := 200) dX12_post_47 fl_12_23 (by decide +kernel) (by decide) (by decide +kernel) rfl ?_
  refine ex_iload_n (pc' := 51) dX12_post_50 rfl rfl ?_
  refine ex_iconst (v := 0) (pc' := 52) dX12_post_51 (by decide) rfl ?_
  refine en_iast (pc' := 53) (n := 363) (jj := 39) (h2 := hh_553) dX12_post_52 (by decide +kernel) (by decide) rfl rfl ?_
  refine ex_iinc (pc' := 56) (v := 40) (ls' := [(2, .inl 40), (0, .inr (.inr (some 196))), (1, .inl 0)]) dX12_post_53 rfl (by decide) (by decide) rfl rfl ?_
  refine ex_goto (pc' := 39) dX12_post_56 (by decide) ?_
  refine ex_iload_n (pc' := 40) dX12_post_39 rfl rfl ?_
  refine ex_sipush (v := 363) (pc' := 43) dX12_post_40 (by decide) rfl ?_
  refine ex_icmp_f (pc' := 46) dX12_post_43 (by decide) (by decide) rfl ?_
  refine ex_aload_n (pc' := 47) dX12_post_46 rfl rfl ?_
  refine ex_getR (pc' := 50) (n := 39) (r := 200) dX12_post_47 fl_12_23 (by decide +kernel) (by decide) (by decide +kernel) rfl ?_
  refine ex_iload_n (pc' := 51) dX12_post_50 rfl rfl ?_
  refine ex_iconst (v := 0) (pc' := 52) dX12_post_51 (by decide) rfl ?_
  refine en_iast (pc' := 53) (n := 363) (jj := 40) (h2 := hh_554) dX12_post_52 (by decide +kernel) (by decide) rfl rfl ?_
  refine ex_iinc (pc' := 56) (v := 41) (ls' := [(2, .inl 41), (0, .inr (.inr (some 196))), (1, .inl 0)]) dX12_post_53 rfl (by decide) (by decide) rfl rfl ?_
  refine ex_goto (pc' := 39) dX12_post_56 (by decide) ?_
  refine ex_iload_n (pc' := 40) dX12_post_39 rfl rfl ?_
  refine ex_sipush (v := 363) (pc' := 43) dX12_post_40 (by decide) rfl ?_
  refine ex_icmp_f (pc' := 46) dX12_post_43 (by decide) (by decide) rfl ?_
  refine ex_aload_n (pc' := 47) dX12_post_46 rfl rfl ?_
  refine ex_getR (pc' := 50) (n := 39) (r := 200) dX12_post_47 fl_12_23 (by decide +kernel) (by decide) (by decide +kernel) rfl ?_
  refine ex_iload_n (pc' := 51) dX12_post_50 rfl rfl ?_
  refine ex_iconst (v := 0) (pc' := 52) dX12_post_51 (by decide) rfl ?_
  refine en_iast (pc' := 53) (n := 363) (jj := 41) (h2 := hh_555) dX12_post_52 (by decide +kernel) (by decide) rfl rfl ?_
  refine ex_iinc (pc' := 56) (v := 42) (ls' := [(2, .inl 42), (0, .inr (.inr (some 196))), (1, .inl 0)]) dX12_post_53 rfl (by decide) (by decide) rfl rfl ?_
  refine ex_goto (pc' := 39) dX12_post_56 (by decide) ?_
  refine ex_iload_n (pc' := 40) dX12_post_39 rfl rfl ?_
  refine ex_sipush (v := 363) (pc' := 43) dX12_post_40 (by decide) rfl ?_
  refine ex_icmp_f (pc' := 46) dX12_post_43 (by decide) (by decide) rfl ?_
  refine ex_aload_n (pc' := 47) dX12_post_46 rfl rfl ?_
  refine ex_getR (pc' := 50) (n := 39) (r := 200) dX12_post_47 fl_12_23 (by decide +kernel) (by decide) (by decide +kernel) rfl ?_
  refine ex_iload_n (pc' := 51) dX12_post_50 rfl rfl ?_
  refine ex_iconst (v := 0) (pc' := 52) dX12_post_51 (by decide) rfl ?_
  refine en_iast (pc' := 53) (n := 363) (jj := 42) (h2 := hh_556) dX12_post_52 (by decide +kernel) (by decide) rfl rfl ?_
  refine ex_iinc (pc' := 56) (v := 43) (ls' := [(2, .inl 43), (0, .inr (.inr (some 196))), (1, .inl 0)]) dX12_post_53 rfl (by decide) (by decide) rfl rfl ?_
  refine ex_goto (pc' := 39) dX12_post_56 (by decide) ?_
  refine ex_iload_n (pc' := 40) dX12_post_39 rfl rfl ?_
  refine ex_sipush (v := 363) (pc' := 43) dX12_post_40 (by decide) rfl ?_
  refine ex_icmp_f (pc' := 46) dX12_post_43 (by decide) (by decide) rfl ?_
  refine ex_aload_n (pc' := 47) dX12_post_46 rfl rfl ?_
  refine ex_getR (pc' := 50) (n := 39) (r := 200) dX12_post_47 fl_12_23 (by decide +kernel) (by decide) (by decide +kernel) rfl ?_
  refine ex_iload_n (pc' := 51) dX12_post_50 rfl rfl ?_
  refine ex_iconst (v := 0) (pc' := 52) dX12_post_51 (by decide) rfl ?_
  refine en_iast (pc' := 53) (n := 363) (jj := 43) (h2 := hh_557) dX12_post_52 (by decide +kernel) (by decide) rfl rfl ?_
  refine ex_iinc (pc' := 56) (v := 44) (ls' := [(2, .inl 44), (0, .inr (.inr (some 196))), (1, .inl 0)]) dX12_post_53 rfl (by decide) (by decide) rfl rfl ?_
  refine ex_goto (pc' := 39) dX12_post_56 (by decide) ?_
  refine ex_iload_n (pc' := 40) dX12_post_39 rfl rfl ?_
  refine ex_sipush (v := 363) (pc' := 43) dX12_post_40 (by decide) rfl ?_
  refine ex_icmp_f (pc' := 46) dX12_post_43 (by decide) (by decide) rfl ?_
  refine ex_aload_n (pc' := 47) dX12_post_46 rfl rfl ?_
  refine ex_getR (pc' := 50) (n := 39) (r := 200) dX12_post_47 fl_12_23 (by decide +kernel) (by decide) (by decide +kernel) rfl ?_
  refine ex_iload_n (pc' := 51) dX12_post_50 rfl rfl ?_
  refine ex_iconst (v := 0) (pc' := 52) dX12_post_51 (by decide) rfl ?_
  refine en_iast (pc' := 53) (n := 363) (jj := 44) (h2 := hh_558) dX12_post_52 (by decide +kernel) (by decide) rfl rfl ?_
  refine ex_iinc (pc' := 56) (v := 45) (ls' := [(2, .inl 45), (0, .inr (.inr (some 196))), (1, .inl 0)]) dX12_post_53 rfl (by decide) (by decide) rfl rfl ?_
  refine ex_goto (pc' := 39) dX12_post_56 (by decide) ?_
  refine ex_iload_n (pc' := 40) dX12_post_39 rfl rfl ?_
  refine ex_sipush (v := 363) (pc' := 43) dX12_post_40 (by decide) rfl ?_
  refine ex_icmp_f (pc' := 46) dX12_post_43 (by decide) (by decide) rfl ?_
  refine ex_aload_n (pc' := 47) dX12_post_46 rfl rfl ?_
  refine ex_getR (pc' := 50) (n := 39) (r := 200) dX12_post_47 fl_12_23 (by decide +kernel) (by decide) (by decide +kernel) rfl ?_
  refine ex_iload_n (pc' := 51) dX12_post_50 rfl rfl ?_
  refine ex_iconst (v := 0) (pc' := 52) dX12_post_51 (by decide) rfl ?_
  refine en_iast (pc' := 53) (n := 363) (jj := 45) (h2 := hh_559) dX12_post_52 (by decide +kernel) (by decide) rfl rfl ?_
  refine ex_iinc (pc' := 56) (v := 46) (ls' := [(2, .inl 46), (0, .inr (.inr (some 196))), (1, .inl 0)]) dX12_post_53 rfl (by decide) (by decide) rfl rfl ?_
  refine ex_goto (pc' := 39) dX12_post_56 (by decide) ?_
  refine ex_iload_n (pc' := 40) dX12_post_39 rfl rfl ?_
  refine ex_sipush (v := 363) (pc' := 43) dX12_post_40 (by decide) rfl ?_
  refine ex_icmp_f (pc' := 46) dX12_post_43 (by decide) (by decide) rfl ?_
  refine ex_aload_n (pc' := 47) dX12_post_46 rfl rfl ?_
  refine ex_getR (pc' := 50) (n := 39) (r := 200) dX12_post_47 fl_12_23 (by decide +kernel) (by decide) (by decide +kernel) rfl ?_
  refine ex_iload_n (pc' := 51) dX12_post_50 rfl rfl ?_
  refine ex_iconst (v := 0) (pc' := 52) dX12_post_51 (by decide) rfl ?_
  refine en_iast (pc' := 53) (n := 363) (jj := 46) (h2 := hh_560) dX12_post_52 (by decide +kernel) (by decide) rfl rfl ?_
  refine ex_iinc (pc' := 56) (v := 47) (ls' := [(2, .inl 47), (0, .inr (.inr (some 196))), (1, .inl 0)]) dX12_post_53 rfl (by decide) (by decide) rfl rfl ?_
  refine ex_goto (pc' := 39) dX12_post_56 (by decide) ?_
  refine ex_iload_n (pc' := 40) dX12_post_39 rfl rfl ?_
  refine ex_sipush (v := 363) (pc' := 43) dX12_post_40 (by decide) rfl ?_
  refine ex_icmp_f (pc' := 46) dX12_post_43 (by decide) (by decide) rfl ?_
  refine ex_aload_n (pc' := 47) dX12_post_46 rfl rfl ?_
  refine ex_getR (pc' := 50) (n := 39) (r := 200) dX12_post_47 fl_12_23 (by decide +kernel) (by decide) (by decide +kernel) rfl ?_
  refine ex_iload_n (pc' := 51) dX12_post_50 rfl rfl ?_
  refine ex_iconst (v := 0) (pc' := 52) dX12_post_51 (by decide) rfl ?_
  refine en_iast (pc' := 53) (n := 363) (jj := 47) (h2 := hh_561) dX12_post_52 (by decide +kernel) (by decide) rfl rfl ?_
  refine ex_iinc (pc' := 56) (v := 48) (ls' := [(2, .inl 48), (0, .inr (.inr (some 196))), (1, .inl 0)]) dX12_post_53 rfl (by decide) (by decide) rfl rfl ?_
  refine ex_goto (pc' := 39) dX12_post_56 (by decide) ?_
  refine ex_iload_n (pc' := 40) dX12_post_39 rfl rfl ?_
  refine ex_sipush (v := 363) (pc' := 43) dX12_post_40 (by decide) rfl ?_
  refine ex_icmp_f (pc' := 46) dX12_post_43 (by decide) (by decide) rfl ?_
  refine ex_aload_n (pc' := 47) dX12_post_46 rfl rfl ?_
  refine ex_getR (pc' := 50) (n := 39) (r := 200) dX12_post_47 fl_12_23 (by decide +kernel) (by decide) (by decide +kernel) rfl ?_
  refine ex_iload_n (pc' := 51) dX12_post_50 rfl rfl ?_
  refine ex_iconst (v := 0) (pc' := 52) dX12_post_51 (by decide) rfl ?_
  refine en_iast (pc' := 53) (n := 363) (jj := 48) (h2 := hh_562) dX12_post_52 (by decide +kernel) (by decide) rfl rfl ?_
  refine ex_iinc (pc' := 56) (v := 49) (ls' := [(2, .inl 49), (0, .inr (.inr (some 196))), (1, .inl 0)]) dX12_post_53 rfl (by decide) (by decide) rfl rfl ?_
  refine ex_goto (pc' := 39) dX12_post_56 (by decide) ?_
  refine ex_iload_n (pc' := 40) dX12_post_39 rfl rfl ?_
  refine ex_sipush (v := 363) (pc' := 43) dX12_post_40 (by decide) rfl ?_
  refine ex_icmp_f (pc' := 46) dX12_post_43 (by decide) (by decide) rfl ?_
  refine ex_aload_n (pc' := 47) dX12_post_46 rfl rfl ?_
  refine ex_getR (pc' := 50) (n := 39) (r := 200) dX12_post_47 fl_12_23 (by decide +kernel) (by decide) (by decide +kernel) rfl ?_
  refine ex_iload_n (pc' := 51) dX12_post_50 rfl rfl ?_
  refine ex_iconst (v := 0) (pc' := 52) dX12_post_51 (by decide) rfl ?_
  refine en_iast (pc' := 53) (n := 363) (jj := 49) (h2 := hh_563) dX12_post_52 (by decide +kernel) (by decide) rfl rfl ?_
  refine ex_iinc (pc' := 56) (v := 50) (ls' := [(2, .inl 50), (0, .inr (.inr (some 196))), (1, .inl 0)]) dX12_post_53 rfl (by decide) (by decide) rfl rfl ?_
  refine ex_goto (pc' := 39) dX12_post_56 (by decide) ?_
  refine ex_iload_n (pc' := 40) dX12_post_39 rfl rfl ?_
  refine ex_sipush (v := 363) (pc' := 43) dX12_post_40 (by decide) rfl ?_
  refine ex_icmp_f (pc' := 46) dX12_post_43 (by decide) (by decide) rfl ?_
  refine ex_aload_n (pc' := 47) dX12_post_46 rfl rfl ?_
  refine ex_getR (pc' := 50) (n := 39) (r := 200) dX12_post_47 fl_12_23 (by decide +kernel) (by decide) (by decide +kernel) rfl ?_
  refine ex_iload_n (pc' := 51) dX12_post_50 rfl rfl ?_
  refine ex_iconst (v := 0) (pc' := 52) dX12_post_51 (by decide) rfl ?_
  refine en_iast (pc' := 53) (n := 363) (jj := 50) (h2 := hh_564) dX12_post_52 (by decide +kernel) (by decide) rfl rfl ?_
  refine ex_iinc (pc' := 56) (v := 51) (ls' := [(2, .inl 51), (0, .inr (.inr (some 196))), (1, .inl 0)]) dX12_post_53 rfl (by decide) (by decide) rfl rfl ?_
  refine ex_goto (pc' := 39) dX12_post_56 (by decide) ?_
  refine ex_iload_n (pc' := 40) dX12_post_39 rfl rfl ?_
  refine ex_sipush (v := 363) (pc' := 43) dX12_post_40 (by decide) rfl ?_
  refine ex_icmp_f (pc' := 46) dX12_post_43 (by decide) (by decide) rfl ?_
  refine ex_aload_n (pc' := 47) dX12_post_46 rfl rfl ?_
  refine ex_getR (pc' := 50) (n := 39) (r := 200) dX12_post_47 fl_12_23 (by decide +kernel) (by decide) (by decide +kernel) rfl ?_
  refine ex_iload_n (pc' := 51) dX12_post_50 rfl rfl ?_
  refine ex_iconst (v := 0) (pc' := 52) dX12_post_51 (by decide) rfl ?_
  refine en_iast (pc' := 53) (n := 363) (jj := 51) (h2 := hh_565) dX12_post_52 (by decide +kernel) (by decide) rfl rfl ?_
  refine ex_iinc (pc' := 56) (v := 52) (ls' := [(2, .inl 52), (0, .inr (.inr (some 196))), (1, .inl 0)]) dX12_post_53 rfl (by decide) (by decide) rfl rfl ?_
  refine ex_goto (pc' := 39) dX12_post_56 (by decide) ?_
  refine ex_iload_n (pc' := 40) dX12_post_39 rfl rfl ?_
  refine ex_sipush (v := 363) (pc' := 43) dX12_post_40 (by decide) rfl ?_
  refine ex_icmp_f (pc' := 46) dX12_post_43 (by decide) (by decide) rfl ?_
  refine ex_aload_n (pc' := 47) dX12_post_46 rfl rfl ?_
  refine ex_getR (pc' := 50) (n := 39) (r := 200) dX12_post_47 fl_12_23 (by decide +kernel) (by decide) (by decide +kernel) rfl ?_
  refine ex_iload_n (pc' := 51) dX12_post_50 rfl rfl ?_
  refine ex_iconst (v := 0) (pc' := 52) dX12_post_51 (by decide) rfl ?_
  refine en_iast (pc' := 53) (n := 363) (jj := 52) (h2 := hh_566) dX12_post_52 (by decide +kernel) (by decide) rfl rfl ?_
  refine ex_iinc (pc' := 56) (v := 53) (ls' := [(2, .inl 53), (0, .inr (.inr (some 196))), (1, .inl 0)]) dX12_post_53 rfl (by decide) (by decide) rfl rfl ?_
  refine ex_goto (pc' := 39) dX12_post_56 (by decide) ?_
  refine ex_iload_n (pc' := 40) dX12_post_39 rfl rfl ?_
  refine ex_sipush (v := 363) (pc' := 43) dX12_post_40 (by decide) rfl ?_
  refine ex_icmp_f (pc' := 46) dX12_post_43 (by decide) (by decide) rfl ?_
  refine ex_aload_n (pc' := 47) dX12_post_46 rfl rfl ?_
  refine ex_getR (pc' := 50) (n := 39) (r := 200) dX12_post_47 fl_12_23 (by decide +kernel) (by decide) (by decide +kernel) rfl ?_
  refine ex_iload_n (pc' := 51) dX12_post_50 rfl rfl ?_
  refine ex_iconst (v := 0) (pc' := 52) dX12_post_51 (by decide) rfl ?_
  refine en_iast (pc' := 53) (n := 363) (jj := 53) (h2 := hh_567) dX12_post_52 (by decide +kernel) (by decide) rfl rfl ?_
  refine ex_iinc (pc' := 56) (v := 54) (ls' := [(2, .inl 54), (0, .inr (.inr (some 196))), (1, .inl 0)]) dX12_post_53 rfl (by decide) (by decide) rfl rfl ?_
  refine ex_goto (pc' := 39) dX12_post_56 (by decide) ?_
  refine ex_iload_n (pc' := 40) dX12_post_39 rfl rfl ?_
  refine ex_sipush (v := 363) (pc' := 43) dX12_post_40 (by decide) rfl ?_
  refine ex_icmp_f (pc' := 46) dX12_post_43 (by decide) (by decide) rfl ?_
  refine ex_aload_n (pc' := 47) dX12_post_46 rfl rfl ?_
  refine ex_getR (pc' := 50) (n := 39) (r := 200) dX12_post_47 fl_12_23 (by decide +kernel) (by decide) (by decide +kernel) rfl ?_
  refine ex_iload_n (pc' := 51) dX12_post_50 rfl rfl ?_
  refine ex_iconst (v := 0) (pc' := 52) dX12_post_51 (by decide) rfl ?_
  refine en_iast (pc' := 53) (n := 363) (jj := 54) (h2 := hh_568) dX12_post_52 (by decide +kernel) (by decide) rfl rfl ?_
  refine ex_iinc (pc' := 56) (v := 55) (ls' := [(2, .inl 55), (0, .inr (.inr (some 196))), (1, .inl 0)]) dX12_post_53 rfl (by decide) (by decide) rfl rfl ?_
  refine ex_goto (pc' := 39) dX12_post_56 (by decide) ?_
  refine ex_iload_n (pc' := 40) dX12_post_39 rfl rfl ?_
  refine ex_sipush (v := 363) (pc' := 43) dX12_post_40 (by decide) rfl ?_
  refine ex_icmp_f (pc' := 46) dX12_post_43 (by decide) (by decide) rfl ?_
  refine ex_aload_n (pc' := 47) dX12_post_46 rfl rfl ?_
  refine ex_getR (pc' := 50) (n := 39) (r := 200) dX12_post_47 fl_12_23 (by decide +kernel) (by decide) (by decide +kernel) rfl ?_
  refine ex_iload_n (pc' := 51) dX12_post_50 rfl rfl ?_
  refine ex_iconst (v := 0) (pc' := 52) dX12_post_51 (by decide) rfl ?_
  refine en_iast (pc' := 53) (n := 363) (jj := 55) (h2 := hh_569) dX12_post_52 (by decide +kernel) (by decide) rfl rfl ?_
  refine ex_iinc (pc' := 56) (v := 56) (ls' := [(2, .inl 56), (0, .inr (.inr (some 196))), (1, .inl 0)]) dX12_post_53 rfl (by decide) (by decide) rfl rfl ?_
  refine ex_goto (pc' := 39) dX12_post_56 (by decide) ?_
  refine ex_iload_n (pc' := 40) dX12_post_39 rfl rfl ?_
  refine ex_sipush (v := 363) (pc' := 43) dX12_post_40 (by decide) rfl ?_
  refine ex_icmp_f (pc' := 46) dX12_post_43 (by decide) (by decide) rfl ?_
  refine ex_aload_n (pc' := 47) dX12_post_46 rfl rfl ?_
  refine ex_getR (pc' := 50) (n := 39) (r := 200) dX12_post_47 fl_12_23 (by decide +kernel) (by decide) (by decide +kernel) rfl ?_
  refine ex_iload_n (pc' := 51) dX12_post_50 rfl rfl ?_
  refine ex_iconst (v := 0) (pc' := 52) dX12_post_51 (by decide) rfl ?_
  refine en_iast (pc' := 53) (n := 363) (jj := 56) (h2 := hh_570) dX12_post_52 (by decide +kernel) (by decide) rfl rfl ?_
  refine ex_iinc (pc' := 56) (v := 57) (ls' := [(2, .inl 57), (0, .inr (.inr (some 196))), (1, .inl 0)]) dX12_post_53 rfl (by decide) (by decide) rfl rfl ?_
  refine ex_goto (pc' := 39) dX12_post_56 (by decide) ?_
  refine ex_iload_n (pc' := 40) dX12_post_39 rfl rfl ?_
  refine ex_sipush (v := 363) (pc' := 43) dX12_post_40 (by decide) rfl ?_
  refine ex_icmp_f (pc' := 46) dX12_post_43 (by decide) (by decide) rfl ?_
  refine ex_aload_n (pc' := 47) dX12_post_46 rfl rfl ?_
  refine ex_getR (pc' := 50) (n := 39) (r := 200) dX12_post_47 fl_12_23 (by decide +kernel) (by decide) (by decide +kernel) rfl ?_
  refine ex_iload_n (pc' := 51) dX12_post_50 rfl rfl ?_
  refine ex_iconst (v := 0) (pc' := 52) dX12_post_51 (by decide) rfl ?_
  refine en_iast (pc' := 53) (n := 363) (jj := 57) (h2 := hh_571) dX12_post_52 (by decide +kernel) (by decide) rfl rfl ?_
  refine ex_iinc (pc' := 56) (v := 58) (ls' := [(2, .inl 58), (0, .inr (.inr (some 196))), (1, .inl 0)]) dX12_post_53 rfl (by decide) (by decide) rfl rfl ?_
  refine ex_goto (pc' := 39) dX12_post_56 (by decide) ?_
  refine ex_iload_n (pc' := 40) dX12_post_39 rfl rfl ?_
  refine ex_sipush (v := 363) (pc' := 43) dX12_post_40 (by decide) rfl ?_
  refine ex_icmp_f (pc' := 46) dX12_post_43 (by decide) (by decide) rfl ?_
  refine ex_aload_n (pc' := 47) dX12_post_46 rfl rfl ?_
  refine ex_getR (pc' := 50) (n := 39) (r := 200) dX12_post_47 fl_12_23 (by decide +kernel) (by decide) (by decide +kernel) rfl ?_
  refine ex_iload_n (pc' := 51) dX12_post_50 rfl rfl ?_
  refine ex_iconst (v := 0) (pc' := 52) dX12_post_51 (by decide) rfl ?_
  refine en_iast (pc' := 53) (n := 363) (jj := 58) (h2 := hh_572) dX12_post_52 (by decide +kernel) (by decide) rfl rfl ?_
  refine ex_iinc (pc' := 56) (v := 59) (ls' := [(2, .inl 59), (0, .inr (.inr (some 196))), (1, .inl 0)]) dX12_post_53 rfl (by decide) (by decide) rfl rfl ?_
  refine ex_goto (pc' := 39) dX12_post_56 (by decide) ?_
  refine ex_iload_n (pc' := 40) dX12_post_39 rfl rfl ?_
  refine ex_sipush (v := 363) (pc' := 43) dX12_post_40 (by decide) rfl ?_
  refine ex_icmp_f (pc' := 46) dX12_post_43 (by decide) (by decide) rfl ?_
  refine ex_aload_n (pc' := 47) dX12_post_46 rfl rfl ?_
  refine ex_getR (pc' := 50) (n := 39) (r := 200) dX12_post_47 fl_12_23 (by decide +kernel) (by decide) (by decide +kernel) rfl ?_
  refine ex_iload_n (pc' := 51) dX12_post_50 rfl rfl ?_
  refine ex_iconst (v := 0) (pc' := 52) dX12_post_51 (by decide) rfl ?_
  refine en_iast (pc' := 53) (n := 363) (jj := 59) (h2 := hh_573) dX12_post_52 (by decide +kernel) (by decide) rfl rfl ?_
  refine ex_iinc (pc' := 56) (v := 60) (ls' := [(2, .inl 60), (0, .inr (.inr (some 196))), (1, .inl 0)]) dX12_post_53 rfl (by decide) (by decide) rfl rfl ?_
  refine ex_goto (pc' := 39) dX12_post_56 (by decide) ?_
  refine ex_iload_n (pc' := 40) dX12_post_39 rfl rfl ?_
  refine ex_sipush (v := 363) (pc' := 43) dX12_post_40 (by decide) rfl ?_
  refine ex_icmp_f (pc' := 46) dX12_post_43 (by decide) (by decide) rfl ?_
  refine ex_aload_n (pc' := 47) dX12_post_46 rfl rfl ?_
  refine ex_getR (pc' := 50) (n := 39) (r := 200) dX12_post_47 fl_12_23 (by decide +kernel) (by decide) (by decide +kernel) rfl ?_
  refine ex_iload_n (pc' := 51) dX12_post_50 rfl rfl ?_
  refine ex_iconst (v := 0) (pc' := 52) dX12_post_51 (by decide) rfl ?_
  refine en_iast (pc' := 53) (n := 363) (jj := 60) (h2 := hh_574) dX12_post_52 (by decide +kernel) (by decide) rfl rfl ?_
  refine ex_iinc (pc' := 56) (v := 61) (ls' := [(2, .inl 61), (0, .inr (.inr (some 196))), (1, .inl 0)]) dX12_post_53 rfl (by decide) (by decide) rfl rfl ?_
  refine ex_goto (pc' := 39) dX12_post_56 (by decide) ?_
  refine ex_iload_n (pc' := 40) dX12_post_39 rfl rfl ?_
  refine ex_sipush (v := 363) (pc' := 43) dX12_post_40 (by decide) rfl ?_
  refine ex_icmp_f (pc' := 46) dX12_post_43 (by decide) (by decide) rfl ?_
  refine ex_aload_n (pc' := 47) dX12_post_46 rfl rfl ?_
  refine ex_getR (pc' := 50) (n := 39) (r := 200) dX12_post_47 fl_12_23 (by decide +kernel) (by decide) (by decide +kernel) rfl ?_
  refine ex_iload_n (pc' := 51) dX12_post_50 rfl rfl ?_
  refine ex_iconst (v := 0) (pc' := 52) dX12_post_51 (by decide) rfl ?_
  refine en_iast (pc' := 53) (n := 363) (jj := 61) (h2 := hh_575) dX12_post_52 (by decide +kernel) (by decide) rfl rfl ?_
  refine ex_iinc (pc' := 56) (v := 62) (ls' := [(2, .inl 62), (0, .inr (.inr (some 196))), (1, .inl 0)]) dX12_post_53 rfl (by decide) (by decide) rfl rfl ?_
  refine ex_goto (pc' := 39) dX12_post_56 (by decide) ?_
  refine ex_iload_n (pc' := 40) dX12_post_39 rfl rfl ?_
  refine ex_sipush (v := 363) (pc' := 43) dX12_post_40 (by decide) rfl ?_
  refine ex_icmp_f (pc' := 46) dX12_post_43 (by decide) (by decide) rfl ?_
  refine ex_aload_n (pc' := 47) dX12_post_46 rfl rfl ?_
  refine ex_getR (pc' := 50) (n := 39) (r := 200) dX12_post_47 fl_12_23 (by decide +kernel) (by decide) (by decide +kernel) rfl ?_
  refine ex_iload_n (pc' := 51) dX12_post_50 rfl rfl ?_
  refine ex_iconst (v := 0) (pc' := 52) dX12_post_51 (by decide) rfl ?_
  refine en_iast (pc' := 53) (n := 363) (jj := 62) (h2 := hh_576) dX12_post_52 (by decide +kernel) (by decide) rfl rfl ?_
  refine ex_iinc (pc' := 56) (v := 63) (ls' := [(2, .inl 63), (0, .inr (.inr (some 196))), (1, .inl 0)]) dX12_post_53 rfl (by decide) (by decide) rfl rfl ?_
  refine ex_goto (pc' := 39) dX12_post_56 (by decide) ?_
  refine ex_iload_n (pc' := 40) dX12_post_39 rfl rfl ?_
  refine ex_sipush (v := 363) (pc' := 43) dX12_post_40 (by decide) rfl ?_
  refine ex_icmp_f (pc' := 46) dX12_post_43 (by decide) (by decide) rfl ?_
  refine ex_aload_n (pc' := 47) dX12_post_46 rfl rfl ?_
  refine ex_getR (pc' := 50) (n := 39) (r := 200) dX12_post_47 fl_12_23 (by decide +kernel) (by decide) (by decide +kernel) rfl ?_
  refine ex_iload_n (pc' := 51) dX12_post_50 rfl rfl ?_
  refine ex_iconst (v := 0) (pc' := 52) dX12_post_51 (by decide) rfl ?_
  refine en_iast (pc' := 53) (n := 363) (jj := 63) (h2 := hh_577) dX12_post_52 (by decide +kernel) (by decide) rfl rfl ?_
  refine ex_iinc (pc' := 56) (v := 64) (ls' := [(2, .inl 64), (0, .inr (.inr (some 196))), (1, .inl 0)]) dX12_post_53 rfl (by decide) (by decide) rfl rfl ?_
  refine ex_goto (pc' := 39) dX12_post_56 (by decide) ?_
  refine ex_iload_n (pc' := 40) dX12_post_39 rfl rfl ?_
  refine ex_sipush (v := 363) (pc' := 43) dX12_post_40 (by decide) rfl ?_
  refine ex_icmp_f (pc' := 46) dX12_post_43 (by decide) (by decide) rfl ?_
  refine ex_aload_n (pc' := 47) dX12_post_46 rfl rfl ?_
  refine ex_getR (pc' := 50) (n := 39) (r := 200) dX12_post_47 fl_12_23 (by decide +kernel) (by decide) (by decide +kernel) rfl ?_
  refine ex_iload_n (pc' := 51) dX12_post_50 rfl rfl ?_
  refine ex_iconst (v := 0) (pc' := 52) dX12_post_51 (by decide) rfl ?_
  refine en_iast (pc' := 53) (n := 363) (jj := 64) (h2 := hh_578) dX12_post_52 (by decide +kernel) (by decide) rfl rfl ?_
  refine ex_iinc (pc' := 56) (v := 65) (ls' := [(2, .inl 65), (0, .inr (.inr (some 196))), (1, .inl 0)]) dX12_post_53 rfl (by decide) (by decide) rfl rfl ?_
  refine ex_goto (pc' := 39) dX12_post_56 (by decide) ?_
  refine ex_iload_n (pc' := 40) dX12_post_39 rfl rfl ?_
  refine ex_sipush (v := 363) (pc' := 43) dX12_post_40 (by decide) rfl ?_
  refine ex_icmp_f (pc' := 46) dX12_post_43 (by decide) (by decide) rfl ?_
  refine ex_aload_n (pc' := 47) dX12_post_46 rfl rfl ?_
  refine ex_getR (pc' := 50) (n := 39) (r := 200) dX12_post_47 fl_12_23 (by decide +kernel) (by decide) (by decide +kernel) rfl ?_
  refine ex_iload_n (pc' := 51) dX12_post_50 rfl rfl ?_
  refine ex_iconst (v := 0) (pc' := 52) dX12_post_51 (by decide) rfl ?_
  refine en_iast (pc' := 53) (n := 363) (jj := 65) (h2 := hh_579) dX12_post_52 (by decide +kernel) (by decide) rfl rfl ?_
  refine ex_iinc (pc' := 56) (v := 66) (ls' := [(2, .inl 66), (0, .inr (.inr (some 196))), (1, .inl 0)]) dX12_post_53 rfl (by decide) (by decide) rfl rfl ?_
  refine ex_goto (pc' := 39) dX12_post_56 (by decide) ?_
  refine ex_iload_n (pc' := 40) dX12_post_39 rfl rfl ?_
  refine ex_sipush (v := 363) (pc' := 43) dX12_post_40 (by decide) rfl ?_
  refine ex_icmp_f (pc' := 46) dX12_post_43 (by decide) (by decide) rfl ?_
  refine ex_aload_n (pc' := 47) dX12_post_46 rfl rfl ?_
  refine ex_getR (pc' := 50) (n := 39) (r := 200) dX12_post_47 fl_12_23 (by decide +kernel) (by decide) (by decide +kernel) rfl ?_
  refine ex_iload_n (pc' := 51) dX12_post_50 rfl rfl ?_
  refine ex_iconst (v := 0) (pc' := 52) dX12_post_51 (by decide) rfl ?_
  refine en_iast (pc' := 53) (n := 363) (jj := 66) (h2 := hh_580) dX12_post_52 (by decide +kernel) (by decide) rfl rfl ?_
  refine ex_iinc (pc' := 56) (v := 67) (ls' := [(2, .inl 67), (0, .inr (.inr (some 196))), (1, .inl 0)]) dX12_post_53 rfl (by decide) (by decide) rfl rfl ?_
  refine ex_goto (pc' := 39) dX12_post_56 (by decide) ?_
  refine ex_iload_n (pc' := 40) dX12_post_39 rfl rfl ?_
  refine ex_sipush (v := 363) (pc' := 43) dX12_post_40 (by decide) rfl ?_
  refine ex_icmp_f (pc' := 46) dX12_post_43 (by decide) (by decide) rfl ?_
  refine ex_aload_n (pc' := 47) dX12_post_46 rfl rfl ?_
  refine ex_getR (pc' := 50) (n := 39) (r := 200) dX12_post_47 fl_12_23 (by decide +kernel) (by decide) (by decide +kernel) rfl ?_
  refine ex_iload_n (pc' := 51) dX12_post_50 rfl rfl ?_
  refine ex_iconst (v := 0) (pc' := 52) dX12_post_51 (by decide) rfl ?_
  refine en_iast (pc' := 53) (n := 363) (jj := 67) (h2 := hh_581) dX12_post_52 (by decide +kernel) (by decide) rfl rfl ?_
  refine ex_iinc (pc' := 56) (v := 68) (ls' := [(2, .inl 68), (0, .inr (.inr (some 196))), (1, .inl 0)]) dX12_post_53 rfl (by decide) (by decide) rfl rfl ?_
  refine ex_goto (pc' := 39) dX12_post_56 (by decide) ?_
  refine ex_iload_n (pc' := 40) dX12_post_39 rfl rfl ?_
  refine ex_sipush (v := 363) (pc' := 43) dX12_post_40 (by decide) rfl ?_
  refine ex_icmp_f (pc' := 46) dX12_post_43 (by decide) (by decide) rfl ?_
  refine ex_aload_n (pc' := 47) dX12_post_46 rfl rfl ?_
  refine ex_getR (pc' := 50) (n := 39) (r := 200) dX12_post_47 fl_12_23 (by decide +kernel) (by decide) (by decide +kernel) rfl ?_
  refine ex_iload_n (pc' := 51) dX12_post_50 rfl rfl ?_
  refine ex_iconst (v := 0) (pc' := 52) dX12_post_51 (by decide) rfl ?_
  refine en_iast (pc' := 53) (n := 363) (jj := 68) (h2 := hh_582) dX12_post_52 (by decide +kernel) (by decide) rfl rfl ?_
  refine ex_iinc (pc' := 56) (v := 69) (ls' := [(2, .inl 69), (0, .inr (.inr (some 196))), (1, .inl 0)]) dX12_post_53 rfl (by decide) (by decide) rfl rfl ?_
  refine ex_goto (pc' := 39) dX12_post_56 (by decide) ?_
  refine ex_iload_n (pc' := 40) dX12_post_39 rfl rfl ?_
  refine ex_sipush (v := 363) (pc' := 43) dX12_post_40 (by decide) rfl ?_
  refine ex_icmp_f (pc' := 46) dX12_post_43 (by decide) (by decide) rfl ?_
  refine ex_aload_n (pc' := 47) dX12_post_46 rfl rfl ?_
  refine ex_getR (pc' := 50) (n := 39) (r := 200) dX12_post_47 fl_12_23 (by decide +kernel) (by decide) (by decide +kernel) rfl ?_
  refine ex_iload_n (pc' := 51) dX12_post_50 rfl rfl ?_
  refine ex_iconst (v := 0) (pc' := 52) dX12_post_51 (by decide) rfl ?_
  refine en_iast (pc' := 53) (n := 363) (jj := 69) (h2 := hh_583) dX12_post_52 (by decide +kernel) (by decide) rfl rfl ?_
  refine ex_iinc (pc' := 56) (v := 70) (ls' := [(2, .inl 70), (0, .inr (.inr (some 196))), (1, .inl 0)]) dX12_post_53 rfl (by decide) (by decide) rfl rfl ?_
  refine ex_goto (pc' := 39) dX12_post_56 (by decide) ?_
  refine ex_iload_n (pc' := 40) dX12_post_39 rfl rfl ?_
  refine ex_sipush (v := 363) (pc' := 43) dX12_post_40 (by decide) rfl ?_
  refine ex_icmp_f (pc' := 46) dX12_post_43 (by decide) (by decide) rfl ?_
  refine ex_aload_n (pc' := 47) dX12_post_46 rfl rfl ?_
  refine ex_getR (pc' := 50) (n := 39) (r := 200) dX12_post_47 fl_12_23 (by decide +kernel) (by decide) (by decide +kernel) rfl ?_
  refine ex_iload_n (pc' := 51) dX12_post_50 rfl rfl ?_
  refine ex_iconst (v := 0) (pc' := 52) dX12_post_51 (by decide) rfl ?_
  refine en_iast (pc' := 53) (n := 363) (jj := 70) (h2 := hh_584) dX12_post_52 (by decide +kernel) (by decide) rfl rfl ?_
  refine ex_iinc (pc' := 56) (v := 71) (ls' := [(2, .inl 71), (0, .inr (.inr (some 196))), (1, .inl 0)]) dX12_post_53 rfl (by decide) (by decide) rfl rfl ?_
  refine ex_goto (pc' := 39) dX12_post_56 (by decide) ?_
  refine ex_iload_n (pc' := 40) dX12_post_39 rfl rfl ?_
  refine ex_sipush (v := 363) (pc' := 43) dX12_post_40 (by decide) rfl ?_
  refine ex_icmp_f (pc' := 46) dX12_post_43 (by decide) (by decide) rfl ?_
  refine ex_aload_n (pc' := 47) dX12_post_46 rfl rfl ?_
  refine ex_getR (pc' := 50) (n := 39) (r := 200) dX12_post_47 fl_12_23 (by decide +kernel) (by decide) (by decide +kernel) rfl ?_
  refine ex_iload_n (pc' := 51) dX12_post_50 rfl rfl ?_
  refine ex_iconst (v := 0) (pc' := 52) dX12_post_51 (by decide) rfl ?_
  refine en_iast (pc' := 53) (n := 363) (jj := 71) (h2 := hh_585) dX12_post_52 (by decide +kernel) (by decide) rfl rfl ?_
  refine ex_iinc (pc' := 56) (v := 72) (ls' := [(2, .inl 72), (0, .inr (.inr (some 196))), (1, .inl 0)]) dX12_post_53 rfl (by decide) (by decide) rfl rfl ?_
  refine ex_goto (pc' := 39) dX12_post_56 (by decide) ?_
  refine ex_iload_n (pc' := 40) dX12_post_39 rfl rfl ?_
  refine ex_sipush (v := 363) (pc' := 43) dX12_post_40 (by decide) rfl ?_
  refine ex_icmp_f (pc' := 46) dX12_post_43 (by decide) (by decide) rfl ?_
  refine ex_aload_n (pc' := 47) dX12_post_46 rfl rfl ?_
  refine ex_getR (pc' := 50) (n := 39) (r := 200) dX12_post_47 fl_12_23 (by decide +kernel) (by decide) (by decide +kernel) rfl ?_
  refine ex_iload_n (pc' := 51) dX12_post_50 rfl rfl ?_
  refine ex_iconst (v := 0) (pc' := 52) dX12_post_51 (by decide) rfl ?_
  refine en_iast (pc' := 53) (n := 363) (jj := 72) (h2 := hh_586) dX12_post_52 (by decide +kernel) (by decide) rfl rfl ?_
  refine ex_iinc (pc' := 56) (v := 73) (ls' := [(2, .inl 73), (0, .inr (.inr (some 196))), (1, .inl 0)]) dX12_post_53 rfl (by decide) (by decide) rfl rfl ?_
  refine ex_goto (pc' := 39) dX12_post_56 (by decide) ?_
  refine ex_iload_n (pc' := 40) dX12_post_39 rfl rfl ?_
  refine ex_sipush (v := 363) (pc' := 43) dX12_post_40 (by decide) rfl ?_
  refine ex_icmp_f (pc' := 46) dX12_post_43 (by decide) (by decide) rfl ?_
  refine ex_aload_n (pc' := 47) dX12_post_46 rfl rfl ?_
  refine ex_getR (pc' := 50) (n := 39) (r := 200) dX12_post_47 fl_12_23 (by decide +kernel) (by decide) (by decide +kernel) rfl ?_
  refine ex_iload_n (pc' := 51) dX12_post_50 rfl rfl ?_
  refine ex_iconst (v := 0) (pc' := 52) dX12_post_51 (by decide) rfl ?_
  refine en_iast (pc' := 53) (n := 363) (jj := 73) (h2 := hh_587) dX12_post_52 (by decide +kernel) (by decide) rfl rfl ?_
  refine ex_iinc (pc' := 56) (v := 74) (ls' := [(2, .inl 74), (0, .inr (.inr (some 196))), (1, .inl 0)]) dX12_post_53 rfl (by decide) (by decide) rfl rfl ?_
  refine ex_goto (pc' := 39) dX12_post_56 (by decide) ?_
  refine ex_iload_n (pc' := 40) dX12_post_39 rfl rfl ?_
  refine ex_sipush (v := 363) (pc' := 43) dX12_post_40 (by decide) rfl ?_
  refine ex_icmp_f (pc' := 46) dX12_post_43 (by decide) (by decide) rfl ?_
  refine ex_aload_n (pc' := 47) dX12_post_46 rfl rfl ?_
  refine ex_getR (pc' := 50) (n := 39) (r := 200) dX12_post_47 fl_12_23 (by decide +kernel) (by decide) (by decide +kernel) rfl ?_
  refine ex_iload_n (pc' := 51) dX12_post_50 rfl rfl ?_
  refine ex_iconst (v := 0) (pc' := 52) dX12_post_51 (by decide) rfl ?_
  refine en_iast (pc' := 53) (n := 363) (jj := 74) (h2 := hh_588) dX12_post_52 (by decide +kernel) (by decide) rfl rfl ?_
  refine ex_iinc (pc' := 56) (v := 75) (ls' := [(2, .inl 75), (0, .inr (.inr (some 196))), (1, .inl 0)]) dX12_post_53 rfl (by decide) (by decide) rfl rfl ?_
  refine ex_goto (pc' := 39) dX12_post_56 (by decide) ?_
  refine ex_iload_n (pc' := 40) dX12_post_39 rfl rfl ?_
  refine ex_sipush (v := 363) (pc' := 43) dX12_post_40 (by decide) rfl ?_
  refine ex_icmp_f (pc' := 46) dX12_post_43 (by decide) (by decide) rfl ?_
  refine ex_aload_n (pc' := 47) dX12_post_46 rfl rfl ?_
  refine ex_getR (pc' := 50) (n := 39) (r := 200) dX12_post_47 fl_12_23 (by decide +kernel) (by decide) (by decide +kernel) rfl ?_
  refine ex_iload_n (pc' := 51) dX12_post_50 rfl rfl ?_
  refine ex_iconst (v := 0) (pc' := 52) dX12_post_51 (by decide) rfl ?_
  refine en_iast (pc' := 53) (n := 363) (jj := 75) (h2 := hh_589) dX12_post_52 (by decide +kernel) (by decide) rfl rfl ?_
  refine ex_iinc (pc' := 56) (v := 76) (ls' := [(2, .inl 76), (0, .inr (.inr (some 196))), (1, .inl 0)]) dX12_post_53 rfl (by decide) (by decide) rfl rfl ?_
  refine ex_goto (pc' := 39) dX12_post_56 (by decide) ?_
  refine ex_iload_n (pc' := 40) dX12_post_39 rfl rfl ?_
  refine ex_sipush (v := 363) (pc' := 43) dX12_post_40 (by decide) rfl ?_
  refine ex_icmp_f (pc' := 46) dX12_post_43 (by decide) (by decide) rfl ?_
  refine ex_aload_n (pc' := 47) dX12_post_46 rfl rfl ?_
  refine ex_getR (pc' := 50) (n := 39) (r := 200) dX12_post_47 fl_12_23 (by decide +kernel) (by decide) (by decide +kernel) rfl ?_
  refine ex_iload_n (pc' := 51) dX12_post_50 rfl rfl ?_
  refine ex_iconst (v := 0) (pc' := 52) dX12_post_51 (by decide) rfl ?_
  refine en_iast (pc' := 53) (n := 363) (jj := 76) (h2 := hh_590) dX12_post_52 (by decide +kernel) (by decide) rfl rfl ?_
  refine ex_iinc (pc' := 56) (v := 77) (ls' := [(2, .inl 77), (0, .inr (.inr (some 196))), (1, .inl 0)]) dX12_post_53 rfl (by decide) (by decide) rfl rfl ?_
  refine ex_goto (pc' := 39) dX12_post_56 (by decide) ?_
  refine ex_iload_n (pc' := 40) dX12_post_39 rfl rfl ?_
  refine ex_sipush (v := 363) (pc' := 43) dX12_post_40 (by decide) rfl ?_
  refine ex_icmp_f (pc' := 46) dX12_post_43 (by decide) (by decide) rfl ?_
  refine ex_aload_n (pc' := 47) dX12_post_46 rfl rfl ?_
  refine ex_getR (pc' := 50) (n := 39) (r := 200) dX12_post_47 fl_12_23 (by decide +kernel) (by decide) (by decide +kernel) rfl ?_
  refine ex_iload_n (pc' := 51) dX12_post_50 rfl rfl ?_
  refine ex_iconst (v := 0) (pc' := 52) dX12_post_51 (by decide) rfl ?_
  refine en_iast (pc' := 53) (n := 363) (jj := 77) (h2 := hh_591) dX12_post_52 (by decide +kernel) (by decide) rfl rfl ?_
  refine ex_iinc (pc' := 56) (v := 78) (ls' := [(2, .inl 78), (0, .inr (.inr (some 196))), (1, .inl 0)]) dX12_post_53 rfl (by decide) (by decide) rfl rfl ?_
  refine ex_goto (pc' := 39) dX12_post_56 (by decide) ?_
  refine ex_iload_n (pc' := 40) dX12_post_39 rfl rfl ?_
  refine ex_sipush (v := 363) (pc' := 43) dX12_post_40 (by decide) rfl ?_
  refine ex_icmp_f (pc' := 46) dX12_post_43 (by decide) (by decide) rfl ?_
  refine ex_aload_n (pc' := 47) dX12_post_46 rfl rfl ?_
  refine ex_getR (pc' := 50) (n := 39) (r := 200) dX12_post_47 fl_12_23 (by decide +kernel) (by decide) (by decide +kernel) rfl ?_
  refine ex_iload_n (pc' := 51) dX12_post_50 rfl rfl ?_
  refine ex_iconst (v := 0) (pc' := 52) dX12_post_51 (by decide) rfl ?_
  refine en_iast (pc' := 53) (n := 363) (jj := 78) (h2 := hh_592) dX12_post_52 (by decide +kernel) (by decide) rfl rfl ?_
  refine ex_iinc (pc' := 56) (v := 79) (ls' := [(2, .inl 79), (0, .inr (.inr (some 196))), (1, .inl 0)]) dX12_post_53 rfl (by decide) (by decide) rfl rfl ?_
  refine ex_goto (pc' := 39) dX12_post_56 (by decide) ?_
  refine ex_iload_n (pc' := 40) dX12_post_39 rfl rfl ?_
  refine ex_sipush (v := 363) (pc' := 43) dX12_post_40 (by decide) rfl ?_
  refine ex_icmp_f (pc' := 46) dX12_post_43 (by decide) (by decide) rfl ?_
  refine ex_aload_n (pc' := 47) dX12_post_46 rfl rfl ?_
  refine ex_getR (pc' := 50) (n := 39) (r := 200) dX12_post_47 fl_12_23 (by decide +kernel) (by decide) (by decide +kernel) rfl ?_
  refine ex_iload_n (pc' := 51) dX12_post_50 rfl rfl ?_
  refine ex_iconst (v := 0) (pc' := 52) dX12_post_51 (by decide) rfl ?_
  refine en_iast (pc' := 53) (n := 363) (jj := 79) (h2 := hh_593) dX12_post_52 (by decide +kernel) (by decide) rfl rfl ?_
  refine ex_iinc (pc' := 56) (v := 80) (ls' := [(2, .inl 80), (0, .inr (.inr (some 196))), (1, .inl 0)]) dX12_post_53 rfl (by decide) (by decide) rfl rfl ?_
  refine ex_goto (pc' := 39) dX12_post_56 (by decide) ?_
  refine ex_iload_n (pc' := 40) dX12_post_39 rfl rfl ?_
  refine ex_sipush (v := 363) (pc' := 43) dX12_post_40 (by decide) rfl ?_
  refine ex_icmp_f (pc' := 46) dX12_post_43 (by decide) (by decide) rfl ?_
  refine ex_aload_n (pc' := 47) dX12_post_46 rfl rfl ?_
  refine ex_getR (pc' := 50) (n := 39) (r := 200) dX12_post_47 fl_12_23 (by decide +kernel) (by decide) (by decide +kernel) rfl ?_
  refine ex_iload_n (pc' := 51) dX12_post_50 rfl rfl ?_
  refine ex_iconst (v := 0) (pc' := 52) dX12_post_51 (by decide) rfl ?_
  refine en_iast (pc' := 53) (n := 363) (jj := 80) (h2 := hh_594) dX12_post_52 (by decide +kernel) (by decide) rfl rfl ?_
  refine ex_iinc (pc' := 56) (v := 81) (ls' := [(2, .inl 81), (0, .inr (.inr (some 196))), (1, .inl 0)]) dX12_post_53 rfl (by decide) (by decide) rfl rfl ?_
  refine ex_goto (pc' := 39) dX12_post_56 (by decide) ?_
  refine ex_iload_n (pc' := 40) dX12_post_39 rfl rfl ?_
  refine ex_sipush (v := 363) (pc' := 43) dX12_post_40 (by decide) rfl ?_
  refine ex_icmp_f (pc' := 46) dX12_post_43 (by decide) (by decide) rfl ?_
  refine ex_aload_n (pc' := 47) dX12_post_46 rfl rfl ?_
  refine ex_getR (pc' := 50) (n := 39) (r := 200) dX12_post_47 fl_12_23 (by decide +kernel) (by decide) (by decide +kernel) rfl ?_
  refine ex_iload_n (pc' := 51) dX12_post_50 rfl rfl ?_
  refine ex_iconst (v := 0) (pc' := 52) dX12_post_51 (by decide) rfl ?_
  refine en_iast (pc' := 53) (n := 363) (jj := 81) (h2 := hh_595) dX12_post_52 (by decide +kernel) (by decide) rfl rfl ?_
  refine ex_iinc (pc' := 56) (v := 82) (ls' := [(2, .inl 82), (0, .inr (.inr (some 196))), (1, .inl 0)]) dX12_post_53 rfl (by decide) (by decide) rfl rfl ?_
  refine ex_goto (pc' := 39) dX12_post_56 (by decide) ?_
  refine ex_iload_n (pc' := 40) dX12_post_39 rfl rfl ?_
  refine ex_sipush (v := 363) (pc' := 43) dX12_post_40 (by decide) rfl ?_
  refine ex_icmp_f (pc' := 46) dX12_post_43 (by decide) (by decide) rfl ?_
  refine ex_aload_n (pc' := 47) dX12_post_46 rfl rfl ?_
  refine ex_getR (pc' := 50) (n := 39) (r := 200) dX12_post_47 fl_12_23 (by decide +kernel) (by decide) (by decide +kernel) rfl ?_
  refine ex_iload_n (pc' := 51) dX12_post_50 rfl rfl ?_
  refine ex_iconst (v := 0) (pc' := 52) dX12_post_51 (by decide) rfl ?_
  refine en_iast (pc' := 53) (n := 363) (jj := 82) (h2 := hh_596) dX12_post_52 (by decide +kernel) (by decide) rfl rfl ?_
  refine ex_iinc (pc' := 56) (v := 83) (ls' := [(2, .inl 83), (0, .inr (.inr (some 196))), (1, .inl 0)]) dX12_post_53 rfl (by decide) (by decide) rfl rfl ?_
  refine ex_goto (pc' := 39) dX12_post_56 (by decide) ?_
  refine ex_iload_n (pc' := 40) dX12_post_39 rfl rfl ?_
  refine ex_sipush (v := 363) (pc' := 43) dX12_post_40 (by decide) rfl ?_
  refine ex_icmp_f (pc' := 46) dX12_post_43 (by decide) (by decide) rfl ?_
  refine ex_aload_n (pc' := 47) dX12_post_46 rfl rfl ?_
  refine ex_getR (pc' := 50) (n := 39) (r := 200) dX12_post_47 fl_12_23 (by decide +kernel) (by decide) (by decide +kernel) rfl ?_
  refine ex_iload_n (pc' := 51) dX12_post_50 rfl rfl ?_
  refine ex_iconst (v := 0) (pc' := 52) dX12_post_51 (by decide) rfl ?_
  refine en_iast (pc' := 53) (n := 363) (jj := 83) (h2 := hh_597) dX12_post_52 (by decide +kernel) (by decide) rfl rfl ?_
  refine ex_iinc (pc' := 56) (v := 84) (ls' := [(2, .inl 84), (0, .inr (.inr (some 196))), (1, .inl 0)]) dX12_post_53 rfl (by decide) (by decide) rfl rfl ?_
  refine ex_goto (pc' := 39) dX12_post_56 (by decide) ?_
  refine ex_iload_n (pc' := 40) dX12_post_39 rfl rfl ?_
  refine ex_sipush (v := 363) (pc' := 43) dX12_post_40 (by decide) rfl ?_
  refine ex_icmp_f (pc' := 46) dX12_post_43 (by decide) (by decide) rfl ?_
  refine ex_aload_n (pc' := 47) dX12_post_46 rfl rfl ?_
  refine ex_getR (pc' := 50) (n := 39) (r := 200) dX12_post_47 fl_12_23 (by decide +kernel) (by decide) (by decide +kernel) rfl ?_
  refine ex_iload_n (pc' := 51) dX12_post_50 rfl rfl ?_
  refine ex_iconst (v := 0) (pc' := 52) dX12_post_51 (by decide) rfl ?_
  refine en_iast (pc' := 53) (n := 363) (jj := 84) (h2 := hh_598) dX12_post_52 (by decide +kernel) (by decide) rfl rfl ?_
  refine ex_iinc (pc' := 56) (v := 85) (ls' := [(2, .inl 85), (0, .inr (.inr (some 196))), (1, .inl 0)]) dX12_post_53 rfl (by decide) (by decide) rfl rfl ?_
  refine ex_goto (pc' := 39) dX12_post_56 (by decide) ?_
  refine ex_iload_n (pc' := 40) dX12_post_39 rfl rfl ?_
  refine ex_sipush (v := 363) (pc' := 43) dX12_post_40 (by decide) rfl ?_
  refine ex_icmp_f (pc' := 46) dX12_post_43 (by decide) (by decide) rfl ?_
  refine ex_aload_n (pc' := 47) dX12_post_46 rfl rfl ?_
  refine ex_getR (pc' := 50) (n := 39) (r := 200) dX12_post_47 fl_12_23 (by decide +kernel) (by decide) (by decide +kernel) rfl ?_
  refine ex_iload_n (pc' := 51) dX12_post_50 rfl rfl ?_
  refine ex_iconst (v := 0) (pc' := 52) dX12_post_51 (by decide) rfl ?_
  refine en_iast (pc' := 53) (n := 363) (jj := 85) (h2 := hh_599) dX12_post_52 (by decide +kernel) (by decide) rfl rfl ?_
  refine ex_iinc (pc' := 56) (v := 86) (ls' := [(2, .inl 86), (0, .inr (.inr (some 196))), (1, .inl 0)]) dX12_post_53 rfl (by decide) (by decide) rfl rfl ?_
  refine ex_goto (pc' := 39) dX12_post_56 (by decide) ?_
  refine ex_iload_n (pc' := 40) dX12_post_39 rfl rfl ?_
  refine ex_sipush (v := 363) (pc' := 43) dX12_post_40 (by decide) rfl ?_
  refine ex_icmp_f (pc' := 46) dX12_post_43 (by decide) (by decide) rfl ?_
  refine ex_aload_n (pc' := 47) dX12_post_46 rfl rfl ?_
  refine ex_getR (pc' := 50) (n := 39) (r := 200) dX12_post_47 fl_12_23 (by decide +kernel) (by decide) (by decide +kernel) rfl ?_
  refine ex_iload_n (pc' := 51) dX12_post_50 rfl rfl ?_
  refine ex_iconst (v := 0) (pc' := 52) dX12_post_51 (by decide) rfl ?_
  refine en_iast (pc' := 53) (n := 363) (jj := 86) (h2 := hh_600) dX12_post_52 (by decide +kernel) (by decide) rfl rfl ?_
  refine ex_iinc (pc' := 56) (v := 87) (ls' := [(2, .inl 87), (0, .inr (.inr (some 196))), (1, .inl 0)]) dX12_post_53 rfl (by decide) (by decide) rfl rfl ?_
  refine ex_goto (pc' := 39) dX12_post_56 (by decide) ?_
  refine ex_iload_n (pc' := 40) dX12_post_39 rfl rfl ?_
  refine ex_sipush (v := 363) (pc' := 43) dX12_post_40 (by decide) rfl ?_
  refine ex_icmp_f (pc' := 46) dX12_post_43 (by decide) (by decide) rfl ?_
  refine ex_aload_n (pc' := 47) dX12_post_46 rfl rfl ?_
  refine ex_getR (pc' := 50) (n := 39) (r := 200) dX12_post_47 fl_12_23 (by decide +kernel) (by decide) (by decide +kernel) rfl ?_
  refine ex_iload_n (pc' := 51) dX12_post_50 rfl rfl ?_
  refine ex_iconst (v := 0) (pc' := 52) dX12_post_51 (by decide) rfl ?_
  refine en_iast (pc' := 53) (n := 363) (jj := 87) (h2 := hh_601) dX12_post_52 (by decide +kernel) (by decide) rfl rfl ?_
  refine ex_iinc (pc' := 56) (v := 88) (ls' := [(2, .inl 88), (0, .inr (.inr (some 196))), (1, .inl 0)]) dX12_post_53 rfl (by decide) (by decide) rfl rfl ?_
  refine ex_goto (pc' := 39) dX12_post_56 (by decide) ?_
  refine ex_iload_n (pc' := 40) dX12_post_39 rfl rfl ?_
  refine ex_sipush (v := 363) (pc' := 43) dX12_post_40 (by decide) rfl ?_
  refine ex_icmp_f (pc' := 46) dX12_post_43 (by decide) (by decide) rfl ?_
  refine ex_aload_n (pc' := 47) dX12_post_46 rfl rfl ?_
  refine ex_getR (pc' := 50) (n := 39) (r := 200) dX12_post_47 fl_12_23 (by decide +kernel) (by decide) (by decide +kernel) rfl ?_
  refine ex_iload_n (pc' := 51) dX12_post_50 rfl rfl ?_
  refine ex_iconst (v := 0) (pc' := 52) dX12_post_51 (by decide) rfl ?_
  refine en_iast (pc' := 53) (n := 363) (jj := 88) (h2 := hh_602) dX12_post_52 (by decide +kernel) (by decide) rfl rfl ?_
  refine ex_iinc (pc' := 56) (v := 89) (ls' := [(2, .inl 89), (0, .inr (.inr (some 196))), (1, .inl 0)]) dX12_post_53 rfl (by decide) (by decide) rfl rfl ?_
  refine ex_goto (pc' := 39) dX12_post_56 (by decide) ?_
  refine ex_iload_n (pc' := 40) dX12_post_39 rfl rfl ?_
  refine ex_sipush (v := 363) (pc' := 43) dX12_post_40 (by decide) rfl ?_
  refine ex_icmp_f (pc' := 46) dX12_post_43 (by decide) (by decide) rfl ?_
  refine ex_aload_n (pc' := 47) dX12_post_46 rfl rfl ?_
  refine ex_getR (pc' := 50) (n := 39) (r := 200) dX12_post_47 fl_12_23 (by decide +kernel) (by decide) (by decide +kernel) rfl ?_
  refine ex_iload_n (pc' := 51) dX12_post_50 rfl rfl ?_
  refine ex_iconst (v := 0) (pc' := 52) dX12_post_51 (by decide) rfl ?_
  refine en_iast (pc' := 53) (n := 363) (jj := 89) (h2 := hh_603) dX12_post_52 (by decide +kernel) (by decide) rfl rfl ?_
  refine ex_iinc (pc' := 56) (v := 90) (ls' := [(2, .inl 90), (0, .inr (.inr (some 196))), (1, .inl 0)]) dX12_post_53 rfl (by decide) (by decide) rfl rfl ?_
  refine ex_goto (pc' := 39) dX12_post_56 (by decide) ?_
  refine ex_iload_n (pc' := 40) dX12_post_39 rfl rfl ?_
  refine ex_sipush (v := 363) (pc' := 43) dX12_post_40 (by decide) rfl ?_
  refine ex_icmp_f (pc' := 46) dX12_post_43 (by decide) (by decide) rfl ?_
  refine ex_aload_n (pc' := 47) dX12_post_46 rfl rfl ?_
  refine ex_getR (pc' := 50) (n := 39) (r := 200) dX12_post_47 fl_12_23 (by decide +kernel) (by decide) (by decide +kernel) rfl ?_
  refine ex_iload_n (pc' := 51) dX12_post_50 rfl rfl ?_
  refine ex_iconst (v := 0) (pc' := 52) dX12_post_51 (by decide) rfl ?_
  refine en_iast (pc' := 53) (n := 363) (jj := 90) (h2 := hh_604) dX12_post_52 (by decide +kernel) (by decide) rfl rfl ?_
  refine ex_iinc (pc' := 56) (v := 91) (ls' := [(2, .inl 91), (0, .inr (.inr (some 196))), (1, .inl 0)]) dX12_post_53 rfl (by decide) (by decide) rfl rfl ?_
  refine ex_goto (pc' := 39) dX12_post_56 (by decide) ?_
  refine ex_iload_n (pc' := 40) dX12_post_39 rfl rfl ?_
  refine ex_sipush (v := 363) (pc' := 43) dX12_post_40 (by decide) rfl ?_
  refine ex_icmp_f (pc' := 46) dX12_post_43 (by decide) (by decide) rfl ?_
  refine ex_aload_n (pc' := 47) dX12_post_46 rfl rfl ?_
  refine ex_getR (pc' := 50) (n := 39) (r := 200) dX12_post_47 fl_12_23 (by decide +kernel) (by decide) (by decide +kernel) rfl ?_
  refine ex_iload_n (pc' := 51) dX12_post_50 rfl rfl ?_
  refine ex_iconst (v := 0) (pc' := 52) dX12_post_51 (by decide) rfl ?_
  refine en_iast (pc' := 53) (n := 363) (jj := 91) (h2 := hh_605) dX12_post_52 (by decide +kernel) (by decide) rfl rfl ?_
  refine ex_iinc (pc' := 56) (v := 92) (ls' := [(2, .inl 92), (0, .inr (.inr (some 196))), (1, .inl 0)]) dX12_post_53 rfl (by decide) (by decide) rfl rfl ?_
  refine ex_goto (pc' := 39) dX12_post_56 (by decide) ?_
  refine ex_iload_n (pc' := 40) dX12_post_39 rfl rfl ?_
  refine ex_sipush (v := 363) (pc' := 43) dX12_post_40 (by decide) rfl ?_
  refine ex_icmp_f (pc' := 46) dX12_post_43 (by decide) (by decide) rfl ?_
  refine ex_aload_n (pc' := 47) dX12_post_46 rfl rfl ?_
  refine ex_getR (pc' := 50) (n := 39) (r := 200) dX12_post_47 fl_12_23 (by decide +kernel) (by decide) (by decide +kernel) rfl ?_
  refine ex_iload_n (pc' := 51) dX12_post_50 rfl rfl ?_
  refine ex_iconst (v := 0) (pc' := 52) dX12_post_51 (by decide) rfl ?_
  refine en_iast (pc' := 53) (n := 363) (jj := 92) (h2 := hh_606) dX12_post_52 (by decide +kernel) (by decide) rfl rfl ?_
  refine ex_iinc (pc' := 56) (v := 93) (ls' := [(2, .inl 93), (0, .inr (.inr (some 196))), (1, .inl 0)]) dX12_post_53 rfl (by decide) (by decide) rfl rfl ?_
  refine ex_goto (pc' := 39) dX12_post_56 (by decide) ?_
  refine ex_iload_n (pc' := 40) dX12_post_39 rfl rfl ?_
  refine ex_sipush (v := 363) (pc' := 43) dX12_post_40 (by decide) rfl ?_
  refine ex_icmp_f (pc' := 46) dX12_post_43 (by decide) (by decide) rfl ?_
  refine ex_aload_n (pc' := 47) dX12_post_46 rfl rfl ?_
  refine ex_getR (pc' := 50) (n := 39) (r := 200) dX12_post_47 fl_12_23 (by decide +kernel) (by decide) (by decide +kernel) rfl ?_
  refine ex_iload_n (pc' := 51) dX12_post_50 rfl rfl ?_
  refine ex_iconst (v := 0) (pc' := 52) dX12_post_51 (by decide) rfl ?_
  refine en_iast (pc' := 53) (n := 363) (jj := 93) (h2 := hh_607) dX12_post_52 (by decide +kernel) (by decide) rfl rfl ?_
  refine ex_iinc (pc' := 56) (v := 94) (ls' := [(2, .inl 94), (0, .inr (.inr (some 196))), (1, .inl 0)]) dX12_post_53 rfl (by decide) (by decide) rfl rfl ?_
  refine ex_goto (pc' := 39) dX12_post_56 (by decide) ?_
  refine ex_iload_n (pc' := 40) dX12_post_39 rfl rfl ?_
  refine ex_sipush (v := 363) (pc' := 43) dX12_post_40 (by decide) rfl ?_
  refine ex_icmp_f (pc' := 46) dX12_post_43 (by decide) (by decide) rfl ?_
  refine ex_aload_n (pc' := 47) dX12_post_46 rfl rfl ?_
  refine ex_getR (pc' := 50) (n := 39) (r := 200) dX12_post_47 fl_12_23 (by decide +kernel) (by decide) (by decide +kernel) rfl ?_
  refine ex_iload_n (pc' := 51) dX12_post_50 rfl rfl ?_
  refine ex_iconst (v := 0) (pc' := 52) dX12_post_51 (by decide) rfl ?_
  refine en_iast (pc' := 53) (n := 363) (jj := 94) (h2 := hh_608) dX12_post_52 (by decide +kernel) (by decide) rfl rfl ?_
  refine ex_iinc (pc' := 56) (v := 95) (ls' := [(2, .inl 95), (0, .inr (.inr (some 196))), (1, .inl 0)]) dX12_post_53 rfl (by decide) (by decide) rfl rfl ?_
  refine ex_goto (pc' := 39) dX12_post_56 (by decide) ?_
  refine ex_iload_n (pc' := 40) dX12_post_39 rfl rfl ?_
  refine ex_sipush (v := 363) (pc' := 43) dX12_post_40 (by decide) rfl ?_
  refine ex_icmp_f (pc' := 46) dX12_post_43 (by decide) (by decide) rfl ?_
  refine ex_aload_n (pc' := 47) dX12_post_46 rfl rfl ?_
  refine ex_getR (pc' := 50) (n := 39) (r := 200) dX12_post_47 fl_12_23 (by decide +kernel) (by decide) (by decide +kernel) rfl ?_
  refine ex_iload_n (pc' := 51) dX12_post_50 rfl rfl ?_
  refine ex_iconst (v := 0) (pc' := 52) dX12_post_51 (by decide) rfl ?_
  refine en_iast (pc' := 53) (n := 363) (jj := 95) (h2 := hh_609) dX12_post_52 (by decide +kernel) (by decide) rfl rfl ?_
  refine ex_iinc (pc' := 56) (v := 96) (ls' := [(2, .inl 96), (0, .inr (.inr (some 196))), (1, .inl 0)]) dX12_post_53 rfl (by decide) (by decide) rfl rfl ?_
  refine ex_goto (pc' := 39) dX12_post_56 (by decide) ?_
  refine ex_iload_n (pc' := 40) dX12_post_39 rfl rfl ?_
  refine ex_sipush (v := 363) (pc' := 43) dX12_post_40 (by decide) rfl ?_
  refine ex_icmp_f (pc' := 46) dX12_post_43 (by decide) (by decide) rfl ?_
  refine ex_aload_n (pc' := 47) dX12_post_46 rfl rfl ?_
  refine ex_getR (pc' := 50) (n := 39) (r := 200) dX12_post_47 fl_12_23 (by decide +kernel) (by decide) (by decide +kernel) rfl ?_
  refine ex_iload_n (pc' := 51) dX12_post_50 rfl rfl ?_
  refine ex_iconst (v := 0) (pc' := 52) dX12_post_51 (by decide) rfl ?_
  refine en_iast (pc' := 53) (n := 363) (jj := 96) (h2 := hh_610) dX12_post_52 (by decide +kernel) (by decide) rfl rfl ?_
  refine ex_iinc (pc' := 56) (v := 97) (ls' := [(2, .inl 97), (0, .inr (.inr (some 196))), (1, .inl 0)]) dX12_post_53 rfl (by decide) (by decide) rfl rfl ?_
  refine ex_goto (pc' := 39) dX12_post_56 (by decide) ?_
  refine ex_iload_n (pc' := 40) dX12_post_39 rfl rfl ?_
  refine ex_sipush (v := 363) (pc' := 43) dX12_post_40 (by decide) rfl ?_
  refine ex_icmp_f (pc' := 46) dX12_post_43 (by decide) (by decide) rfl ?_
  refine ex_aload_n (pc' := 47) dX12_post_46 rfl rfl ?_
  refine ex_getR (pc' := 50) (n := 39) (r := 200) dX12_post_47 fl_12_23 (by decide +kernel) (by decide) (by decide +kernel) rfl ?_
  refine ex_iload_n (pc' := 51) dX12_post_50 rfl rfl ?_
  refine ex_iconst (v := 0) (pc' := 52) dX12_post_51 (by decide) rfl ?_
  refine en_iast (pc' := 53) (n := 363) (jj := 97) (h2 := hh_611) dX12_post_52 (by decide +kernel) (by decide) rfl rfl ?_
  refine ex_iinc (pc' := 56) (v := 98) (ls' := [(2, .inl 98), (0, .inr (.inr (some 196))), (1, .inl 0)]) dX12_post_53 rfl (by decide) (by decide) rfl rfl ?_
  refine ex_goto (pc' := 39) dX12_post_56 (by decide) ?_
  refine ex_iload_n (pc' := 40) dX12_post_39 rfl rfl ?_
  refine ex_sipush (v := 363) (pc' := 43) dX12_post_40 (by decide) rfl ?_
  refine ex_icmp_f (pc' := 46) dX12_post_43 (by decide) (by decide) rfl ?_
  refine ex_aload_n (pc' := 47) dX12_post_46 rfl rfl ?_
  refine ex_getR (pc' := 50) (n := 39) (r := 200) dX12_post_47 fl_12_23 (by decide +kernel) (by decide) (by decide +kernel) rfl ?_
  refine ex_iload_n (pc' := 51) dX12_post_50 rfl rfl ?_
  refine ex_iconst (v := 0) (pc' := 52) dX12_post_51 (by decide) rfl ?_
  refine en_iast (pc' := 53) (n := 363) (jj := 98) (h2 := hh_612) dX12_post_52 (by decide +kernel) (by decide) rfl rfl ?_
  refine ex_iinc (pc' := 56) (v := 99) (ls' := [(2, .inl 99), (0, .inr (.inr (some 196))), (1, .inl 0)]) dX12_post_53 rfl (by decide) (by decide) rfl rfl ?_
  refine ex_goto (pc' := 39) dX12_post_56 (by decide) ?_
  refine ex_iload_n (pc' := 40) dX12_post_39 rfl rfl ?_
  refine ex_sipush (v := 363) (pc' := 43) dX12_post_40 (by decide) rfl ?_
  refine ex_icmp_f (pc' := 46) dX12_post_43 (by decide) (by decide) rfl ?_
  refine ex_aload_n (pc' := 47) dX12_post_46 rfl rfl ?_
  refine ex_getR (pc' := 50) (n := 39) (r := 200) dX12_post_47 fl_12_23 (by decide +kernel) (by decide) (by decide +kernel) rfl ?_
  refine ex_iload_n (pc' := 51) dX12_post_50 rfl rfl ?_
  refine ex_iconst (v := 0) (pc' := 52) dX12_post_51 (by decide) rfl ?_
  refine en_iast (pc' := 53) (n := 363) (jj := 99) (h2 := hh_613) dX12_post_52 (by decide +kernel) (by decide) rfl rfl ?_
  refine ex_iinc (pc' := 56) (v := 100) (ls' := [(2, .inl 100), (0, .inr (.inr (some 196))), (1, .inl 0)]) dX12_post_53 rfl (by decide) (by decide) rfl rfl ?_
  refine ex_goto (pc' := 39) dX12_post_56 (by decide) ?_
  refine ex_iload_n (pc' := 40) dX12_post_39 rfl rfl ?_
  refine ex_sipush (v := 363) (pc' := 43) dX12_post_40 (by decide) rfl ?_
  refine ex_icmp_f (pc' := 46) dX12_post_43 (by decide) (by decide) rfl ?_
  refine ex_aload_n (pc' := 47) dX12_post_46 rfl rfl ?_
  refine ex_getR (pc' := 50) (n := 39) (r := 200) dX12_post_47 fl_12_23 (by decide +kernel) (by decide) (by decide +kernel) rfl ?_
  refine ex_iload_n (pc' := 51) dX12_post_50 rfl rfl ?_
  refine ex_iconst (v := 0) (pc' := 52) dX12_post_51 (by decide) rfl ?_
  refine en_iast (pc' := 53) (n := 363) (jj := 100) (h2 := hh_614) dX12_post_52 (by decide +kernel) (by decide) rfl rfl ?_
  refine ex_iinc (pc' := 56) (v := 101) (ls' := [(2, .inl 101), (0, .inr (.inr (some 196))), (1, .inl 0)]) dX12_post_53 rfl (by decide) (by decide) rfl rfl ?_
  refine ex_goto (pc' := 39) dX12_post_56 (by decide) ?_
  refine ex_iload_n (pc' := 40) dX12_post_39 rfl rfl ?_
  refine ex_sipush (v := 363) (pc' := 43) dX12_post_40 (by decide) rfl ?_
  refine ex_icmp_f (pc' := 46) dX12_post_43 (by decide) (by decide) rfl ?_
  refine ex_aload_n (pc' := 47) dX12_post_46 rfl rfl ?_
  refine ex_getR (pc' := 50) (n := 39) (r := 200) dX12_post_47 fl_12_23 (by decide +kernel) (by decide) (by decide +kernel) rfl ?_
  refine ex_iload_n (pc' := 51) dX12_post_50 rfl rfl ?_
  refine ex_iconst (v := 0) (pc' := 52) dX12_post_51 (by decide) rfl ?_
  refine en_iast (pc' := 53) (n := 363) (jj := 101) (h2 := hh_615) dX12_post_52 (by decide +kernel) (by decide) rfl rfl ?_
  refine ex_iinc (pc' := 56) (v := 102) (ls' := [(2, .inl 102), (0, .inr (.inr (some 196))), (1, .inl 0)]) dX12_post_53 rfl (by decide) (by decide) rfl rfl ?_
  refine ex_goto (pc' := 39) dX12_post_56 (by decide) ?_
  refine ex_iload_n (pc' := 40) dX12_post_39 rfl rfl ?_
  refine ex_sipush (v := 363) (pc' := 43) dX12_post_40 (by decide) rfl ?_
  refine ex_icmp_f (pc' := 46) dX12_post_43 (by decide) (by decide) rfl ?_
  refine ex_aload_n (pc' := 47) dX12_post_46 rfl rfl ?_
  refine ex_getR (pc' := 50) (n := 39) (r := 200) dX12_post_47 fl_12_23 (by decide +kernel) (by decide) (by decide +kernel) rfl ?_
  refine ex_iload_n (pc' := 51) dX12_post_50 rfl rfl ?_
  refine ex_iconst (v := 0) (pc' := 52) dX12_post_51 (by decide) rfl ?_
  refine en_iast (pc' := 53) (n := 363) (jj := 102) (h2 := hh_616) dX12_post_52 (by decide +kernel) (by decide) rfl rfl ?_
  refine ex_iinc (pc' := 56) (v := 103) (ls' := [(2, .inl 103), (0, .inr (.inr (some 196))), (1, .inl 0)]) dX12_post_53 rfl (by decide) (by decide) rfl rfl ?_
  refine ex_goto (pc' := 39) dX12_post_56 (by decide) ?_
  refine ex_iload_n (pc' := 40) dX12_post_39 rfl rfl ?_
  refine ex_sipush (v := 363) (pc' := 43) dX12_post_40 (by decide) rfl ?_
  refine ex_icmp_f (pc' := 46) dX12_post_43 (by decide) (by decide) rfl ?_
  refine ex_aload_n (pc' := 47) dX12_post_46 rfl rfl ?_
  refine ex_getR (pc' := 50) (n := 39) (r := 200) dX12_post_47 fl_12_23 (by decide +kernel) (by decide) (by decide +kernel) rfl ?_
  refine ex_iload_n (pc' := 51) dX12_post_50 rfl rfl ?_
  refine ex_iconst (v := 0) (pc' := 52) dX12_post_51 (by decide) rfl ?_
  refine en_iast (pc' := 53) (n := 363) (jj := 103) (h2 := hh_617) dX12_post_52 (by decide +kernel) (by decide) rfl rfl ?_
  refine ex_iinc (pc' := 56) (v := 104) (ls' := [(2, .inl 104), (0, .inr (.inr (some 196))), (1, .inl 0)]) dX12_post_53 rfl (by decide) (by decide) rfl rfl ?_
  refine ex_goto (pc' := 39) dX12_post_56 (by decide) ?_
  refine ex_iload_n (pc' := 40) dX12_post_39 rfl rfl ?_
  refine ex_sipush (v := 363) (pc' := 43) dX12_post_40 (by decide) rfl ?_
  refine ex_icmp_f (pc' := 46) dX12_post_43 (by decide) (by decide) rfl ?_
  refine ex_aload_n (pc' := 47) dX12_post_46 rfl rfl ?_
  refine ex_getR (pc' := 50) (n := 39) (r := 200) dX12_post_47 fl_12_23 (by decide +kernel) (by decide) (by decide +kernel) rfl ?_
  refine ex_iload_n (pc' := 51) dX12_post_50 rfl rfl ?_
  refine ex_iconst (v := 0) (pc' := 52) dX12_post_51 (by decide) rfl ?_
  refine en_iast (pc' := 53) (n := 363) (jj := 104) (h2 := hh_618) dX12_post_52 (by decide +kernel) (by decide) rfl rfl ?_
  refine ex_iinc (pc' := 56) (v := 105) (ls' := [(2, .inl 105), (0, .inr (.inr (some 196))), (1, .inl 0)]) dX12_post_53 rfl (by decide) (by decide) rfl rfl ?_
  refine ex_goto (pc' := 39) dX12_post_56 (by decide) ?_
  refine ex_iload_n (pc' := 40) dX12_post_39 rfl rfl ?_
  refine ex_sipush (v := 363) (pc' := 43) dX12_post_40 (by decide) rfl ?_
  refine ex_icmp_f (pc' := 46) dX12_post_43 (by decide) (by decide) rfl ?_
  refine ex_aload_n (pc' := 47) dX12_post_46 rfl rfl ?_
  refine ex_getR (pc' := 50) (n := 39) (r := 200) dX12_post_47 fl_12_23 (by decide +kernel) (by decide) (by decide +kernel) rfl ?_
  refine ex_iload_n (pc' := 51) dX12_post_50 rfl rfl ?_
  refine ex_iconst (v := 0) (pc' := 52) dX12_post_51 (by decide) rfl ?_
  refine en_iast (pc' := 53) (n := 363) (jj := 105) (h2 := hh_619) dX12_post_52 (by decide +kernel) (by decide) rfl rfl ?_
  refine ex_iinc (pc' := 56) (v := 106) (ls' := [(2, .inl 106), (0, .inr (.inr (some 196))), (1, .inl 0)]) dX12_post_53 rfl (by decide) (by decide) rfl rfl ?_
  refine ex_goto (pc' := 39) dX12_post_56 (by decide) ?_
  refine ex_iload_n (pc' := 40) dX12_post_39 rfl rfl ?_
  refine ex_sipush (v := 363) (pc' := 43) dX12_post_40 (by decide) rfl ?_
  refine ex_icmp_f (pc' := 46) dX12_post_43 (by decide) (by decide) rfl ?_
  refine ex_aload_n (pc' := 47) dX12_post_46 rfl rfl ?_
  refine ex_getR (pc' := 50) (n := 39) (r := 200) dX12_post_47 fl_12_23 (by decide +kernel) (by decide) (by decide +kernel) rfl ?_
  refine ex_iload_n (pc' := 51) dX12_post_50 rfl rfl ?_
  refine ex_iconst (v := 0) (pc' := 52) dX12_post_51 (by decide) rfl ?_
  refine en_iast (pc' := 53) (n := 363) (jj := 106) (h2 := hh_620) dX12_post_52 (by decide +kernel) (by decide) rfl rfl ?_
  refine ex_iinc (pc' := 56) (v := 107) (ls' := [(2, .inl 107), (0, .inr (.inr (some 196))), (1, .inl 0)]) dX12_post_53 rfl (by decide) (by decide) rfl rfl ?_
  refine ex_goto (pc' := 39) dX12_post_56 (by decide) ?_
  refine ex_iload_n (pc' := 40) dX12_post_39 rfl rfl ?_
  refine ex_sipush (v := 363) (pc' := 43) dX12_post_40 (by decide) rfl ?_
  refine ex_icmp_f (pc' := 46) dX12_post_43 (by decide) (by decide) rfl ?_
  refine ex_aload_n (pc' := 47) dX12_post_46 rfl rfl ?_
  refine ex_getR (pc' := 50) (n := 39) (r := 200) dX12_post_47 fl_12_23 (by decide +kernel) (by decide) (by decide +kernel) rfl ?_
  refine ex_iload_n (pc' := 51) dX12_post_50 rfl rfl ?_
  refine ex_iconst (v := 0) (pc' := 52) dX12_post_51 (by decide) rfl ?_
  refine en_iast (pc' := 53) (n := 363) (jj := 107) (h2 := hh_621) dX12_post_52 (by decide +kernel) (by decide) rfl rfl ?_
  refine ex_iinc (pc' := 56) (v := 108) (ls' := [(2, .inl 108), (0, .inr (.inr (some 196))), (1, .inl 0)]) dX12_post_53 rfl (by decide) (by decide) rfl rfl ?_
  refine ex_goto (pc' := 39) dX12_post_56 (by decide) ?_
  refine ex_iload_n (pc' := 40) dX12_post_39 rfl rfl ?_
  refine ex_sipush (v := 363) (pc' := 43) dX12_post_40 (by decide) rfl ?_
  refine ex_icmp_f (pc' := 46) dX12_post_43 (by decide) (by decide) rfl ?_
  refine ex_aload_n (pc' := 47) dX12_post_46 rfl rfl ?_
  refine ex_getR (pc' := 50) (n := 39) (r := 200) dX12_post_47 fl_12_23 (by decide +kernel) (by decide) (by decide +kernel) rfl ?_
  refine ex_iload_n (pc' := 51) dX12_post_50 rfl rfl ?_
  refine ex_iconst (v := 0) (pc' := 52) dX12_post_51 (by decide) rfl ?_
  refine en_iast (pc' := 53) (n := 363) (jj := 108) (h2 := hh_622) dX12_post_52 (by decide +kernel) (by decide) rfl rfl ?_
  refine ex_iinc (pc' := 56) (v := 109) (ls' := [(2, .inl 109), (0, .inr (.inr (some 196))), (1, .inl 0)]) dX12_post_53 rfl (by decide) (by decide) rfl rfl ?_
  refine ex_goto (pc' := 39) dX12_post_56 (by decide) ?_
  refine ex_iload_n (pc' := 40) dX12_post_39 rfl rfl ?_
  refine ex_sipush (v := 363) (pc' := 43) dX12_post_40 (by decide) rfl ?_
  refine ex_icmp_f (pc' := 46) dX12_post_43 (by decide) (by decide) rfl ?_
  refine ex_aload_n (pc' := 47) dX12_post_46 rfl rfl ?_
  refine ex_getR (pc' := 50) (n := 39) (r := 200) dX12_post_47 fl_12_23 (by decide +kernel) (by decide) (by decide +kernel) rfl ?_
  refine ex_iload_n (pc' := 51) dX12_post_50 rfl rfl ?_
  refine ex_iconst (v := 0) (pc' := 52) dX12_post_51 (by decide) rfl ?_
  refine en_iast (pc' := 53) (n := 363) (jj := 109) (h2 := hh_623) dX12_post_52 (by decide +kernel) (by decide) rfl rfl ?_
  refine ex_iinc (pc' := 56) (v := 110) (ls' := [(2, .inl 110), (0, .inr (.inr (some 196))), (1, .inl 0)]) dX12_post_53 rfl (by decide) (by decide) rfl rfl ?_
  refine ex_goto (pc' := 39) dX12_post_56 (by decide) ?_
  refine ex_iload_n (pc' := 40) dX12_post_39 rfl rfl ?_
  refine ex_sipush (v := 363) (pc' := 43) dX12_post_40 (by decide) rfl ?_
  refine ex_icmp_f (pc' := 46) dX12_post_43 (by decide) (by decide) rfl ?_
  refine ex_aload_n (pc' := 47) dX12_post_46 rfl rfl ?_
  refine ex_getR (pc' := 50) (n := 39) (r := 200) dX12_post_47 fl_12_23 (by decide +kernel) (by decide) (by decide +kernel) rfl ?_
  refine ex_iload_n (pc' := 51) dX12_post_50 rfl rfl ?_
  refine ex_iconst (v := 0) (pc' := 52) dX12_post_51 (by decide) rfl ?_
  refine en_iast (pc' := 53) (n := 363) (jj := 110) (h2 := hh_624) dX12_post_52 (by decide +kernel) (by decide) rfl rfl ?_
  refine ex_iinc (pc' := 56) (v := 111) (ls' := [(2, .inl 111), (0, .inr (.inr (some 196))), (1, .inl 0)]) dX12_post_53 rfl (by decide) (by decide) rfl rfl ?_
  refine ex_goto (pc' := 39) dX12_post_56 (by decide) ?_
  refine ex_iload_n (pc' := 40) dX12_post_39 rfl rfl ?_
  refine ex_sipush (v := 363) (pc' := 43) dX12_post_40 (by decide) rfl ?_
  refine ex_icmp_f (pc' := 46) dX12_post_43 (by decide) (by decide) rfl ?_
  refine ex_aload_n (pc' := 47) dX12_post_46 rfl rfl ?_
  refine ex_getR (pc' := 50) (n := 39) (r := 200) dX12_post_47 fl_12_23 (by decide +kernel) (by decide) (by decide +kernel) rfl ?_
  refine ex_iload_n (pc' := 51) dX12_post_50 rfl rfl ?_
  refine ex_iconst (v := 0) (pc' := 52) dX12_post_51 (by decide) rfl ?_
  refine en_iast (pc' := 53) (n := 363) (jj := 111) (h2 := hh_625) dX12_post_52 (by decide +kernel) (by decide) rfl rfl ?_
  refine ex_iinc (pc' := 56) (v := 112) (ls' := [(2, .inl 112), (0, .inr (.inr (some 196))), (1, .inl 0)]) dX12_post_53 rfl (by decide) (by decide) rfl rfl ?_
  refine ex_goto (pc' := 39) dX12_post_56 (by decide) ?_
  refine ex_iload_n (pc' := 40) dX12_post_39 rfl rfl ?_
  refine ex_sipush (v := 363) (pc' := 43) dX12_post_40 (by decide) rfl ?_
  refine ex_icmp_f (pc' := 46) dX12_post_43 (by decide) (by decide) rfl ?_
  refine ex_aload_n (pc' := 47) dX12_post_46 rfl rfl ?_
  refine ex_getR (pc' := 50) (n := 39) (r := 200) dX12_post_47 fl_12_23 (by decide +kernel) (by decide) (by decide +kernel) rfl ?_
  refine ex_iload_n (pc' := 51) dX12_post_50 rfl rfl ?_
  refine ex_iconst (v := 0) (pc' := 52) dX12_post_51 (by decide) rfl ?_
  refine en_iast (pc' := 53) (n := 363) (jj := 112) (h2 := hh_626) dX12_post_52 (by decide +kernel) (by decide) rfl rfl ?_
  refine ex_iinc (pc' := 56) (v := 113) (ls' := [(2, .inl 113), (0, .inr (.inr (some 196))), (1, .inl 0)]) dX12_post_53 rfl (by decide) (by decide) rfl rfl ?_
  refine ex_goto (pc' := 39) dX12_post_56 (by decide) ?_
  refine ex_iload_n (pc' := 40) dX12_post_39 rfl rfl ?_
  refine ex_sipush (v := 363) (pc' := 43) dX12_post_40 (by decide) rfl ?_
  refine ex_icmp_f (pc' := 46) dX12_post_43 (by decide) (by decide) rfl ?_
  refine ex_aload_n (pc' := 47) dX12_post_46 rfl rfl ?_
  refine ex_getR (pc' := 50) (n := 39) (r := 200) dX12_post_47 fl_12_23 (by decide +kernel) (by decide) (by decide +kernel) rfl ?_
  refine ex_iload_n (pc' := 51) dX12_post_50 rfl rfl ?_
  refine ex_iconst (v := 0) (pc' := 52) dX12_post_51 (by decide) rfl ?_
  refine en_iast (pc' := 53) (n := 363) (jj := 113) (h2 := hh_627) dX12_post_52 (by decide +kernel) (by decide) rfl rfl ?_
  refine ex_iinc (pc' := 56) (v := 114) (ls' := [(2, .inl 114), (0, .inr (.inr (some 196))), (1, .inl 0)]) dX12_post_53 rfl (by decide) (by decide) rfl rfl ?_
  refine ex_goto (pc' := 39) dX12_post_56 (by decide) ?_
  refine ex_iload_n (pc' := 40) dX12_post_39 rfl rfl ?_
  refine ex_sipush (v := 363) (pc' := 43) dX12_post_40 (by decide) rfl ?_
  refine ex_icmp_f (pc' := 46) dX12_post_43 (by decide) (by decide) rfl ?_
  refine ex_aload_n (pc' := 47) dX12_post_46 rfl rfl ?_
  refine ex_getR (pc' := 50) (n := 39) (r := 200) dX12_post_47 fl_12_23 (by decide +kernel) (by decide) (by decide +kernel) rfl ?_
  refine ex_iload_n (pc' := 51) dX12_post_50 rfl rfl ?_
  refine ex_iconst (v := 0) (pc' := 52) dX12_post_51 (by decide) rfl ?_
  refine en_iast (pc' := 53) (n := 363) (jj := 114) (h2 := hh_628) dX12_post_52 (by decide +kernel) (by decide) rfl rfl ?_
  refine ex_iinc (pc' := 56) (v := 115) (ls' := [(2, .inl 115), (0, .inr (.inr (some 196))), (1, .inl 0)]) dX12_post_53 rfl (by decide) (by decide) rfl rfl ?_
  refine ex_goto (pc' := 39) dX12_post_56 (by decide) ?_
  refine ex_iload_n (pc' := 40) dX12_post_39 rfl rfl ?_
  refine ex_sipush (v := 363) (pc' := 43) dX12_post_40 (by decide) rfl ?_
  refine ex_icmp_f (pc' := 46) dX12_post_43 (by decide) (by decide) rfl ?_
  refine ex_aload_n (pc' := 47) dX12_post_46 rfl rfl ?_
  refine ex_getR (pc' := 50) (n := 39) (r := 200) dX12_post_47 fl_12_23 (by decide +kernel) (by decide) (by decide +kernel) rfl ?_
  refine ex_iload_n (pc' := 51) dX12_post_50 rfl rfl ?_
  refine ex_iconst (v := 0) (pc' := 52) dX12_post_51 (by decide) rfl ?_
  refine en_iast (pc' := 53) (n := 363) (jj := 115) (h2 := hh_629) dX12_post_52 (by decide +kernel) (by decide) rfl rfl ?_
  refine ex_iinc (pc' := 56) (v := 116) (ls' := [(2, .inl 116), (0, .inr (.inr (some 196))), (1, .inl 0)]) dX12_post_53 rfl (by decide) (by decide) rfl rfl ?_
  refine ex_goto (pc' := 39) dX12_post_56 (by decide) ?_
  refine ex_iload_n (pc' := 40) dX12_post_39 rfl rfl ?_
  refine ex_sipush (v := 363) (pc' := 43) dX12_post_40 (by decide) rfl ?_
  refine ex_icmp_f (pc' := 46) dX12_post_43 (by decide) (by decide) rfl ?_
  refine ex_aload_n (pc' := 47) dX12_post_46 rfl rfl ?_
  refine ex_getR (pc' := 50) (n := 39) (r := 200) dX12_post_47 fl_12_23 (by decide +kernel) (by decide) (by decide +kernel) rfl ?_
  refine ex_iload_n (pc' := 51) dX12_post_50 rfl rfl ?_
  refine ex_iconst (v := 0) (pc' := 52) dX12_post_51 (by decide) rfl ?_
  refine en_iast (pc' := 53) (n := 363) (jj := 116) (h2 := hh_630) dX12_post_52 (by decide +kernel) (by decide) rfl rfl ?_
  refine ex_iinc (pc' := 56) (v := 117) (ls' := [(2, .inl 117), (0, .inr (.inr (some 196))), (1, .inl 0)]) dX12_post_53 rfl (by decide) (by decide) rfl rfl ?_
  refine ex_goto (pc' := 39) dX12_post_56 (by decide) ?_
  refine ex_iload_n (pc' := 40) dX12_post_39 rfl rfl ?_
  refine ex_sipush (v := 363) (pc' := 43) dX12_post_40 (by decide) rfl ?_
  refine ex_icmp_f (pc' := 46) dX12_post_43 (by decide) (by decide) rfl ?_
  refine ex_aload_n (pc' := 47) dX12_post_46 rfl rfl ?_
  refine ex_getR (pc' := 50) (n := 39) (r := 200) dX12_post_47 fl_12_23 (by decide +kernel) (by decide) (by decide +kernel) rfl ?_
  refine ex_iload_n (pc' := 51) dX12_post_50 rfl rfl ?_
  refine ex_iconst (v := 0) (pc' := 52) dX12_post_51 (by decide) rfl ?_
  refine en_iast (pc' := 53) (n := 363) (jj := 117) (h2 := hh_631) dX12_post_52 (by decide +kernel) (by decide) rfl rfl ?_
  refine ex_iinc (pc' := 56) (v := 118) (ls' := [(2, .inl 118), (0, .inr (.inr (some 196))), (1, .inl 0)]) dX12_post_53 rfl (by decide) (by decide) rfl rfl ?_
  refine ex_goto (pc' := 39) dX12_post_56 (by decide) ?_
  refine ex_iload_n (pc' := 40) dX12_post_39 rfl rfl ?_
  refine ex_sipush (v := 363) (pc' := 43) dX12_post_40 (by decide) rfl ?_
  refine ex_icmp_f (pc' := 46) dX12_post_43 (by decide) (by decide) rfl ?_
  refine ex_aload_n (pc' := 47) dX12_post_46 rfl rfl ?_
  refine ex_getR (pc' := 50) (n := 39) (r := 200) dX12_post_47 fl_12_23 (by decide +kernel) (by decide) (by decide +kernel) rfl ?_
  refine ex_iload_n (pc' := 51) dX12_post_50 rfl rfl ?_
  refine ex_iconst (v := 0) (pc' := 52) dX12_post_51 (by decide) rfl ?_
  refine en_iast (pc' := 53) (n := 363) (jj := 118) (h2 := hh_632) dX12_post_52 (by decide +kernel) (by decide) rfl rfl ?_
  refine ex_iinc (pc' := 56) (v := 119) (ls' := [(2, .inl 119), (0, .inr (.inr (some 196))), (1, .inl 0)]) dX12_post_53 rfl (by decide) (by decide) rfl rfl ?_
  refine ex_goto (pc' := 39) dX12_post_56 (by decide) ?_
  refine ex_iload_n (pc' := 40) dX12_post_39 rfl rfl ?_
  refine ex_sipush (v := 363) (pc' := 43) dX12_post_40 (by decide) rfl ?_
  refine ex_icmp_f (pc' := 46) dX12_post_43 (by decide) (by decide) rfl ?_
  refine ex_aload_n (pc' := 47) dX12_post_46 rfl rfl ?_
  refine ex_getR (pc' := 50) (n := 39) (r := 200) dX12_post_47 fl_12_23 (by decide +kernel) (by decide) (by decide +kernel) rfl ?_
  refine ex_iload_n (pc' := 51) dX12_post_50 rfl rfl ?_
  refine ex_iconst (v := 0) (pc' := 52) dX12_post_51 (by decide) rfl ?_
  refine en_iast (pc' := 53) (n := 363) (jj := 119) (h2 := hh_633) dX12_post_52 (by decide +kernel) (by decide) rfl rfl ?_
  refine ex_iinc (pc' := 56) (v := 120) (ls' := [(2, .inl 120), (0, .inr (.inr (some 196))), (1, .inl 0)]) dX12_post_53 rfl (by decide) (by decide) rfl rfl ?_
  refine ex_goto (pc' := 39) dX12_post_56 (by decide) ?_
  refine ex_iload_n (pc' := 40) dX12_post_39 rfl rfl ?_
  refine ex_sipush (v := 363) (pc' := 43) dX12_post_40 (by decide) rfl ?_
  refine ex_icmp_f (pc' := 46) dX12_post_43 (by decide) (by decide) rfl ?_
  refine ex_aload_n (pc' := 47) dX12_post_46 rfl rfl ?_
  refine ex_getR (pc' := 50) (n := 39) (r := 200) dX12_post_47 fl_12_23 (by decide +kernel) (by decide) (by decide +kernel) rfl ?_
  refine ex_iload_n (pc' := 51) dX12_post_50 rfl rfl ?_
  refine ex_iconst (v := 0) (pc' := 52) dX12_post_51 (by decide) rfl ?_
  refine en_iast (pc' := 53) (n := 363) (jj := 120) (h2 := hh_634) dX12_post_52 (by decide +kernel) (by decide) rfl rfl ?_
  refine ex_iinc (pc' := 56) (v := 121) (ls' := [(2, .inl 121), (0, .inr (.inr (some 196))), (1, .inl 0)]) dX12_post_53 rfl (by decide) (by decide) rfl rfl ?_
  refine ex_goto (pc' := 39) dX12_post_56 (by decide) ?_
  refine ex_iload_n (pc' := 40) dX12_post_39 rfl rfl ?_
  refine ex_sipush (v := 363) (pc' := 43) dX12_post_40 (by decide) rfl ?_
  refine ex_icmp_f (pc' := 46) dX12_post_43 (by decide) (by decide) rfl ?_
  refine ex_aload_n (pc' := 47) dX12_post_46 rfl rfl ?_
  refine ex_getR (pc' := 50) (n := 39) (r := 200) dX12_post_47 fl_12_23 (by decide +kernel) (by decide) (by decide +kernel) rfl ?_
  refine ex_iload_n (pc' := 51) dX12_post_50 rfl rfl ?_
  refine ex_iconst (v := 0) (pc' := 52) dX12_post_51 (by decide) rfl ?_
  refine en_iast (pc' := 53) (n := 363) (jj := 121) (h2 := hh_635) dX12_post_52 (by decide +kernel) (by decide) rfl rfl ?_
  refine ex_iinc (pc' := 56) (v := 122) (ls' := [(2, .inl 122), (0, .inr (.inr (some 196))), (1, .inl 0)]) dX12_post_53 rfl (by decide) (by decide) rfl rfl ?_
  refine ex_goto (pc' := 39) dX12_post_56 (by decide) ?_
  refine ex_iload_n (pc' := 40) dX12_post_39 rfl rfl ?_
  refine ex_sipush (v := 363) (pc' := 43) dX12_post_40 (by decide) rfl ?_
  refine ex_icmp_f (pc' := 46) dX12_post_43 (by decide) (by decide) rfl ?_
  refine ex_aload_n (pc' := 47) dX12_post_46 rfl rfl ?_
  refine ex_getR (pc' := 50) (n := 39) (r := 200) dX12_post_47 fl_12_23 (by decide +kernel) (by decide) (by decide +kernel) rfl ?_
  refine ex_iload_n (pc' := 51) dX12_post_50 rfl rfl ?_
  refine ex_iconst (v := 0) (pc' := 52) dX12_post_51 (by decide) rfl ?_
  refine en_iast (pc' := 53) (n := 363) (jj := 122) (h2 := hh_636) dX12_post_52 (by decide +kernel) (by decide) rfl rfl ?_
  refine ex_iinc (pc' := 56) (v := 123) (ls' := [(2, .inl 123), (0, .inr (.inr (some 196))), (1, .inl 0)]) dX12_post_53 rfl (by decide) (by decide) rfl rfl ?_
  refine ex_goto (pc' := 39) dX12_post_56 (by decide) ?_
  refine ex_iload_n (pc' := 40) dX12_post_39 rfl rfl ?_
  refine ex_sipush (v := 363) (pc' := 43) dX12_post_40 (by decide) rfl ?_
  refine ex_icmp_f (pc' := 46) dX12_post_43 (by decide) (by decide) rfl ?_
  refine ex_aload_n (pc' := 47) dX12_post_46 rfl rfl ?_
  refine ex_getR (pc' := 50) (n := 39) (r := 200) dX12_post_47 fl_12_23 (by decide +kernel) (by decide) (by decide +kernel) rfl ?_
  refine ex_iload_n (pc' := 51) dX12_post_50 rfl rfl ?_
  refine ex_iconst (v := 0) (pc' := 52) dX12_post_51 (by decide) rfl ?_
  refine en_iast (pc' := 53) (n := 363) (jj := 123) (h2 := hh_637) dX12_post_52 (by decide +kernel) (by decide) rfl rfl ?_
  refine ex_iinc (pc' := 56) (v := 124) (ls' := [(2, .inl 124), (0, .inr (.inr (some 196))), (1, .inl 0)]) dX12_post_53 rfl (by decide) (by decide) rfl rfl ?_
  refine ex_goto (pc' := 39) dX12_post_56 (by decide) ?_
  refine ex_iload_n (pc' := 40) dX12_post_39 rfl rfl ?_
  refine ex_sipush (v := 363) (pc' := 43) dX12_post_40 (by decide) rfl ?_
  refine ex_icmp_f (pc' := 46) dX12_post_43 (by decide) (by decide) rfl ?_
  refine ex_aload_n (pc' := 47) dX12_post_46 rfl rfl ?_
  refine ex_getR (pc' := 50) (n := 39) (r := 200) dX12_post_47 fl_12_23 (by decide +kernel) (by decide) (by decide +kernel) rfl ?_
  refine ex_iload_n (pc' := 51) dX12_post_50 rfl rfl ?_
  refine ex_iconst (v := 0) (pc' := 52) dX12_post_51 (by decide) rfl ?_
  refine en_iast (pc' := 53) (n := 363) (jj := 124) (h2 := hh_638) dX12_post_52 (by decide +kernel) (by decide) rfl rfl ?_
  refine ex_iinc (pc' := 56) (v := 125) (ls' := [(2, .inl 125), (0, .inr (.inr (some 196))), (1, .inl 0)]) dX12_post_53 rfl (by decide) (by decide) rfl rfl ?_
  refine ex_goto (pc' := 39) dX12_post_56 (by decide) ?_
  refine ex_iload_n (pc' := 40) dX12_post_39 rfl rfl ?_
  refine ex_sipush (v := 363) (pc' := 43) dX12_post_40 (by decide) rfl ?_
  refine ex_icmp_f (pc' := 46) dX12_post_43 (by decide) (by decide) rfl ?_
  refine ex_aload_n (pc' := 47) dX12_post_46 rfl rfl ?_
  refine ex_getR (pc' := 50) (n := 39) (r := 200) dX12_post_47 fl_12_23 (by decide +kernel) (by decide) (by decide +kernel) rfl ?_
  refine ex_iload_n (pc' := 51) dX12_post_50 rfl rfl ?_
  refine ex_iconst (v := 0) (pc' := 52) dX12_post_51 (by decide) rfl ?_
  refine en_iast (pc' := 53) (n := 363) (jj := 125) (h2 := hh_639) dX12_post_52 (by decide +kernel) (by decide) rfl rfl ?_
  refine ex_iinc (pc' := 56) (v := 126) (ls' := [(2, .inl 126), (0, .inr (.inr (some 196))), (1, .inl 0)]) dX12_post_53 rfl (by decide) (by decide) rfl rfl ?_
  refine ex_goto (pc' := 39) dX12_post_56 (by decide) ?_
  refine ex_iload_n (pc' := 40) dX12_post_39 rfl rfl ?_
  refine ex_sipush (v := 363) (pc' := 43) dX12_post_40 (by decide) rfl ?_
  refine ex_icmp_f (pc' := 46) dX12_post_43 (by decide) (by decide) rfl ?_
  refine ex_aload_n (pc' := 47) dX12_post_46 rfl rfl ?_
  refine ex_getR (pc' := 50) (n := 39) (r := 200) dX12_post_47 fl_12_23 (by decide +kernel) (by decide) (by decide +kernel) rfl ?_
  refine ex_iload_n (pc' := 51) dX12_post_50 rfl rfl ?_
  refine ex_iconst (v := 0) (pc' := 52) dX12_post_51 (by decide) rfl ?_
  refine en_iast (pc' := 53) (n := 363) (jj := 126) (h2 := hh_640) dX12_post_52 (by decide +kernel) (by decide) rfl rfl ?_
  refine ex_iinc (pc' := 56) (v := 127) (ls' := [(2, .inl 127), (0, .inr (.inr (some 196))), (1, .inl 0)]) dX12_post_53 rfl (by decide) (by decide) rfl rfl ?_
  refine ex_goto (pc' := 39) dX12_post_56 (by decide) ?_
  refine ex_iload_n (pc' := 40) dX12_post_39 rfl rfl ?_
  refine ex_sipush (v := 363) (pc' := 43) dX12_post_40 (by decide) rfl ?_
  refine ex_icmp_f (pc' := 46) dX12_post_43 (by decide) (by decide) rfl ?_
  refine ex_aload_n (pc' := 47) dX12_post_46 rfl rfl ?_
  refine ex_getR (pc' := 50) (n := 39) (r := 200) dX12_post_47 fl_12_23 (by decide +kernel) (by decide) (by decide +kernel) rfl ?_
  refine ex_iload_n (pc' := 51) dX12_post_50 rfl rfl ?_
  refine ex_iconst (v := 0) (pc' := 52) dX12_post_51 (by decide) rfl ?_
  refine en_iast (pc' := 53) (n := 363) (jj := 127) (h2 := hh_641) dX12_post_52 (by decide +kernel) (by decide) rfl rfl ?_
  refine ex_iinc (pc' := 56) (v := 128) (ls' := [(2, .inl 128), (0, .inr (.inr (some 196))), (1, .inl 0)]) dX12_post_53 rfl (by decide) (by decide) rfl rfl ?_
  refine ex_goto (pc' := 39) dX12_post_56 (by decide) ?_
  refine ex_iload_n (pc' := 40) dX12_post_39 rfl rfl ?_
  refine ex_sipush (v := 363) (pc' := 43) dX12_post_40 (by decide) rfl ?_
  refine ex_icmp_f (pc' := 46) dX12_post_43 (by decide) (by decide) rfl ?_
  refine ex_aload_n (pc' := 47) dX12_post_46 rfl rfl ?_
  refine ex_getR (pc' := 50) (n := 39) (r := 200) dX12_post_47 fl_12_23 (by decide +kernel) (by decide) (by decide +kernel) rfl ?_
  refine ex_iload_n (pc' := 51) dX12_post_50 rfl rfl ?_
  refine ex_iconst (v := 0) (pc' := 52) dX12_post_51 (by decide) rfl ?_
  refine en_iast (pc' := 53) (n := 363) (jj := 128) (h2 := hh_642) dX12_post_52 (by decide +kernel) (by decide) rfl rfl ?_
  refine ex_iinc (pc' := 56) (v := 129) (ls' := [(2, .inl 129), (0, .inr (.inr (some 196))), (1, .inl 0)]) dX12_post_53 rfl (by decide) (by decide) rfl rfl ?_
  refine ex_goto (pc' := 39) dX12_post_56 (by decide) ?_
  refine ex_iload_n (pc' := 40) dX12_post_39 rfl rfl ?_
  refine ex_sipush (v := 363) (pc' := 43) dX12_post_40 (by decide) rfl ?_
  refine ex_icmp_f (pc' := 46) dX12_post_43 (by decide) (by decide) rfl ?_
  refine ex_aload_n (pc' := 47) dX12_post_46 rfl rfl ?_
  refine ex_getR (pc' := 50) (n := 39) (r := 200) dX12_post_47 fl_12_23 (by decide +kernel) (by decide) (by decide +kernel) rfl ?_
  refine ex_iload_n (pc' := 51) dX12_post_50 rfl rfl ?_
  refine ex_iconst (v := 0) (pc' := 52) dX12_post_51 (by decide) rfl ?_
  refine en_iast (pc' := 53) (n := 363) (jj := 129) (h2 := hh_643) dX12_post_52 (by decide +kernel) (by decide) rfl rfl ?_
  refine ex_iinc (pc' := 56) (v := 130) (ls' := [(2, .inl 130), (0, .inr (.inr (some 196))), (1, .inl 0)]) dX12_post_53 rfl (by decide) (by decide) rfl rfl ?_
  refine ex_goto (pc' := 39) dX12_post_56 (by decide) ?_
  refine ex_iload_n (pc' := 40) dX12_post_39 rfl rfl ?_
  refine ex_sipush (v := 363) (pc' := 43) dX12_post_40 (by decide) rfl ?_
  refine ex_icmp_f (pc' := 46) dX12_post_43 (by decide) (by decide) rfl ?_
  refine ex_aload_n (pc' := 47) dX12_post_46 rfl rfl ?_
  refine ex_getR (pc' := 50) (n := 39) (r := 200) dX12_post_47 fl_12_23 (by decide +kernel) (by decide) (by decide +kernel) rfl ?_
  refine ex_iload_n (pc' := 51) dX12_post_50 rfl rfl ?_
  refine ex_iconst (v := 0) (pc' := 52) dX12_post_51 (by decide) rfl ?_
  refine en_iast (pc' := 53) (n := 363) (jj := 130) (h2 := hh_644) dX12_post_52 (by decide +kernel) (by decide) rfl rfl ?_
  refine ex_iinc (pc' := 56) (v := 131) (ls' := [(2, .inl 131), (0, .inr (.inr (some 196))), (1, .inl 0)]) dX12_post_53 rfl (by decide) (by decide) rfl rfl ?_
  refine ex_goto (pc' := 39) dX12_post_56 (by decide) ?_
  refine ex_iload_n (pc' := 40) dX12_post_39 rfl rfl ?_
  refine ex_sipush (v := 363) (pc' := 43) dX12_post_40 (by decide) rfl ?_
  refine ex_icmp_f (pc' := 46) dX12_post_43 (by decide) (by decide) rfl ?_
  refine ex_aload_n (pc' := 47) dX12_post_46 rfl rfl ?_
  refine ex_getR (pc' := 50) (n := 39) (r := 200) dX12_post_47 fl_12_23 (by decide +kernel) (by decide) (by decide +kernel) rfl ?_
  refine ex_iload_n (pc' := 51) dX12_post_50 rfl rfl ?_
  refine ex_iconst (v := 0) (pc' := 52) dX12_post_51 (by decide) rfl ?_
  refine en_iast (pc' := 53) (n := 363) (jj := 131) (h2 := hh_645) dX12_post_52 (by decide +kernel) (by decide) rfl rfl ?_
  refine ex_iinc (pc' := 56) (v := 132) (ls' := [(2, .inl 132), (0, .inr (.inr (some 196))), (1, .inl 0)]) dX12_post_53 rfl (by decide) (by decide) rfl rfl ?_
  refine ex_goto (pc' := 39) dX12_post_56 (by decide) ?_
  refine ex_iload_n (pc' := 40) dX12_post_39 rfl rfl ?_
  refine ex_sipush (v := 363) (pc' := 43) dX12_post_40 (by decide) rfl ?_
  refine ex_icmp_f (pc' := 46) dX12_post_43 (by decide) (by decide) rfl ?_
  refine ex_aload_n (pc' := 47) dX12_post_46 rfl rfl ?_
  refine ex_getR (pc' := 50) (n := 39) (r := 200) dX12_post_47 fl_12_23 (by decide +kernel) (by decide) (by decide +kernel) rfl ?_
  refine ex_iload_n (pc' := 51) dX12_post_50 rfl rfl ?_
  refine ex_iconst (v := 0) (pc' := 52) dX12_post_51 (by decide) rfl ?_
  refine en_iast (pc' := 53) (n := 363) (jj := 132) (h2 := hh_646) dX12_post_52 (by decide +kernel) (by decide) rfl rfl ?_
  refine ex_iinc (pc' := 56) (v := 133) (ls' := [(2, .inl 133), (0, .inr (.inr (some 196))), (1, .inl 0)]) dX12_post_53 rfl (by decide) (by decide) rfl rfl ?_
  refine ex_goto (pc' := 39) dX12_post_56 (by decide) ?_
  refine ex_iload_n (pc' := 40) dX12_post_39 rfl rfl ?_
  refine ex_sipush (v := 363) (pc' := 43) dX12_post_40 (by decide) rfl ?_
  refine ex_icmp_f (pc' := 46) dX12_post_43 (by decide) (by decide) rfl ?_
  refine ex_aload_n (pc' := 47) dX12_post_46 rfl rfl ?_
  refine ex_getR (pc' := 50) (n := 39) (r := 200) dX12_post_47 fl_12_23 (by decide +kernel) (by decide) (by decide +kernel) rfl ?_
  refine ex_iload_n (pc' := 51) dX12_post_50 rfl rfl ?_
  refine ex_iconst (v := 0) (pc' := 52) dX12_post_51 (by decide) rfl ?_
  refine en_iast (pc' := 53) (n := 363) (jj := 133) (h2 := hh_647) dX12_post_52 (by decide +kernel) (by decide) rfl rfl ?_
  refine ex_iinc (pc' := 56) (v := 134) (ls' := [(2, .inl 134), (0, .inr (.inr (some 196))), (1, .inl 0)]) dX12_post_53 rfl (by decide) (by decide) rfl rfl ?_
  refine ex_goto (pc' := 39) dX12_post_56 (by decide) ?_
  refine ex_iload_n (pc' := 40) dX12_post_39 rfl rfl ?_
  refine ex_sipush (v := 363) (pc' := 43) dX12_post_40 (by decide) rfl ?_
  refine ex_icmp_f (pc' := 46) dX12_post_43 (by decide) (by decide) rfl ?_
  refine ex_aload_n (pc' := 47) dX12_post_46 rfl rfl ?_
  refine ex_getR (pc' := 50) (n := 39) (r := 200) dX12_post_47 fl_12_23 (by decide +kernel) (by decide) (by decide +kernel) rfl ?_
  refine ex_iload_n (pc' := 51) dX12_post_50 rfl rfl ?_
  refine ex_iconst (v := 0) (pc' := 52) dX12_post_51 (by decide) rfl ?_
  refine en_iast (pc' := 53) (n := 363) (jj := 134) (h2 := hh_648) dX12_post_52 (by decide +kernel) (by decide) rfl rfl ?_
  refine ex_iinc (pc' := 56) (v := 135) (ls' := [(2, .inl 135), (0, .inr (.inr (some 196))), (1, .inl 0)]) dX12_post_53 rfl (by decide) (by decide) rfl rfl ?_
  refine ex_goto (pc' := 39) dX12_post_56 (by decide) ?_
  refine ex_iload_n (pc' := 40) dX12_post_39 rfl rfl ?_
  refine ex_sipush (v := 363) (pc' := 43) dX12_post_40 (by decide) rfl ?_
  refine ex_icmp_f (pc' := 46) dX12_post_43 (by decide) (by decide) rfl ?_
  refine ex_aload_n (pc' := 47) dX12_post_46 rfl rfl ?_
  refine ex_getR (pc' := 50) (n := 39) (r := 200) dX12_post_47 fl_12_23 (by decide +kernel) (by decide) (by decide +kernel) rfl ?_
  refine ex_iload_n (pc' := 51) dX12_post_50 rfl rfl ?_
  refine ex_iconst (v := 0) (pc' := 52) dX12_post_51 (by decide) rfl ?_
  refine en_iast (pc' := 53) (n := 363) (jj := 135) (h2 := hh_649) dX12_post_52 (by decide +kernel) (by decide) rfl rfl ?_
  refine ex_iinc (pc' := 56) (v := 136) (ls' := [(2, .inl 136), (0, .inr (.inr (some 196))), (1, .inl 0)]) dX12_post_53 rfl (by decide) (by decide) rfl rfl ?_
  refine ex_goto (pc' := 39) dX12_post_56 (by decide) ?_
  refine ex_iload_n (pc' := 40) dX12_post_39 rfl rfl ?_
  refine ex_sipush (v := 363) (pc' := 43) dX12_post_40 (by decide) rfl ?_
  refine ex_icmp_f (pc' := 46) dX12_post_43 (by decide) (by decide) rfl ?_
  refine ex_aload_n (pc' := 47) dX12_post_46 rfl rfl ?_
  refine ex_getR (pc' := 50) (n := 39) (r := 200) dX12_post_47 fl_12_23 (by decide +kernel) (by decide) (by decide +kernel) rfl ?_
  refine ex_iload_n (pc' := 51) dX12_post_50 rfl rfl ?_
  refine ex_iconst (v := 0) (pc' := 52) dX12_post_51 (by decide) rfl ?_
  refine en_iast (pc' := 53) (n := 363) (jj := 136) (h2 := hh_650) dX12_post_52 (by decide +kernel) (by decide) rfl rfl ?_
  refine ex_iinc (pc' := 56) (v := 137) (ls' := [(2, .inl 137), (0, .inr (.inr (some 196))), (1, .inl 0)]) dX12_post_53 rfl (by decide) (by decide) rfl rfl ?_
  refine ex_goto (pc' := 39) dX12_post_56 (by decide) ?_
  refine ex_iload_n (pc' := 40) dX12_post_39 rfl rfl ?_
  refine ex_sipush (v := 363) (pc' := 43) dX12_post_40 (by decide) rfl ?_
  refine ex_icmp_f (pc' := 46) dX12_post_43 (by decide) (by decide) rfl ?_
  refine ex_aload_n (pc' := 47) dX12_post_46 rfl rfl ?_
  refine ex_getR (pc' := 50) (n := 39) (r := 200) dX12_post_47 fl_12_23 (by decide +kernel) (by decide) (by decide +kernel) rfl ?_
  refine ex_iload_n (pc' := 51) dX12_post_50 rfl rfl ?_
  refine ex_iconst (v := 0) (pc' := 52) dX12_post_51 (by decide) rfl ?_
  refine en_iast (pc' := 53) (n := 363) (jj := 137) (h2 := hh_651) dX12_post_52 (by decide +kernel) (by decide) rfl rfl ?_
  refine ex_iinc (pc' := 56) (v := 138) (ls' := [(2, .inl 138), (0, .inr (.inr (some 196))), (1, .inl 0)]) dX12_post_53 rfl (by decide) (by decide) rfl rfl ?_
  refine ex_goto (pc' := 39) dX12_post_56 (by decide) ?_
  refine ex_iload_n (pc' := 40) dX12_post_39 rfl rfl ?_
  refine ex_sipush (v := 363) (pc' := 43) dX12_post_40 (by decide) rfl ?_
  refine ex_icmp_f (pc' := 46) dX12_post_43 (by decide) (by decide) rfl ?_
  refine ex_aload_n (pc' := 47) dX12_post_46 rfl rfl ?_
  refine ex_getR (pc' := 50) (n := 39) (r := 200) dX12_post_47 fl_12_23 (by decide +kernel) (by decide) (by decide +kernel) rfl ?_
  refine ex_iload_n (pc' := 51) dX12_post_50 rfl rfl ?_
  refine ex_iconst (v := 0) (pc' := 52) dX12_post_51 (by decide) rfl ?_
  refine en_iast (pc' := 53) (n := 363) (jj := 138) (h2 := hh_652) dX12_post_52 (by decide +kernel) (by decide) rfl rfl ?_
  refine ex_iinc (pc' := 56) (v := 139) (ls' := [(2, .inl 139), (0, .inr (.inr (some 196))), (1, .inl 0)]) dX12_post_53 rfl (by decide) (by decide) rfl rfl ?_
  refine ex_goto (pc' := 39) dX12_post_56 (by decide) ?_
  refine ex_iload_n (pc' := 40) dX12_post_39 rfl rfl ?_
  refine ex_sipush (v := 363) (pc' := 43) dX12_post_40 (by decide) rfl ?_
  refine ex_icmp_f (pc' := 46) dX12_post_43 (by decide) (by decide) rfl ?_
  refine ex_aload_n (pc' := 47) dX12_post_46 rfl rfl ?_
  refine ex_getR (pc' := 50) (n := 39) (r := 200) dX12_post_47 fl_12_23 (by decide +kernel) (by decide) (by decide +kernel) rfl ?_
  refine ex_iload_n (pc' := 51) dX12_post_50 rfl rfl ?_
  refine ex_iconst (v := 0) (pc' := 52) dX12_post_51 (by decide) rfl ?_
  refine en_iast (pc' := 53) (n := 363) (jj := 139) (h2 := hh_653) dX12_post_52 (by decide +kernel) (by decide) rfl rfl ?_
  refine ex_iinc (pc' := 56) (v := 140) (ls' := [(2, .inl 140), (0, .inr (.inr (some 196))), (1, .inl 0)]) dX12_post_53 rfl (by decide) (by decide) rfl rfl ?_
  refine ex_goto (pc' := 39) dX12_post_56 (by decide) ?_
  refine ex_iload_n (pc' := 40) dX12_post_39 rfl rfl ?_
  refine ex_sipush (v := 363) (pc' := 43) dX12_post_40 (by decide) rfl ?_
  refine ex_icmp_f (pc' := 46) dX12_post_43 (by decide) (by decide) rfl ?_
  refine ex_aload_n (pc' := 47) dX12_post_46 rfl rfl ?_
  refine ex_getR (pc' := 50) (n := 39) (r := 200) dX12_post_47 fl_12_23 (by decide +kernel) (by decide) (by decide +kernel) rfl ?_
  refine ex_iload_n (pc' := 51) dX12_post_50 rfl rfl ?_
  refine ex_iconst (v := 0) (pc' := 52) dX12_post_51 (by decide) rfl ?_
  refine en_iast (pc' := 53) (n := 363) (jj := 140) (h2 := hh_654) dX12_post_52 (by decide +kernel) (by decide) rfl rfl ?_
  refine ex_iinc (pc' := 56) (v := 141) (ls' := [(2, .inl 141), (0, .inr (.inr (some 196))), (1, .inl 0)]) dX12_post_53 rfl (by decide) (by decide) rfl rfl ?_
  refine ex_goto (pc' := 39) dX12_post_56 (by decide) ?_
  refine ex_iload_n (pc' := 40) dX12_post_39 rfl rfl ?_
  refine ex_sipush (v := 363) (pc' := 43) dX12_post_40 (by decide) rfl ?_
  refine ex_icmp_f (pc' := 46) dX12_post_43 (by decide) (by decide) rfl ?_
  refine ex_aload_n (pc' := 47) dX12_post_46 rfl rfl ?_
  refine ex_getR (pc' := 50) (n := 39) (r := 200) dX12_post_47 fl_12_23 (by decide +kernel) (by decide) (by decide +kernel) rfl ?_
  refine ex_iload_n (pc' := 51) dX12_post_50 rfl rfl ?_
  refine ex_iconst (v := 0) (pc' := 52) dX12_post_51 (by decide) rfl ?_
  refine en_iast (pc' := 53) (n := 363) (jj := 141) (h2 := hh_655) dX12_post_52 (by decide +kernel) (by decide) rfl rfl ?_
  refine ex_iinc (pc' := 56) (v := 142) (ls' := [(2, .inl 142), (0, .inr (.inr (some 196))), (1, .inl 0)]) dX12_post_53 rfl (by decide) (by decide) rfl rfl ?_
  refine ex_goto (pc' := 39) dX12_post_56 (by decide) ?_
  refine ex_iload_n (pc' := 40) dX12_post_39 rfl rfl ?_
  refine ex_sipush (v := 363) (pc' := 43) dX12_post_40 (by decide) rfl ?_
  refine ex_icmp_f (pc' := 46) dX12_post_43 (by decide) (by decide) rfl ?_
  refine ex_aload_n (pc' := 47) dX12_post_46 rfl rfl ?_
  refine ex_getR (pc' := 50) (n := 39) (r := 200) dX12_post_47 fl_12_23 (by decide +kernel) (by decide) (by decide +kernel) rfl ?_
  refine ex_iload_n (pc' := 51) dX12_post_50 rfl rfl ?_
  refine ex_iconst (v := 0) (pc' := 52) dX12_post_51 (by decide) rfl ?_
  refine en_iast (pc' := 53) (n := 363) (jj := 142) (h2 := hh_656) dX12_post_52 (by decide +kernel) (by decide) rfl rfl ?_
  refine ex_iinc (pc' := 56) (v := 143) (ls' := [(2, .inl 143), (0, .inr (.inr (some 196))), (1, .inl 0)]) dX12_post_53 rfl (by decide) (by decide) rfl rfl ?_
  refine ex_goto (pc' := 39) dX12_post_56 (by decide) ?_
  refine ex_iload_n (pc' := 40) dX12_post_39 rfl rfl ?_
  refine ex_sipush (v := 363) (pc' := 43) dX12_post_40 (by decide) rfl ?_
  refine ex_icmp_f (pc' := 46) dX12_post_43 (by decide) (by decide) rfl ?_
  refine ex_aload_n (pc' := 47) dX12_post_46 rfl rfl ?_
  refine ex_getR (pc' := 50) (n := 39) (r := 200) dX12_post_47 fl_12_23 (by decide +kernel) (by decide) (by decide +kernel) rfl ?_
  refine ex_iload_n (pc' := 51) dX12_post_50 rfl rfl ?_
  refine ex_iconst (v := 0) (pc' := 52) dX12_post_51 (by decide) rfl ?_
  refine en_iast (pc' := 53) (n := 363) (jj := 143) (h2 := hh_657) dX12_post_52 (by decide +kernel) (by decide) rfl rfl ?_
  refine ex_iinc (pc' := 56) (v := 144) (ls' := [(2, .inl 144), (0, .inr (.inr (some 196))), (1, .inl 0)]) dX12_post_53 rfl (by decide) (by decide) rfl rfl ?_
  refine ex_goto (pc' := 39) dX12_post_56 (by decide) ?_
  refine ex_iload_n (pc' := 40) dX12_post_39 rfl rfl ?_
  refine ex_sipush (v := 363) (pc' := 43) dX12_post_40 (by decide) rfl ?_
  refine ex_icmp_f (pc' := 46) dX12_post_43 (by decide) (by decide) rfl ?_
  refine ex_aload_n (pc' := 47) dX12_post_46 rfl rfl ?_
  refine ex_getR (pc' := 50) (n := 39) (r := 200) dX12_post_47 fl_12_23 (by decide +kernel) (by decide) (by decide +kernel) rfl ?_
  refine ex_iload_n (pc' := 51) dX12_post_50 rfl rfl ?_
  refine ex_iconst (v := 0) (pc' := 52) dX12_post_51 (by decide) rfl ?_
  refine en_iast (pc' := 53) (n := 363) (jj := 144) (h2 := hh_658) dX12_post_52 (by decide +kernel) (by decide) rfl rfl ?_
  refine ex_iinc (pc' := 56) (v := 145) (ls' := [(2, .inl 145), (0, .inr (.inr (some 196))), (1, .inl 0)]) dX12_post_53 rfl (by decide) (by decide) rfl rfl ?_
  refine ex_goto (pc' := 39) dX12_post_56 (by decide) ?_
  refine ex_iload_n (pc' := 40) dX12_post_39 rfl rfl ?_
  refine ex_sipush (v := 363) (pc' := 43) dX12_post_40 (by decide) rfl ?_
  refine ex_icmp_f (pc' := 46) dX12_post_43 (by decide) (by decide) rfl ?_
  refine ex_aload_n (pc' := 47) dX12_post_46 rfl rfl ?_
  refine ex_getR (pc' := 50) (n := 39) (r := 200) dX12_post_47 fl_12_23 (by decide +kernel) (by decide) (by decide +kernel) rfl ?_
  refine ex_iload_n (pc' := 51) dX12_post_50 rfl rfl ?_
  refine ex_iconst (v := 0) (pc' := 52) dX12_post_51 (by decide) rfl ?_
  refine en_iast (pc' := 53) (n := 363) (jj := 145) (h2 := hh_659) dX12_post_52 (by decide +kernel) (by decide) rfl rfl ?_
  refine ex_iinc (pc' := 56) (v := 146) (ls' := [(2, .inl 146), (0, .inr (.inr (some 196))), (1, .inl 0)]) dX12_post_53 rfl (by decide) (by decide) rfl rfl ?_
  refine ex_goto (pc' := 39) dX12_post_56 (by decide) ?_
  refine ex_iload_n (pc' := 40) dX12_post_39 rfl rfl ?_
  refine ex_sipush (v := 363) (pc' := 43) dX12_post_40 (by decide) rfl ?_
  refine ex_icmp_f (pc' := 46) dX12_post_43 (by decide) (by decide) rfl ?_
  refine ex_aload_n (pc' := 47) dX12_post_46 rfl rfl ?_
  refine ex_getR (pc' := 50) (n := 39) (r := 200) dX12_post_47 fl_12_23 (by decide +kernel) (by decide) (by decide +kernel) rfl ?_
  refine ex_iload_n (pc' := 51) dX12_post_50 rfl rfl ?_
  refine ex_iconst (v := 0) (pc' := 52) dX12_post_51 (by decide) rfl ?_
  refine en_iast (pc' := 53) (n := 363) (jj := 146) (h2 := hh_660) dX12_post_52 (by decide +kernel) (by decide) rfl rfl ?_
  refine ex_iinc (pc' := 56) (v := 147) (ls' := [(2, .inl 147), (0, .inr (.inr (some 196))), (1, .inl 0)]) dX12_post_53 rfl (by decide) (by decide) rfl rfl ?_
  refine ex_goto (pc' := 39) dX12_post_56 (by decide) ?_
  refine ex_iload_n (pc' := 40) dX12_post_39 rfl rfl ?_
  refine ex_sipush (v := 363) (pc' := 43) dX12_post_40 (by decide) rfl ?_
  refine ex_icmp_f (pc' := 46) dX12_post_43 (by decide) (by decide) rfl ?_
  refine ex_aload_n (pc' := 47) dX12_post_46 rfl rfl ?_
  refine ex_getR (pc' := 50) (n := 39) (r := 200) dX12_post_47 fl_12_23 (by decide +kernel) (by decide) (by decide +kernel) rfl ?_
  refine ex_iload_n (pc' := 51) dX12_post_50 rfl rfl ?_
  refine ex_iconst (v := 0) (pc' := 52) dX12_post_51 (by decide) rfl ?_
  refine en_iast (pc' := 53) (n := 363) (jj := 147) (h2 := hh_661) dX12_post_52 (by decide +kernel) (by decide) rfl rfl ?_
  refine ex_iinc (pc' := 56) (v := 148) (ls' := [(2, .inl 148), (0, .inr (.inr (some 196))), (1, .inl 0)]) dX12_post_53 rfl (by decide) (by decide) rfl rfl ?_
  refine ex_goto (pc' := 39) dX12_post_56 (by decide) ?_
  refine ex_iload_n (pc' := 40) dX12_post_39 rfl rfl ?_
  refine ex_sipush (v := 363) (pc' := 43) dX12_post_40 (by decide) rfl ?_
  refine ex_icmp_f (pc' := 46) dX12_post_43 (by decide) (by decide) rfl ?_
  refine ex_aload_n (pc' := 47) dX12_post_46 rfl rfl ?_
  refine ex_getR (pc' := 50) (n := 39) (r := 200) dX12_post_47 fl_12_23 (by decide +kernel) (by decide) (by decide +kernel) rfl ?_
  refine ex_iload_n (pc' := 51) dX12_post_50 rfl rfl ?_
  refine ex_iconst (v := 0) (pc' := 52) dX12_post_51 (by decide) rfl ?_
  refine en_iast (pc' := 53) (n := 363) (jj := 148) (h2 := hh_662) dX12_post_52 (by decide +kernel) (by decide) rfl rfl ?_
  refine ex_iinc (pc' := 56) (v := 149) (ls' := [(2, .inl 149), (0, .inr (.inr (some 196))), (1, .inl 0)]) dX12_post_53 rfl (by decide) (by decide) rfl rfl ?_
  refine ex_goto (pc' := 39) dX12_post_56 (by decide) ?_
  refine ex_iload_n (pc' := 40) dX12_post_39 rfl rfl ?_
  refine ex_sipush (v := 363) (pc' := 43) dX12_post_40 (by decide) rfl ?_
  refine ex_icmp_f (pc' := 46) dX12_post_43 (by decide) (by decide) rfl ?_
  refine ex_aload_n (pc' := 47) dX12_post_46 rfl rfl ?_
  refine ex_getR (pc' := 50) (n := 39) (r := 200) dX12_post_47 fl_12_23 (by decide +kernel) (by decide) (by decide +kernel) rfl ?_
  refine ex_iload_n (pc' := 51) dX12_post_50 rfl rfl ?_
  refine ex_iconst (v := 0) (pc' := 52) dX12_post_51 (by decide) rfl ?_
  refine en_iast (pc' := 53) (n := 363) (jj := 149) (h2 := hh_663) dX12_post_52 (by decide +kernel) (by decide) rfl rfl ?_
  refine ex_iinc (pc' := 56) (v := 150) (ls' := [(2, .inl 150), (0, .inr (.inr (some 196))), (1, .inl 0)]) dX12_post_53 rfl (by decide) (by decide) rfl rfl ?_
  refine ex_goto (pc' := 39) dX12_post_56 (by decide) ?_
  refine ex_iload_n (pc' := 40) dX12_post_39 rfl rfl ?_
  refine ex_sipush (v := 363) (pc' := 43) dX12_post_40 (by decide) rfl ?_
  refine ex_icmp_f (pc' := 46) dX12_post_43 (by decide) (by decide) rfl ?_
  refine ex_aload_n (pc' := 47) dX12_post_46 rfl rfl ?_
  refine ex_getR (pc' := 50) (n := 39) (r := 200) dX12_post_47 fl_12_23 (by decide +kernel) (by decide) (by decide +kernel) rfl ?_
  refine ex_iload_n (pc' := 51) dX12_post_50 rfl rfl ?_
  refine ex_iconst (v := 0) (pc' := 52) dX12_post_51 (by decide) rfl ?_
  refine en_iast (pc' := 53) (n := 363) (jj := 150) (h2 := hh_664) dX12_post_52 (by decide +kernel) (by decide) rfl rfl ?_
  refine ex_iinc (pc' := 56) (v := 151) (ls' := [(2, .inl 151), (0, .inr (.inr (some 196))), (1, .inl 0)]) dX12_post_53 rfl (by decide) (by decide) rfl rfl ?_
  refine ex_goto (pc' := 39) dX12_post_56 (by decide) ?_
  refine ex_iload_n (pc' := 40) dX12_post_39 rfl rfl ?_
  refine ex_sipush (v := 363) (pc' := 43) dX12_post_40 (by decide) rfl ?_
  refine ex_icmp_f (pc' := 46) dX12_post_43 (by decide) (by decide) rfl ?_
  refine ex_aload_n (pc' := 47) dX12_post_46 rfl rfl ?_
  refine ex_getR (pc' := 50) (n := 39) (r := 200) dX12_post_47 fl_12_23 (by decide +kernel) (by decide) (by decide +kernel) rfl ?_
  refine ex_iload_n (pc' := 51) dX12_post_50 rfl rfl ?_
  refine ex_iconst (v := 0) (pc' := 52) dX12_post_51 (by decide) rfl ?_
  refine en_iast (pc' := 53) (n := 363) (jj := 151) (h2 := hh_665) dX12_post_52 (by decide +kernel) (by decide) rfl rfl ?_
  refine ex_iinc (pc' := 56) (v := 152) (ls' := [(2, .inl 152), (0, .inr (.inr (some 196))), (1, .inl 0)]) dX12_post_53 rfl (by decide) (by decide) rfl rfl ?_
  refine ex_goto (pc' := 39) dX12_post_56 (by decide) ?_
  refine ex_iload_n (pc' := 40) dX12_post_39 rfl rfl ?_
  refine ex_sipush (v := 363) (pc' := 43) dX12_post_40 (by decide) rfl ?_
  refine ex_icmp_f (pc' := 46) dX12_post_43 (by decide) (by decide) rfl ?_
  refine ex_aload_n (pc' := 47) dX12_post_46 rfl rfl ?_
  refine ex_getR (pc' := 50) (n := 39) (r := 200) dX12_post_47 fl_12_23 (by decide +kernel) (by decide) (by decide +kernel) rfl ?_
  refine ex_iload_n (pc' := 51) dX12_post_50 rfl rfl ?_
  refine ex_iconst (v := 0) (pc' := 52) dX12_post_51 (by decide) rfl ?_
  refine en_iast (pc' := 53) (n := 363) (jj := 152) (h2 := hh_666) dX12_post_52 (by decide +kernel) (by decide) rfl rfl ?_
  refine ex_iinc (pc' := 56) (v := 153) (ls' := [(2, .inl 153), (0, .inr (.inr (some 196))), (1, .inl 0)]) dX12_post_53 rfl (by decide) (by decide) rfl rfl ?_
  refine ex_goto (pc' := 39) dX12_post_56 (by decide) ?_
  refine ex_iload_n (pc' := 40) dX12_post_39 rfl rfl ?_
  refine ex_sipush (v := 363) (pc' := 43) dX12_post_40 (by decide) rfl ?_
  refine ex_icmp_f (pc' := 46) dX12_post_43 (by decide) (by decide) rfl ?_
  refine ex_aload_n (pc' := 47) dX12_post_46 rfl rfl ?_
  refine ex_getR (pc' := 50) (n := 39) (r := 200) dX12_post_47 fl_12_23 (by decide +kernel) (by decide) (by decide +kernel) rfl ?_
  refine ex_iload_n (pc' := 51) dX12_post_50 rfl rfl ?_
  refine ex_iconst (v := 0) (pc' := 52) dX12_post_51 (by decide) rfl ?_
  refine en_iast (pc' := 53) (n := 363) (jj := 153) (h2 := hh_667) dX12_post_52 (by decide +kernel) (by decide) rfl rfl ?_
  refine ex_iinc (pc' := 56) (v := 154) (ls' := [(2, .inl 154), (0, .inr (.inr (some 196))), (1, .inl 0)]) dX12_post_53 rfl (by decide) (by decide) rfl rfl ?_
  refine ex_goto (pc' := 39) dX12_post_56 (by decide) ?_
  refine ex_iload_n (pc' := 40) dX12_post_39 rfl rfl ?_
  refine ex_sipush (v := 363) (pc' := 43) dX12_post_40 (by decide) rfl ?_
  refine ex_icmp_f (pc' := 46) dX12_post_43 (by decide) (by decide) rfl ?_
  refine ex_aload_n (pc' := 47) dX12_post_46 rfl rfl ?_
  refine ex_getR (pc' := 50) (n := 39) (r := 200) dX12_post_47 fl_12_23 (by decide +kernel) (by decide) (by decide +kernel) rfl ?_
  refine ex_iload_n (pc' := 51) dX12_post_50 rfl rfl ?_
  refine ex_iconst (v := 0) (pc' := 52) dX12_post_51 (by decide) rfl ?_
  refine en_iast (pc' := 53) (n := 363) (jj := 154) (h2 := hh_668) dX12_post_52 (by decide +kernel) (by decide) rfl rfl ?_
  refine ex_iinc (pc' := 56) (v := 155) (ls' := [(2, .inl 155), (0, .inr (.inr (some 196))), (1, .inl 0)]) dX12_post_53 rfl (by decide) (by decide) rfl rfl ?_
  refine ex_goto (pc' := 39) dX12_post_56 (by decide) ?_
  refine ex_iload_n (pc' := 40) dX12_post_39 rfl rfl ?_
  refine ex_sipush (v := 363) (pc' := 43) dX12_post_40 (by decide) rfl ?_
  refine ex_icmp_f (pc' := 46) dX12_post_43 (by decide) (by decide) rfl ?_
  refine ex_aload_n (pc' := 47) dX12_post_46 rfl rfl ?_
  refine ex_getR (pc' := 50) (n := 39) (r := 200) dX12_post_47 fl_12_23 (by decide +kernel) (by decide) (by decide +kernel) rfl ?_
  refine ex_iload_n (pc' := 51) dX12_post_50 rfl rfl ?_
  refine ex_iconst (v := 0) (pc' := 52) dX12_post_51 (by decide) rfl ?_
  refine en_iast (pc' := 53) (n := 363) (jj := 155) (h2 := hh_669) dX12_post_52 (by decide +kernel) (by decide) rfl rfl ?_
  refine ex_iinc (pc' := 56) (v := 156) (ls' := [(2, .inl 156), (0, .inr (.inr (some 196))), (1, .inl 0)]) dX12_post_53 rfl (by decide) (by decide) rfl rfl ?_
  refine ex_goto (pc' := 39) dX12_post_56 (by decide) ?_
  refine ex_iload_n (pc' := 40) dX12_post_39 rfl rfl ?_
  refine ex_sipush (v := 363) (pc' := 43) dX12_post_40 (by decide) rfl ?_
  refine ex_icmp_f (pc' := 46) dX12_post_43 (by decide) (by decide) rfl ?_
  refine ex_aload_n (pc' := 47) dX12_post_46 rfl rfl ?_
  refine ex_getR (pc' := 50) (n := 39) (r := 200) dX12_post_47 fl_12_23 (by decide +kernel) (by decide) (by decide +kernel) rfl ?_
  refine ex_iload_n (pc' := 51) dX12_post_50 rfl rfl ?_
  refine ex_iconst (v := 0) (pc' := 52) dX12_post_51 (by decide) rfl ?_
  refine en_iast (pc' := 53) (n := 363) (jj := 156) (h2 := hh_670) dX12_post_52 (by decide +kernel) (by decide) rfl rfl ?_
  refine ex_iinc (pc' := 56) (v := 157) (ls' := [(2, .inl 157), (0, .inr (.inr (some 196))), (1, .inl 0)]) dX12_post_53 rfl (by decide) (by decide) rfl rfl ?_
  refine ex_goto (pc' := 39) dX12_post_56 (by decide) ?_
  refine ex_iload_n (pc' := 40) dX12_post_39 rfl rfl ?_
  refine ex_sipush (v := 363) (pc' := 43) dX12_post_40 (by decide) rfl ?_
  refine ex_icmp_f (pc' := 46) dX12_post_43 (by decide) (by decide) rfl ?_
  refine ex_aload_n (pc' := 47) dX12_post_46 rfl rfl ?_
  refine ex_getR (pc' := 50) (n := 39) (r := 200) dX12_post_47 fl_12_23 (by decide +kernel) (by decide) (by decide +kernel) rfl ?_
  refine ex_iload_n (pc' := 51) dX12_post_50 rfl rfl ?_
  refine ex_iconst (v := 0) (pc' := 52) dX12_post_51 (by decide) rfl ?_
  refine en_iast (pc' := 53) (n := 363) (jj := 157) (h2 := hh_671) dX12_post_52 (by decide +kernel) (by decide) rfl rfl ?_
  refine ex_iinc (pc' := 56) (v := 158) (ls' := [(2, .inl 158), (0, .inr (.inr (some 196))), (1, .inl 0)]) dX12_post_53 rfl (by decide) (by decide) rfl rfl ?_
  refine ex_goto (pc' := 39) dX12_post_56 (by decide) ?_
  refine ex_iload_n (pc' := 40) dX12_post_39 rfl rfl ?_
  refine ex_sipush (v := 363) (pc' := 43) dX12_post_40 (by decide) rfl ?_
  refine ex_icmp_f (pc' := 46) dX12_post_43 (by decide) (by decide) rfl ?_
  refine ex_aload_n (pc' := 47) dX12_post_46 rfl rfl ?_
  refine ex_getR (pc' := 50) (n := 39) (r := 200) dX12_post_47 fl_12_23 (by decide +kernel) (by decide) (by decide +kernel) rfl ?_
  refine ex_iload_n (pc' := 51) dX12_post_50 rfl rfl ?_
  refine ex_iconst (v := 0) (pc' := 52) dX12_post_51 (by decide) rfl ?_
  refine en_iast (pc' := 53) (n := 363) (jj := 158) (h2 := hh_672) dX12_post_52 (by decide +kernel) (by decide) rfl rfl ?_
  refine ex_iinc (pc' := 56) (v := 159) (ls' := [(2, .inl 159), (0, .inr (.inr (some 196))), (1, .inl 0)]) dX12_post_53 rfl (by decide) (by decide) rfl rfl ?_
  refine ex_goto (pc' := 39) dX12_post_56 (by decide) ?_
  refine ex_iload_n (pc' := 40) dX12_post_39 rfl rfl ?_
  refine ex_sipush (v := 363) (pc' := 43) dX12_post_40 (by decide) rfl ?_
  refine ex_icmp_f (pc' := 46) dX12_post_43 (by decide) (by decide) rfl ?_
  refine ex_aload_n (pc' := 47) dX12_post_46 rfl rfl ?_
  refine ex_getR (pc' := 50) (n := 39) (r := 200) dX12_post_47 fl_12_23 (by decide +kernel) (by decide) (by decide +kernel) rfl ?_
  refine ex_iload_n (pc' := 51) dX12_post_50 rfl rfl ?_
  refine ex_iconst (v := 0) (pc' := 52) dX12_post_51 (by decide) rfl ?_
  refine en_iast (pc' := 53) (n := 363) (jj := 159) (h2 := hh_673) dX12_post_52 (by decide +kernel) (by decide) rfl rfl ?_
  refine ex_iinc (pc' := 56) (v := 160) (ls' := [(2, .inl 160), (0, .inr (.inr (some 196))), (1, .inl 0)]) dX12_post_53 rfl (by decide) (by decide) rfl rfl ?_
  refine ex_goto (pc' := 39) dX12_post_56 (by decide) ?_
  refine ex_iload_n (pc' := 40) dX12_post_39 rfl rfl ?_
  refine ex_sipush (v := 363) (pc' := 43) dX12_post_40 (by decide) rfl ?_
  refine ex_icmp_f (pc' := 46) dX12_post_43 (by decide) (by decide) rfl ?_
  refine ex_aload_n (pc' := 47) dX12_post_46 rfl rfl ?_
  refine ex_getR (pc' := 50) (n := 39) (r := 200) dX12_post_47 fl_12_23 (by decide +kernel) (by decide) (by decide +kernel) rfl ?_
  refine ex_iload_n (pc' := 51) dX12_post_50 rfl rfl ?_
  refine ex_iconst (v := 0) (pc' := 52) dX12_post_51 (by decide) rfl ?_
  refine en_iast (pc' := 53) (n := 363) (jj := 160) (h2 := hh_674) dX12_post_52 (by decide +kernel) (by decide) rfl rfl ?_
  refine ex_iinc (pc' := 56) (v := 161) (ls' := [(2, .inl 161), (0, .inr (.inr (some 196))), (1, .inl 0)]) dX12_post_53 rfl (by decide) (by decide) rfl rfl ?_
  refine ex_goto (pc' := 39) dX12_post_56 (by decide) ?_
  refine ex_iload_n (pc' := 40) dX12_post_39 rfl rfl ?_
  refine ex_sipush (v := 363) (pc' := 43) dX12_post_40 (by decide) rfl ?_
  refine ex_icmp_f (pc' := 46) dX12_post_43 (by decide) (by decide) rfl ?_
  refine ex_aload_n (pc' := 47) dX12_post_46 rfl rfl ?_
  refine ex_getR (pc' := 50) (n := 39) (r := 200) dX12_post_47 fl_12_23 (by decide +kernel) (by decide) (by decide +kernel) rfl ?_
  refine ex_iload_n (pc' := 51) dX12_post_50 rfl rfl ?_
  refine ex_iconst (v := 0) (pc' := 52) dX12_post_51 (by decide) rfl ?_
  refine en_iast (pc' := 53) (n := 363) (jj := 161) (h2 := hh_675) dX12_post_52 (by decide +kernel) (by decide) rfl rfl ?_
  refine ex_iinc (pc' := 56) (v := 162) (ls' := [(2, .inl 162), (0, .inr (.inr (some 196))), (1, .inl 0)]) dX12_post_53 rfl (by decide) (by decide) rfl rfl ?_
  refine ex_goto (pc' := 39) dX12_post_56 (by decide) ?_
  refine ex_iload_n (pc' := 40) dX12_post_39 rfl rfl ?_
  refine ex_sipush (v := 363) (pc' := 43) dX12_post_40 (by decide) rfl ?_
  refine ex_icmp_f (pc' := 46) dX12_post_43 (by decide) (by decide) rfl ?_
  refine ex_aload_n (pc' := 47) dX12_post_46 rfl rfl ?_
  refine ex_getR (pc' := 50) (n := 39) (r := 200) dX12_post_47 fl_12_23 (by decide +kernel) (by decide) (by decide +kernel) rfl ?_
  refine ex_iload_n (pc' := 51) dX12_post_50 rfl rfl ?_
  refine ex_iconst (v := 0) (pc' := 52) dX12_post_51 (by decide) rfl ?_
  refine en_iast (pc' := 53) (n := 363) (jj := 162) (h2 := hh_676) dX12_post_52 (by decide +kernel) (by decide) rfl rfl ?_
  refine ex_iinc (pc' := 56) (v := 163) (ls' := [(2, .inl 163), (0, .inr (.inr (some 196))), (1, .inl 0)]) dX12_post_53 rfl (by decide) (by decide) rfl rfl ?_
  refine ex_goto (pc' := 39) dX12_post_56 (by decide) ?_
  refine ex_iload_n (pc' := 40) dX12_post_39 rfl rfl ?_
  refine ex_sipush (v := 363) (pc' := 43) dX12_post_40 (by decide) rfl ?_
  refine ex_icmp_f (pc' := 46) dX12_post_43 (by decide) (by decide) rfl ?_
  refine ex_aload_n (pc' := 47) dX12_post_46 rfl rfl ?_
  refine ex_getR (pc' := 50) (n := 39) (r := 200) dX12_post_47 fl_12_23 (by decide +kernel) (by decide) (by decide +kernel) rfl ?_
  refine ex_iload_n (pc' := 51) dX12_post_50 rfl rfl ?_
  refine ex_iconst (v := 0) (pc' := 52) dX12_post_51 (by decide) rfl ?_
  refine en_iast (pc' := 53) (n := 363) (jj := 163) (h2 := hh_677) dX12_post_52 (by decide +kernel) (by decide) rfl rfl ?_
  refine ex_iinc (pc' := 56) (v := 164) (ls' := [(2, .inl 164), (0, .inr (.inr (some 196))), (1, .inl 0)]) dX12_post_53 rfl (by decide) (by decide) rfl rfl ?_
  refine ex_goto (pc' := 39) dX12_post_56 (by decide) ?_
  refine ex_iload_n (pc' := 40) dX12_post_39 rfl rfl ?_
  refine ex_sipush (v := 363) (pc' := 43) dX12_post_40 (by decide) rfl ?_
  refine ex_icmp_f (pc' := 46) dX12_post_43 (by decide) (by decide) rfl ?_
  refine ex_aload_n (pc' := 47) dX12_post_46 rfl rfl ?_
  refine ex_getR (pc' := 50) (n := 39) (r := 200) dX12_post_47 fl_12_23 (by decide +kernel) (by decide) (by decide +kernel) rfl ?_
  refine ex_iload_n (pc' := 51) dX12_post_50 rfl rfl ?_
  refine ex_iconst (v := 0) (pc' := 52) dX12_post_51 (by decide) rfl ?_
  refine en_iast (pc' := 53) (n := 363) (jj := 164) (h2 := hh_678) dX12_post_52 (by decide +kernel) (by decide) rfl rfl ?_
  refine ex_iinc (pc' := 56) (v := 165) (ls' := [(2, .inl 165), (0, .inr (.inr (some 196))), (1, .inl 0)]) dX12_post_53 rfl (by decide) (by decide) rfl rfl ?_
  refine ex_goto (pc' := 39) dX12_post_56 (by decide) ?_
  refine ex_iload_n (pc' := 40) dX12_post_39 rfl rfl ?_
  refine ex_sipush (v := 363) (pc' := 43) dX12_post_40 (by decide) rfl ?_
  refine ex_icmp_f (pc' := 46) dX12_post_43 (by decide) (by decide) rfl ?_
  refine ex_aload_n (pc' := 47) dX12_post_46 rfl rfl ?_
  refine ex_getR (pc' := 50) (n := 39) (r := 200) dX12_post_47 fl_12_23 (by decide +kernel) (by decide) (by decide +kernel) rfl ?_
  refine ex_iload_n (pc' := 51) dX12_post_50 rfl rfl ?_
  refine ex_iconst (v := 0) (pc' := 52) dX12_post_51 (by decide) rfl ?_
  refine en_iast (pc' := 53) (n := 363) (jj := 165) (h2 := hh_679) dX12_post_52 (by decide +kernel) (by decide) rfl rfl ?_
  refine ex_iinc (pc' := 56) (v := 166) (ls' := [(2, .inl 166), (0, .inr (.inr (some 196))), (1, .inl 0)]) dX12_post_53 rfl (by decide) (by decide) rfl rfl ?_
  refine ex_goto (pc' := 39) dX12_post_56 (by decide) ?_
  refine ex_iload_n (pc' := 40) dX12_post_39 rfl rfl ?_
  refine ex_sipush (v := 363) (pc' := 43) dX12_post_40 (by decide) rfl ?_
  refine ex_icmp_f (pc' := 46) dX12_post_43 (by decide) (by decide) rfl ?_
  refine ex_aload_n (pc' := 47) dX12_post_46 rfl rfl ?_
  refine ex_getR (pc' := 50) (n := 39) (r := 200) dX12_post_47 fl_12_23 (by decide +kernel) (by decide) (by decide +kernel) rfl ?_
  refine ex_iload_n (pc' := 51) dX12_post_50 rfl rfl ?_
  refine ex_iconst (v := 0) (pc' := 52) dX12_post_51 (by decide) rfl ?_
  refine en_iast (pc' := 53) (n := 363) (jj := 166) (h2 := hh_680) dX12_post_52 (by decide +kernel) (by decide) rfl rfl ?_
  refine ex_iinc (pc' := 56) (v := 167) (ls' := [(2, .inl 167), (0, .inr (.inr (some 196))), (1, .inl 0)]) dX12_post_53 rfl (by decide) (by decide) rfl rfl ?_
  refine ex_goto (pc' := 39) dX12_post_56 (by decide) ?_
  refine ex_iload_n (pc' := 40) dX12_post_39 rfl rfl ?_
  refine ex_sipush (v := 363) (pc' := 43) dX12_post_40 (by decide) rfl ?_
  refine ex_icmp_f (pc' := 46) dX12_post_43 (by decide) (by decide) rfl ?_
  refine ex_aload_n (pc' := 47) dX12_post_46 rfl rfl ?_
  refine ex_getR (pc' := 50) (n := 39) (r := 200) dX12_post_47 fl_12_23 (by decide +kernel) (by decide) (by decide +kernel) rfl ?_
  refine ex_iload_n (pc' := 51) dX12_post_50 rfl rfl ?_
  refine ex_iconst (v := 0) (pc' := 52) dX12_post_51 (by decide) rfl ?_
  refine en_iast (pc' := 53) (n := 363) (jj := 167) (h2 := hh_681) dX12_post_52 (by decide +kernel) (by decide) rfl rfl ?_
  refine ex_iinc (pc' := 56) (v := 168) (ls' := [(2, .inl 168), (0, .inr (.inr (some 196))), (1, .inl 0)]) dX12_post_53 rfl (by decide) (by decide) rfl rfl ?_
  refine ex_goto (pc' := 39) dX12_post_56 (by decide) ?_
  refine ex_iload_n (pc' := 40) dX12_post_39 rfl rfl ?_
  refine ex_sipush (v := 363) (pc' := 43) dX12_post_40 (by decide) rfl ?_
  refine ex_icmp_f (pc' := 46) dX12_post_43 (by decide) (by decide) rfl ?_
  refine ex_aload_n (pc' := 47) dX12_post_46 rfl rfl ?_
  refine ex_getR (pc' := 50) (n := 39) (r := 200) dX12_post_47 fl_12_23 (by decide +kernel) (by decide) (by decide +kernel) rfl ?_
  refine ex_iload_n (pc' := 51) dX12_post_50 rfl rfl ?_
  refine ex_iconst (v := 0) (pc' := 52) dX12_post_51 (by decide) rfl ?_
  refine en_iast (pc' := 53) (n := 363) (jj := 168) (h2 := hh_682) dX12_post_52 (by decide +kernel) (by decide) rfl rfl ?_
  refine ex_iinc (pc' := 56) (v := 169) (ls' := [(2, .inl 169), (0, .inr (.inr (some 196))), (1, .inl 0)]) dX12_post_53 rfl (by decide) (by decide) rfl rfl ?_
  refine ex_goto (pc' := 39) dX12_post_56 (by decide) ?_
  refine ex_iload_n (pc' := 40) dX12_post_39 rfl rfl ?_
  refine ex_sipush (v := 363) (pc' := 43) dX12_post_40 (by decide) rfl ?_
  refine ex_icmp_f (pc' := 46) dX12_post_43 (by decide) (by decide) rfl ?_
  refine ex_aload_n (pc' := 47) dX12_post_46 rfl rfl ?_
  refine ex_getR (pc' := 50) (n := 39) (r := 200) dX12_post_47 fl_12_23 (by decide +kernel) (by decide) (by decide +kernel) rfl ?_
  refine ex_iload_n (pc' := 51) dX12_post_50 rfl rfl ?_
  refine ex_iconst (v := 0) (pc' := 52) dX12_post_51 (by decide) rfl ?_
  refine en_iast (pc' := 53) (n := 363) (jj := 169) (h2 := hh_683) dX12_post_52 (by decide +kernel) (by decide) rfl rfl ?_
  refine ex_iinc (pc' := 56) (v := 170) (ls' := [(2, .inl 170), (0, .inr (.inr (some 196))), (1, .inl 0)]) dX12_post_53 rfl (by decide) (by decide) rfl rfl ?_
  refine ex_goto (pc' := 39) dX12_post_56 (by decide) ?_
  refine ex_iload_n (pc' := 40) dX12_post_39 rfl rfl ?_
  refine ex_sipush (v := 363) (pc' := 43) dX12_post_40 (by decide) rfl ?_
  refine ex_icmp_f (pc' := 46) dX12_post_43 (by decide) (by decide) rfl ?_
  refine ex_aload_n (pc' := 47) dX12_post_46 rfl rfl ?_
  refine ex_getR (pc' := 50) (n := 39) (r := 200) dX12_post_47 fl_12_23 (by decide +kernel) (by decide) (by decide +kernel) rfl ?_
  refine ex_iload_n (pc' := 51) dX12_post_50 rfl rfl ?_
  refine ex_iconst (v := 0) (pc' := 52) dX12_post_51 (by decide) rfl ?_
  refine en_iast (pc' := 53) (n := 363) (jj := 170) (h2 := hh_684) dX12_post_52 (by decide +kernel) (by decide) rfl rfl ?_
  refine ex_iinc (pc' := 56) (v := 171) (ls' := [(2, .inl 171), (0, .inr (.inr (some 196))), (1, .inl 0)]) dX12_post_53 rfl (by decide) (by decide) rfl rfl ?_
  refine ex_goto (pc' := 39) dX12_post_56 (by decide) ?_
  refine ex_iload_n (pc' := 40) dX12_post_39 rfl rfl ?_
  refine ex_sipush (v := 363) (pc' := 43) dX12_post_40 (by decide) rfl ?_
  refine ex_icmp_f (pc' := 46) dX12_post_43 (by decide) (by decide) rfl ?_
  refine ex_aload_n (pc' := 47) dX12_post_46 rfl rfl ?_
  refine ex_getR (pc' := 50) (n := 39) (r := 200) dX12_post_47 fl_12_23 (by decide +kernel) (by decide) (by decide +kernel) rfl ?_
  refine ex_iload_n (pc' := 51) dX12_post_50 rfl rfl ?_
  refine ex_iconst (v := 0) (pc' := 52) dX12_post_51 (by decide) rfl ?_
  refine en_iast (pc' := 53) (n := 363) (jj := 171) (h2 := hh_685) dX12_post_52 (by decide +kernel) (by decide) rfl rfl ?_
  refine ex_iinc (pc' := 56) (v := 172) (ls' := [(2, .inl 172), (0, .inr (.inr (some 196))), (1, .inl 0)]) dX12_post_53 rfl (by decide) (by decide) rfl rfl ?_
  refine ex_goto (pc' := 39) dX12_post_56 (by decide) ?_
  refine ex_iload_n (pc' := 40) dX12_post_39 rfl rfl ?_
  refine ex_sipush (v := 363) (pc' := 43) dX12_post_40 (by decide) rfl ?_
  refine ex_icmp_f (pc' := 46) dX12_post_43 (by decide) (by decide) rfl ?_
  refine ex_aload_n (pc' := 47) dX12_post_46 rfl rfl ?_
  refine ex_getR (pc' := 50) (n := 39) (r := 200) dX12_post_47 fl_12_23 (by decide +kernel) (by decide) (by decide +kernel) rfl ?_
  refine ex_iload_n (pc' := 51) dX12_post_50 rfl rfl ?_
  refine ex_iconst (v := 0) (pc' := 52) dX12_post_51 (by decide) rfl ?_
  refine en_iast (pc' := 53) (n := 363) (jj := 172) (h2 := hh_686) dX12_post_52 (by decide +kernel) (by decide) rfl rfl ?_
  refine ex_iinc (pc' := 56) (v := 173) (ls' := [(2, .inl 173), (0, .inr (.inr (some 196))), (1, .inl 0)]) dX12_post_53 rfl (by decide) (by decide) rfl rfl ?_
  refine ex_goto (pc' := 39) dX12_post_56 (by decide) ?_
  refine ex_iload_n (pc' := 40) dX12_post_39 rfl rfl ?_
  refine ex_sipush (v := 363) (pc' := 43) dX12_post_40 (by decide) rfl ?_
  refine ex_icmp_f (pc' := 46) dX12_post_43 (by decide) (by decide) rfl ?_
  refine ex_aload_n (pc' := 47) dX12_post_46 rfl rfl ?_
  refine ex_getR (pc' := 50) (n := 39) (r := 200) dX12_post_47 fl_12_23 (by decide +kernel) (by decide) (by decide +kernel) rfl ?_
  refine ex_iload_n (pc' := 51) dX12_post_50 rfl rfl ?_
  refine ex_iconst (v := 0) (pc' := 52) dX12_post_51 (by decide) rfl ?_
  refine en_iast (pc' := 53) (n := 363) (jj := 173) (h2 := hh_687) dX12_post_52 (by decide +kernel) (by decide) rfl rfl ?_
  refine ex_iinc (pc' := 56) (v := 174) (ls' := [(2, .inl 174), (0, .inr (.inr (some 196))), (1, .inl 0)]) dX12_post_53 rfl (by decide) (by decide) rfl rfl ?_
  refine ex_goto (pc' := 39) dX12_post_56 (by decide) ?_
  refine ex_iload_n (pc' := 40) dX12_post_39 rfl rfl ?_
  refine ex_sipush (v := 363) (pc' := 43) dX12_post_40 (by decide) rfl ?_
  refine ex_icmp_f (pc' := 46) dX12_post_43 (by decide) (by decide) rfl ?_
  refine ex_aload_n (pc' := 47) dX12_post_46 rfl rfl ?_
  refine ex_getR (pc' := 50) (n := 39) (r := 200) dX12_post_47 fl_12_23 (by decide +kernel) (by decide) (by decide +kernel) rfl ?_
  refine ex_iload_n (pc' := 51) dX12_post_50 rfl rfl ?_
  refine ex_iconst (v := 0) (pc' := 52) dX12_post_51 (by decide) rfl ?_
  refine en_iast (pc' := 53) (n := 363) (jj := 174) (h2 := hh_688) dX12_post_52 (by decide +kernel) (by decide) rfl rfl ?_
  refine ex_iinc (pc' := 56) (v := 175) (ls' := [(2, .inl 175), (0, .inr (.inr (some 196))), (1, .inl 0)]) dX12_post_53 rfl (by decide) (by decide) rfl rfl ?_
  refine ex_goto (pc' := 39) dX12_post_56 (by decide) ?_
  refine ex_iload_n (pc' := 40) dX12_post_39 rfl rfl ?_
  refine ex_sipush (v := 363) (pc' := 43) dX12_post_40 (by decide) rfl ?_
  refine ex_icmp_f (pc' := 46) dX12_post_43 (by decide) (by decide) rfl ?_
  refine ex_aload_n (pc' := 47) dX12_post_46 rfl rfl ?_
  refine ex_getR (pc' := 50) (n := 39) (r := 200) dX12_post_47 fl_12_23 (by decide +kernel) (by decide) (by decide +kernel) rfl ?_
  refine ex_iload_n (pc' := 51) dX12_post_50 rfl rfl ?_
  refine ex_iconst (v := 0) (pc' := 52) dX12_post_51 (by decide) rfl ?_
  refine en_iast (pc' := 53) (n := 363) (jj := 175) (h2 := hh_689) dX12_post_52 (by decide +kernel) (by decide) rfl rfl ?_
  refine ex_iinc (pc' := 56) (v := 176) (ls' := [(2, .inl 176), (0, .inr (.inr (some 196))), (1, .inl 0)]) dX12_post_53 rfl (by decide) (by decide) rfl rfl ?_
  refine ex_goto (pc' := 39) dX12_post_56 (by decide) ?_
  refine ex_iload_n (pc' := 40) dX12_post_39 rfl rfl ?_
  refine ex_sipush (v := 363) (pc' := 43) dX12_post_40 (by decide) rfl ?_
  refine ex_icmp_f (pc' := 46) dX12_post_43 (by decide) (by decide) rfl ?_
  refine ex_aload_n (pc' := 47) dX12_post_46 rfl rfl ?_
  refine ex_getR (pc' := 50) (n := 39) (r := 200) dX12_post_47 fl_12_23 (by decide +kernel) (by decide) (by decide +kernel) rfl ?_
  refine ex_iload_n (pc' := 51) dX12_post_50 rfl rfl ?_
  refine ex_iconst (v := 0) (pc' := 52) dX12_post_51 (by decide) rfl ?_
  refine en_iast (pc' := 53) (n := 363) (jj := 176) (h2 := hh_690) dX12_post_52 (by decide +kernel) (by decide) rfl rfl ?_
  refine ex_iinc (pc' := 56) (v := 177) (ls' := [(2, .inl 177), (0, .inr (.inr (some 196))), (1, .inl 0)]) dX12_post_53 rfl (by decide) (by decide) rfl rfl ?_
  refine ex_goto (pc' := 39) dX12_post_56 (by decide) ?_
  refine ex_iload_n (pc' := 40) dX12_post_39 rfl rfl ?_
  refine ex_sipush (v := 363) (pc' := 43) dX12_post_40 (by decide) rfl ?_
  refine ex_icmp_f (pc' := 46) dX12_post_43 (by decide) (by decide) rfl ?_
  refine ex_aload_n (pc' := 47) dX12_post_46 rfl rfl ?_
  refine ex_getR (pc' := 50) (n := 39) (r := 200) dX12_post_47 fl_12_23 (by decide +kernel) (by decide) (by decide +kernel) rfl ?_
  refine ex_iload_n (pc' := 51) dX12_post_50 rfl rfl ?_
  refine ex_iconst (v := 0) (pc' := 52) dX12_post_51 (by decide) rfl ?_
  refine en_iast (pc' := 53) (n := 363) (jj := 177) (h2 := hh_691) dX12_post_52 (by decide +kernel) (by decide) rfl rfl ?_
  refine ex_iinc (pc' := 56) (v := 178) (ls' := [(2, .inl 178), (0, .inr (.inr (some 196))), (1, .inl 0)]) dX12_post_53 rfl (by decide) (by decide) rfl rfl ?_
  refine ex_goto (pc' := 39) dX12_post_56 (by decide) ?_
  refine ex_iload_n (pc' := 40) dX12_post_39 rfl rfl ?_
  refine ex_sipush (v := 363) (pc' := 43) dX12_post_40 (by decide) rfl ?_
  refine ex_icmp_f (pc' := 46) dX12_post_43 (by decide) (by decide) rfl ?_
  refine ex_aload_n (pc' := 47) dX12_post_46 rfl rfl ?_
  refine ex_getR (pc' := 50) (n := 39) (r := 200) dX12_post_47 fl_12_23 (by decide +kernel) (by decide) (by decide +kernel) rfl ?_
  refine ex_iload_n (pc' := 51) dX12_post_50 rfl rfl ?_
  refine ex_iconst (v := 0) (pc' := 52) dX12_post_51 (by decide) rfl ?_
  refine en_iast (pc' := 53) (n := 363) (jj := 178) (h2 := hh_692) dX12_post_52 (by decide +kernel) (by decide) rfl rfl ?_
  refine ex_iinc (pc' := 56) (v := 179) (ls' := [(2, .inl 179), (0, .inr (.inr (some 196))), (1, .inl 0)]) dX12_post_53 rfl (by decide) (by decide) rfl rfl ?_
  refine ex_goto (pc' := 39) dX12_post_56 (by decide) ?_
  refine ex_iload_n (pc' := 40) dX12_post_39 rfl rfl ?_
  refine ex_sipush (v := 363) (pc' := 43) dX12_post_40 (by decide) rfl ?_
  refine ex_icmp_f (pc' := 46) dX12_post_43 (by decide) (by decide) rfl ?_
  refine ex_aload_n (pc' := 47) dX12_post_46 rfl rfl ?_
  refine ex_getR (pc' := 50) (n := 39) (r := 200) dX12_post_47 fl_12_23 (by decide +kernel) (by decide) (by decide +kernel) rfl ?_
  refine ex_iload_n (pc' := 51) dX12_post_50 rfl rfl ?_
  refine ex_iconst (v := 0) (pc' := 52) dX12_post_51 (by decide) rfl ?_
  refine en_iast (pc' := 53) (n := 363) (jj := 179) (h2 := hh_693) dX12_post_52 (by decide +kernel) (by decide) rfl rfl ?_
  refine ex_iinc (pc' := 56) (v := 180) (ls' := [(2, .inl 180), (0, .inr (.inr (some 196))), (1, .inl 0)]) dX12_post_53 rfl (by decide) (by decide) rfl rfl ?_
  refine ex_goto (pc' := 39) dX12_post_56 (by decide) ?_
  refine ex_iload_n (pc' := 40) dX12_post_39 rfl rfl ?_
  refine ex_sipush (v := 363) (pc' := 43) dX12_post_40 (by decide) rfl ?_
  refine ex_icmp_f (pc' := 46) dX12_post_43 (by decide) (by decide) rfl ?_
  refine ex_aload_n (pc' := 47) dX12_post_46 rfl rfl ?_
  refine ex_getR (pc' := 50) (n := 39) (r := 200) dX12_post_47 fl_12_23 (by decide +kernel) (by decide) (by decide +kernel) rfl ?_
  refine ex_iload_n (pc' := 51) dX12_post_50 rfl rfl ?_
  refine ex_iconst (v := 0) (pc' := 52) dX12_post_51 (by decide) rfl ?_
  refine en_iast (pc' := 53) (n := 363) (jj := 180) (h2 := hh_694) dX12_post_52 (by decide +kernel) (by decide) rfl rfl ?_
  refine ex_iinc (pc' := 56) (v := 181) (ls' := [(2, .inl 181), (0, .inr (.inr (some 196))), (1, .inl 0)]) dX12_post_53 rfl (by decide) (by decide) rfl rfl ?_
  refine ex_goto (pc' := 39) dX12_post_56 (by decide) ?_
  refine ex_iload_n (pc' := 40) dX12_post_39 rfl rfl ?_
  refine ex_sipush (v := 363) (pc' := 43) dX12_post_40 (by decide) rfl ?_
  refine ex_icmp_f (pc' := 46) dX12_post_43 (by decide) (by decide) rfl ?_
  refine ex_aload_n (pc' := 47) dX12_post_46 rfl rfl ?_
  refine ex_getR (pc' := 50) (n := 39) (r := 200) dX12_post_47 fl_12_23 (by decide +kernel) (by decide) (by decide +kernel) rfl ?_
  refine ex_iload_n (pc' := 51) dX12_post_50 rfl rfl ?_
  refine ex_iconst (v := 0) (pc' := 52) dX12_post_51 (by decide) rfl ?_
  refine en_iast (pc' := 53) (n := 363) (jj := 181) (h2 := hh_695) dX12_post_52 (by decide +kernel) (by decide) rfl rfl ?_
  refine ex_iinc (pc' := 56) (v := 182) (ls' := [(2, .inl 182), (0, .inr (.inr (some 196))), (1, .inl 0)]) dX12_post_53 rfl (by decide) (by decide) rfl rfl ?_
  refine ex_goto (pc' := 39) dX12_post_56 (by decide) ?_
  refine ex_iload_n (pc' := 40) dX12_post_39 rfl rfl ?_
  refine ex_sipush (v := 363) (pc' := 43) dX12_post_40 (by decide) rfl ?_
  refine ex_icmp_f (pc' := 46) dX12_post_43 (by decide) (by decide) rfl ?_
  refine ex_aload_n (pc' := 47) dX12_post_46 rfl rfl ?_
  refine ex_getR (pc' := 50) (n := 39) (r := 200) dX12_post_47 fl_12_23 (by decide +kernel) (by decide) (by decide +kernel) rfl ?_
  refine ex_iload_n (pc' := 51) dX12_post_50 rfl rfl ?_
  refine ex_iconst (v := 0) (pc' := 52) dX12_post_51 (by decide) rfl ?_
  refine en_iast (pc' := 53) (n := 363) (jj := 182) (h2 := hh_696) dX12_post_52 (by decide +kernel) (by decide) rfl rfl ?_
  refine ex_iinc (pc' := 56) (v := 183) (ls' := [(2, .inl 183), (0, .inr (.inr (some 196))), (1, .inl 0)]) dX12_post_53 rfl (by decide) (by decide) rfl rfl ?_
  refine ex_goto (pc' := 39) dX12_post_56 (by decide) ?_
  refine ex_iload_n (pc' := 40) dX12_post_39 rfl rfl ?_
  refine ex_sipush (v := 363) (pc' := 43) dX12_post_40 (by decide) rfl ?_
  refine ex_icmp_f (pc' := 46) dX12_post_43 (by decide) (by decide) rfl ?_
  refine ex_aload_n (pc' := 47) dX12_post_46 rfl rfl ?_
  refine ex_getR (pc' := 50) (n := 39) (r := 200) dX12_post_47 fl_12_23 (by decide +kernel) (by decide) (by decide +kernel) rfl ?_
  refine ex_iload_n (pc' := 51) dX12_post_50 rfl rfl ?_
  refine ex_iconst (v := 0) (pc' := 52) dX12_post_51 (by decide) rfl ?_
  refine en_iast (pc' := 53) (n := 363) (jj := 183) (h2 := hh_697) dX12_post_52 (by decide +kernel) (by decide) rfl rfl ?_
  refine ex_iinc (pc' := 56) (v := 184) (ls' := [(2, .inl 184), (0, .inr (.inr (some 196))), (1, .inl 0)]) dX12_post_53 rfl (by decide) (by decide) rfl rfl ?_
  refine ex_goto (pc' := 39) dX12_post_56 (by decide) ?_
  refine ex_iload_n (pc' := 40) dX12_post_39 rfl rfl ?_
  refine ex_sipush (v := 363) (pc' := 43) dX12_post_40 (by decide) rfl ?_
  refine ex_icmp_f (pc' := 46) dX12_post_43 (by decide) (by decide) rfl ?_
  refine ex_aload_n (pc' := 47) dX12_post_46 rfl rfl ?_
  refine ex_getR (pc' := 50) (n := 39) (r := 200) dX12_post_47 fl_12_23 (by decide +kernel) (by decide) (by decide +kernel) rfl ?_
  refine ex_iload_n (pc' := 51) dX12_post_50 rfl rfl ?_
  refine ex_iconst (v := 0) (pc' := 52) dX12_post_51 (by decide) rfl ?_
  refine en_iast (pc' := 53) (n := 363) (jj := 184) (h2 := hh_698) dX12_post_52 (by decide +kernel) (by decide) rfl rfl ?_
  refine ex_iinc (pc' := 56) (v := 185) (ls' := [(2, .inl 185), (0, .inr (.inr (some 196))), (1, .inl 0)]) dX12_post_53 rfl (by decide) (by decide) rfl rfl ?_
  refine ex_goto (pc' := 39) dX12_post_56 (by decide) ?_
  refine ex_iload_n (pc' := 40) dX12_post_39 rfl rfl ?_
  refine ex_sipush (v := 363) (pc' := 43) dX12_post_40 (by decide) rfl ?_
  refine ex_icmp_f (pc' := 46) dX12_post_43 (by decide) (by decide) rfl ?_
  refine ex_aload_n (pc' := 47) dX12_post_46 rfl rfl ?_
  refine ex_getR (pc' := 50) (n := 39) (r := 200) dX12_post_47 fl_12_23 (by decide +kernel) (by decide) (by decide +kernel) rfl ?_
  refine ex_iload_n (pc' := 51) dX12_post_50 rfl rfl ?_
  refine ex_iconst (v := 0) (pc' := 52) dX12_post_51 (by decide) rfl ?_
  refine en_iast (pc' := 53) (n := 363) (jj := 185) (h2 := hh_699) dX12_post_52 (by decide +kernel) (by decide) rfl rfl ?_
  refine ex_iinc (pc' := 56) (v := 186) (ls' := [(2, .inl 186), (0, .inr (.inr (some 196))), (1, .inl 0)]) dX12_post_53 rfl (by decide) (by decide) rfl rfl ?_
  refine ex_goto (pc' := 39) dX12_post_56 (by decide) ?_
  refine ex_iload_n (pc' := 40) dX12_post_39 rfl rfl ?_
  refine ex_sipush (v := 363) (pc' := 43) dX12_post_40 (by decide) rfl ?_
  refine ex_icmp_f (pc' := 46) dX12_post_43 (by decide) (by decide) rfl ?_
  refine ex_aload_n (pc' := 47) dX12_post_46 rfl rfl ?_
  refine ex_getR (pc' := 50) (n := 39) (r := 200) dX12_post_47 fl_12_23 (by decide +kernel) (by decide) (by decide +kernel) rfl ?_
  refine ex_iload_n (pc' := 51) dX12_post_50 rfl rfl ?_
  refine ex_iconst (v := 0) (pc' := 52) dX12_post_51 (by decide) rfl ?_
  refine en_iast (pc' := 53) (n := 363) (jj := 186) (h2 := hh_700) dX12_post_52 (by decide +kernel) (by decide) rfl rfl ?_
  refine ex_iinc (pc' := 56) (v := 187) (ls' := [(2, .inl 187), (0, .inr (.inr (some 196))), (1, .inl 0)]) dX12_post_53 rfl (by decide) (by decide) rfl rfl ?_
  refine ex_goto (pc' := 39) dX12_post_56 (by decide) ?_
  refine ex_iload_n (pc' := 40) dX12_post_39 rfl rfl ?_
  refine ex_sipush (v := 363) (pc' := 43) dX12_post_40 (by decide) rfl ?_
  refine ex_icmp_f (pc' := 46) dX12_post_43 (by decide) (by decide) rfl ?_
  refine ex_aload_n (pc' := 47) dX12_post_46 rfl rfl ?_
  refine ex_getR (pc' := 50) (n := 39) (r := 200) dX12_post_47 fl_12_23 (by decide +kernel) (by decide) (by decide +kernel) rfl ?_
  refine ex_iload_n (pc' := 51) dX12_post_50 rfl rfl ?_
  refine ex_iconst (v := 0) (pc' := 52) dX12_post_51 (by decide) rfl ?_
  refine en_iast (pc' := 53) (n := 363) (jj := 187) (h2 := hh_701) dX12_post_52 (by decide +kernel) (by decide) rfl rfl ?_
  refine ex_iinc (pc' := 56) (v := 188) (ls' := [(2, .inl 188), (0, .inr (.inr (some 196))), (1, .inl 0)]) dX12_post_53 rfl (by decide) (by decide) rfl rfl ?_
  refine ex_goto (pc' := 39) dX12_post_56 (by decide) ?_
  refine ex_iload_n (pc' := 40) dX12_post_39 rfl rfl ?_
  refine ex_sipush (v := 363) (pc' := 43) dX12_post_40 (by decide) rfl ?_
  refine ex_icmp_f (pc' := 46) dX12_post_43 (by decide) (by decide) rfl ?_
  refine ex_aload_n (pc' := 47) dX12_post_46 rfl rfl ?_
  refine ex_getR (pc' := 50) (n := 39) (r := 200) dX12_post_47 fl_12_23 (by decide +kernel) (by decide) (by decide +kernel) rfl ?_
  refine ex_iload_n (pc' := 51) dX12_post_50 rfl rfl ?_
  refine ex_iconst (v := 0) (pc' := 52) dX12_post_51 (by decide) rfl ?_
  refine en_iast (pc' := 53) (n := 363) (jj := 188) (h2 := hh_702) dX12_post_52 (by decide +kernel) (by decide) rfl rfl ?_
  refine ex_iinc (pc' := 56) (v := 189) (ls' := [(2, .inl 189), (0, .inr (.inr (some 196))), (1, .inl 0)]) dX12_post_53 rfl (by decide) (by decide) rfl rfl ?_
  refine ex_goto (pc' := 39) dX12_post_56 (by decide) ?_
  refine ex_iload_n (pc' := 40) dX12_post_39 rfl rfl ?_
  refine ex_sipush (v := 363) (pc' := 43) dX12_post_40 (by decide) rfl ?_
  refine ex_icmp_f (pc' := 46) dX12_post_43 (by decide) (by decide) rfl ?_
  refine ex_aload_n (pc' := 47) dX12_post_46 rfl rfl ?_
  refine ex_getR (pc' := 50) (n := 39) (r := 200) dX12_post_47 fl_12_23 (by decide +kernel) (by decide) (by decide +kernel) rfl ?_
  refine ex_iload_n (pc' := 51) dX12_post_50 rfl rfl ?_
  refine ex_iconst (v := 0) (pc' := 52) dX12_post_51 (by decide) rfl ?_
  refine en_iast (pc' := 53) (n := 363) (jj := 189) (h2 := hh_703) dX12_post_52 (by decide +kernel) (by decide) rfl rfl ?_
  refine ex_iinc (pc' := 56) (v := 190) (ls' := [(2, .inl 190), (0, .inr (.inr (some 196))), (1, .inl 0)]) dX12_post_53 rfl (by decide) (by decide) rfl rfl ?_
  refine ex_goto (pc' := 39) dX12_post_56 (by decide) ?_
  refine ex_iload_n (pc' := 40) dX12_post_39 rfl rfl ?_
  refine ex_sipush (v := 363) (pc' := 43) dX12_post_40 (by decide) rfl ?_
  refine ex_icmp_f (pc' := 46) dX12_post_43 (by decide) (by decide) rfl ?_
  refine ex_aload_n (pc' := 47) dX12_post_46 rfl rfl ?_
  refine ex_getR (pc' := 50) (n := 39) (r := 200) dX12_post_47 fl_12_23 (by decide +kernel) (by decide) (by decide +kernel) rfl ?_
  refine ex_iload_n (pc' := 51) dX12_post_50 rfl rfl ?_
  refine ex_iconst (v := 0) (pc' := 52) dX12_post_51 (by decide) rfl ?_
  refine en_iast (pc' := 53) (n := 363) (jj := 190) (h2 := hh_704) dX12_post_52 (by decide +kernel) (by decide) rfl rfl ?_
  refine ex_iinc (pc' := 56) (v := 191) (ls' := [(2, .inl 191), (0, .inr (.inr (some 196))), (1, .inl 0)]) dX12_post_53 rfl (by decide) (by decide) rfl rfl ?_
  refine ex_goto (pc' := 39) dX12_post_56 (by decide) ?_
  refine ex_iload_n (pc' := 40) dX12_post_39 rfl rfl ?_
  refine ex_sipush (v := 363) (pc' := 43) dX12_post_40 (by decide) rfl ?_
  refine ex_icmp_f (pc' := 46) dX12_post_43 (by decide) (by decide) rfl ?_
  refine ex_aload_n (pc' := 47) dX12_post_46 rfl rfl ?_
  refine ex_getR (pc' := 50) (n := 39) (r := 200) dX12_post_47 fl_12_23 (by decide +kernel) (by decide) (by decide +kernel) rfl ?_
  refine ex_iload_n (pc' := 51) dX12_post_50 rfl rfl ?_
  refine ex_iconst (v := 0) (pc' := 52) dX12_post_51 (by decide) rfl ?_
  refine en_iast (pc' := 53) (n := 363) (jj := 191) (h2 := hh_705) dX12_post_52 (by decide +kernel) (by decide) rfl rfl ?_
  refine ex_iinc (pc' := 56) (v := 192) (ls' := [(2, .inl 192), (0, .inr (.inr (some 196))), (1, .inl 0)]) dX12_post_53 rfl (by decide) (by decide) rfl rfl ?_
  refine ex_goto (pc' := 39) dX12_post_56 (by decide) ?_
  refine ex_iload_n (pc' := 40) dX12_post_39 rfl rfl ?_
  refine ex_sipush (v := 363) (pc' := 43) dX12_post_40 (by decide) rfl ?_
  refine ex_icmp_f (pc' := 46) dX12_post_43 (by decide) (by decide) rfl ?_
  refine ex_aload_n (pc' := 47) dX12_post_46 rfl rfl ?_
  refine ex_getR (pc' := 50) (n := 39) (r := 200) dX12_post_47 fl_12_23 (by decide +kernel) (by decide) (by decide +kernel) rfl ?_
  refine ex_iload_n (pc' := 51) dX12_post_50 rfl rfl ?_
  refine ex_iconst (v := 0) (pc' := 52) dX12_post_51 (by decide) rfl ?_
  refine en_iast (pc' := 53) (n := 363) (jj := 192) (h2 := hh_706) dX12_post_52 (by decide +kernel) (by decide) rfl rfl ?_
  refine ex_iinc (pc' := 56) (v := 193) (ls' := [(2, .inl 193), (0, .inr (.inr (some 196))), (1, .inl 0)]) dX12_post_53 rfl (by decide) (by decide) rfl rfl ?_
  refine ex_goto (pc' := 39) dX12_post_56 (by decide) ?_
  refine ex_iload_n (pc' := 40) dX12_post_39 rfl rfl ?_
  refine ex_sipush (v := 363) (pc' := 43) dX12_post_40 (by decide) rfl ?_
  refine ex_icmp_f (pc' := 46) dX12_post_43 (by decide) (by decide) rfl ?_
  refine ex_aload_n (pc' := 47) dX12_post_46 rfl rfl ?_
  refine ex_getR (pc' := 50) (n := 39) (r := 200) dX12_post_47 fl_12_23 (by decide +kernel) (by decide) (by decide +kernel) rfl ?_
  refine ex_iload_n (pc' := 51) dX12_post_50 rfl rfl ?_
  refine ex_iconst (v := 0) (pc' := 52) dX12_post_51 (by decide) rfl ?_
  refine en_iast (pc' := 53) (n := 363) (jj := 193) (h2 := hh_707) dX12_post_52 (by decide +kernel) (by decide) rfl rfl ?_
  refine ex_iinc (pc' := 56) (v := 194) (ls' := [(2, .inl 194), (0, .inr (.inr (some 196))), (1, .inl 0)]) dX12_post_53 rfl (by decide) (by decide) rfl rfl ?_
  refine ex_goto (pc' := 39) dX12_post_56 (by decide) ?_
  refine ex_iload_n (pc' := 40) dX12_post_39 rfl rfl ?_
  refine ex_sipush (v := 363) (pc' := 43) dX12_post_40 (by decide) rfl ?_
  refine ex_icmp_f (pc' := 46) dX12_post_43 (by decide) (by decide) rfl ?_
  refine ex_aload_n (pc' := 47) dX12_post_46 rfl rfl ?_
  refine ex_getR (pc' := 50) (n := 39) (r := 200) dX12_post_47 fl_12_23 (by decide +kernel) (by decide) (by decide +kernel) rfl ?_
  refine ex_iload_n (pc' := 51) dX12_post_50 rfl rfl ?_
  refine ex_iconst (v := 0) (pc' := 52) dX12_post_51 (by decide) rfl ?_
  refine en_iast (pc' := 53) (n := 363) (jj := 194) (h2 := hh_708) dX12_post_52 (by decide +kernel) (by decide) rfl rfl ?_
  refine ex_iinc (pc' := 56) (v := 195) (ls' := [(2, .inl 195), (0, .inr (.inr (some 196))), (1, .inl 0)]) dX12_post_53 rfl (by decide) (by decide) rfl rfl ?_
  refine ex_goto (pc' := 39) dX12_post_56 (by decide) ?_
  refine ex_iload_n (pc' := 40) dX12_post_39 rfl rfl ?_
  refine ex_sipush (v := 363) (pc' := 43) dX12_post_40 (by decide) rfl ?_
  refine ex_icmp_f (pc' := 46) dX12_post_43 (by decide) (by decide) rfl ?_
  refine ex_aload_n (pc' := 47) dX12_post_46 rfl rfl ?_
  refine ex_getR (pc' := 50) (n := 39) (r := 200) dX12_post_47 fl_12_23 (by decide +kernel) (by decide) (by decide +kernel) rfl ?_
  refine ex_iload_n (pc' := 51) dX12_post_50 rfl rfl ?_
  refine ex_iconst (v := 0) (pc' := 52) dX12_post_51 (by decide) rfl ?_
  refine en_iast (pc' := 53) (n := 363) (jj := 195) (h2 := hh_709) dX12_post_52 (by decide +kernel) (by decide) rfl rfl ?_
  refine ex_iinc (pc' := 56) (v := 196) (ls' := [(2, .inl 196), (0, .inr (.inr (some 196))), (1, .inl 0)]) dX12_post_53 rfl (by decide) (by decide) rfl rfl ?_
  refine ex_goto (pc' := 39) dX12_post_56 (by decide) ?_
  refine ex_iload_n (pc' := 40) dX12_post_39 rfl rfl ?_
  refine ex_sipush (v := 363) (pc' := 43) dX12_post_40 (by decide) rfl ?_
  refine ex_icmp_f (pc' := 46) dX12_post_43 (by decide) (by decide) rfl ?_
  refine ex_aload_n (pc' := 47) dX12_post_46 rfl rfl ?_
  refine ex_getR (pc' := 50) (n := 39) (r := 200) dX12_post_47 fl_12_23 (by decide +kernel) (by decide) (by decide +kernel) rfl ?_
  refine ex_iload_n (pc' := 51) dX12_post_50 rfl rfl ?_
  refine ex_iconst (v := 0) (pc' := 52) dX12_post_51 (by decide) rfl ?_
  refine en_iast (pc' := 53) (n := 363) (jj := 196) (h2 := hh_710) dX12_post_52 (by decide +kernel) (by decide) rfl rfl ?_
  refine ex_iinc (pc' := 56) (v := 197) (ls' := [(2, .inl 197), (0, .inr (.inr (some 196))), (1, .inl 0)]) dX12_post_53 rfl (by decide) (by decide) rfl rfl ?_
  refine ex_goto (pc' := 39) dX12_post_56 (by decide) ?_
  refine ex_iload_n (pc' := 40) dX12_post_39 rfl rfl ?_
  refine ex_sipush (v := 363) (pc' := 43) dX12_post_40 (by decide) rfl ?_
  refine ex_icmp_f (pc' := 46) dX12_post_43 (by decide) (by decide) rfl ?_
  refine ex_aload_n (pc' := 47) dX12_post_46 rfl rfl ?_
  refine ex_getR (pc' := 50) (n := 39) (r := 200) dX12_post_47 fl_12_23 (by decide +kernel) (by decide) (by decide +kernel) rfl ?_
  refine ex_iload_n (pc' := 51) dX12_post_50 rfl rfl ?_
  refine ex_iconst (v := 0) (pc' := 52) dX12_post_51 (by decide) rfl ?_
  refine en_iast (pc' := 53) (n := 363) (jj := 197) (h2 := hh_711) dX12_post_52 (by decide +kernel) (by decide) rfl rfl ?_
  refine ex_iinc (pc' := 56) (v := 198) (ls' := [(2, .inl 198), (0, .inr (.inr (some 196))), (1, .inl 0)]) dX12_post_53 rfl (by decide) (by decide) rfl rfl ?_
  refine ex_goto (pc' := 39) dX12_post_56 (by decide) ?_
  refine ex_iload_n (pc' := 40) dX12_post_39 rfl rfl ?_
  refine ex_sipush (v := 363) (pc' := 43) dX12_post_40 (by decide) rfl ?_
  refine ex_icmp_f (pc' := 46) dX12_post_43 (by decide) (by decide) rfl ?_
  refine ex_aload_n (pc' := 47) dX12_post_46 rfl rfl ?_
  refine ex_getR (pc' := 50) (n := 39) (r := 200) dX12_post_47 fl_12_23 (by decide +kernel) (by decide) (by decide +kernel) rfl ?_
  refine ex_iload_n (pc' := 51) dX12_post_50 rfl rfl ?_
  refine ex_iconst (v := 0) (pc' := 52) dX12_post_51 (by decide) rfl ?_
  refine en_iast (pc' := 53) (n := 363) (jj := 198) (h2 := hh_712) dX12_post_52 (by decide +kernel) (by decide) rfl rfl ?_
  refine ex_iinc (pc' := 56) (v := 199) (ls' := [(2, .inl 199), (0, .inr (.inr (some 196))), (1, .inl 0)]) dX12_post_53 rfl (by decide) (by decide) rfl rfl ?_
  refine ex_goto (pc' := 39) dX12_post_56 (by decide) ?_
  refine ex_iload_n (pc' := 40) dX12_post_39 rfl rfl ?_
  refine ex_sipush (v := 363) (pc' := 43) dX12_post_40 (by decide) rfl ?_
  refine ex_icmp_f (pc' := 46) dX12_post_43 (by decide) (by decide) rfl ?_
  refine ex_aload_n (pc' := 47) dX12_post_46 rfl rfl ?_
  refine ex_getR (pc' := 50) (n := 39) (r := 200) dX12_post_47 fl_12_23 (by decide +kernel) (by decide) (by decide +kernel) rfl ?_
  refine ex_iload_n (pc' := 51) dX12_post_50 rfl rfl ?_
  refine ex_iconst (v := 0) (pc' := 52) dX12_post_51 (by decide) rfl ?_
  refine en_iast (pc' := 53) (n := 363) (jj := 199) (h2 := hh_713) dX12_post_52 (by decide +kernel) (by decide) rfl rfl ?_
  refine ex_iinc (pc' := 56) (v := 200) (ls' := [(2, .inl 200), (0, .inr (.inr (some 196))), (1, .inl 0)]) dX12_post_53 rfl (by decide) (by decide) rfl rfl ?_
  refine ex_goto (pc' := 39) dX12_post_56 (by decide) ?_
  refine ex_iload_n (pc' := 40) dX12_post_39 rfl rfl ?_
  refine ex_sipush (v := 363) (pc' := 43) dX12_post_40 (by decide) rfl ?_
  refine ex_icmp_f (pc' := 46) dX12_post_43 (by decide) (by decide) rfl ?_
  refine ex_aload_n (pc' := 47) dX12_post_46 rfl rfl ?_
  refine ex_getR (pc' := 50) (n := 39) (r := 200) dX12_post_47 fl_12_23 (by decide +kernel) (by decide) (by decide +kernel) rfl ?_
  refine ex_iload_n (pc' := 51) dX12_post_50 rfl rfl ?_
  refine ex_iconst (v := 0) (pc' := 52) dX12_post_51 (by decide) rfl ?_
  refine en_iast (pc' := 53) (n := 363) (jj := 200) (h2 := hh_714) dX12_post_52 (by decide +kernel) (by decide) rfl rfl ?_
  refine ex_iinc (pc' := 56) (v := 201) (ls' := [(2, .inl 201), (0, .inr (.inr (some 196))), (1, .inl 0)]) dX12_post_53 rfl (by decide) (by decide) rfl rfl ?_
  refine ex_goto (pc' := 39) dX12_post_56 (by decide) ?_
  refine ex_iload_n (pc' := 40) dX12_post_39 rfl rfl ?_
  refine ex_sipush (v := 363) (pc' := 43) dX12_post_40 (by decide) rfl ?_
  refine ex_icmp_f (pc' := 46) dX12_post_43 (by decide) (by decide) rfl ?_
  refine ex_aload_n (pc' := 47) dX12_post_46 rfl rfl ?_
  refine ex_getR (pc' := 50) (n := 39) (r := 200) dX12_post_47 fl_12_23 (by decide +kernel) (by decide) (by decide +kernel) rfl ?_
  refine ex_iload_n (pc' := 51) dX12_post_50 rfl rfl ?_
  refine ex_iconst (v := 0) (pc' := 52) dX12_post_51 (by decide) rfl ?_
  refine en_iast (pc' := 53) (n := 363) (jj := 201) (h2 := hh_715) dX12_post_52 (by decide +kernel) (by decide) rfl rfl ?_
  refine ex_iinc (pc' := 56) (v := 202) (ls' := [(2, .inl 202), (0, .inr (.inr (some 196))), (1, .inl 0)]) dX12_post_53 rfl (by decide) (by decide) rfl rfl ?_
  refine ex_goto (pc' := 39) dX12_post_56 (by decide) ?_
  refine ex_iload_n (pc' := 40) dX12_post_39 rfl rfl ?_
  refine ex_sipush (v := 363) (pc' := 43) dX12_post_40 (by decide) rfl ?_
  refine ex_icmp_f (pc' := 46) dX12_post_43 (by decide) (by decide) rfl ?_
  refine ex_aload_n (pc' := 47) dX12_post_46 rfl rfl ?_
  refine ex_getR (pc' := 50) (n := 39) (r := 200) dX12_post_47 fl_12_23 (by decide +kernel) (by decide) (by decide +kernel) rfl ?_
  refine ex_iload_n (pc' := 51) dX12_post_50 rfl rfl ?_
  refine ex_iconst (v := 0) (pc' := 52) dX12_post_51 (by decide) rfl ?_
  refine en_iast (pc' := 53) (n := 363) (jj := 202) (h2 := hh_716) dX12_post_52 (by decide +kernel) (by decide) rfl rfl ?_
  refine ex_iinc (pc' := 56) (v := 203) (ls' := [(2, .inl 203), (0, .inr (.inr (some 196))), (1, .inl 0)]) dX12_post_53 rfl (by decide) (by decide) rfl rfl ?_
  refine ex_goto (pc' := 39) dX12_post_56 (by decide) ?_
  refine ex_iload_n (pc' := 40) dX12_post_39 rfl rfl ?_
  refine ex_sipush (v := 363) (pc' := 43) dX12_post_40 (by decide) rfl ?_
  refine ex_icmp_f (pc' := 46) dX12_post_43 (by decide) (by decide) rfl ?_
  refine ex_aload_n (pc' := 47) dX12_post_46 rfl rfl ?_
  refine ex_getR (pc' := 50) (n := 39) (r := 200) dX12_post_47 fl_12_23 (by decide +kernel) (by decide) (by decide +kernel) rfl ?_
  refine ex_iload_n (pc' := 51) dX12_post_50 rfl rfl ?_
  refine ex_iconst (v := 0) (pc' := 52) dX12_post_51 (by decide) rfl ?_
  refine en_iast (pc' := 53) (n := 363) (jj := 203) (h2 := hh_717) dX12_post_52 (by decide +kernel) (by decide) rfl rfl ?_
  refine ex_iinc (pc' := 56) (v := 204) (ls' := [(2, .inl 204), (0, .inr (.inr (some 196))), (1, .inl 0)]) dX12_post_53 rfl (by decide) (by decide) rfl rfl ?_
  refine ex_goto (pc' := 39) dX12_post_56 (by decide) ?_
  refine ex_iload_n (pc' := 40) dX12_post_39 rfl rfl ?_
  refine ex_sipush (v := 363) (pc' := 43) dX12_post_40 (by decide) rfl ?_
  refine ex_icmp_f (pc' := 46) dX12_post_43 (by decide) (by decide) rfl ?_
  refine ex_aload_n (pc' := 47) dX12_post_46 rfl rfl ?_
  refine ex_getR (pc' := 50) (n := 39) (r := 200) dX12_post_47 fl_12_23 (by decide +kernel) (by decide) (by decide +kernel) rfl ?_
  refine ex_iload_n (pc' := 51) dX12_post_50 rfl rfl ?_
  refine ex_iconst (v := 0) (pc' := 52) dX12_post_51 (by decide) rfl ?_
  refine en_iast (pc' := 53) (n := 363) (jj := 204) (h2 := hh_718) dX12_post_52 (by decide +kernel) (by decide) rfl rfl ?_
  refine ex_iinc (pc' := 56) (v := 205) (ls' := [(2, .inl 205), (0, .inr (.inr (some 196))), (1, .inl 0)]) dX12_post_53 rfl (by decide) (by decide) rfl rfl ?_
  refine ex_goto (pc' := 39) dX12_post_56 (by decide) ?_
  refine ex_iload_n (pc' := 40) dX12_post_39 rfl rfl ?_
  refine ex_sipush (v := 363) (pc' := 43) dX12_post_40 (by decide) rfl ?_
  refine ex_icmp_f (pc' := 46) dX12_post_43 (by decide) (by decide) rfl ?_
  refine ex_aload_n (pc' := 47) dX12_post_46 rfl rfl ?_
  refine ex_getR (pc' := 50) (n := 39) (r := 200) dX12_post_47 fl_12_23 (by decide +kernel) (by decide) (by decide +kernel) rfl ?_
  refine ex_iload_n (pc' := 51) dX12_post_50 rfl rfl ?_
  refine ex_iconst (v := 0) (pc' := 52) dX12_post_51 (by decide) rfl ?_
  refine en_iast (pc' := 53) (n := 363) (jj := 205) (h2 := hh_719) dX12_post_52 (by decide +kernel) (by decide) rfl rfl ?_
  refine ex_iinc (pc' := 56) (v := 206) (ls' := [(2, .inl 206), (0, .inr (.inr (some 196))), (1, .inl 0)]) dX12_post_53 rfl (by decide) (by decide) rfl rfl ?_
  refine ex_goto (pc' := 39) dX12_post_56 (by decide) ?_
  refine ex_iload_n (pc' := 40) dX12_post_39 rfl rfl ?_
  refine ex_sipush (v := 363) (pc' := 43) dX12_post_40 (by decide) rfl ?_
  refine ex_icmp_f (pc' := 46) dX12_post_43 (by decide) (by decide) rfl ?_
  refine ex_aload_n (pc' := 47) dX12_post_46 rfl rfl ?_
  refine ex_getR (pc' := 50) (n := 39) (r := 200) dX12_post_47 fl_12_23 (by decide +kernel) (by decide) (by decide +kernel) rfl ?_
  refine ex_iload_n (pc' := 51) dX12_post_50 rfl rfl ?_
  refine ex_iconst (v := 0) (pc' := 52) dX12_post_51 (by decide) rfl ?_
  refine en_iast (pc' := 53) (n := 363) (jj := 206) (h2 := hh_720) dX12_post_52 (by decide +kernel) (by decide) rfl rfl ?_
  refine ex_iinc (pc' := 56) (v := 207) (ls' := [(2, .inl 207), (0, .inr (.inr (some 196))), (1, .inl 0)]) dX12_post_53 rfl (by decide) (by decide) rfl rfl ?_
  refine ex_goto (pc' := 39) dX12_post_56 (by decide) ?_
  refine ex_iload_n (pc' := 40) dX12_post_39 rfl rfl ?_
  refine ex_sipush (v := 363) (pc' := 43) dX12_post_40 (by decide) rfl ?_
  refine ex_icmp_f (pc' := 46) dX12_post_43 (by decide) (by decide) rfl ?_
  refine ex_aload_n (pc' := 47) dX12_post_46 rfl rfl ?_
  refine ex_getR (pc' := 50) (n := 39) (r := 200) dX12_post_47 fl_12_23 (by decide +kernel) (by decide) (by decide +kernel) rfl ?_
  refine ex_iload_n (pc' := 51) dX12_post_50 rfl rfl ?_
  refine ex_iconst (v := 0) (pc' := 52) dX12_post_51 (by decide) rfl ?_
  refine en_iast (pc' := 53) (n := 363) (jj := 207) (h2 := hh_721) dX12_post_52 (by decide +kernel) (by decide) rfl rfl ?_
  refine ex_iinc (pc' := 56) (v := 208) (ls' := [(2, .inl 208), (0, .inr (.inr (some 196))), (1, .inl 0)]) dX12_post_53 rfl (by decide) (by decide) rfl rfl ?_
  refine ex_goto (pc' := 39) dX12_post_56 (by decide) ?_
  refine ex_iload_n (pc' := 40) dX12_post_39 rfl rfl ?_
  refine ex_sipush (v := 363) (pc' := 43) dX12_post_40 (by decide) rfl ?_
  refine ex_icmp_f (pc' := 46) dX12_post_43 (by decide) (by decide) rfl ?_
  refine ex_aload_n (pc' := 47) dX12_post_46 rfl rfl ?_
  refine ex_getR (pc' := 50) (n := 39) (r := 200) dX12_post_47 fl_12_23 (by decide +kernel) (by decide) (by decide +kernel) rfl ?_
  refine ex_iload_n (pc' := 51) dX12_post_50 rfl rfl ?_
  refine ex_iconst (v := 0) (pc' := 52) dX12_post_51 (by decide) rfl ?_
  refine en_iast (pc' := 53) (n := 363) (jj := 208) (h2 := hh_722) dX12_post_52 (by decide +kernel) (by decide) rfl rfl ?_
  refine ex_iinc (pc' := 56) (v := 209) (ls' := [(2, .inl 209), (0, .inr (.inr (some 196))), (1, .inl 0)]) dX12_post_53 rfl (by decide) (by decide) rfl rfl ?_
  refine ex_goto (pc' := 39) dX12_post_56 (by decide) ?_
  refine ex_iload_n (pc' := 40) dX12_post_39 rfl rfl ?_
  refine ex_sipush (v := 363) (pc' := 43) dX12_post_40 (by decide) rfl ?_
  refine ex_icmp_f (pc' := 46) dX12_post_43 (by decide) (by decide) rfl ?_
  refine ex_aload_n (pc' := 47) dX12_post_46 rfl rfl ?_
  refine ex_getR (pc' := 50) (n := 39) (r := 200) dX12_post_47 fl_12_23 (by decide +kernel) (by decide) (by decide +kernel) rfl ?_
  refine ex_iload_n (pc' := 51) dX12_post_50 rfl rfl ?_
  refine ex_iconst (v := 0) (pc' := 52) dX12_post_51 (by decide) rfl ?_
  refine en_iast (pc' := 53) (n := 363) (jj := 209) (h2 := hh_723) dX12_post_52 (by decide +kernel) (by decide) rfl rfl ?_
  refine ex_iinc (pc' := 56) (v := 210) (ls' := [(2, .inl 210), (0, .inr (.inr (some 196))), (1, .inl 0)]) dX12_post_53 rfl (by decide) (by decide) rfl rfl ?_
  refine ex_goto (pc' := 39) dX12_post_56 (by decide) ?_
  refine ex_iload_n (pc' := 40) dX12_post_39 rfl rfl ?_
  refine ex_sipush (v := 363) (pc' := 43) dX12_post_40 (by decide) rfl ?_
  refine ex_icmp_f (pc' := 46) dX12_post_43 (by decide) (by decide) rfl ?_
  refine ex_aload_n (pc' := 47) dX12_post_46 rfl rfl ?_
  refine ex_getR (pc' := 50) (n := 39) (r := 200) dX12_post_47 fl_12_23 (by decide +kernel) (by decide) (by decide +kernel) rfl ?_
  refine ex_iload_n (pc' := 51) dX12_post_50 rfl rfl ?_
  refine ex_iconst (v := 0) (pc' := 52) dX12_post_51 (by decide) rfl ?_
  refine en_iast (pc' := 53) (n := 363) (jj := 210) (h2 := hh_724) dX12_post_52 (by decide +kernel) (by decide) rfl rfl ?_
  refine ex_iinc (pc' := 56) (v := 211) (ls' := [(2, .inl 211), (0, .inr (.inr (some 196))), (1, .inl 0)]) dX12_post_53 rfl (by decide) (by decide) rfl rfl ?_
  refine ex_goto (pc' := 39) dX12_post_56 (by decide) ?_
  refine ex_iload_n (pc' := 40) dX12_post_39 rfl rfl ?_
  refine ex_sipush (v := 363) (pc' := 43) dX12_post_40 (by decide) rfl ?_
  refine ex_icmp_f (pc' := 46) dX12_post_43 (by decide) (by decide) rfl ?_
  refine ex_aload_n (pc' := 47) dX12_post_46 rfl rfl ?_
  refine ex_getR (pc' := 50) (n := 39) (r := 200) dX12_post_47 fl_12_23 (by decide +kernel) (by decide) (by decide +kernel) rfl ?_
  refine ex_iload_n (pc' := 51) dX12_post_50 rfl rfl ?_
  refine ex_iconst (v := 0) (pc' := 52) dX12_post_51 (by decide) rfl ?_
  refine en_iast (pc' := 53) (n := 363) (jj := 211) (h2 := hh_725) dX12_post_52 (by decide +kernel) (by decide) rfl rfl ?_
  refine ex_iinc (pc' := 56) (v := 212) (ls' := [(2, .inl 212), (0, .inr (.inr (some 196))), (1, .inl 0)]) dX12_post_53 rfl (by decide) (by decide) rfl rfl ?_
  refine ex_goto (pc' := 39) dX12_post_56 (by decide) ?_
  refine ex_iload_n (pc' := 40) dX12_post_39 rfl rfl ?_
  refine ex_sipush (v := 363) (pc' := 43) dX12_post_40 (by decide) rfl ?_
  refine ex_icmp_f (pc' := 46) dX12_post_43 (by decide) (by decide) rfl ?_
  refine ex_aload_n (pc' := 47) dX12_post_46 rfl rfl ?_
  refine ex_getR (pc' := 50) (n := 39) (r := 200) dX12_post_47 fl_12_23 (by decide +kernel) (by decide) (by decide +kernel) rfl ?_
  refine ex_iload_n (pc' := 51) dX12_post_50 rfl rfl ?_
  refine ex_iconst (v := 0) (pc' := 52) dX12_post_51 (by decide) rfl ?_
  refine en_iast (pc' := 53) (n := 363) (jj := 212) (h2 := hh_726) dX12_post_52 (by decide +kernel) (by decide) rfl rfl ?_
  refine ex_iinc (pc' := 56) (v := 213) (ls' := [(2, .inl 213), (0, .inr (.inr (some 196))), (1, .inl 0)]) dX12_post_53 rfl (by decide) (by decide) rfl rfl ?_
  refine ex_goto (pc' := 39) dX12_post_56 (by decide) ?_
  refine ex_iload_n (pc' := 40) dX12_post_39 rfl rfl ?_
  refine ex_sipush (v := 363) (pc' := 43) dX12_post_40 (by decide) rfl ?_
  refine ex_icmp_f (pc' := 46) dX12_post_43 (by decide) (by decide) rfl ?_
  refine ex_aload_n (pc' := 47) dX12_post_46 rfl rfl ?_
  refine ex_getR (pc' := 50) (n := 39) (r := 200) dX12_post_47 fl_12_23 (by decide +kernel) (by decide) (by decide +kernel) rfl ?_
  refine ex_iload_n (pc' := 51) dX12_post_50 rfl rfl ?_
  refine ex_iconst (v := 0) (pc' := 52) dX12_post_51 (by decide) rfl ?_
  refine en_iast (pc' := 53) (n := 363) (jj := 213) (h2 := hh_727) dX12_post_52 (by decide +kernel) (by decide) rfl rfl ?_
  refine ex_iinc (pc' := 56) (v := 214) (ls' := [(2, .inl 214), (0, .inr (.inr (some 196))), (1, .inl 0)]) dX12_post_53 rfl (by decide) (by decide) rfl rfl ?_
  refine ex_goto (pc' := 39) dX12_post_56 (by decide) ?_
  refine ex_iload_n (pc' := 40) dX12_post_39 rfl rfl ?_
  refine ex_sipush (v := 363) (pc' := 43) dX12_post_40 (by decide) rfl ?_
  refine ex_icmp_f (pc' := 46) dX12_post_43 (by decide) (by decide) rfl ?_
  refine ex_aload_n (pc' := 47) dX12_post_46 rfl rfl ?_
  refine ex_getR (pc' := 50) (n := 39) (r := 200) dX12_post_47 fl_12_23 (by decide +kernel) (by decide) (by decide +kernel) rfl ?_
  refine ex_iload_n (pc' := 51) dX12_post_50 rfl rfl ?_
  refine ex_iconst (v := 0) (pc' := 52) dX12_post_51 (by decide) rfl ?_
  refine en_iast (pc' := 53) (n := 363) (jj := 214) (h2 := hh_728) dX12_post_52 (by decide +kernel) (by decide) rfl rfl ?_
  refine ex_iinc (pc' := 56) (v := 215) (ls' := [(2, .inl 215), (0, .inr (.inr (some 196))), (1, .inl 0)]) dX12_post_53 rfl (by decide) (by decide) rfl rfl ?_
  refine ex_goto (pc' := 39) dX12_post_56 (by decide) ?_
  refine ex_iload_n (pc' := 40) dX12_post_39 rfl rfl ?_
  refine ex_sipush (v := 363) (pc' := 43) dX12_post_40 (by decide) rfl ?_
  refine ex_icmp_f (pc' := 46) dX12_post_43 (by decide) (by decide) rfl ?_
  refine ex_aload_n (pc' := 47) dX12_post_46 rfl rfl ?_
  refine ex_getR (pc' := 50) (n := 39) (r := 200) dX12_post_47 fl_12_23 (by decide +kernel) (by decide) (by decide +kernel) rfl ?_
  refine ex_iload_n (pc' := 51) dX12_post_50 rfl rfl ?_
  refine ex_iconst (v := 0) (pc' := 52) dX12_post_51 (by decide) rfl ?_
  refine en_iast (pc' := 53) (n := 363) (jj := 215) (h2 := hh_729) dX12_post_52 (by decide +kernel) (by decide) rfl rfl ?_
  refine ex_iinc (pc' := 56) (v := 216) (ls' := [(2, .inl 216), (0, .inr (.inr (some 196))), (1, .inl 0)]) dX12_post_53 rfl (by decide) (by decide) rfl rfl ?_
  refine ex_goto (pc' := 39) dX12_post_56 (by decide) ?_
  refine ex_iload_n (pc' := 40) dX12_post_39 rfl rfl ?_
  refine ex_sipush (v := 363) (pc' := 43) dX12_post_40 (by decide) rfl ?_
  refine ex_icmp_f (pc' := 46) dX12_post_43 (by decide) (by decide) rfl ?_
  refine ex_aload_n (pc' := 47) dX12_post_46 rfl rfl ?_
  refine ex_getR (pc' := 50) (n := 39) (r := 200) dX12_post_47 fl_12_23 (by decide +kernel) (by decide) (by decide +kernel) rfl ?_
  refine ex_iload_n (pc' := 51) dX12_post_50 rfl rfl ?_
  refine ex_iconst (v := 0) (pc' := 52) dX12_post_51 (by decide) rfl ?_
  refine en_iast (pc' := 53) (n := 363) (jj := 216) (h2 := hh_730) dX12_post_52 (by decide +kernel) (by decide) rfl rfl ?_
  refine ex_iinc (pc' := 56) (v := 217) (ls' := [(2, .inl 217), (0, .inr (.inr (some 196))), (1, .inl 0)]) dX12_post_53 rfl (by decide) (by decide) rfl rfl ?_
  refine ex_goto (pc' := 39) dX12_post_56 (by decide) ?_
  refine ex_iload_n (pc' := 40) dX12_post_39 rfl rfl ?_
  refine ex_sipush (v := 363) (pc' := 43) dX12_post_40 (by decide) rfl ?_
  refine ex_icmp_f (pc' := 46) dX12_post_43 (by decide) (by decide) rfl ?_
  refine ex_aload_n (pc' := 47) dX12_post_46 rfl rfl ?_
  refine ex_getR (pc' := 50) (n := 39) (r := 200) dX12_post_47 fl_12_23 (by decide +kernel) (by decide) (by decide +kernel) rfl ?_
  refine ex_iload_n (pc' := 51) dX12_post_50 rfl rfl ?_
  refine ex_iconst (v := 0) (pc' := 52) dX12_post_51 (by decide) rfl ?_
  refine en_iast (pc' := 53) (n := 363) (jj := 217) (h2 := hh_731) dX12_post_52 (by decide +kernel) (by decide) rfl rfl ?_
  refine ex_iinc (pc' := 56) (v := 218) (ls' := [(2, .inl 218), (0, .inr (.inr (some 196))), (1, .inl 0)]) dX12_post_53 rfl (by decide) (by decide) rfl rfl ?_
  refine ex_goto (pc' := 39) dX12_post_56 (by decide) ?_
  refine ex_iload_n (pc' := 40) dX12_post_39 rfl rfl ?_
  refine ex_sipush (v := 363) (pc' := 43) dX12_post_40 (by decide) rfl ?_
  refine ex_icmp_f (pc' := 46) dX12_post_43 (by decide) (by decide) rfl ?_
  refine ex_aload_n (pc' := 47) dX12_post_46 rfl rfl ?_
  refine ex_getR (pc' := 50) (n := 39) (r := 200) dX12_post_47 fl_12_23 (by decide +kernel) (by decide) (by decide +kernel) rfl ?_
  refine ex_iload_n (pc' := 51) dX12_post_50 rfl rfl ?_
  refine ex_iconst (v := 0) (pc' := 52) dX12_post_51 (by decide) rfl ?_
  refine en_iast (pc' := 53) (n := 363) (jj := 218) (h2 := hh_732) dX12_post_52 (by decide +kernel) (by decide) rfl rfl ?_
  refine ex_iinc (pc' := 56) (v := 219) (ls' := [(2, .inl 219), (0, .inr (.inr (some 196))), (1, .inl 0)]) dX12_post_53 rfl (by decide) (by decide) rfl rfl ?_
  refine ex_goto (pc' := 39) dX12_post_56 (by decide) ?_
  refine ex_iload_n (pc' := 40) dX12_post_39 rfl rfl ?_
  refine ex_sipush (v := 363) (pc' := 43) dX12_post_40 (by decide) rfl ?_
  refine ex_icmp_f (pc' := 46) dX12_post_43 (by decide) (by decide) rfl ?_
  refine ex_aload_n (pc' := 47) dX12_post_46 rfl rfl ?_
  refine ex_getR (pc' := 50) (n := 39) (r := 200) dX12_post_47 fl_12_23 (by decide +kernel) (by decide) (by decide +kernel) rfl ?_
  refine ex_iload_n (pc' := 51) dX12_post_50 rfl rfl ?_
  refine ex_iconst (v := 0) (pc' := 52) dX12_post_51 (by decide) rfl ?_
  refine en_iast (pc' := 53) (n := 363) (jj := 219) (h2 := hh_733) dX12_post_52 (by decide +kernel) (by decide) rfl rfl ?_
  refine ex_iinc (pc' := 56) (v := 220) (ls' := [(2, .inl 220), (0, .inr (.inr (some 196))), (1, .inl 0)]) dX12_post_53 rfl (by decide) (by decide) rfl rfl ?_
  refine ex_goto (pc' := 39) dX12_post_56 (by decide) ?_
  refine ex_iload_n (pc' := 40) dX12_post_39 rfl rfl ?_
  refine ex_sipush (v := 363) (pc' := 43) dX12_post_40 (by decide) rfl ?_
  refine ex_icmp_f (pc' := 46) dX12_post_43 (by decide) (by decide) rfl ?_
  refine ex_aload_n (pc' := 47) dX12_post_46 rfl rfl ?_
  refine ex_getR (pc' := 50) (n := 39) (r := 200) dX12_post_47 fl_12_23 (by decide +kernel) (by decide) (by decide +kernel) rfl ?_
  refine ex_iload_n (pc' := 51) dX12_post_50 rfl rfl ?_
  refine ex_iconst (v := 0) (pc' := 52) dX12_post_51 (by decide) rfl ?_
  refine en_iast (pc' := 53) (n := 363) (jj := 220) (h2 := hh_734) dX12_post_52 (by decide +kernel) (by decide) rfl rfl ?_
  refine ex_iinc (pc' := 56) (v := 221) (ls' := [(2, .inl 221), (0, .inr (.inr (some 196))), (1, .inl 0)]) dX12_post_53 rfl (by decide) (by decide) rfl rfl ?_
  refine ex_goto (pc' := 39) dX12_post_56 (by decide) ?_
  refine ex_iload_n (pc' := 40) dX12_post_39 rfl rfl ?_
  refine ex_sipush (v := 363) (pc' := 43) dX12_post_40 (by decide) rfl ?_
  refine ex_icmp_f (pc' := 46) dX12_post_43 (by decide) (by decide) rfl ?_
  refine ex_aload_n (pc' := 47) dX12_post_46 rfl rfl ?_
  refine ex_getR (pc' := 50) (n := 39) (r := 200) dX12_post_47 fl_12_23 (by decide +kernel) (by decide) (by decide +kernel) rfl ?_
  refine ex_iload_n (pc' := 51) dX12_post_50 rfl rfl ?_
  refine ex_iconst (v := 0) (pc' := 52) dX12_post_51 (by decide) rfl ?_
  refine en_iast (pc' := 53) (n := 363) (jj := 221) (h2 := hh_735) dX12_post_52 (by decide +kernel) (by decide) rfl rfl ?_
  refine ex_iinc (pc' := 56) (v := 222) (ls' := [(2, .inl 222), (0, .inr (.inr (some 196))), (1, .inl 0)]) dX12_post_53 rfl (by decide) (by decide) rfl rfl ?_
  refine ex_goto (pc' := 39) dX12_post_56 (by decide) ?_
  refine ex_iload_n (pc' := 40) dX12_post_39 rfl rfl ?_
  refine ex_sipush (v := 363) (pc' := 43) dX12_post_40 (by decide) rfl ?_
  refine ex_icmp_f (pc' := 46) dX12_post_43 (by decide) (by decide) rfl ?_
  refine ex_aload_n (pc' := 47) dX12_post_46 rfl rfl ?_
  refine ex_getR (pc' := 50) (n := 39) (r := 200) dX12_post_47 fl_12_23 (by decide +kernel) (by decide) (by decide +kernel) rfl ?_
  refine ex_iload_n (pc' := 51) dX12_post_50 rfl rfl ?_
  refine ex_iconst (v := 0) (pc' := 52) dX12_post_51 (by decide) rfl ?_
  refine en_iast (pc' := 53) (n := 363) (jj := 222) (h2 := hh_736) dX12_post_52 (by decide +kernel) (by decide) rfl rfl ?_
  refine ex_iinc (pc' := 56) (v := 223) (ls' := [(2, .inl 223), (0, .inr (.inr (some 196))), (1, .inl 0)]) dX12_post_53 rfl (by decide) (by decide) rfl rfl ?_
  refine ex_goto (pc' := 39) dX12_post_56 (by decide) ?_
  refine ex_iload_n (pc' := 40) dX12_post_39 rfl rfl ?_
  refine ex_sipush (v := 363) (pc' := 43) dX12_post_40 (by decide) rfl ?_
  refine ex_icmp_f (pc' := 46) dX12_post_43 (by decide) (by decide) rfl ?_
  refine ex_aload_n (pc' := 47) dX12_post_46 rfl rfl ?_
  refine ex_getR (pc' := 50) (n := 39) (r := 200) dX12_post_47 fl_12_23 (by decide +kernel) (by decide) (by decide +kernel) rfl ?_
  refine ex_iload_n (pc' := 51) dX12_post_50 rfl rfl ?_
  refine ex_iconst (v := 0) (pc' := 52) dX12_post_51 (by decide) rfl ?_
  refine en_iast (pc' := 53) (n := 363) (jj := 223) (h2 := hh_737) dX12_post_52 (by decide +kernel) (by decide) rfl rfl ?_
  refine ex_iinc (pc' := 56) (v := 224) (ls' := [(2, .inl 224), (0, .inr (.inr (some 196))), (1, .inl 0)]) dX12_post_53 rfl (by decide) (by decide) rfl rfl ?_
  refine ex_goto (pc' := 39) dX12_post_56 (by decide) ?_
  refine ex_iload_n (pc' := 40) dX12_post_39 rfl rfl ?_
  refine ex_sipush (v := 363) (pc' := 43) dX12_post_40 (by decide) rfl ?_
  refine ex_icmp_f (pc' := 46) dX12_post_43 (by decide) (by decide) rfl ?_
  refine ex_aload_n (pc' := 47) dX12_post_46 rfl rfl ?_
  refine ex_getR (pc' := 50) (n := 39) (r := 200) dX12_post_47 fl_12_23 (by decide +kernel) (by decide) (by decide +kernel) rfl ?_
  refine ex_iload_n (pc' := 51) dX12_post_50 rfl rfl ?_
  refine ex_iconst (v := 0) (pc' := 52) dX12_post_51 (by decide) rfl ?_
  refine en_iast (pc' := 53) (n := 363) (jj := 224) (h2 := hh_738) dX12_post_52 (by decide +kernel) (by decide) rfl rfl ?_
  refine ex_iinc (pc' := 56) (v := 225) (ls' := [(2, .inl 225), (0, .inr (.inr (some 196))), (1, .inl 0)]) dX12_post_53 rfl (by decide) (by decide) rfl rfl ?_
  refine ex_goto (pc' := 39) dX12_post_56 (by decide) ?_
  refine ex_iload_n (pc' := 40) dX12_post_39 rfl rfl ?_
  refine ex_sipush (v := 363) (pc' := 43) dX12_post_40 (by decide) rfl ?_
  refine ex_icmp_f (pc' := 46) dX12_post_43 (by decide) (by decide) rfl ?_
  refine ex_aload_n (pc' := 47) dX12_post_46 rfl rfl ?_
  refine ex_getR (pc' := 50) (n := 39) (r := 200) dX12_post_47 fl_12_23 (by decide +kernel) (by decide) (by decide +kernel) rfl ?_
  refine ex_iload_n (pc' := 51) dX12_post_50 rfl rfl ?_
  refine ex_iconst (v := 0) (pc' := 52) dX12_post_51 (by decide) rfl ?_
  refine en_iast (pc' := 53) (n := 363) (jj := 225) (h2 := hh_739) dX12_post_52 (by decide +kernel) (by decide) rfl rfl ?_
  refine ex_iinc (pc' := 56) (v := 226) (ls' := [(2, .inl 226), (0, .inr (.inr (some 196))), (1, .inl 0)]) dX12_post_53 rfl (by decide) (by decide) rfl rfl ?_
  refine ex_goto (pc' := 39) dX12_post_56 (by decide) ?_
  refine ex_iload_n (pc' := 40) dX12_post_39 rfl rfl ?_
  refine ex_sipush (v := 363) (pc' := 43) dX12_post_40 (by decide) rfl ?_
  refine ex_icmp_f (pc' := 46) dX12_post_43 (by decide) (by decide) rfl ?_
  refine ex_aload_n (pc' := 47) dX12_post_46 rfl rfl ?_
  refine ex_getR (pc' := 50) (n := 39) (r := 200) dX12_post_47 fl_12_23 (by decide +kernel) (by decide) (by decide +kernel) rfl ?_
  refine ex_iload_n (pc' := 51) dX12_post_50 rfl rfl ?_
  refine ex_iconst (v := 0) (pc' := 52) dX12_post_51 (by decide) rfl ?_
  refine en_iast (pc' := 53) (n := 363) (jj := 226) (h2 := hh_740) dX12_post_52 (by decide +kernel) (by decide) rfl rfl ?_
  refine ex_iinc (pc' := 56) (v := 227) (ls' := [(2, .inl 227), (0, .inr (.inr (some 196))), (1, .inl 0)]) dX12_post_53 rfl (by decide) (by decide) rfl rfl ?_
  refine ex_goto (pc' := 39) dX12_post_56 (by decide) ?_
  refine ex_iload_n (pc' := 40) dX12_post_39 rfl rfl ?_
  refine ex_sipush (v := 363) (pc' := 43) dX12_post_40 (by decide) rfl ?_
  refine ex_icmp_f (pc' := 46) dX12_post_43 (by decide) (by decide) rfl ?_
  refine ex_aload_n (pc' := 47) dX12_post_46 rfl rfl ?_
  refine ex_getR (pc' := 50) (n := 39) (r := 200) dX12_post_47 fl_12_23 (by decide +kernel) (by decide) (by decide +kernel) rfl ?_
  refine ex_iload_n (pc' := 51) dX12_post_50 rfl rfl ?_
  refine ex_iconst (v := 0) (pc' := 52) dX12_post_51 (by decide) rfl ?_
  refine en_iast (pc' := 53) (n := 363) (jj := 227) (h2 := hh_741) dX12_post_52 (by decide +kernel) (by decide) rfl rfl ?_
  refine ex_iinc (pc' := 56) (v := 228) (ls' := [(2, .inl 228), (0, .inr (.inr (some 196))), (1, .inl 0)]) dX12_post_53 rfl (by decide) (by decide) rfl rfl ?_
  refine ex_goto (pc' := 39) dX12_post_56 (by decide) ?_
  refine ex_iload_n (pc' := 40) dX12_post_39 rfl rfl ?_
  refine ex_sipush (v := 363) (pc' := 43) dX12_post_40 (by decide) rfl ?_
  refine ex_icmp_f (pc' := 46) dX12_post_43 (by decide) (by decide) rfl ?_
  refine ex_aload_n (pc' := 47) dX12_post_46 rfl rfl ?_
  refine ex_getR (pc' := 50) (n := 39) (r := 200) dX12_post_47 fl_12_23 (by decide +kernel) (by decide) (by decide +kernel) rfl ?_
  refine ex_iload_n (pc' := 51) dX12_post_50 rfl rfl ?_
  refine ex_iconst (v := 0) (pc' := 52) dX12_post_51 (by decide) rfl ?_
  refine en_iast (pc' := 53) (n := 363) (jj := 228) (h2 := hh_742) dX12_post_52 (by decide +kernel) (by decide) rfl rfl ?_
  refine ex_iinc (pc' := 56) (v := 229) (ls' := [(2, .inl 229), (0, .inr (.inr (some 196))), (1, .inl 0)]) dX12_post_53 rfl (by decide) (by decide) rfl rfl ?_
  refine ex_goto (pc' := 39) dX12_post_56 (by decide) ?_
  refine ex_iload_n (pc' := 40) dX12_post_39 rfl rfl ?_
  refine ex_sipush (v := 363) (pc' := 43) dX12_post_40 (by decide) rfl ?_
  refine ex_icmp_f (pc' := 46) dX12_post_43 (by decide) (by decide) rfl ?_
  refine ex_aload_n (pc' := 47) dX12_post_46 rfl rfl ?_
  refine ex_getR (pc' := 50) (n := 39) (r := 200) dX12_post_47 fl_12_23 (by decide +kernel) (by decide) (by decide +kernel) rfl ?_
  refine ex_iload_n (pc' := 51) dX12_post_50 rfl rfl ?_
  refine ex_iconst (v := 0) (pc' := 52) dX12_post_51 (by decide) rfl ?_
  refine en_iast (pc' := 53) (n := 363) (jj := 229) (h2 := hh_743) dX12_post_52 (by decide +kernel) (by decide) rfl rfl ?_
  refine ex_iinc (pc' := 56) (v := 230) (ls' := [(2, .inl 230), (0, .inr (.inr (some 196))), (1, .inl 0)]) dX12_post_53 rfl (by decide) (by decide) rfl rfl ?_
  refine ex_goto (pc' := 39) dX12_post_56 (by decide) ?_
  refine ex_iload_n (pc' := 40) dX12_post_39 rfl rfl ?_
  refine ex_sipush (v := 363) (pc' := 43) dX12_post_40 (by decide) rfl ?_
  refine ex_icmp_f (pc' := 46) dX12_post_43 (by decide) (by decide) rfl ?_
  refine ex_aload_n (pc' := 47) dX12_post_46 rfl rfl ?_
  refine ex_getR (pc' := 50) (n := 39) (r := 200) dX12_post_47 fl_12_23 (by decide +kernel) (by decide) (by decide +kernel) rfl ?_
  refine ex_iload_n (pc' := 51) dX12_post_50 rfl rfl ?_
  refine ex_iconst (v := 0) (pc' := 52) dX12_post_51 (by decide) rfl ?_
  refine en_iast (pc' := 53) (n := 363) (jj := 230) (h2 := hh_744) dX12_post_52 (by decide +kernel) (by decide) rfl rfl ?_
  refine ex_iinc (pc' := 56) (v := 231) (ls' := [(2, .inl 231), (0, .inr (.inr (some 196))), (1, .inl 0)]) dX12_post_53 rfl (by decide) (by decide) rfl rfl ?_
  refine ex_goto (pc' := 39) dX12_post_56 (by decide) ?_
  refine ex_iload_n (pc' := 40) dX12_post_39 rfl rfl ?_
  refine ex_sipush (v := 363) (pc' := 43) dX12_post_40 (by decide) rfl ?_
  refine ex_icmp_f (pc' := 46) dX12_post_43 (by decide) (by decide) rfl ?_
  refine ex_aload_n (pc' := 47) dX12_post_46 rfl rfl ?_
  refine ex_getR (pc' := 50) (n := 39) (r := 200) dX12_post_47 fl_12_23 (by decide +kernel) (by decide) (by decide +kernel) rfl ?_
  refine ex_iload_n (pc' := 51) dX12_post_50 rfl rfl ?_
  refine ex_iconst (v := 0) (pc' := 52) dX12_post_51 (by decide) rfl ?_
  refine en_iast (pc' := 53) (n := 363) (jj := 231) (h2 := hh_745) dX12_post_52 (by decide +kernel) (by decide) rfl rfl ?_
  refine ex_iinc (pc' := 56) (v := 232) (ls' := [(2, .inl 232), (0, .inr (.inr (some 196))), (1, .inl 0)]) dX12_post_53 rfl (by decide) (by decide) rfl rfl ?_
  refine ex_goto (pc' := 39) dX12_post_56 (by decide) ?_
  refine ex_iload_n (pc' := 40) dX12_post_39 rfl rfl ?_
  refine ex_sipush (v := 363) (pc' := 43) dX12_post_40 (by decide) rfl ?_
  refine ex_icmp_f (pc' := 46) dX12_post_43 (by decide) (by decide) rfl ?_
  refine ex_aload_n (pc' := 47) dX12_post_46 rfl rfl ?_
  refine ex_getR (pc' := 50) (n := 39) (r := 200) dX12_post_47 fl_12_23 (by decide +kernel) (by decide) (by decide +kernel) rfl ?_
  refine ex_iload_n (pc' := 51) dX12_post_50 rfl rfl ?_
  refine ex_iconst (v := 0) (pc' := 52) dX12_post_51 (by decide) rfl ?_
  refine en_iast (pc' := 53) (n := 363) (jj := 232) (h2 := hh_746) dX12_post_52 (by decide +kernel) (by decide) rfl rfl ?_
  refine ex_iinc (pc' := 56) (v := 233) (ls' := [(2, .inl 233), (0, .inr (.inr (some 196))), (1, .inl 0)]) dX12_post_53 rfl (by decide) (by decide) rfl rfl ?_
  refine ex_goto (pc' := 39) dX12_post_56 (by decide) ?_
  refine ex_iload_n (pc' := 40) dX12_post_39 rfl rfl ?_
  refine ex_sipush (v := 363) (pc' := 43) dX12_post_40 (by decide) rfl ?_
  refine ex_icmp_f (pc' := 46) dX12_post_43 (by decide) (by decide) rfl ?_
  refine ex_aload_n (pc' := 47) dX12_post_46 rfl rfl ?_
  refine ex_getR (pc' := 50) (n := 39) (r := 200) dX12_post_47 fl_12_23 (by decide +kernel) (by decide) (by decide +kernel) rfl ?_
  refine ex_iload_n (pc' := 51) dX12_post_50 rfl rfl ?_
  refine ex_iconst (v := 0) (pc' := 52) dX12_post_51 (by decide) rfl ?_
  refine en_iast (pc' := 53) (n := 363) (jj := 233) (h2 := hh_747) dX12_post_52 (by decide +kernel) (by decide) rfl rfl ?_
  refine ex_iinc (pc' := 56) (v := 234) (ls' := [(2, .inl 234), (0, .inr (.inr (some 196))), (1, .inl 0)]) dX12_post_53 rfl (by decide) (by decide) rfl rfl ?_
  refine ex_goto (pc' := 39) dX12_post_56 (by decide) ?_
  refine ex_iload_n (pc' := 40) dX12_post_39 rfl rfl ?_
  refine ex_sipush (v := 363) (pc' := 43) dX12_post_40 (by decide) rfl ?_
  refine ex_icmp_f (pc' := 46) dX12_post_43 (by decide) (by decide) rfl ?_
  refine ex_aload_n (pc' := 47) dX12_post_46 rfl rfl ?_
  refine ex_getR (pc' := 50) (n := 39) (r := 200) dX12_post_47 fl_12_23 (by decide +kernel) (by decide) (by decide +kernel) rfl ?_
  refine ex_iload_n (pc' := 51) dX12_post_50 rfl rfl ?_
  refine ex_iconst (v := 0) (pc' := 52) dX12_post_51 (by decide) rfl ?_
  refine en_iast (pc' := 53) (n := 363) (jj := 234) (h2 := hh_748) dX12_post_52 (by decide +kernel) (by decide) rfl rfl ?_
  refine ex_iinc (pc' := 56) (v := 235) (ls' := [(2, .inl 235), (0, .inr (.inr (some 196))), (1, .inl 0)]) dX12_post_53 rfl (by decide) (by decide) rfl rfl ?_
  refine ex_goto (pc' := 39) dX12_post_56 (by decide) ?_
  refine ex_iload_n (pc' := 40) dX12_post_39 rfl rfl ?_
  refine ex_sipush (v := 363) (pc' := 43) dX12_post_40 (by decide) rfl ?_
  refine ex_icmp_f (pc' := 46) dX12_post_43 (by decide) (by decide) rfl ?_
  refine ex_aload_n (pc' := 47) dX12_post_46 rfl rfl ?_
  refine ex_getR (pc' := 50) (n := 39) (r := 200) dX12_post_47 fl_12_23 (by decide +kernel) (by decide) (by decide +kernel) rfl ?_
  refine ex_iload_n (pc' := 51) dX12_post_50 rfl rfl ?_
  refine ex_iconst (v := 0) (pc' := 52) dX12_post_51 (by decide) rfl ?_
  refine en_iast (pc' := 53) (n := 363) (jj := 235) (h2 := hh_749) dX12_post_52 (by decide +kernel) (by decide) rfl rfl ?_
  refine ex_iinc (pc' := 56) (v := 236) (ls' := [(2, .inl 236), (0, .inr (.inr (some 196))), (1, .inl 0)]) dX12_post_53 rfl (by decide) (by decide) rfl rfl ?_
  refine ex_goto (pc' := 39) dX12_post_56 (by decide) ?_
  refine ex_iload_n (pc' := 40) dX12_post_39 rfl rfl ?_
  refine ex_sipush (v := 363) (pc' := 43) dX12_post_40 (by decide) rfl ?_
  refine ex_icmp_f (pc' := 46) dX12_post_43 (by decide) (by decide) rfl ?_
  refine ex_aload_n (pc' := 47) dX12_post_46 rfl rfl ?_
  refine ex_getR (pc' := 50) (n := 39) (r := 200) dX12_post_47 fl_12_23 (by decide +kernel) (by decide) (by decide +kernel) rfl ?_
  refine ex_iload_n (pc' := 51) dX12_post_50 rfl rfl ?_
  refine ex_iconst (v := 0) (pc' := 52) dX12_post_51 (by decide) rfl ?_
  refine en_iast (pc' := 53) (n := 363) (jj := 236) (h2 := hh_750) dX12_post_52 (by decide +kernel) (by decide) rfl rfl ?_
  refine ex_iinc (pc' := 56) (v := 237) (ls' := [(2, .inl 237), (0, .inr (.inr (some 196))), (1, .inl 0)]) dX12_post_53 rfl (by decide) (by decide) rfl rfl ?_
  refine ex_goto (pc' := 39) dX12_post_56 (by decide) ?_
  refine ex_iload_n (pc' := 40) dX12_post_39 rfl rfl ?_
  refine ex_sipush (v := 363) (pc' := 43) dX12_post_40 (by decide) rfl ?_
  refine ex_icmp_f (pc' := 46) dX12_post_43 (by decide) (by decide) rfl ?_
  refine ex_aload_n (pc' := 47) dX12_post_46 rfl rfl ?_
  refine ex_getR (pc' := 50) (n := 39) (r := 200) dX12_post_47 fl_12_23 (by decide +kernel) (by decide) (by decide +kernel) rfl ?_
  refine ex_iload_n (pc' := 51) dX12_post_50 rfl rfl ?_
  refine ex_iconst (v := 0) (pc' := 52) dX12_post_51 (by decide) rfl ?_
  refine en_iast (pc' := 53) (n := 363) (jj := 237) (h2 := hh_751) dX12_post_52 (by decide +kernel) (by decide) rfl rfl ?_
  refine ex_iinc (pc' := 56) (v := 238) (ls' := [(2, .inl 238), (0, .inr (.inr (some 196))), (1, .inl 0)]) dX12_post_53 rfl (by decide) (by decide) rfl rfl ?_
  refine ex_goto (pc' := 39) dX12_post_56 (by decide) ?_
  refine ex_iload_n (pc' := 40) dX12_post_39 rfl rfl ?_
  refine ex_sipush (v := 363) (pc' := 43) dX12_post_40 (by decide) rfl ?_
  refine ex_icmp_f (pc' := 46) dX12_post_43 (by decide) (by decide) rfl ?_
  refine ex_aload_n (pc' := 47) dX12_post_46 rfl rfl ?_
  refine ex_getR (pc' := 50) (n := 39) (r := 200) dX12_post_47 fl_12_23 (by decide +kernel) (by decide) (by decide +kernel) rfl ?_
  refine ex_iload_n (pc' := 51) dX12_post_50 rfl rfl ?_
  refine ex_iconst (v := 0) (pc' := 52) dX12_post_51 (by decide) rfl ?_
  refine en_iast (pc' := 53) (n := 363) (jj := 238) (h2 := hh_752) dX12_post_52 (by decide +kernel) (by decide) rfl rfl ?_
  refine ex_iinc (pc' := 56) (v := 239) (ls' := [(2, .inl 239), (0, .inr (.inr (some 196))), (1, .inl 0)]) dX12_post_53 rfl (by decide) (by decide) rfl rfl ?_
  refine ex_goto (pc' := 39) dX12_post_56 (by decide) ?_
  refine ex_iload_n (pc' := 40) dX12_post_39 rfl rfl ?_
  refine ex_sipush (v := 363) (pc' := 43) dX12_post_40 (by decide) rfl ?_
  refine ex_icmp_f (pc' := 46) dX12_post_43 (by decide) (by decide) rfl ?_
  refine ex_aload_n (pc' := 47) dX12_post_46 rfl rfl ?_
  refine ex_getR (pc' := 50) (n := 39) (r := 200) dX12_post_47 fl_12_23 (by decide +kernel) (by decide) (by decide +kernel) rfl ?_
  refine ex_iload_n (pc' := 51) dX12_post_50 rfl rfl ?_
  refine ex_iconst (v := 0) (pc' := 52) dX12_post_51 (by decide) rfl ?_
  refine en_iast (pc' := 53) (n := 363) (jj := 239) (h2 := hh_753) dX12_post_52 (by decide +kernel) (by decide) rfl rfl ?_
  refine ex_iinc (pc' := 56) (v := 240) (ls' := [(2, .inl 240), (0, .inr (.inr (some 196))), (1, .inl 0)]) dX12_post_53 rfl (by decide) (by decide) rfl rfl ?_
  refine ex_goto (pc' := 39) dX12_post_56 (by decide) ?_
  refine ex_iload_n (pc' := 40) dX12_post_39 rfl rfl ?_
  refine ex_sipush (v := 363) (pc' := 43) dX12_post_40 (by decide) rfl ?_
  refine ex_icmp_f (pc' := 46) dX12_post_43 (by decide) (by decide) rfl ?_
  refine ex_aload_n (pc' := 47) dX12_post_46 rfl rfl ?_
  refine ex_getR (pc' := 50) (n := 39) (r := 200) dX12_post_47 fl_12_23 (by decide +kernel) (by decide) (by decide +kernel) rfl ?_
  refine ex_iload_n (pc' := 51) dX12_post_50 rfl rfl ?_
  refine ex_iconst (v := 0) (pc' := 52) dX12_post_51 (by decide) rfl ?_
  refine en_iast (pc' := 53) (n := 363) (jj := 240) (h2 := hh_754) dX12_post_52 (by decide +kernel) (by decide) rfl rfl ?_
  refine ex_iinc (pc' := 56) (v := 241) (ls' := [(2, .inl 241), (0, .inr (.inr (some 196))), (1, .inl 0)]) dX12_post_53 rfl (by decide) (by decide) rfl rfl ?_
  refine ex_goto (pc' := 39) dX12_post_56 (by decide) ?_
  refine ex_iload_n (pc' := 40) dX12_post_39 rfl rfl ?_
  refine ex_sipush (v := 363) (pc' := 43) dX12_post_40 (by decide) rfl ?_
  refine ex_icmp_f (pc' := 46) dX12_post_43 (by decide) (by decide) rfl ?_
  refine ex_aload_n (pc' := 47) dX12_post_46 rfl rfl ?_
  refine ex_getR (pc' := 50) (n := 39) (r := 200) dX12_post_47 fl_12_23 (by decide +kernel) (by decide) (by decide +kernel) rfl ?_
  refine ex_iload_n (pc' := 51) dX12_post_50 rfl rfl ?_
  refine ex_iconst (v := 0) (pc' := 52) dX12_post_51 (by decide) rfl ?_
  refine en_iast (pc' := 53) (n := 363) (jj := 241) (h2 := hh_755) dX12_post_52 (by decide +kernel) (by decide) rfl rfl ?_
  refine ex_iinc (pc' := 56) (v := 242) (ls' := [(2, .inl 242), (0, .inr (.inr (some 196))), (1, .inl 0)]) dX12_post_53 rfl (by decide) (by decide) rfl rfl ?_
  refine ex_goto (pc' := 39) dX12_post_56 (by decide) ?_
  refine ex_iload_n (pc' := 40) dX12_post_39 rfl rfl ?_
  refine ex_sipush (v := 363) (pc' := 43) dX12_post_40 (by decide) rfl ?_
  refine ex_icmp_f (pc' := 46) dX12_post_43 (by decide) (by decide) rfl ?_
  refine ex_aload_n (pc' := 47) dX12_post_46 rfl rfl ?_
  refine ex_getR (pc' := 50) (n := 39) (r := 200) dX12_post_47 fl_12_23 (by decide +kernel) (by decide) (by decide +kernel) rfl ?_
  refine ex_iload_n (pc' := 51) dX12_post_50 rfl rfl ?_
  refine ex_iconst (v := 0) (pc' := 52) dX12_post_51 (by decide) rfl ?_
  refine en_iast (pc' := 53) (n := 363) (jj := 242) (h2 := hh_756) dX12_post_52 (by decide +kernel) (by decide) rfl rfl ?_
  refine ex_iinc (pc' := 56) (v := 243) (ls' := [(2, .inl 243), (0, .inr (.inr (some 196))), (1, .inl 0)]) dX12_post_53 rfl (by decide) (by decide) rfl rfl ?_
  refine ex_goto (pc' := 39) dX12_post_56 (by decide) ?_
  refine ex_iload_n (pc' := 40) dX12_post_39 rfl rfl ?_
  refine ex_sipush (v := 363) (pc' := 43) dX12_post_40 (by decide) rfl ?_
  refine ex_icmp_f (pc' := 46) dX12_post_43 (by decide) (by decide) rfl ?_
  refine ex_aload_n (pc' := 47) dX12_post_46 rfl rfl ?_
  refine ex_getR (pc' := 50) (n := 39) (r := 200) dX12_post_47 fl_12_23 (by decide +kernel) (by decide) (by decide +kernel) rfl ?_
  refine ex_iload_n (pc' := 51) dX12_post_50 rfl rfl ?_
  refine ex_iconst (v := 0) (pc' := 52) dX12_post_51 (by decide) rfl ?_
  refine en_iast (pc' := 53) (n := 363) (jj := 243) (h2 := hh_757) dX12_post_52 (by decide +kernel) (by decide) rfl rfl ?_
  refine ex_iinc (pc' := 56) (v := 244) (ls' := [(2, .inl 244), (0, .inr (.inr (some 196))), (1, .inl 0)]) dX12_post_53 rfl (by decide) (by decide) rfl rfl ?_
  refine ex_goto (pc' := 39) dX12_post_56 (by decide) ?_
  refine ex_iload_n (pc' := 40) dX12_post_39 rfl rfl ?_
  refine ex_sipush (v := 363) (pc' := 43) dX12_post_40 (by decide) rfl ?_
  refine ex_icmp_f (pc' := 46) dX12_post_43 (by decide) (by decide) rfl ?_
  refine ex_aload_n (pc' := 47) dX12_post_46 rfl rfl ?_
  refine ex_getR (pc' := 50) (n := 39) (r := 200) dX12_post_47 fl_12_23 (by decide +kernel) (by decide) (by decide +kernel) rfl ?_
  refine ex_iload_n (pc' := 51) dX12_post_50 rfl rfl ?_
  refine ex_iconst (v := 0) (pc' := 52) dX12_post_51 (by decide) rfl ?_
  refine en_iast (pc' := 53) (n := 363) (jj := 244) (h2 := hh_758) dX12_post_52 (by decide +kernel) (by decide) rfl rfl ?_
  refine ex_iinc (pc' := 56) (v := 245) (ls' := [(2, .inl 245), (0, .inr (.inr (some 196))), (1, .inl 0)]) dX12_post_53 rfl (by decide) (by decide) rfl rfl ?_
  refine ex_goto (pc' := 39) dX12_post_56 (by decide) ?_
  refine ex_iload_n (pc' := 40) dX12_post_39 rfl rfl ?_
  refine ex_sipush (v := 363) (pc' := 43) dX12_post_40 (by decide) rfl ?_
  refine ex_icmp_f (pc' := 46) dX12_post_43 (by decide) (by decide) rfl ?_
  refine ex_aload_n (pc' := 47) dX12_post_46 rfl rfl ?_
  refine ex_getR (pc' := 50) (n := 39) (r := 200) dX12_post_47 fl_12_23 (by decide +kernel) (by decide) (by decide +kernel) rfl ?_
  refine ex_iload_n (pc' := 51) dX12_post_50 rfl rfl ?_
  refine ex_iconst (v := 0) (pc' := 52) dX12_post_51 (by decide) rfl ?_
  refine en_iast (pc' := 53) (n := 363) (jj := 245) (h2 := hh_759) dX12_post_52 (by decide +kernel) (by decide) rfl rfl ?_
  refine ex_iinc (pc' := 56) (v := 246) (ls' := [(2, .inl 246), (0, .inr (.inr (some 196))), (1, .inl 0)]) dX12_post_53 rfl (by decide) (by decide) rfl rfl ?_
  refine ex_goto (pc' := 39) dX12_post_56 (by decide) ?_
  refine ex_iload_n (pc' := 40) dX12_post_39 rfl rfl ?_
  refine ex_sipush (v := 363) (pc' := 43) dX12_post_40 (by decide) rfl ?_
  refine ex_icmp_f (pc' := 46) dX12_post_43 (by decide) (by decide) rfl ?_
  refine ex_aload_n (pc' := 47) dX12_post_46 rfl rfl ?_
  refine ex_getR (pc' := 50) (n := 39) (r := 200) dX12_post_47 fl_12_23 (by decide +kernel) (by decide) (by decide +kernel) rfl ?_
  refine ex_iload_n (pc' := 51) dX12_post_50 rfl rfl ?_
  refine ex_iconst (v := 0) (pc' := 52) dX12_post_51 (by decide) rfl ?_
  refine en_iast (pc' := 53) (n := 363) (jj := 246) (h2 := hh_760) dX12_post_52 (by decide +kernel) (by decide) rfl rfl ?_
  refine ex_iinc (pc' := 56) (v := 247) (ls' := [(2, .inl 247), (0, .inr (.inr (some 196))), (1, .inl 0)]) dX12_post_53 rfl (by decide) (by decide) rfl rfl ?_
  refine ex_goto (pc' := 39) dX12_post_56 (by decide) ?_
  refine ex_iload_n (pc' := 40) dX12_post_39 rfl rfl ?_
  refine ex_sipush (v := 363) (pc' := 43) dX12_post_40 (by decide) rfl ?_
  refine ex_icmp_f (pc' := 46) dX12_post_43 (by decide) (by decide) rfl ?_
  refine ex_aload_n (pc' := 47) dX12_post_46 rfl rfl ?_
  refine ex_getR (pc' := 50) (n := 39) (r := 200) dX12_post_47 fl_12_23 (by decide +kernel) (by decide) (by decide +kernel) rfl ?_
  refine ex_iload_n (pc' := 51) dX12_post_50 rfl rfl ?_
  refine ex_iconst (v := 0) (pc' := 52) dX12_post_51 (by decide) rfl ?_
  refine en_iast (pc' := 53) (n := 363) (jj := 247) (h2 := hh_761) dX12_post_52 (by decide +kernel) (by decide) rfl rfl ?_
  refine ex_iinc (pc' := 56) (v := 248) (ls' := [(2, .inl 248), (0, .inr (.inr (some 196))), (1, .inl 0)]) dX12_post_53 rfl (by decide) (by decide) rfl rfl ?_
  refine ex_goto (pc' := 39) dX12_post_56 (by decide) ?_
  refine ex_iload_n (pc' := 40) dX12_post_39 rfl rfl ?_
  refine ex_sipush (v := 363) (pc' := 43) dX12_post_40 (by decide) rfl ?_
  refine ex_icmp_f (pc' := 46) dX12_post_43 (by decide) (by decide) rfl ?_
  refine ex_aload_n (pc' := 47) dX12_post_46 rfl rfl ?_
  refine ex_getR (pc' := 50) (n := 39) (r := 200) dX12_post_47 fl_12_23 (by decide +kernel) (by decide) (by decide +kernel) rfl ?_
  refine ex_iload_n (pc' := 51) dX12_post_50 rfl rfl ?_
  refine ex_iconst (v := 0) (pc' := 52) dX12_post_51 (by decide) rfl ?_
  refine en_iast (pc' := 53) (n := 363) (jj := 248) (h2 := hh_762) dX12_post_52 (by decide +kernel) (by decide) rfl rfl ?_
  refine ex_iinc (pc' := 56) (v := 249) (ls' := [(2, .inl 249), (0, .inr (.inr (some 196))), (1, .inl 0)]) dX12_post_53 rfl (by decide) (by decide) rfl rfl ?_
  refine ex_goto (pc' := 39) dX12_post_56 (by decide) ?_
  refine ex_iload_n (pc' := 40) dX12_post_39 rfl rfl ?_
  refine ex_sipush (v := 363) (pc' := 43) dX12_post_40 (by decide) rfl ?_
  refine ex_icmp_f (pc' := 46) dX12_post_43 (by decide) (by decide) rfl ?_
  refine ex_aload_n (pc' := 47) dX12_post_46 rfl rfl ?_
  refine ex_getR (pc' := 50) (n := 39) (r := 200) dX12_post_47 fl_12_23 (by decide +kernel) (by decide) (by decide +kernel) rfl ?_
  refine ex_iload_n (pc' := 51) dX12_post_50 rfl rfl ?_
  refine ex_iconst (v := 0) (pc' := 52) dX12_post_51 (by decide) rfl ?_
  refine en_iast (pc' := 53) (n := 363) (jj := 249) (h2 := hh_763) dX12_post_52 (by decide +kernel) (by decide) rfl rfl ?_
  refine ex_iinc (pc' := 56) (v := 250) (ls' := [(2, .inl 250), (0, .inr (.inr (some 196))), (1, .inl 0)]) dX12_post_53 rfl (by decide) (by decide) rfl rfl ?_
  refine ex_goto (pc' := 39) dX12_post_56 (by decide) ?_
  refine ex_iload_n (pc' := 40) dX12_post_39 rfl rfl ?_
  refine ex_sipush (v := 363) (pc' := 43) dX12_post_40 (by decide) rfl ?_
  refine ex_icmp_f (pc' := 46) dX12_post_43 (by decide) (by decide) rfl ?_
  refine ex_aload_n (pc' := 47) dX12_post_46 rfl rfl ?_
  refine ex_getR (pc' := 50) (n := 39) (r := 200) dX12_post_47 fl_12_23 (by decide +kernel) (by decide) (by decide +kernel) rfl ?_
  refine ex_iload_n (pc' := 51) dX12_post_50 rfl rfl ?_
  refine ex_iconst (v := 0) (pc' := 52) dX12_post_51 (by decide) rfl ?_
  refine en_iast (pc' := 53) (n := 363) (jj := 250) (h2 := hh_764) dX12_post_52 (by decide +kernel) (by decide) rfl rfl ?_
  refine ex_iinc (pc' := 56) (v := 251) (ls' := [(2, .inl 251), (0, .inr (.inr (some 196))), (1, .inl 0)]) dX12_post_53 rfl (by decide) (by decide) rfl rfl ?_
  refine ex_goto (pc' := 39) dX12_post_56 (by decide) ?_
  refine ex_iload_n (pc' := 40) dX12_post_39 rfl rfl ?_
  refine ex_sipush (v := 363) (pc' := 43) dX12_post_40 (by decide) rfl ?_
  refine ex_icmp_f (pc' := 46) dX12_post_43 (by decide) (by decide) rfl ?_
  refine ex_aload_n (pc' := 47) dX12_post_46 rfl rfl ?_
  refine ex_getR (pc' := 50) (n := 39) (r := 200) dX12_post_47 fl_12_23 (by decide +kernel) (by decide) (by decide +kernel) rfl ?_
  refine ex_iload_n (pc' := 51) dX12_post_50 rfl rfl ?_
  refine ex_iconst (v := 0) (pc' := 52) dX12_post_51 (by decide) rfl ?_
  refine en_iast (pc' := 53) (n := 363) (jj := 251) (h2 := hh_765) dX12_post_52 (by decide +kernel) (by decide) rfl rfl ?_
  refine ex_iinc (pc' := 56) (v := 252) (ls' := [(2, .inl 252), (0, .inr (.inr (some 196))), (1, .inl 0)]) dX12_post_53 rfl (by decide) (by decide) rfl rfl ?_
  refine ex_goto (pc' := 39) dX12_post_56 (by decide) ?_
  refine ex_iload_n (pc' := 40) dX12_post_39 rfl rfl ?_
  refine ex_sipush (v := 363) (pc' := 43) dX12_post_40 (by decide) rfl ?_
  refine ex_icmp_f (pc' := 46) dX12_post_43 (by decide) (by decide) rfl ?_
  refine ex_aload_n (pc' := 47) dX12_post_46 rfl rfl ?_
  refine ex_getR (pc' := 50) (n := 39) (r := 200) dX12_post_47 fl_12_23 (by decide +kernel) (by decide) (by decide +kernel) rfl ?_
  refine ex_iload_n (pc' := 51) dX12_post_50 rfl rfl ?_
  refine ex_iconst (v := 0) (pc' := 52) dX12_post_51 (by decide) rfl ?_
  refine en_iast (pc' := 53) (n := 363) (jj := 252) (h2 := hh_766) dX12_post_52 (by decide +kernel) (by decide) rfl rfl ?_
  refine ex_iinc (pc' := 56) (v := 253) (ls' := [(2, .inl 253), (0, .inr (.inr (some 196))), (1, .inl 0)]) dX12_post_53 rfl (by decide) (by decide) rfl rfl ?_
  refine ex_goto (pc' := 39) dX12_post_56 (by decide) ?_
  refine ex_iload_n (pc' := 40) dX12_post_39 rfl rfl ?_
  refine ex_sipush (v := 363) (pc' := 43) dX12_post_40 (by decide) rfl ?_
  refine ex_icmp_f (pc' := 46) dX12_post_43 (by decide) (by decide) rfl ?_
  refine ex_aload_n (pc' := 47) dX12_post_46 rfl rfl ?_
  refine ex_getR (pc' := 50) (n := 39) (r := 200) dX12_post_47 fl_12_23 (by decide +kernel) (by decide) (by decide +kernel) rfl ?_
  refine ex_iload_n (pc' := 51) dX12_post_50 rfl rfl ?_
  refine ex_iconst (v := 0) (pc' := 52) dX12_post_51 (by decide) rfl ?_
  refine en_iast (pc' := 53) (n := 363) (jj := 253) (h2 := hh_767) dX12_post_52 (by decide +kernel) (by decide) rfl rfl ?_
  refine ex_iinc (pc' := 56) (v := 254) (ls' := [(2, .inl 254), (0, .inr (.inr (some 196))), (1, .inl 0)]) dX12_post_53 rfl (by decide) (by decide) rfl rfl ?_
  refine ex_goto (pc' := 39) dX12_post_56 (by decide) ?_
  refine ex_iload_n (pc' := 40) dX12_post_39 rfl rfl ?_
  refine ex_sipush (v := 363) (pc' := 43) dX12_post_40 (by decide) rfl ?_
  refine ex_icmp_f (pc' := 46) dX12_post_43 (by decide) (by decide) rfl ?_
  refine ex_aload_n (pc' := 47) dX12_post_46 rfl rfl ?_
  refine ex_getR (pc' := 50) (n := 39) (r := 200) dX12_post_47 fl_12_23 (by decide +kernel) (by decide) (by decide +kernel) rfl ?_
  refine ex_iload_n (pc' := 51) dX12_post_50 rfl rfl ?_
  refine ex_iconst (v := 0) (pc' := 52) dX12_post_51 (by decide) rfl ?_
  refine en_iast (pc' := 53) (n := 363) (jj := 254) (h2 := hh_768) dX12_post_52 (by decide +kernel) (by decide) rfl rfl ?_
  refine ex_iinc (pc' := 56) (v := 255) (ls' := [(2, .inl 255), (0, .inr (.inr (some 196))), (1, .inl 0)]) dX12_post_53 rfl (by decide) (by decide) rfl rfl ?_
  refine ex_goto (pc' := 39) dX12_post_56 (by decide) ?_
  refine ex_iload_n (pc' := 40) dX12_post_39 rfl rfl ?_
  refine ex_sipush (v := 363) (pc' := 43) dX12_post_40 (by decide) rfl ?_
  refine ex_icmp_f (pc' := 46) dX12_post_43 (by decide) (by decide) rfl ?_
  refine ex_aload_n (pc' := 47) dX12_post_46 rfl rfl ?_
  refine ex_getR (pc' := 50) (n := 39) (r := 200) dX12_post_47 fl_12_23 (by decide +kernel) (by decide) (by decide +kernel) rfl ?_
  refine ex_iload_n (pc' := 51) dX12_post_50 rfl rfl ?_
  refine ex_iconst (v := 0) (pc' := 52) dX12_post_51 (by decide) rfl ?_
  refine en_iast (pc' := 53) (n := 363) (jj := 255) (h2 := hh_769) dX12_post_52 (by decide +kernel) (by decide) rfl rfl ?_
  refine ex_iinc (pc' := 56) (v := 256) (ls' := [(2, .inl 256), (0, .inr (.inr (some 196))), (1, .inl 0)]) dX12_post_53 rfl (by decide) (by decide) rfl rfl ?_
  refine ex_goto (pc' := 39) dX12_post_56 (by decide) ?_
  refine ex_iload_n (pc' := 40) dX12_post_39 rfl rfl ?_
  refine ex_sipush (v := 363) (pc' := 43) dX12_post_40 (by decide) rfl ?_
  refine ex_icmp_f (pc' := 46) dX12_post_43 (by decide) (by decide) rfl ?_
  refine ex_aload_n (pc' := 47) dX12_post_46 rfl rfl ?_
  refine ex_getR (pc' := 50) (n := 39) (r := 200) dX12_post_47 fl_12_23 (by decide +kernel) (by decide) (by decide +kernel) rfl ?_
  refine ex_iload_n (pc' := 51) dX12_post_50 rfl rfl ?_
  refine ex_iconst (v := 0) (pc' := 52) dX12_post_51 (by decide) rfl ?_
  refine en_iast (pc' := 53) (n := 363) (jj := 256) (h2 := hh_770) dX12_post_52 (by decide +kernel) (by decide) rfl rfl ?_
  refine ex_iinc (pc' := 56) (v := 257) (ls' := [(2, .inl 257), (0, .inr (.inr (some 196))), (1, .inl 0)]) dX12_post_53 rfl (by decide) (by decide) rfl rfl ?_
  refine ex_goto (pc' := 39) dX12_post_56 (by decide) ?_
  refine ex_iload_n (pc' := 40) dX12_post_39 rfl rfl ?_
  refine ex_sipush (v := 363) (pc' := 43) dX12_post_40 (by decide) rfl ?_
  refine ex_icmp_f (pc' := 46) dX12_post_43 (by decide) (by decide) rfl ?_
  refine ex_aload_n (pc' := 47) dX12_post_46 rfl rfl ?_
  refine ex_getR (pc' := 50) (n := 39) (r := 200) dX12_post_47 fl_12_23 (by decide +kernel) (by decide) (by decide +kernel) rfl ?_
  refine ex_iload_n (pc' := 51) dX12_post_50 rfl rfl ?_
  refine ex_iconst (v := 0) (pc' := 52) dX12_post_51 (by decide) rfl ?_
  refine en_iast (pc' := 53) (n := 363) (jj := 257) (h2 := hh_771) dX12_post_52 (by decide +kernel) (by decide) rfl rfl ?_
  refine ex_iinc (pc' := 56) (v := 258) (ls' := [(2, .inl 258), (0, .inr (.inr (some 196))), (1, .inl 0)]) dX12_post_53 rfl (by decide) (by decide) rfl rfl ?_
  refine ex_goto (pc' := 39) dX12_post_56 (by decide) ?_
  refine ex_iload_n (pc' := 40) dX12_post_39 rfl rfl ?_
  refine ex_sipush (v := 363) (pc' := 43) dX12_post_40 (by decide) rfl ?_
  refine ex_icmp_f (pc' := 46) dX12_post_43 (by decide) (by decide) rfl ?_
  refine ex_aload_n (pc' := 47) dX12_post_46 rfl rfl ?_
  refine ex_getR (pc' := 50) (n := 39) (r := 200) dX12_post_47 fl_12_23 (by decide +kernel) (by decide) (by decide +kernel) rfl ?_
  refine ex_iload_n (pc' := 51) dX12_post_50 rfl rfl ?_
  refine ex_iconst (v := 0) (pc' := 52) dX12_post_51 (by decide) rfl ?_
  refine en_iast (pc' := 53) (n := 363) (jj := 258) (h2 := hh_772) dX12_post_52 (by decide +kernel) (by decide) rfl rfl ?_
  refine ex_iinc (pc' := 56) (v := 259) (ls' := [(2, .inl 259), (0, .inr (.inr (some 196))), (1, .inl 0)]) dX12_post_53 rfl (by decide) (by decide) rfl rfl ?_
  refine ex_goto (pc' := 39) dX12_post_56 (by decide) ?_
  refine ex_iload_n (pc' := 40) dX12_post_39 rfl rfl ?_
  refine ex_sipush (v := 363) (pc' := 43) dX12_post_40 (by decide) rfl ?_
  refine ex_icmp_f (pc' := 46) dX12_post_43 (by decide) (by decide) rfl ?_
  refine ex_aload_n (pc' := 47) dX12_post_46 rfl rfl ?_
  refine ex_getR (pc' := 50) (n := 39) (r := 200) dX12_post_47 fl_12_23 (by decide +kernel) (by decide) (by decide +kernel) rfl ?_
  refine ex_iload_n (pc' := 51) dX12_post_50 rfl rfl ?_
  refine ex_iconst (v := 0) (pc' := 52) dX12_post_51 (by decide) rfl ?_
  refine en_iast (pc' := 53) (n := 363) (jj := 259) (h2 := hh_773) dX12_post_52 (by decide +kernel) (by decide) rfl rfl ?_
  refine ex_iinc (pc' := 56) (v := 260) (ls' := [(2, .inl 260), (0, .inr (.inr (some 196))), (1, .inl 0)]) dX12_post_53 rfl (by decide) (by decide) rfl rfl ?_
  refine ex_goto (pc' := 39) dX12_post_56 (by decide) ?_
  refine ex_iload_n (pc' := 40) dX12_post_39 rfl rfl ?_
  refine ex_sipush (v := 363) (pc' := 43) dX12_post_40 (by decide) rfl ?_
  refine ex_icmp_f (pc' := 46) dX12_post_43 (by decide) (by decide) rfl ?_
  refine ex_aload_n (pc' := 47) dX12_post_46 rfl rfl ?_
  refine ex_getR (pc' := 50) (n := 39) (r := 200) dX12_post_47 fl_12_23 (by decide +kernel) (by decide) (by decide +kernel) rfl ?_
  refine ex_iload_n (pc' := 51) dX12_post_50 rfl rfl ?_
  refine ex_iconst (v := 0) (pc' := 52) dX12_post_51 (by decide) rfl ?_
  refine en_iast (pc' := 53) (n := 363) (jj := 260) (h2 := hh_774) dX12_post_52 (by decide +kernel) (by decide) rfl rfl ?_
  refine ex_iinc (pc' := 56) (v := 261) (ls' := [(2, .inl 261), (0, .inr (.inr (some 196))), (1, .inl 0)]) dX12_post_53 rfl (by decide) (by decide) rfl rfl ?_
  refine ex_goto (pc' := 39) dX12_post_56 (by decide) ?_
  refine ex_iload_n (pc' := 40) dX12_post_39 rfl rfl ?_
  refine ex_sipush (v := 363) (pc' := 43) dX12_post_40 (by decide) rfl ?_
  refine ex_icmp_f (pc' := 46) dX12_post_43 (by decide) (by decide) rfl ?_
  refine ex_aload_n (pc' := 47) dX12_post_46 rfl rfl ?_
  refine ex_getR (pc' := 50) (n := 39) (r := 200) dX12_post_47 fl_12_23 (by decide +kernel) (by decide) (by decide +kernel) rfl ?_
  refine ex_iload_n (pc' := 51) dX12_post_50 rfl rfl ?_
  refine ex_iconst (v := 0) (pc' := 52) dX12_post_51 (by decide) rfl ?_
  refine en_iast (pc' := 53) (n := 363) (jj := 261) (h2 := hh_775) dX12_post_52 (by decide +kernel) (by decide) rfl rfl ?_
  refine ex_iinc (pc' := 56) (v := 262) (ls' := [(2, .inl 262), (0, .inr (.inr (some 196))), (1, .inl 0)]) dX12_post_53 rfl (by decide) (by decide) rfl rfl ?_
  refine ex_goto (pc' := 39) dX12_post_56 (by decide) ?_
  refine ex_iload_n (pc' := 40) dX12_post_39 rfl rfl ?_
  refine ex_sipush (v := 363) (pc' := 43) dX12_post_40 (by decide) rfl ?_
  refine ex_icmp_f (pc' := 46) dX12_post_43 (by decide) (by decide) rfl ?_
  refine ex_aload_n (pc' := 47) dX12_post_46 rfl rfl ?_
  refine ex_getR (pc' := 50) (n := 39) (r := 200) dX12_post_47 fl_12_23 (by decide +kernel) (by decide) (by decide +kernel) rfl ?_
  refine ex_iload_n (pc' := 51) dX12_post_50 rfl rfl ?_
  refine ex_iconst (v := 0) (pc' := 52) dX12_post_51 (by decide) rfl ?_
  refine en_iast (pc' := 53) (n := 363) (jj := 262) (h2 := hh_776) dX12_post_52 (by decide +kernel) (by decide) rfl rfl ?_
  refine ex_iinc (pc' := 56) (v := 263) (ls' := [(2, .inl 263), (0, .inr (.inr (some 196))), (1, .inl 0)]) dX12_post_53 rfl (by decide) (by decide) rfl rfl ?_
  refine ex_goto (pc' := 39) dX12_post_56 (by decide) ?_
  refine ex_iload_n (pc' := 40) dX12_post_39 rfl rfl ?_
  refine ex_sipush (v := 363) (pc' := 43) dX12_post_40 (by decide) rfl ?_
  refine ex_icmp_f (pc' := 46) dX12_post_43 (by decide) (by decide) rfl ?_
  refine ex_aload_n (pc' := 47) dX12_post_46 rfl rfl ?_
  refine ex_getR (pc' := 50) (n := 39) (r := 200) dX12_post_47 fl_12_23 (by decide +kernel) (by decide) (by decide +kernel) rfl ?_
  refine ex_iload_n (pc' := 51) dX12_post_50 rfl rfl ?_
  refine ex_iconst (v := 0) (pc' := 52) dX12_post_51 (by decide) rfl ?_
  refine en_iast (pc' := 53) (n := 363) (jj := 263) (h2 := hh_777) dX12_post_52 (by decide +kernel) (by decide) rfl rfl ?_
  refine ex_iinc (pc' := 56) (v := 264) (ls' := [(2, .inl 264), (0, .inr (.inr (some 196))), (1, .inl 0)]) dX12_post_53 rfl (by decide) (by decide) rfl rfl ?_
  refine ex_goto (pc' := 39) dX12_post_56 (by decide) ?_
  refine ex_iload_n (pc' := 40) dX12_post_39 rfl rfl ?_
  refine ex_sipush (v := 363) (pc' := 43) dX12_post_40 (by decide) rfl ?_
  refine ex_icmp_f (pc' := 46) dX12_post_43 (by decide) (by decide) rfl ?_
  refine ex_aload_n (pc' := 47) dX12_post_46 rfl rfl ?_
  refine ex_getR (pc' := 50) (n := 39) (r := 200) dX12_post_47 fl_12_23 (by decide +kernel) (by decide) (by decide +kernel) rfl ?_
  refine ex_iload_n (pc' := 51) dX12_post_50 rfl rfl ?_
  refine ex_iconst (v := 0) (pc' := 52) dX12_post_51 (by decide) rfl ?_
  refine en_iast (pc' := 53) (n := 363) (jj := 264) (h2 := hh_778) dX12_post_52 (by decide +kernel) (by decide) rfl rfl ?_
  refine ex_iinc (pc' := 56) (v := 265) (ls' := [(2, .inl 265), (0, .inr (.inr (some 196))), (1, .inl 0)]) dX12_post_53 rfl (by decide) (by decide) rfl rfl ?_
  refine ex_goto (pc' := 39) dX12_post_56 (by decide) ?_
  refine ex_iload_n (pc' := 40) dX12_post_39 rfl rfl ?_
  refine ex_sipush (v := 363) (pc' := 43) dX12_post_40 (by decide) rfl ?_
  refine ex_icmp_f (pc' := 46) dX12_post_43 (by decide) (by decide) rfl ?_
  refine ex_aload_n (pc' := 47) dX12_post_46 rfl rfl ?_
  refine ex_getR (pc' := 50) (n := 39) (r := 200) dX12_post_47 fl_12_23 (by decide +kernel) (by decide) (by decide +kernel) rfl ?_
  refine ex_iload_n (pc' := 51) dX12_post_50 rfl rfl ?_
  refine ex_iconst (v := 0) (pc' := 52) dX12_post_51 (by decide) rfl ?_
  refine en_iast (pc' := 53) (n := 363) (jj := 265) (h2 := hh_779) dX12_post_52 (by decide +kernel) (by decide) rfl rfl ?_
  refine ex_iinc (pc' := 56) (v := 266) (ls' := [(2, .inl 266), (0, .inr (.inr (some 196))), (1, .inl 0)]) dX12_post_53 rfl (by decide) (by decide) rfl rfl ?_
  refine ex_goto (pc' := 39) dX12_post_56 (by decide) ?_
  refine ex_iload_n (pc' := 40) dX12_post_39 rfl rfl ?_
  refine ex_sipush (v := 363) (pc' := 43) dX12_post_40 (by decide) rfl ?_
  refine ex_icmp_f (pc' := 46) dX12_post_43 (by decide) (by decide) rfl ?_
  refine ex_aload_n (pc' := 47) dX12_post_46 rfl rfl ?_
  refine ex_getR (pc' := 50) (n := 39) (r := 200) dX12_post_47 fl_12_23 (by decide +kernel) (by decide) (by decide +kernel) rfl ?_
  refine ex_iload_n (pc' := 51) dX12_post_50 rfl rfl ?_
  refine ex_iconst (v := 0) (pc' := 52) dX12_post_51 (by decide) rfl ?_
  refine en_iast (pc' := 53) (n := 363) (jj := 266) (h2 := hh_780) dX12_post_52 (by decide +kernel) (by decide) rfl rfl ?_
  refine ex_iinc (pc' := 56) (v := 267) (ls' := [(2, .inl 267), (0, .inr (.inr (some 196))), (1, .inl 0)]) dX12_post_53 rfl (by decide) (by decide) rfl rfl ?_
  refine ex_goto (pc' := 39) dX12_post_56 (by decide) ?_
  refine ex_iload_n (pc' := 40) dX12_post_39 rfl rfl ?_
  refine ex_sipush (v := 363) (pc' := 43) dX12_post_40 (by decide) rfl ?_
  refine ex_icmp_f (pc' := 46) dX12_post_43 (by decide) (by decide) rfl ?_
  refine ex_aload_n (pc' := 47) dX12_post_46 rfl rfl ?_
  refine ex_getR (pc' := 50) (n := 39) (r := 200) dX12_post_47 fl_12_23 (by decide +kernel) (by decide) (by decide +kernel) rfl ?_
  refine ex_iload_n (pc' := 51) dX12_post_50 rfl rfl ?_
  refine ex_iconst (v := 0) (pc' := 52) dX12_post_51 (by decide) rfl ?_
  refine en_iast (pc' := 53) (n := 363) (jj := 267) (h2 := hh_781) dX12_post_52 (by decide +kernel) (by decide) rfl rfl ?_
  refine ex_iinc (pc' := 56) (v := 268) (ls' := [(2, .inl 268), (0, .inr (.inr (some 196))), (1, .inl 0)]) dX12_post_53 rfl (by decide) (by decide) rfl rfl ?_
  refine ex_goto (pc' := 39) dX12_post_56 (by decide) ?_
  refine ex_iload_n (pc' := 40) dX12_post_39 rfl rfl ?_
  refine ex_sipush (v := 363) (pc' := 43) dX12_post_40 (by decide) rfl ?_
  refine ex_icmp_f (pc' := 46) dX12_post_43 (by decide) (by decide) rfl ?_
  refine ex_aload_n (pc' := 47) dX12_post_46 rfl rfl ?_
  refine ex_getR (pc' := 50) (n := 39) (r := 200) dX12_post_47 fl_12_23 (by decide +kernel) (by decide) (by decide +kernel) rfl ?_
  refine ex_iload_n (pc' := 51) dX12_post_50 rfl rfl ?_
  refine ex_iconst (v := 0) (pc' := 52) dX12_post_51 (by decide) rfl ?_
  refine en_iast (pc' := 53) (n := 363) (jj := 268) (h2 := hh_782) dX12_post_52 (by decide +kernel) (by decide) rfl rfl ?_
  refine ex_iinc (pc' := 56) (v := 269) (ls' := [(2, .inl 269), (0, .inr (.inr (some 196))), (1, .inl 0)]) dX12_post_53 rfl (by decide) (by decide) rfl rfl ?_
  refine ex_goto (pc' := 39) dX12_post_56 (by decide) ?_
  refine ex_iload_n (pc' := 40) dX12_post_39 rfl rfl ?_
  refine ex_sipush (v := 363) (pc' := 43) dX12_post_40 (by decide) rfl ?_
  refine ex_icmp_f (pc' := 46) dX12_post_43 (by decide) (by decide) rfl ?_
  refine ex_aload_n (pc' := 47) dX12_post_46 rfl rfl ?_
  refine ex_getR (pc' := 50) (n := 39) (r := 200) dX12_post_47 fl_12_23 (by decide +kernel) (by decide) (by decide +kernel) rfl ?_
  refine ex_iload_n (pc' := 51) dX12_post_50 rfl rfl ?_
  refine ex_iconst (v := 0) (pc' := 52) dX12_post_51 (by decide) rfl ?_
  refine en_iast (pc' := 53) (n := 363) (jj := 269) (h2 := hh_783) dX12_post_52 (by decide +kernel) (by decide) rfl rfl ?_
  refine ex_iinc (pc' := 56) (v := 270) (ls' := [(2, .inl 270), (0, .inr (.inr (some 196))), (1, .inl 0)]) dX12_post_53 rfl (by decide) (by decide) rfl rfl ?_
  refine ex_goto (pc' := 39) dX12_post_56 (by decide) ?_
  refine ex_iload_n (pc' := 40) dX12_post_39 rfl rfl ?_
  refine ex_sipush (v := 363) (pc' := 43) dX12_post_40 (by decide) rfl ?_
  refine ex_icmp_f (pc' := 46) dX12_post_43 (by decide) (by decide) rfl ?_
  refine ex_aload_n (pc' := 47) dX12_post_46 rfl rfl ?_
  refine ex_getR (pc' := 50) (n := 39) (r := 200) dX12_post_47 fl_12_23 (by decide +kernel) (by decide) (by decide +kernel) rfl ?_
  refine ex_iload_n (pc' := 51) dX12_post_50 rfl rfl ?_
  refine ex_iconst (v := 0) (pc' := 52) dX12_post_51 (by decide) rfl ?_
  refine en_iast (pc' := 53) (n := 363) (jj := 270) (h2 := hh_784) dX12_post_52 (by decide +kernel) (by decide) rfl rfl ?_
  refine ex_iinc (pc' := 56) (v := 271) (ls' := [(2, .inl 271), (0, .inr (.inr (some 196))), (1, .inl 0)]) dX12_post_53 rfl (by decide) (by decide) rfl rfl ?_
  refine ex_goto (pc' := 39) dX12_post_56 (by decide) ?_
  refine ex_iload_n (pc' := 40) dX12_post_39 rfl rfl ?_
  refine ex_sipush (v := 363) (pc' := 43) dX12_post_40 (by decide) rfl ?_
  refine ex_icmp_f (pc' := 46) dX12_post_43 (by decide) (by decide) rfl ?_
  refine ex_aload_n (pc' := 47) dX12_post_46 rfl rfl ?_
  refine ex_getR (pc' := 50) (n := 39) (r := 200) dX12_post_47 fl_12_23 (by decide +kernel) (by decide) (by decide +kernel) rfl ?_
  refine ex_iload_n (pc' := 51) dX12_post_50 rfl rfl ?_
  refine ex_iconst (v := 0) (pc' := 52) dX12_post_51 (by decide) rfl ?_
  refine en_iast (pc' := 53) (n := 363) (jj := 271) (h2 := hh_785) dX12_post_52 (by decide +kernel) (by decide) rfl rfl ?_
  refine ex_iinc (pc' := 56) (v := 272) (ls' := [(2, .inl 272), (0, .inr (.inr (some 196))), (1, .inl 0)]) dX12_post_53 rfl (by decide) (by decide) rfl rfl ?_
  refine ex_goto (pc' := 39) dX12_post_56 (by decide) ?_
  refine ex_iload_n (pc' := 40) dX12_post_39 rfl rfl ?_
  refine ex_sipush (v := 363) (pc' := 43) dX12_post_40 (by decide) rfl ?_
  refine ex_icmp_f (pc' := 46) dX12_post_43 (by decide) (by decide) rfl ?_
  refine ex_aload_n (pc' := 47) dX12_post_46 rfl rfl ?_
  refine ex_getR (pc' := 50) (n := 39) (r := 200) dX12_post_47 fl_12_23 (by decide +kernel) (by decide) (by decide +kernel) rfl ?_
  refine ex_iload_n (pc' := 51) dX12_post_50 rfl rfl ?_
  refine ex_iconst (v := 0) (pc' := 52) dX12_post_51 (by decide) rfl ?_
  refine en_iast (pc' := 53) (n := 363) (jj := 272) (h2 := hh_786) dX12_post_52 (by decide +kernel) (by decide) rfl rfl ?_
  refine ex_iinc (pc' := 56) (v := 273) (ls' := [(2, .inl 273), (0, .inr (.inr (some 196))), (1, .inl 0)]) dX12_post_53 rfl (by decide) (by decide) rfl rfl ?_
  refine ex_goto (pc' := 39) dX12_post_56 (by decide) ?_
  refine ex_iload_n (pc' := 40) dX12_post_39 rfl rfl ?_
  refine ex_sipush (v := 363) (pc' := 43) dX12_post_40 (by decide) rfl ?_
  refine ex_icmp_f (pc' := 46) dX12_post_43 (by decide) (by decide) rfl ?_
  refine ex_aload_n (pc' := 47) dX12_post_46 rfl rfl ?_
  refine ex_getR (pc' := 50) (n := 39) (r := 200) dX12_post_47 fl_12_23 (by decide +kernel) (by decide) (by decide +kernel) rfl ?_
  refine ex_iload_n (pc' := 51) dX12_post_50 rfl rfl ?_
  refine ex_iconst (v := 0) (pc' := 52) dX12_post_51 (by decide) rfl ?_
  refine en_iast (pc' := 53) (n := 363) (jj := 273) (h2 := hh_787) dX12_post_52 (by decide +kernel) (by decide) rfl rfl ?_
  refine ex_iinc (pc' := 56) (v := 274) (ls' := [(2, .inl 274), (0, .inr (.inr (some 196))), (1, .inl 0)]) dX12_post_53 rfl (by decide) (by decide) rfl rfl ?_
  refine ex_goto (pc' := 39) dX12_post_56 (by decide) ?_
  refine ex_iload_n (pc' := 40) dX12_post_39 rfl rfl ?_
  refine ex_sipush (v := 363) (pc' := 43) dX12_post_40 (by decide) rfl ?_
  refine ex_icmp_f (pc' := 46) dX12_post_43 (by decide) (by decide) rfl ?_
  refine ex_aload_n (pc' := 47) dX12_post_46 rfl rfl ?_
  refine ex_getR (pc' := 50) (n := 39) (r := 200) dX12_post_47 fl_12_23 (by decide +kernel) (by decide) (by decide +kernel) rfl ?_
  refine ex_iload_n (pc' := 51) dX12_post_50 rfl rfl ?_
  refine ex_iconst (v := 0) (pc' := 52) dX12_post_51 (by decide) rfl ?_
  refine en_iast (pc' := 53) (n := 363) (jj := 274) (h2 := hh_788) dX12_post_52 (by decide +kernel) (by decide) rfl rfl ?_
  refine ex_iinc (pc' := 56) (v := 275) (ls' := [(2, .inl 275), (0, .inr (.inr (some 196))), (1, .inl 0)]) dX12_post_53 rfl (by decide) (by decide) rfl rfl ?_
  refine ex_goto (pc' := 39) dX12_post_56 (by decide) ?_
  refine ex_iload_n (pc' := 40) dX12_post_39 rfl rfl ?_
  refine ex_sipush (v := 363) (pc' := 43) dX12_post_40 (by decide) rfl ?_
  refine ex_icmp_f (pc' := 46) dX12_post_43 (by decide) (by decide) rfl ?_
  refine ex_aload_n (pc' := 47) dX12_post_46 rfl rfl ?_
  refine ex_getR (pc' := 50) (n := 39) (r := 200) dX12_post_47 fl_12_23 (by decide +kernel) (by decide) (by decide +kernel) rfl ?_
  refine ex_iload_n (pc' := 51) dX12_post_50 rfl rfl ?_
  refine ex_iconst (v := 0) (pc' := 52) dX12_post_51 (by decide) rfl ?_
  refine en_iast (pc' := 53) (n := 363) (jj := 275) (h2 := hh_789) dX12_post_52 (by decide +kernel) (by decide) rfl rfl ?_
  refine ex_iinc (pc' := 56) (v := 276) (ls' := [(2, .inl 276), (0, .inr (.inr (some 196))), (1, .inl 0)]) dX12_post_53 rfl (by decide) (by decide) rfl rfl ?_
  refine ex_goto (pc' := 39) dX12_post_56 (by decide) ?_
  refine ex_iload_n (pc' := 40) dX12_post_39 rfl rfl ?_
  refine ex_sipush (v := 363) (pc' := 43) dX12_post_40 (by decide) rfl ?_
  refine ex_icmp_f (pc' := 46) dX12_post_43 (by decide) (by decide) rfl ?_
  refine ex_aload_n (pc' := 47) dX12_post_46 rfl rfl ?_
  refine ex_getR (pc' := 50) (n := 39) (r := 200) dX12_post_47 fl_12_23 (by decide +kernel) (by decide) (by decide +kernel) rfl ?_
  refine ex_iload_n (pc' := 51) dX12_post_50 rfl rfl ?_
  refine ex_iconst (v := 0) (pc' := 52) dX12_post_51 (by decide) rfl ?_
  refine en_iast (pc' := 53) (n := 363) (jj := 276) (h2 := hh_790) dX12_post_52 (by decide +kernel) (by decide) rfl rfl ?_
  refine ex_iinc (pc' := 56) (v := 277) (ls' := [(2, .inl 277), (0, .inr (.inr (some 196))), (1, .inl 0)]) dX12_post_53 rfl (by decide) (by decide) rfl rfl ?_
  refine ex_goto (pc' := 39) dX12_post_56 (by decide) ?_
  refine ex_iload_n (pc' := 40) dX12_post_39 rfl rfl ?_
  refine ex_sipush (v := 363) (pc' := 43) dX12_post_40 (by decide) rfl ?_
  refine ex_icmp_f (pc' := 46) dX12_post_43 (by decide) (by decide) rfl ?_
  refine ex_aload_n (pc' := 47) dX12_post_46 rfl rfl ?_
  refine ex_getR (pc' := 50) (n := 39) (r := 200) dX12_post_47 fl_12_23 (by decide +kernel) (by decide) (by decide +kernel) rfl ?_
  refine ex_iload_n (pc' := 51) dX12_post_50 rfl rfl ?_
  refine ex_iconst (v := 0) (pc' := 52) dX12_post_51 (by decide) rfl ?_
  refine en_iast (pc' := 53) (n := 363) (jj := 277) (h2 := hh_791) dX12_post_52 (by decide +kernel) (by decide) rfl rfl ?_
  refine ex_iinc (pc' := 56) (v := 278) (ls' := [(2, .inl 278), (0, .inr (.inr (some 196))), (1, .inl 0)]) dX12_post_53 rfl (by decide) (by decide) rfl rfl ?_
  refine ex_goto (pc' := 39) dX12_post_56 (by decide) ?_
  refine ex_iload_n (pc' := 40) dX12_post_39 rfl rfl ?_
  refine ex_sipush (v := 363) (pc' := 43) dX12_post_40 (by decide) rfl ?_
  refine ex_icmp_f (pc' := 46) dX12_post_43 (by decide) (by decide) rfl ?_
  refine ex_aload_n (pc' := 47) dX12_post_46 rfl rfl ?_
  refine ex_getR (pc' := 50) (n := 39) (r := 200) dX12_post_47 fl_12_23 (by decide +kernel) (by decide) (by decide +kernel) rfl ?_
  refine ex_iload_n (pc' := 51) dX12_post_50 rfl rfl ?_
  refine ex_iconst (v := 0) (pc' := 52) dX12_post_51 (by decide) rfl ?_
  refine en_iast (pc' := 53) (n := 363) (jj := 278) (h2 := hh_792) dX12_post_52 (by decide +kernel) (by decide) rfl rfl ?_
  refine ex_iinc (pc' := 56) (v := 279) (ls' := [(2, .inl 279), (0, .inr (.inr (some 196))), (1, .inl 0)]) dX12_post_53 rfl (by decide) (by decide) rfl rfl ?_
  refine ex_goto (pc' := 39) dX12_post_56 (by decide) ?_
  refine ex_iload_n (pc' := 40) dX12_post_39 rfl rfl ?_
  refine ex_sipush (v := 363) (pc' := 43) dX12_post_40 (by decide) rfl ?_
  refine ex_icmp_f (pc' := 46) dX12_post_43 (by decide) (by decide) rfl ?_
  refine ex_aload_n (pc' := 47) dX12_post_46 rfl rfl ?_
  refine ex_getR (pc' := 50) (n := 39) (r := 200) dX12_post_47 fl_12_23 (by decide +kernel) (by decide) (by decide +kernel) rfl ?_
  refine ex_iload_n (pc' := 51) dX12_post_50 rfl rfl ?_
  refine ex_iconst (v := 0) (pc' := 52) dX12_post_51 (by decide) rfl ?_
  refine en_iast (pc' := 53) (n := 363) (jj := 279) (h2 := hh_793) dX12_post_52 (by decide +kernel) (by decide) rfl rfl ?_
  refine ex_iinc (pc' := 56) (v := 280) (ls' := [(2, .inl 280), (0, .inr (.inr (some 196))), (1, .inl 0)]) dX12_post_53 rfl (by decide) (by decide) rfl rfl ?_
  refine ex_goto (pc' := 39) dX12_post_56 (by decide) ?_
  refine ex_iload_n (pc' := 40) dX12_post_39 rfl rfl ?_
  refine ex_sipush (v := 363) (pc' := 43) dX12_post_40 (by decide) rfl ?_
  refine ex_icmp_f (pc' := 46) dX12_post_43 (by decide) (by decide) rfl ?_
  refine ex_aload_n (pc' := 47) dX12_post_46 rfl rfl ?_
  refine ex_getR (pc' := 50) (n := 39) (r := 200) dX12_post_47 fl_12_23 (by decide +kernel) (by decide) (by decide +kernel) rfl ?_
  refine ex_iload_n (pc' := 51) dX12_post_50 rfl rfl ?_
  refine ex_iconst (v := 0) (pc' := 52) dX12_post_51 (by decide) rfl ?_
  refine en_iast (pc' := 53) (n := 363) (jj := 280) (h2 := hh_794) dX12_post_52 (by decide +kernel) (by decide) rfl rfl ?_
  refine ex_iinc (pc' := 56) (v := 281) (ls' := [(2, .inl 281), (0, .inr (.inr (some 196))), (1, .inl 0)]) dX12_post_53 rfl (by decide) (by decide) rfl rfl ?_
  refine ex_goto (pc' := 39) dX12_post_56 (by decide) ?_
  refine ex_iload_n (pc' := 40) dX12_post_39 rfl rfl ?_
  refine ex_sipush (v := 363) (pc' := 43) dX12_post_40 (by decide) rfl ?_
  refine ex_icmp_f (pc' := 46) dX12_post_43 (by decide) (by decide) rfl ?_
  refine ex_aload_n (pc' := 47) dX12_post_46 rfl rfl ?_
  refine ex_getR (pc' := 50) (n := 39) (r := 200) dX12_post_47 fl_12_23 (by decide +kernel) (by decide) (by decide +kernel) rfl ?_
  refine ex_iload_n (pc' := 51) dX12_post_50 rfl rfl ?_
  refine ex_iconst (v := 0) (pc' := 52) dX12_post_51 (by decide) rfl ?_
  refine en_iast (pc' := 53) (n := 363) (jj := 281) (h2 := hh_795) dX12_post_52 (by decide +kernel) (by decide) rfl rfl ?_
  refine ex_iinc (pc' := 56) (v := 282) (ls' := [(2, .inl 282), (0, .inr (.inr (some 196))), (1, .inl 0)]) dX12_post_53 rfl (by decide) (by decide) rfl rfl ?_
  refine ex_goto (pc' := 39) dX12_post_56 (by decide) ?_
  refine ex_iload_n (pc' := 40) dX12_post_39 rfl rfl ?_
  refine ex_sipush (v := 363) (pc' := 43) dX12_post_40 (by decide) rfl ?_
  refine ex_icmp_f (pc' := 46) dX12_post_43 (by decide) (by decide) rfl ?_
  refine ex_aload_n (pc' := 47) dX12_post_46 rfl rfl ?_
  refine ex_getR (pc' := 50) (n := 39) (r := 200) dX12_post_47 fl_12_23 (by decide +kernel) (by decide) (by decide +kernel) rfl ?_
  refine ex_iload_n (pc' := 51) dX12_post_50 rfl rfl ?_
  refine ex_iconst (v := 0) (pc' := 52) dX12_post_51 (by decide) rfl ?_
  refine en_iast (pc' := 53) (n := 363) (jj := 282) (h2 := hh_796) dX12_post_52 (by decide +kernel) (by decide) rfl rfl ?_
  refine ex_iinc (pc' := 56) (v := 283) (ls' := [(2, .inl 283), (0, .inr (.inr (some 196))), (1, .inl 0)]) dX12_post_53 rfl (by decide) (by decide) rfl rfl ?_
  refine ex_goto (pc' := 39) dX12_post_56 (by decide) ?_
  refine ex_iload_n (pc' := 40) dX12_post_39 rfl rfl ?_
  refine ex_sipush (v := 363) (pc' := 43) dX12_post_40 (by decide) rfl ?_
  refine ex_icmp_f (pc' := 46) dX12_post_43 (by decide) (by decide) rfl ?_
  refine ex_aload_n (pc' := 47) dX12_post_46 rfl rfl ?_
  refine ex_getR (pc' := 50) (n := 39) (r := 200) dX12_post_47 fl_12_23 (by decide +kernel) (by decide) (by decide +kernel) rfl ?_
  refine ex_iload_n (pc' := 51) dX12_post_50 rfl rfl ?_
  refine ex_iconst (v := 0) (pc' := 52) dX12_post_51 (by decide) rfl ?_
  refine en_iast (pc' := 53) (n := 363) (jj := 283) (h2 := hh_797) dX12_post_52 (by decide +kernel) (by decide) rfl rfl ?_
  refine ex_iinc (pc' := 56) (v := 284) (ls' := [(2, .inl 284), (0, .inr (.inr (some 196))), (1, .inl 0)]) dX12_post_53 rfl (by decide) (by decide) rfl rfl ?_
  refine ex_goto (pc' := 39) dX12_post_56 (by decide) ?_
  refine ex_iload_n (pc' := 40) dX12_post_39 rfl rfl ?_
  refine ex_sipush (v := 363) (pc' := 43) dX12_post_40 (by decide) rfl ?_
  refine ex_icmp_f (pc' := 46) dX12_post_43 (by decide) (by decide) rfl ?_
  refine ex_aload_n (pc' := 47) dX12_post_46 rfl rfl ?_
  refine ex_getR (pc' := 50) (n := 39) (r := 200) dX12_post_47 fl_12_23 (by decide +kernel) (by decide) (by decide +kernel) rfl ?_
  refine ex_iload_n (pc' := 51) dX12_post_50 rfl rfl ?_
  refine ex_iconst (v := 0) (pc' := 52) dX12_post_51 (by decide) rfl ?_
  refine en_iast (pc' := 53) (n := 363) (jj := 284) (h2 := hh_798) dX12_post_52 (by decide +kernel) (by decide) rfl rfl ?_
  refine ex_iinc (pc' := 56) (v := 285) (ls' := [(2, .inl 285), (0, .inr (.inr (some 196))), (1, .inl 0)]) dX12_post_53 rfl (by decide) (by decide) rfl rfl ?_
  refine ex_goto (pc' := 39) dX12_post_56 (by decide) ?_
  refine ex_iload_n (pc' := 40) dX12_post_39 rfl rfl ?_
  refine ex_sipush (v := 363) (pc' := 43) dX12_post_40 (by decide) rfl ?_
  refine ex_icmp_f (pc' := 46) dX12_post_43 (by decide) (by decide) rfl ?_
  refine ex_aload_n (pc' := 47) dX12_post_46 rfl rfl ?_
  refine ex_getR (pc' := 50) (n := 39) (r := 200) dX12_post_47 fl_12_23 (by decide +kernel) (by decide) (by decide +kernel) rfl ?_
  refine ex_iload_n (pc' := 51) dX12_post_50 rfl rfl ?_
  refine ex_iconst (v := 0) (pc' := 52) dX12_post_51 (by decide) rfl ?_
  refine en_iast (pc' := 53) (n := 363) (jj := 285) (h2 := hh_799) dX12_post_52 (by decide +kernel) (by decide) rfl rfl ?_
  refine ex_iinc (pc' := 56) (v := 286) (ls' := [(2, .inl 286), (0, .inr (.inr (some 196))), (1, .inl 0)]) dX12_post_53 rfl (by decide) (by decide) rfl rfl ?_
  refine ex_goto (pc' := 39) dX12_post_56 (by decide) ?_
  refine ex_iload_n (pc' := 40) dX12_post_39 rfl rfl ?_
  refine ex_sipush (v := 363) (pc' := 43) dX12_post_40 (by decide) rfl ?_
  refine ex_icmp_f (pc' := 46) dX12_post_43 (by decide) (by decide) rfl ?_
  refine ex_aload_n (pc' := 47) dX12_post_46 rfl rfl ?_
  refine ex_getR (pc' := 50) (n := 39) (r := 200) dX12_post_47 fl_12_23 (by decide +kernel) (by decide) (by decide +kernel) rfl ?_
  refine ex_iload_n (pc' := 51) dX12_post_50 rfl rfl ?_
  refine ex_iconst (v := 0) (pc' := 52) dX12_post_51 (by decide) rfl ?_
  refine en_iast (pc' := 53) (n := 363) (jj := 286) (h2 := hh_800) dX12_post_52 (by decide +kernel) (by decide) rfl rfl ?_
  refine ex_iinc (pc' := 56) (v := 287) (ls' := [(2, .inl 287), (0, .inr (.inr (some 196))), (1, .inl 0)]) dX12_post_53 rfl (by decide) (by decide) rfl rfl ?_
  refine ex_goto (pc' := 39) dX12_post_56 (by decide) ?_
  refine ex_iload_n (pc' := 40) dX12_post_39 rfl rfl ?_
  refine ex_sipush (v := 363) (pc' := 43) dX12_post_40 (by decide) rfl ?_
  refine ex_icmp_f (pc' := 46) dX12_post_43 (by decide) (by decide) rfl ?_
  refine ex_aload_n (pc' := 47) dX12_post_46 rfl rfl ?_
  refine ex_getR (pc' := 50) (n := 39) (r := 200) dX12_post_47 fl_12_23 (by decide +kernel) (by decide) (by decide +kernel) rfl ?_
  refine ex_iload_n (pc' := 51) dX12_post_50 rfl rfl ?_
  refine ex_iconst (v := 0) (pc' := 52) dX12_post_51 (by decide) rfl ?_
  refine en_iast (pc' := 53) (n := 363) (jj := 287) (h2 := hh_801) dX12_post_52 (by decide +kernel) (by decide) rfl rfl ?_
  refine ex_iinc (pc' := 56) (v := 288) (ls' := [(2, .inl 288), (0, .inr (.inr (some 196))), (1, .inl 0)]) dX12_post_53 rfl (by decide) (by decide) rfl rfl ?_
  refine ex_goto (pc' := 39) dX12_post_56 (by decide) ?_
  refine ex_iload_n (pc' := 40) dX12_post_39 rfl rfl ?_
  refine ex_sipush (v := 363) (pc' := 43) dX12_post_40 (by decide) rfl ?_
  refine ex_icmp_f (pc' := 46) dX12_post_43 (by decide) (by decide) rfl ?_
  refine ex_aload_n (pc' := 47) dX12_post_46 rfl rfl ?_
  refine ex_getR (pc' := 50) (n := 39) (r := 200) dX12_post_47 fl_12_23 (by decide +kernel) (by decide) (by decide +kernel) rfl ?_
  refine ex_iload_n (pc' := 51) dX12_post_50 rfl rfl ?_
  refine ex_iconst (v := 0) (pc' := 52) dX12_post_51 (by decide) rfl ?_
  refine en_iast (pc' := 53) (n := 363) (jj := 288) (h2 := hh_802) dX12_post_52 (by decide +kernel) (by decide) rfl rfl ?_
  refine ex_iinc (pc' := 56) (v := 289) (ls' := [(2, .inl 289), (0, .inr (.inr (some 196))), (1, .inl 0)]) dX12_post_53 rfl (by decide) (by decide) rfl rfl ?_
  refine ex_goto (pc' := 39) dX12_post_56 (by decide) ?_
  refine ex_iload_n (pc' := 40) dX12_post_39 rfl rfl ?_
  refine ex_sipush (v := 363) (pc' := 43) dX12_post_40 (by decide) rfl ?_
  refine ex_icmp_f (pc' := 46) dX12_post_43 (by decide) (by decide) rfl ?_
  refine ex_aload_n (pc' := 47) dX12_post_46 rfl rfl ?_
  refine ex_getR (pc' := 50) (n := 39) (r := 200) dX12_post_47 fl_12_23 (by decide +kernel) (by decide) (by decide +kernel) rfl ?_
  refine ex_iload_n (pc' := 51) dX12_post_50 rfl rfl ?_
  refine ex_iconst (v := 0) (pc' := 52) dX12_post_51 (by decide) rfl ?_
  refine en_iast (pc' := 53) (n := 363) (jj := 289) (h2 := hh_803) dX12_post_52 (by decide +kernel) (by decide) rfl rfl ?_
  refine ex_iinc (pc' := 56) (v := 290) (ls' := [(2, .inl 290), (0, .inr (.inr (some 196))), (1, .inl 0)]) dX12_post_53 rfl (by decide) (by decide) rfl rfl ?_
  refine ex_goto (pc' := 39) dX12_post_56 (by decide) ?_
  refine ex_iload_n (pc' := 40) dX12_post_39 rfl rfl ?_
  refine ex_sipush (v := 363) (pc' := 43) dX12_post_40 (by decide) rfl ?_
  refine ex_icmp_f (pc' := 46) dX12_post_43 (by decide) (by decide) rfl ?_
  refine ex_aload_n (pc' := 47) dX12_post_46 rfl rfl ?_
  refine ex_getR (pc' := 50) (n := 39) (r := 200) dX12_post_47 fl_12_23 (by decide +kernel) (by decide) (by decide +kernel) rfl ?_
  refine ex_iload_n (pc' := 51) dX12_post_50 rfl rfl ?_
  refine ex_iconst (v := 0) (pc' := 52) dX12_post_51 (by decide) rfl ?_
  refine en_iast (pc' := 53) (n := 363) (jj := 290) (h2 := hh_804) dX12_post_52 (by decide +kernel) (by decide) rfl rfl ?_
  refine ex_iinc (pc' := 56) (v := 291) (ls' := [(2, .inl 291), (0, .inr (.inr (some 196))), (1, .inl 0)]) dX12_post_53 rfl (by decide) (by decide) rfl rfl ?_
  refine ex_goto (pc' := 39) dX12_post_56 (by decide) ?_
  refine ex_iload_n (pc' := 40) dX12_post_39 rfl rfl ?_
  refine ex_sipush (v := 363) (pc' := 43) dX12_post_40 (by decide) rfl ?_
  refine ex_icmp_f (pc' := 46) dX12_post_43 (by decide) (by decide) rfl ?_
  refine ex_aload_n (pc' := 47) dX12_post_46 rfl rfl ?_
  refine ex_getR (pc' := 50) (n := 39) (r := 200) dX12_post_47 fl_12_23 (by decide +kernel) (by decide) (by decide +kernel) rfl ?_
  refine ex_iload_n (pc' := 51) dX12_post_50 rfl rfl ?_
  refine ex_iconst (v := 0) (pc' := 52) dX12_post_51 (by decide) rfl ?_
  refine en_iast (pc' := 53) (n := 363) (jj := 291) (h2 := hh_805) dX12_post_52 (by decide +kernel) (by decide) rfl rfl ?_
  refine ex_iinc (pc' := 56) (v := 292) (ls' := [(2, .inl 292), (0, .inr (.inr (some 196))), (1, .inl 0)]) dX12_post_53 rfl (by decide) (by decide) rfl rfl ?_
  refine ex_goto (pc' := 39) dX12_post_56 (by decide) ?_
  refine ex_iload_n (pc' := 40) dX12_post_39 rfl rfl ?_
  refine ex_sipush (v := 363) (pc' := 43) dX12_post_40 (by decide) rfl ?_
  refine ex_icmp_f (pc' := 46) dX12_post_43 (by decide) (by decide) rfl ?_
  refine ex_aload_n (pc' := 47) dX12_post_46 rfl rfl ?_
  refine ex_getR (pc' := 50) (n := 39) (r := 200) dX12_post_47 fl_12_23 (by decide +kernel) (by decide) (by decide +kernel) rfl ?_
  refine ex_iload_n (pc' := 51) dX12_post_50 rfl rfl ?_
  refine ex_iconst (v := 0) (pc' := 52) dX12_post_51 (by decide) rfl ?_
  refine en_iast (pc' := 53) (n := 363) (jj := 292) (h2 := hh_806) dX12_post_52 (by decide +kernel) (by decide) rfl rfl ?_
  refine ex_iinc (pc' := 56) (v := 293) (ls' := [(2, .inl 293), (0, .inr (.inr (some 196))), (1, .inl 0)]) dX12_post_53 rfl (by decide) (by decide) rfl rfl ?_
  refine ex_goto (pc' := 39) dX12_post_56 (by decide) ?_
  refine ex_iload_n (pc' := 40) dX12_post_39 rfl rfl ?_
  refine ex_sipush (v := 363) (pc' := 43) dX12_post_40 (by decide) rfl ?_
  refine ex_icmp_f (pc' := 46) dX12_post_43 (by decide) (by decide) rfl ?_
  refine ex_aload_n (pc' := 47) dX12_post_46 rfl rfl ?_
  refine ex_getR (pc' := 50) (n := 39) (r := 200) dX12_post_47 fl_12_23 (by decide +kernel) (by decide) (by decide +kernel) rfl ?_
  refine ex_iload_n (pc' := 51) dX12_post_50 rfl rfl ?_
  refine ex_iconst (v := 0) (pc' := 52) dX12_post_51 (by decide) rfl ?_
  refine en_iast (pc' := 53) (n := 363) (jj := 293) (h2 := hh_807) dX12_post_52 (by decide +kernel) (by decide) rfl rfl ?_
  refine ex_iinc (pc' := 56) (v := 294) (ls' := [(2, .inl 294), (0, .inr (.inr (some 196))), (1, .inl 0)]) dX12_post_53 rfl (by decide) (by decide) rfl rfl ?_
  refine ex_goto (pc' := 39) dX12_post_56 (by decide) ?_
  refine ex_iload_n (pc' := 40) dX12_post_39 rfl rfl ?_
  refine ex_sipush (v := 363) (pc' := 43) dX12_post_40 (by decide) rfl ?_
  refine ex_icmp_f (pc' := 46) dX12_post_43 (by decide) (by decide) rfl ?_
  refine ex_aload_n (pc' := 47) dX12_post_46 rfl rfl ?_
  refine ex_getR (pc' := 50) (n := 39) (r := 200) dX12_post_47 fl_12_23 (by decide +kernel) (by decide) (by decide +kernel) rfl ?_
  refine ex_iload_n (pc' := 51) dX12_post_50 rfl rfl ?_
  refine ex_iconst (v := 0) (pc' := 52) dX12_post_51 (by decide) rfl ?_
  refine en_iast (pc' := 53) (n := 363) (jj := 294) (h2 := hh_808) dX12_post_52 (by decide +kernel) (by decide) rfl rfl ?_
  refine ex_iinc (pc' := 56) (v := 295) (ls' := [(2, .inl 295), (0, .inr (.inr (some 196))), (1, .inl 0)]) dX12_post_53 rfl (by decide) (by decide) rfl rfl ?_
  refine ex_goto (pc' := 39) dX12_post_56 (by decide) ?_
  refine ex_iload_n (pc' := 40) dX12_post_39 rfl rfl ?_
  refine ex_sipush (v := 363) (pc' := 43) dX12_post_40 (by decide) rfl ?_
  refine ex_icmp_f (pc' := 46) dX12_post_43 (by decide) (by decide) rfl ?_
  refine ex_aload_n (pc' := 47) dX12_post_46 rfl rfl ?_
  refine ex_getR (pc' := 50) (n := 39) (r := 200) dX12_post_47 fl_12_23 (by decide +kernel) (by decide) (by decide +kernel) rfl ?_
  refine ex_iload_n (pc' := 51) dX12_post_50 rfl rfl ?_
  refine ex_iconst (v := 0) (pc' := 52) dX12_post_51 (by decide) rfl ?_
  refine en_iast (pc' := 53) (n := 363) (jj := 295) (h2 := hh_809) dX12_post_52 (by decide +kernel) (by decide) rfl rfl ?_
  refine ex_iinc (pc' := 56) (v := 296) (ls' := [(2, .inl 296), (0, .inr (.inr (some 196))), (1, .inl 0)]) dX12_post_53 rfl (by decide) (by decide) rfl rfl ?_
  refine ex_goto (pc' := 39) dX12_post_56 (by decide) ?_
  refine ex_iload_n (pc' := 40) dX12_post_39 rfl rfl ?_
  refine ex_sipush (v := 363) (pc' := 43) dX12_post_40 (by decide) rfl ?_
  refine ex_icmp_f (pc' := 46) dX12_post_43 (by decide) (by decide) rfl ?_
  refine ex_aload_n (pc' := 47) dX12_post_46 rfl rfl ?_
  refine ex_getR (pc' := 50) (n := 39) (r := 200) dX12_post_47 fl_12_23 (by decide +kernel) (by decide) (by decide +kernel) rfl ?_
  refine ex_iload_n (pc' := 51) dX12_post_50 rfl rfl ?_
  refine ex_iconst (v := 0) (pc' := 52) dX12_post_51 (by decide) rfl ?_
  refine en_iast (pc' := 53) (n := 363) (jj := 296) (h2 := hh_810) dX12_post_52 (by decide +kernel) (by decide) rfl rfl ?_
  refine ex_iinc (pc' := 56) (v := 297) (ls' := [(2, .inl 297), (0, .inr (.inr (some 196))), (1, .inl 0)]) dX12_post_53 rfl (by decide) (by decide) rfl rfl ?_
  refine ex_goto (pc' := 39) dX12_post_56 (by decide) ?_
  refine ex_iload_n (pc' := 40) dX12_post_39 rfl rfl ?_
  refine ex_sipush (v := 363) (pc' := 43) dX12_post_40 (by decide) rfl ?_
  refine ex_icmp_f (pc' := 46) dX12_post_43 (by decide) (by decide) rfl ?_
  refine ex_aload_n (pc' := 47) dX12_post_46 rfl rfl ?_
  refine ex_getR (pc' := 50) (n := 39) (r := 200) dX12_post_47 fl_12_23 (by decide +kernel) (by decide) (by decide +kernel) rfl ?_
  refine ex_iload_n (pc' := 51) dX12_post_50 rfl rfl ?_
  refine ex_iconst (v := 0) (pc' := 52) dX12_post_51 (by decide) rfl ?_
  refine en_iast (pc' := 53) (n := 363) (jj := 297) (h2 := hh_811) dX12_post_52 (by decide +kernel) (by decide) rfl rfl ?_
  refine ex_iinc (pc' := 56) (v := 298) (ls' := [(2, .inl 298), (0, .inr (.inr (some 196))), (1, .inl 0)]) dX12_post_53 rfl (by decide) (by decide) rfl rfl ?_
  refine ex_goto (pc' := 39) dX12_post_56 (by decide) ?_
  refine ex_iload_n (pc' := 40) dX12_post_39 rfl rfl ?_
  refine ex_sipush (v := 363) (pc' := 43) dX12_post_40 (by decide) rfl ?_
  refine ex_icmp_f (pc' := 46) dX12_post_43 (by decide) (by decide) rfl ?_
  refine ex_aload_n (pc' := 47) dX12_post_46 rfl rfl ?_
  refine ex_getR (pc' := 50) (n := 39) (r := 200) dX12_post_47 fl_12_23 (by decide +kernel) (by decide) (by decide +kernel) rfl ?_
  refine ex_iload_n (pc' := 51) dX12_post_50 rfl rfl ?_
  refine ex_iconst (v := 0) (pc' := 52) dX12_post_51 (by decide) rfl ?_
  refine en_iast (pc' := 53) (n := 363) (jj := 298) (h2 := hh_812) dX12_post_52 (by decide +kernel) (by decide) rfl rfl ?_
  refine ex_iinc (pc' := 56) (v := 299) (ls' := [(2, .inl 299), (0, .inr (.inr (some 196))), (1, .inl 0)]) dX12_post_53 rfl (by decide) (by decide) rfl rfl ?_
  refine ex_goto (pc' := 39) dX12_post_56 (by decide) ?_
  refine ex_iload_n (pc' := 40) dX12_post_39 rfl rfl ?_
  refine ex_sipush (v := 363) (pc' := 43) dX12_post_40 (by decide) rfl ?_
  refine ex_icmp_f (pc' := 46) dX12_post_43 (by decide) (by decide) rfl ?_
  refine ex_aload_n (pc' := 47) dX12_post_46 rfl rfl ?_
  refine ex_getR (pc' := 50) (n := 39) (r := 200) dX12_post_47 fl_12_23 (by decide +kernel) (by decide) (by decide +kernel) rfl ?_
  refine ex_iload_n (pc' := 51) dX12_post_50 rfl rfl ?_
  refine ex_iconst (v := 0) (pc' := 52) dX12_post_51 (by decide) rfl ?_
  refine en_iast (pc' := 53) (n := 363) (jj := 299) (h2 := hh_813) dX12_post_52 (by decide +kernel) (by decide) rfl rfl ?_
  refine ex_iinc (pc' := 56) (v := 300) (ls' := [(2, .inl 300), (0, .inr (.inr (some 196))), (1, .inl 0)]) dX12_post_53 rfl (by decide) (by decide) rfl rfl ?_
  refine ex_goto (pc' := 39) dX12_post_56 (by decide) ?_
  refine ex_iload_n (pc' := 40) dX12_post_39 rfl rfl ?_
  refine ex_sipush (v := 363) (pc' := 43) dX12_post_40 (by decide) rfl ?_
  refine ex_icmp_f (pc' := 46) dX12_post_43 (by decide) (by decide) rfl ?_
  refine ex_aload_n (pc' := 47) dX12_post_46 rfl rfl ?_
  refine ex_getR (pc' := 50) (n := 39) (r := 200) dX12_post_47 fl_12_23 (by decide +kernel) (by decide) (by decide +kernel) rfl ?_
  refine ex_iload_n (pc' := 51) dX12_post_50 rfl rfl ?_
  refine ex_iconst (v := 0) (pc' := 52) dX12_post_51 (by decide) rfl ?_
  refine en_iast (pc' := 53) (n := 363) (jj := 300) (h2 := hh_814) dX12_post_52 (by decide +kernel) (by decide) rfl rfl ?_
  refine ex_iinc (pc' := 56) (v := 301) (ls' := [(2, .inl 301), (0, .inr (.inr (some 196))), (1, .inl 0)]) dX12_post_53 rfl (by decide) (by decide) rfl rfl ?_
  refine ex_goto (pc' := 39) dX12_post_56 (by decide) ?_
  refine ex_iload_n (pc' := 40) dX12_post_39 rfl rfl ?_
  refine ex_sipush (v := 363) (pc' := 43) dX12_post_40 (by decide) rfl ?_
  refine ex_icmp_f (pc' := 46) dX12_post_43 (by decide) (by decide) rfl ?_
  refine ex_aload_n (pc' := 47) dX12_post_46 rfl rfl ?_
  refine ex_getR (pc' := 50) (n := 39) (r := 200) dX12_post_47 fl_12_23 (by decide +kernel) (by decide) (by decide +kernel) rfl ?_
  refine ex_iload_n (pc' := 51) dX12_post_50 rfl rfl ?_
  refine ex_iconst (v := 0) (pc' := 52) dX12_post_51 (by decide) rfl ?_
  refine en_iast (pc' := 53) (n := 363) (jj := 301) (h2 := hh_815) dX12_post_52 (by decide +kernel) (by decide) rfl rfl ?_
  refine ex_iinc (pc' := 56) (v := 302) (ls' := [(2, .inl 302), (0, .inr (.inr (some 196))), (1, .inl 0)]) dX12_post_53 rfl (by decide) (by decide) rfl rfl ?_
  refine ex_goto (pc' := 39) dX12_post_56 (by decide) ?_
  refine ex_iload_n (pc' := 40) dX12_post_39 rfl rfl ?_
  refine ex_sipush (v := 363) (pc' := 43) dX12_post_40 (by decide) rfl ?_
  refine ex_icmp_f (pc' := 46) dX12_post_43 (by decide) (by decide) rfl ?_
  refine ex_aload_n (pc' := 47) dX12_post_46 rfl rfl ?_
  refine ex_getR (pc' := 50) (n := 39) (r := 200) dX12_post_47 fl_12_23 (by decide +kernel) (by decide) (by decide +kernel) rfl ?_
  refine ex_iload_n (pc' := 51) dX12_post_50 rfl rfl ?_
  refine ex_iconst (v := 0) (pc' := 52) dX12_post_51 (by decide) rfl ?_
  refine en_iast (pc' := 53) (n := 363) (jj := 302) (h2 := hh_816) dX12_post_52 (by decide +kernel) (by decide) rfl rfl ?_
  refine ex_iinc (pc' := 56) (v := 303) (ls' := [(2, .inl 303), (0, .inr (.inr (some 196))), (1, .inl 0)]) dX12_post_53 rfl (by decide) (by decide) rfl rfl ?_
  refine ex_goto (pc' := 39) dX12_post_56 (by decide) ?_
  refine ex_iload_n (pc' := 40) dX12_post_39 rfl rfl ?_
  refine ex_sipush (v := 363) (pc' := 43) dX12_post_40 (by decide) rfl ?_
  refine ex_icmp_f (pc' := 46) dX12_post_43 (by decide) (by decide) rfl ?_
  refine ex_aload_n (pc' := 47) dX12_post_46 rfl rfl ?_
  refine ex_getR (pc' := 50) (n := 39) (r := 200) dX12_post_47 fl_12_23 (by decide +kernel) (by decide) (by decide +kernel) rfl ?_
  refine ex_iload_n (pc' := 51) dX12_post_50 rfl rfl ?_
  refine ex_iconst (v := 0) (pc' := 52) dX12_post_51 (by decide) rfl ?_
  refine en_iast (pc' := 53) (n := 363) (jj := 303) (h2 := hh_817) dX12_post_52 (by decide +kernel) (by decide) rfl rfl ?_
  refine ex_iinc (pc' := 56) (v := 304) (ls' := [(2, .inl 304), (0, .inr (.inr (some 196))), (1, .inl 0)]) dX12_post_53 rfl (by decide) (by decide) rfl rfl ?_
  refine ex_goto (pc' := 39) dX12_post_56 (by decide) ?_
  refine ex_iload_n (pc' := 40) dX12_post_39 rfl rfl ?_
  refine ex_sipush (v := 363) (pc' := 43) dX12_post_40 (by decide) rfl ?_
  refine ex_icmp_f (pc' := 46) dX12_post_43 (by decide) (by decide) rfl ?_
  refine ex_aload_n (pc' := 47) dX12_post_46 rfl rfl ?_
  refine ex_getR (pc' := 50) (n := 39) (r := 200) dX12_post_47 fl_12_23 (by decide +kernel) (by decide) (by decide +kernel) rfl ?_
  refine ex_iload_n (pc' := 51) dX12_post_50 rfl rfl ?_
  refine ex_iconst (v := 0) (pc' := 52) dX12_post_51 (by decide) rfl ?_
  refine en_iast (pc' := 53) (n := 363) (jj := 304) (h2 := hh_818) dX12_post_52 (by decide +kernel) (by decide) rfl rfl ?_
  refine ex_iinc (pc' := 56) (v := 305) (ls' := [(2, .inl 305), (0, .inr (.inr (some 196))), (1, .inl 0)]) dX12_post_53 rfl (by decide) (by decide) rfl rfl ?_
  refine ex_goto (pc' := 39) dX12_post_56 (by decide) ?_
  refine ex_iload_n (pc' := 40) dX12_post_39 rfl rfl ?_
  refine ex_sipush (v := 363) (pc' := 43) dX12_post_40 (by decide) rfl ?_
  refine ex_icmp_f (pc' := 46) dX12_post_43 (by decide) (by decide) rfl ?_
  refine ex_aload_n (pc' := 47) dX12_post_46 rfl rfl ?_
  refine ex_getR (pc' := 50) (n := 39) (r := 200) dX12_post_47 fl_12_23 (by decide +kernel) (by decide) (by decide +kernel) rfl ?_
  refine ex_iload_n (pc' := 51) dX12_post_50 rfl rfl ?_
  refine ex_iconst (v := 0) (pc' := 52) dX12_post_51 (by decide) rfl ?_
  refine en_iast (pc' := 53) (n := 363) (jj := 305) (h2 := hh_819) dX12_post_52 (by decide +kernel) (by decide) rfl rfl ?_
  refine ex_iinc (pc' := 56) (v := 306) (ls' := [(2, .inl 306), (0, .inr (.inr (some 196))), (1, .inl 0)]) dX12_post_53 rfl (by decide) (by decide) rfl rfl ?_
  refine ex_goto (pc' := 39) dX12_post_56 (by decide) ?_
  refine ex_iload_n (pc' := 40) dX12_post_39 rfl rfl ?_
  refine ex_sipush (v := 363) (pc' := 43) dX12_post_40 (by decide) rfl ?_
  refine ex_icmp_f (pc' := 46) dX12_post_43 (by decide) (by decide) rfl ?_
  refine ex_aload_n (pc' := 47) dX12_post_46 rfl rfl ?_
  refine ex_getR (pc' := 50) (n := 39) (r := 200) dX12_post_47 fl_12_23 (by decide +kernel) (by decide) (by decide +kernel) rfl ?_
  refine ex_iload_n (pc' := 51) dX12_post_50 rfl rfl ?_
  refine ex_iconst (v := 0) (pc' := 52) dX12_post_51 (by decide) rfl ?_
  refine en_iast (pc' := 53) (n := 363) (jj := 306) (h2 := hh_820) dX12_post_52 (by decide +kernel) (by decide) rfl rfl ?_
  refine ex_iinc (pc' := 56) (v := 307) (ls' := [(2, .inl 307), (0, .inr (.inr (some 196))), (1, .inl 0)]) dX12_post_53 rfl (by decide) (by decide) rfl rfl ?_
  refine ex_goto (pc' := 39) dX12_post_56 (by decide) ?_
  refine ex_iload_n (pc' := 40) dX12_post_39 rfl rfl ?_
  refine ex_sipush (v := 363) (pc' := 43) dX12_post_40 (by decide) rfl ?_
  refine ex_icmp_f (pc' := 46) dX12_post_43 (by decide) (by decide) rfl ?_
  refine ex_aload_n (pc' := 47) dX12_post_46 rfl rfl ?_
  refine ex_getR (pc' := 50) (n := 39) (r := 200) dX12_post_47 fl_12_23 (by decide +kernel) (by decide) (by decide +kernel) rfl ?_
  refine ex_iload_n (pc' := 51) dX12_post_50 rfl rfl ?_
  refine ex_iconst (v := 0) (pc' := 52) dX12_post_51 (by decide) rfl ?_
  refine en_iast (pc' := 53) (n := 363) (jj := 307) (h2 := hh_821) dX12_post_52 (by decide +kernel) (by decide) rfl rfl ?_
  refine ex_iinc (pc' := 56) (v := 308) (ls' := [(2, .inl 308), (0, .inr (.inr (some 196))), (1, .inl 0)]) dX12_post_53 rfl (by decide) (by decide) rfl rfl ?_
  refine ex_goto (pc' := 39) dX12_post_56 (by decide) ?_
  refine ex_iload_n (pc' := 40) dX12_post_39 rfl rfl ?_
  refine ex_sipush (v := 363) (pc' := 43) dX12_post_40 (by decide) rfl ?_
  refine ex_icmp_f (pc' := 46) dX12_post_43 (by decide) (by decide) rfl ?_
  refine ex_aload_n (pc' := 47) dX12_post_46 rfl rfl ?_
  refine ex_getR (pc' := 50) (n := 39) (r := 200) dX12_post_47 fl_12_23 (by decide +kernel) (by decide) (by decide +kernel) rfl ?_
  refine ex_iload_n (pc' := 51) dX12_post_50 rfl rfl ?_
  refine ex_iconst (v := 0) (pc' := 52) dX12_post_51 (by decide) rfl ?_
  refine en_iast (pc' := 53) (n := 363) (jj := 308) (h2 := hh_822) dX12_post_52 (by decide +kernel) (by decide) rfl rfl ?_
  refine ex_iinc (pc' := 56) (v := 309) (ls' := [(2, .inl 309), (0, .inr (.inr (some 196))), (1, .inl 0)]) dX12_post_53 rfl (by decide) (by decide) rfl rfl ?_
  refine ex_goto (pc' := 39) dX12_post_56 (by decide) ?_
  refine ex_iload_n (pc' := 40) dX12_post_39 rfl rfl ?_
  refine ex_sipush (v := 363) (pc' := 43) dX12_post_40 (by decide) rfl ?_
  refine ex_icmp_f (pc' := 46) dX12_post_43 (by decide) (by decide) rfl ?_
  refine ex_aload_n (pc' := 47) dX12_post_46 rfl rfl ?_
  refine ex_getR (pc' := 50) (n := 39) (r := 200) dX12_post_47 fl_12_23 (by decide +kernel) (by decide) (by decide +kernel) rfl ?_
  refine ex_iload_n (pc' := 51) dX12_post_50 rfl rfl ?_
  refine ex_iconst (v := 0) (pc' := 52) dX12_post_51 (by decide) rfl ?_
  refine en_iast (pc' := 53) (n := 363) (jj := 309) (h2 := hh_823) dX12_post_52 (by decide +kernel) (by decide) rfl rfl ?_
  refine ex_iinc (pc' := 56) (v := 310) (ls' := [(2, .inl 310), (0, .inr (.inr (some 196))), (1, .inl 0)]) dX12_post_53 rfl (by decide) (by decide) rfl rfl ?_
  refine ex_goto (pc' := 39) dX12_post_56 (by decide) ?_
  refine ex_iload_n (pc' := 40) dX12_post_39 rfl rfl ?_
  refine ex_sipush (v := 363) (pc' := 43) dX12_post_40 (by decide) rfl ?_
  refine ex_icmp_f (pc' := 46) dX12_post_43 (by decide) (by decide) rfl ?_
  refine ex_aload_n (pc' := 47) dX12_post_46 rfl rfl ?_
  refine ex_getR (pc' := 50) (n := 39) (r := 200) dX12_post_47 fl_12_23 (by decide +kernel) (by decide) (by decide +kernel) rfl ?_
  refine ex_iload_n (pc' := 51) dX12_post_50 rfl rfl ?_
  refine ex_iconst (v := 0) (pc' := 52) dX12_post_51 (by decide) rfl ?_
  refine en_iast (pc' := 53) (n := 363) (jj := 310) (h2 := hh_824) dX12_post_52 (by decide +kernel) (by decide) rfl rfl ?_
  refine ex_iinc (pc' := 56) (v := 311) (ls' := [(2, .inl 311), (0, .inr (.inr (some 196))), (1, .inl 0)]) dX12_post_53 rfl (by decide) (by decide) rfl rfl ?_
  refine ex_goto (pc' := 39) dX12_post_56 (by decide) ?_
  refine ex_iload_n (pc' := 40) dX12_post_39 rfl rfl ?_
  refine ex_sipush (v := 363) (pc' := 43) dX12_post_40 (by decide) rfl ?_
  refine ex_icmp_f (pc' := 46) dX12_post_43 (by decide) (by decide) rfl ?_
  refine ex_aload_n (pc' := 47) dX12_post_46 rfl rfl ?_
  refine ex_getR (pc' := 50) (n := 39) (r := 200) dX12_post_47 fl_12_23 (by decide +kernel) (by decide) (by decide +kernel) rfl ?_
  refine ex_iload_n (pc' := 51) dX12_post_50 rfl rfl ?_
  refine ex_iconst (v := 0) (pc' := 52) dX12_post_51 (by decide) rfl ?_
  refine en_iast (pc' := 53) (n := 363) (jj := 311) (h2 := hh_825) dX12_post_52 (by decide +kernel) (by decide) rfl rfl ?_
  refine ex_iinc (pc' := 56) (v := 312) (ls' := [(2, .inl 312), (0, .inr (.inr (some 196))), (1, .inl 0)]) dX12_post_53 rfl (by decide) (by decide) rfl rfl ?_
  refine ex_goto (pc' := 39) dX12_post_56 (by decide) ?_
  refine ex_iload_n (pc' := 40) dX12_post_39 rfl rfl ?_
  refine ex_sipush (v := 363) (pc' := 43) dX12_post_40 (by decide) rfl ?_
  refine ex_icmp_f (pc' := 46) dX12_post_43 (by decide) (by decide) rfl ?_
  refine ex_aload_n (pc' := 47) dX12_post_46 rfl rfl ?_
  refine ex_getR (pc' := 50) (n := 39) (r := 200) dX12_post_47 fl_12_23 (by decide +kernel) (by decide) (by decide +kernel) rfl ?_
  refine ex_iload_n (pc' := 51) dX12_post_50 rfl rfl ?_
  refine ex_iconst (v := 0) (pc' := 52) dX12_post_51 (by decide) rfl ?_
  refine en_iast (pc' := 53) (n := 363) (jj := 312) (h2 := hh_826) dX12_post_52 (by decide +kernel) (by decide) rfl rfl ?_
  refine ex_iinc (pc' := 56) (v := 313) (ls' := [(2, .inl 313), (0, .inr (.inr (some 196))), (1, .inl 0)]) dX12_post_53 rfl (by decide) (by decide) rfl rfl ?_
  refine ex_goto (pc' := 39) dX12_post_56 (by decide) ?_
  refine ex_iload_n (pc' := 40) dX12_post_39 rfl rfl ?_
  refine ex_sipush (v := 363) (pc' := 43) dX12_post_40 (by decide) rfl ?_
  refine ex_icmp_f (pc' := 46) dX12_post_43 (by decide) (by decide) rfl ?_
  refine ex_aload_n (pc' := 47) dX12_post_46 rfl rfl ?_
  refine ex_getR (pc' := 50) (n := 39) (r := 200) dX12_post_47 fl_12_23 (by decide +kernel) (by decide) (by decide +kernel) rfl ?_
  refine ex_iload_n (pc' := 51) dX12_post_50 rfl rfl ?_
  refine ex_iconst (v := 0) (pc' := 52) dX12_post_51 (by decide) rfl ?_
  refine en_iast (pc' := 53) (n := 363) (jj := 313) (h2 := hh_827) dX12_post_52 (by decide +kernel) (by decide) rfl rfl ?_
  refine ex_iinc (pc' := 56) (v := 314) (ls' := [(2, .inl 314), (0, .inr (.inr (some 196))), (1, .inl 0)]) dX12_post_53 rfl (by decide) (by decide) rfl rfl ?_
  refine ex_goto (pc' := 39) dX12_post_56 (by decide) ?_
  refine ex_iload_n (pc' := 40) dX12_post_39 rfl rfl ?_
  refine ex_sipush (v := 363) (pc' := 43) dX12_post_40 (by decide) rfl ?_
  refine ex_icmp_f (pc' := 46) dX12_post_43 (by decide) (by decide) rfl ?_
  refine ex_aload_n (pc' := 47) dX12_post_46 rfl rfl ?_
  refine ex_getR (pc' := 50) (n := 39) (r := 200) dX12_post_47 fl_12_23 (by decide +kernel) (by decide) (by decide +kernel) rfl ?_
  refine ex_iload_n (pc' := 51) dX12_post_50 rfl rfl ?_
  refine ex_iconst (v := 0) (pc' := 52) dX12_post_51 (by decide) rfl ?_
  refine en_iast (pc' := 53) (n := 363) (jj := 314) (h2 := hh_828) dX12_post_52 (by decide +kernel) (by decide) rfl rfl ?_
  refine ex_iinc (pc' := 56) (v := 315) (ls' := [(2, .inl 315), (0, .inr (.inr (some 196))), (1, .inl 0)]) dX12_post_53 rfl (by decide) (by decide) rfl rfl ?_
  refine ex_goto (pc' := 39) dX12_post_56 (by decide) ?_
  refine ex_iload_n (pc' := 40) dX12_post_39 rfl rfl ?_
  refine ex_sipush (v := 363) (pc' := 43) dX12_post_40 (by decide) rfl ?_
  refine ex_icmp_f (pc' := 46) dX12_post_43 (by decide) (by decide) rfl ?_
  refine ex_aload_n (pc' := 47) dX12_post_46 rfl rfl ?_
  refine ex_getR (pc' := 50) (n := 39) (r := 200) dX12_post_47 fl_12_23 (by decide +kernel) (by decide) (by decide +kernel) rfl ?_
  refine ex_iload_n (pc' := 51) dX12_post_50 rfl rfl ?_
  refine ex_iconst (v := 0) (pc' := 52) dX12_post_51 (by decide) rfl ?_
  refine en_iast (pc' := 53) (n := 363) (jj := 315) (h2 := hh_829) dX12_post_52 (by decide +kernel) (by decide) rfl rfl ?_
  refine ex_iinc (pc' := 56) (v := 316) (ls' := [(2, .inl 316), (0, .inr (.inr (some 196))), (1, .inl 0)]) dX12_post_53 rfl (by decide) (by decide) rfl rfl ?_
  refine ex_goto (pc' := 39) dX12_post_56 (by decide) ?_
  refine ex_iload_n (pc' := 40) dX12_post_39 rfl rfl ?_
  refine ex_sipush (v := 363) (pc' := 43) dX12_post_40 (by decide) rfl ?_
  refine ex_icmp_f (pc' := 46) dX12_post_43 (by decide) (by decide) rfl ?_
  refine ex_aload_n (pc' := 47) dX12_post_46 rfl rfl ?_
  refine ex_getR (pc' := 50) (n := 39) (r := 200) dX12_post_47 fl_12_23 (by decide +kernel) (by decide) (by decide +kernel) rfl ?_
  refine ex_iload_n (pc' := 51) dX12_post_50 rfl rfl ?_
  refine ex_iconst (v := 0) (pc' := 52) dX12_post_51 (by decide) rfl ?_
  refine en_iast (pc' := 53) (n := 363) (jj := 316) (h2 := hh_830) dX12_post_52 (by decide +kernel) (by decide) rfl rfl ?_
  refine ex_iinc (pc' := 56) (v := 317) (ls' := [(2, .inl 317), (0, .inr (.inr (some 196))), (1, .inl 0)]) dX12_post_53 rfl (by decide) (by decide) rfl rfl ?_
  refine ex_goto (pc' := 39) dX12_post_56 (by decide) ?_
  refine ex_iload_n (pc' := 40) dX12_post_39 rfl rfl ?_
  refine ex_sipush (v := 363) (pc' := 43) dX12_post_40 (by decide) rfl ?_
  refine ex_icmp_f (pc' := 46) dX12_post_43 (by decide) (by decide) rfl ?_
  refine ex_aload_n (pc' := 47) dX12_post_46 rfl rfl ?_
  refine ex_getR (pc' := 50) (n := 39) (r := 200) dX12_post_47 fl_12_23 (by decide +kernel) (by decide) (by decide +kernel) rfl ?_
  refine ex_iload_n (pc' := 51) dX12_post_50 rfl rfl ?_
  refine ex_iconst (v := 0) (pc' := 52) dX12_post_51 (by decide) rfl ?_
  refine en_iast (pc' := 53) (n := 363) (jj := 317) (h2 := hh_831) dX12_post_52 (by decide +kernel) (by decide) rfl rfl ?_
  refine ex_iinc (pc' := 56) (v := 318) (ls' := [(2, .inl 318), (0, .inr (.inr (some 196))), (1, .inl 0)]) dX12_post_53 rfl (by decide) (by decide) rfl rfl ?_
  refine ex_goto (pc' := 39) dX12_post_56 (by decide) ?_
  refine ex_iload_n (pc' := 40) dX12_post_39 rfl rfl ?_
  refine ex_sipush (v := 363) (pc' := 43) dX12_post_40 (by decide) rfl ?_
  refine ex_icmp_f (pc' := 46) dX12_post_43 (by decide) (by decide) rfl ?_
  refine ex_aload_n (pc' := 47) dX12_post_46 rfl rfl ?_
  refine ex_getR (pc' := 50) (n := 39) (r := 200) dX12_post_47 fl_12_23 (by decide +kernel) (by decide) (by decide +kernel) rfl ?_
  refine ex_iload_n (pc' := 51) dX12_post_50 rfl rfl ?_
  refine ex_iconst (v := 0) (pc' := 52) dX12_post_51 (by decide) rfl ?_
  refine en_iast (pc' := 53) (n := 363) (jj := 318) (h2 := hh_832) dX12_post_52 (by decide +kernel) (by decide) rfl rfl ?_
  refine ex_iinc (pc' := 56) (v := 319) (ls' := [(2, .inl 319), (0, .inr (.inr (some 196))), (1, .inl 0)]) dX12_post_53 rfl (by decide) (by decide) rfl rfl ?_
  refine ex_goto (pc' := 39) dX12_post_56 (by decide) ?_
  refine ex_iload_n (pc' := 40) dX12_post_39 rfl rfl ?_
  refine ex_sipush (v := 363) (pc' := 43) dX12_post_40 (by decide) rfl ?_
  refine ex_icmp_f (pc' := 46) dX12_post_43 (by decide) (by decide) rfl ?_
  refine ex_aload_n (pc' := 47) dX12_post_46 rfl rfl ?_
  refine ex_getR (pc' := 50) (n := 39) (r := 200) dX12_post_47 fl_12_23 (by decide +kernel) (by decide) (by decide +kernel) rfl ?_
  refine ex_iload_n (pc' := 51) dX12_post_50 rfl rfl ?_
  refine ex_iconst (v := 0) (pc' := 52) dX12_post_51 (by decide) rfl ?_
  refine en_iast (pc' := 53) (n := 363) (jj := 319) (h2 := hh_833) dX12_post_52 (by decide +kernel) (by decide) rfl rfl ?_
  refine ex_iinc (pc' := 56) (v := 320) (ls' := [(2, .inl 320), (0, .inr (.inr (some 196))), (1, .inl 0)]) dX12_post_53 rfl (by decide) (by decide) rfl rfl ?_
  refine ex_goto (pc' := 39) dX12_post_56 (by decide) ?_
  refine ex_iload_n (pc' := 40) dX12_post_39 rfl rfl ?_
  refine ex_sipush (v := 363) (pc' := 43) dX12_post_40 (by decide) rfl ?_
  refine ex_icmp_f (pc' := 46) dX12_post_43 (by decide) (by decide) rfl ?_
  refine ex_aload_n (pc' := 47) dX12_post_46 rfl rfl ?_
  refine ex_getR (pc' := 50) (n := 39) (r := 200) dX12_post_47 fl_12_23 (by decide +kernel) (by decide) (by decide +kernel) rfl ?_
  refine ex_iload_n (pc' := 51) dX12_post_50 rfl rfl ?_
  refine ex_iconst (v := 0) (pc' := 52) dX12_post_51 (by decide) rfl ?_
  refine en_iast (pc' := 53) (n := 363) (jj := 320) (h2 := hh_834) dX12_post_52 (by decide +kernel) (by decide) rfl rfl ?_
  refine ex_iinc (pc' := 56) (v := 321) (ls' := [(2, .inl 321), (0, .inr (.inr (some 196))), (1, .inl 0)]) dX12_post_53 rfl (by decide) (by decide) rfl rfl ?_
  refine ex_goto (pc' := 39) dX12_post_56 (by decide) ?_
  refine ex_iload_n (pc' := 40) dX12_post_39 rfl rfl ?_
  refine ex_sipush (v := 363) (pc' := 43) dX12_post_40 (by decide) rfl ?_
  refine ex_icmp_f (pc' := 46) dX12_post_43 (by decide) (by decide) rfl ?_
  refine ex_aload_n (pc' := 47) dX12_post_46 rfl rfl ?_
  refine ex_getR (pc' := 50) (n := 39) (r := 200) dX12_post_47 fl_12_23 (by decide +kernel) (by decide) (by decide +kernel) rfl ?_
  refine ex_iload_n (pc' := 51) dX12_post_50 rfl rfl ?_
  refine ex_iconst (v := 0) (pc' := 52) dX12_post_51 (by decide) rfl ?_
  refine en_iast (pc' := 53) (n := 363) (jj := 321) (h2 := hh_835) dX12_post_52 (by decide +kernel) (by decide) rfl rfl ?_
  refine ex_iinc (pc' := 56) (v := 322) (ls' := [(2, .inl 322), (0, .inr (.inr (some 196))), (1, .inl 0)]) dX12_post_53 rfl (by decide) (by decide) rfl rfl ?_
  refine ex_goto (pc' := 39) dX12_post_56 (by decide) ?_
  refine ex_iload_n (pc' := 40) dX12_post_39 rfl rfl ?_
  refine ex_sipush (v := 363) (pc' := 43) dX12_post_40 (by decide) rfl ?_
  refine ex_icmp_f (pc' := 46) dX12_post_43 (by decide) (by decide) rfl ?_
  refine ex_aload_n (pc' := 47) dX12_post_46 rfl rfl ?_
  refine ex_getR (pc' := 50) (n := 39) (r := 200) dX12_post_47 fl_12_23 (by decide +kernel) (by decide) (by decide +kernel) rfl ?_
  refine ex_iload_n (pc' := 51) dX12_post_50 rfl rfl ?_
  refine ex_iconst (v := 0) (pc' := 52) dX12_post_51 (by decide) rfl ?_
  refine en_iast (pc' := 53) (n := 363) (jj := 322) (h2 := hh_836) dX12_post_52 (by decide +kernel) (by decide) rfl rfl ?_
  refine ex_iinc (pc' := 56) (v := 323) (ls' := [(2, .inl 323), (0, .inr (.inr (some 196))), (1, .inl 0)]) dX12_post_53 rfl (by decide) (by decide) rfl rfl ?_
  refine ex_goto (pc' := 39) dX12_post_56 (by decide) ?_
  refine ex_iload_n (pc' := 40) dX12_post_39 rfl rfl ?_
  refine ex_sipush (v := 363) (pc' := 43) dX12_post_40 (by decide) rfl ?_
  refine ex_icmp_f (pc' := 46) dX12_post_43 (by decide) (by decide) rfl ?_
  refine ex_aload_n (pc' := 47) dX12_post_46 rfl rfl ?_
  refine ex_getR (pc' := 50) (n := 39) (r := 200) dX12_post_47 fl_12_23 (by decide +kernel) (by decide) (by decide +kernel) rfl ?_
  refine ex_iload_n (pc' := 51) dX12_post_50 rfl rfl ?_
  refine ex_iconst (v := 0) (pc' := 52) dX12_post_51 (by decide) rfl ?_
  refine en_iast (pc' := 53) (n := 363) (jj := 323) (h2 := hh_837) dX12_post_52 (by decide +kernel) (by decide) rfl rfl ?_
  refine ex_iinc (pc' := 56) (v := 324) (ls' := [(2, .inl 324), (0, .inr (.inr (some 196))), (1, .inl 0)]) dX12_post_53 rfl (by decide) (by decide) rfl rfl ?_
  refine ex_goto (pc' := 39) dX12_post_56 (by decide) ?_
  refine ex_iload_n (pc' := 40) dX12_post_39 rfl rfl ?_
  refine ex_sipush (v := 363) (pc' := 43) dX12_post_40 (by decide) rfl ?_
  refine ex_icmp_f (pc' := 46) dX12_post_43 (by decide) (by decide) rfl ?_
  refine ex_aload_n (pc' := 47) dX12_post_46 rfl rfl ?_
  refine ex_getR (pc' := 50) (n := 39) (r := 200) dX12_post_47 fl_12_23 (by decide +kernel) (by decide) (by decide +kernel) rfl ?_
  refine ex_iload_n (pc' := 51) dX12_post_50 rfl rfl ?_
  refine ex_iconst (v := 0) (pc' := 52) dX12_post_51 (by decide) rfl ?_
  refine en_iast (pc' := 53) (n := 363) (jj := 324) (h2 := hh_838) dX12_post_52 (by decide +kernel) (by decide) rfl rfl ?_
  refine ex_iinc (pc' := 56) (v := 325) (ls' := [(2, .inl 325), (0, .inr (.inr (some 196))), (1, .inl 0)]) dX12_post_53 rfl (by decide) (by decide) rfl rfl ?_
  refine ex_goto (pc' := 39) dX12_post_56 (by decide) ?_
  refine ex_iload_n (pc' := 40) dX12_post_39 rfl rfl ?_
  refine ex_sipush (v := 363) (pc' := 43) dX12_post_40 (by decide) rfl ?_
  refine ex_icmp_f (pc' := 46) dX12_post_43 (by decide) (by decide) rfl ?_
  refine ex_aload_n (pc' := 47) dX12_post_46 rfl rfl ?_
  refine ex_getR (pc' := 50) (n := 39) (r := 200) dX12_post_47 fl_12_23 (by decide +kernel) (by decide) (by decide +kernel) rfl ?_
  refine ex_iload_n (pc' := 51) dX12_post_50 rfl rfl ?_
  refine ex_iconst (v := 0) (pc' := 52) dX12_post_51 (by decide) rfl ?_
  refine en_iast (pc' := 53) (n := 363) (jj := 325) (h2 := hh_839) dX12_post_52 (by decide +kernel) (by decide) rfl rfl ?_
  refine ex_iinc (pc' := 56) (v := 326) (ls' := [(2, .inl 326), (0, .inr (.inr (some 196))), (1, .inl 0)]) dX12_post_53 rfl (by decide) (by decide) rfl rfl ?_
  refine ex_goto (pc' := 39) dX12_post_56 (by decide) ?_
  refine ex_iload_n (pc' := 40) dX12_post_39 rfl rfl ?_
  refine ex_sipush (v := 363) (pc' := 43) dX12_post_40 (by decide) rfl ?_
  refine ex_icmp_f (pc' := 46) dX12_post_43 (by decide) (by decide) rfl ?_
  refine ex_aload_n (pc' := 47) dX12_post_46 rfl rfl ?_
  refine ex_getR (pc' := 50) (n := 39) (r := 200) dX12_post_47 fl_12_23 (by decide +kernel) (by decide) (by decide +kernel) rfl ?_
  refine ex_iload_n (pc' := 51) dX12_post_50 rfl rfl ?_
  refine ex_iconst (v := 0) (pc' := 52) dX12_post_51 (by decide) rfl ?_
  refine en_iast (pc' := 53) (n := 363) (jj := 326) (h2 := hh_840) dX12_post_52 (by decide +kernel) (by decide) rfl rfl ?_
  refine ex_iinc (pc' := 56) (v := 327) (ls' := [(2, .inl 327), (0, .inr (.inr (some 196))), (1, .inl 0)]) dX12_post_53 rfl (by decide) (by decide) rfl rfl ?_
  refine ex_goto (pc' := 39) dX12_post_56 (by decide) ?_
  refine ex_iload_n (pc' := 40) dX12_post_39 rfl rfl ?_
  refine ex_sipush (v := 363) (pc' := 43) dX12_post_40 (by decide) rfl ?_
  refine ex_icmp_f (pc' := 46) dX12_post_43 (by decide) (by decide) rfl ?_
  refine ex_aload_n (pc' := 47) dX12_post_46 rfl rfl ?_
  refine ex_getR (pc' := 50) (n := 39) (r := 200) dX12_post_47 fl_12_23 (by decide +kernel) (by decide) (by decide +kernel) rfl ?_
  refine ex_iload_n (pc' := 51) dX12_post_50 rfl rfl ?_
  refine ex_iconst (v := 0) (pc' := 52) dX12_post_51 (by decide) rfl ?_
  refine en_iast (pc' := 53) (n := 363) (jj := 327) (h2 := hh_841) dX12_post_52 (by decide +kernel) (by decide) rfl rfl ?_
  refine ex_iinc (pc' := 56) (v := 328) (ls' := [(2, .inl 328), (0, .inr (.inr (some 196))), (1, .inl 0)]) dX12_post_53 rfl (by decide) (by decide) rfl rfl ?_
  refine ex_goto (pc' := 39) dX12_post_56 (by decide) ?_
  refine ex_iload_n (pc' := 40) dX12_post_39 rfl rfl ?_
  refine ex_sipush (v := 363) (pc' := 43) dX12_post_40 (by decide) rfl ?_
  refine ex_icmp_f (pc' := 46) dX12_post_43 (by decide) (by decide) rfl ?_
  refine ex_aload_n (pc' := 47) dX12_post_46 rfl rfl ?_
  refine ex_getR (pc' := 50) (n := 39) (r := 200) dX12_post_47 fl_12_23 (by decide +kernel) (by decide) (by decide +kernel) rfl ?_
  refine ex_iload_n (pc' := 51) dX12_post_50 rfl rfl ?_
  refine ex_iconst (v := 0) (pc' := 52) dX12_post_51 (by decide) rfl ?_
  refine en_iast (pc' := 53) (n := 363) (jj := 328) (h2 := hh_842) dX12_post_52 (by decide +kernel) (by decide) rfl rfl ?_
  refine ex_iinc (pc' := 56) (v := 329) (ls' := [(2, .inl 329), (0, .inr (.inr (some 196))), (1, .inl 0)]) dX12_post_53 rfl (by decide) (by decide) rfl rfl ?_
  refine ex_goto (pc' := 39) dX12_post_56 (by decide) ?_
  refine ex_iload_n (pc' := 40) dX12_post_39 rfl rfl ?_
  refine ex_sipush (v := 363) (pc' := 43) dX12_post_40 (by decide) rfl ?_
  refine ex_icmp_f (pc' := 46) dX12_post_43 (by decide) (by decide) rfl ?_
  refine ex_aload_n (pc' := 47) dX12_post_46 rfl rfl ?_
  refine ex_getR (pc' := 50) (n := 39) (r := 200) dX12_post_47 fl_12_23 (by decide +kernel) (by decide) (by decide +kernel) rfl ?_
  refine ex_iload_n (pc' := 51) dX12_post_50 rfl rfl ?_
  refine ex_iconst (v := 0) (pc' := 52) dX12_post_51 (by decide) rfl ?_
  refine en_iast (pc' := 53) (n := 363) (jj := 329) (h2 := hh_843) dX12_post_52 (by decide +kernel) (by decide) rfl rfl ?_
  refine ex_iinc (pc' := 56) (v := 330) (ls' := [(2, .inl 330), (0, .inr (.inr (some 196))), (1, .inl 0)]) dX12_post_53 rfl (by decide) (by decide) rfl rfl ?_
  refine ex_goto (pc' := 39) dX12_post_56 (by decide) ?_
  refine ex_iload_n (pc' := 40) dX12_post_39 rfl rfl ?_
  refine ex_sipush (v := 363) (pc' := 43) dX12_post_40 (by decide) rfl ?_
  refine ex_icmp_f (pc' := 46) dX12_post_43 (by decide) (by decide) rfl ?_
  refine ex_aload_n (pc' := 47) dX12_post_46 rfl rfl ?_
  refine ex_getR (pc' := 50) (n := 39) (r := 200) dX12_post_47 fl_12_23 (by decide +kernel) (by decide) (by decide +kernel) rfl ?_
  refine ex_iload_n (pc' := 51) dX12_post_50 rfl rfl ?_
  refine ex_iconst (v := 0) (pc' := 52) dX12_post_51 (by decide) rfl ?_
  refine en_iast (pc' := 53) (n := 363) (jj := 330) (h2 := hh_844) dX12_post_52 (by decide +kernel) (by decide) rfl rfl ?_
  refine ex_iinc (pc' := 56) (v := 331) (ls' := [(2, .inl 331), (0, .inr (.inr (some 196))), (1, .inl 0)]) dX12_post_53 rfl (by decide) (by decide) rfl rfl ?_
  refine ex_goto (pc' := 39) dX12_post_56 (by decide) ?_
  refine ex_iload_n (pc' := 40) dX12_post_39 rfl rfl ?_
  refine ex_sipush (v := 363) (pc' := 43) dX12_post_40 (by decide) rfl ?_
  refine ex_icmp_f (pc' := 46) dX12_post_43 (by decide) (by decide) rfl ?_
  refine ex_aload_n (pc' := 47) dX12_post_46 rfl rfl ?_
  refine ex_getR (pc' := 50) (n := 39) (r := 200) dX12_post_47 fl_12_23 (by decide +kernel) (by decide) (by decide +kernel) rfl ?_
  refine ex_iload_n (pc' := 51) dX12_post_50 rfl rfl ?_
  refine ex_iconst (v := 0) (pc' := 52) dX12_post_51 (by decide) rfl ?_
  refine en_iast (pc' := 53) (n := 363) (jj := 331) (h2 := hh_845) dX12_post_52 (by decide +kernel) (by decide) rfl rfl ?_
  refine ex_iinc (pc' := 56) (v := 332) (ls' := [(2, .inl 332), (0, .inr (.inr (some 196))), (1, .inl 0)]) dX12_post_53 rfl (by decide) (by decide) rfl rfl ?_
  refine ex_goto (pc' := 39) dX12_post_56 (by decide) ?_
  refine ex_iload_n (pc' := 40) dX12_post_39 rfl rfl ?_
  refine ex_sipush (v := 363) (pc' := 43) dX12_post_40 (by decide) rfl ?_
  refine ex_icmp_f (pc' := 46) dX12_post_43 (by decide) (by decide) rfl ?_
  refine ex_aload_n (pc' := 47) dX12_post_46 rfl rfl ?_
  refine ex_getR (pc' := 50) (n := 39) (r := 200) dX12_post_47 fl_12_23 (by decide +kernel) (by decide) (by decide +kernel) rfl ?_
  refine ex_iload_n (pc' := 51) dX12_post_50 rfl rfl ?_
  refine ex_iconst (v := 0) (pc' := 52) dX12_post_51 (by decide) rfl ?_
  refine en_iast (pc' := 53) (n := 363) (jj := 332) (h2 := hh_846) dX12_post_52 (by decide +kernel) (by decide) rfl rfl ?_
  refine ex_iinc (pc' := 56) (v := 333) (ls' := [(2, .inl 333), (0, .inr (.inr (some 196))), (1, .inl 0)]) dX12_post_53 rfl (by decide) (by decide) rfl rfl ?_
  refine ex_goto (pc' := 39) dX12_post_56 (by decide) ?_
  refine ex_iload_n (pc' := 40) dX12_post_39 rfl rfl ?_
  refine ex_sipush (v := 363) (pc' := 43) dX12_post_40 (by decide) rfl ?_
  refine ex_icmp_f (pc' := 46) dX12_post_43 (by decide) (by decide) rfl ?_
  refine ex_aload_n (pc' := 47) dX12_post_46 rfl rfl ?_
  refine ex_getR (pc' := 50) (n := 39) (r := 200) dX12_post_47 fl_12_23 (by decide +kernel) (by decide) (by decide +kernel) rfl ?_
  refine ex_iload_n (pc' := 51) dX12_post_50 rfl rfl ?_
  refine ex_iconst (v := 0) (pc' := 52) dX12_post_51 (by decide) rfl ?_
  refine en_iast (pc' := 53) (n := 363) (jj := 333) (h2 := hh_847) dX12_post_52 (by decide +kernel) (by decide) rfl rfl ?_
  refine ex_iinc (pc' := 56) (v := 334) (ls' := [(2, .inl 334), (0, .inr (.inr (some 196))), (1, .inl 0)]) dX12_post_53 rfl (by decide) (by decide) rfl rfl ?_
  refine ex_goto (pc' := 39) dX12_post_56 (by decide) ?_
  refine ex_iload_n (pc' := 40) dX12_post_39 rfl rfl ?_
  refine ex_sipush (v := 363) (pc' := 43) dX12_post_40 (by decide) rfl ?_
  refine ex_icmp_f (pc' := 46) dX12_post_43 (by decide) (by decide) rfl ?_
  refine ex_aload_n (pc' := 47) dX12_post_46 rfl rfl ?_
  refine ex_getR (pc' := 50) (n := 39) (r := 200) dX12_post_47 fl_12_23 (by decide +kernel) (by decide) (by decide +kernel) rfl ?_
  refine ex_iload_n (pc' := 51) dX12_post_50 rfl rfl ?_
  refine ex_iconst (v := 0) (pc' := 52) dX12_post_51 (by decide) rfl ?_
  refine en_iast (pc' := 53) (n := 363) (jj := 334) (h2 := hh_848) dX12_post_52 (by decide +kernel) (by decide) rfl rfl ?_
  refine ex_iinc (pc' := 56) (v := 335) (ls' := [(2, .inl 335), (0, .inr (.inr (some 196))), (1, .inl 0)]) dX12_post_53 rfl (by decide) (by decide) rfl rfl ?_
  refine ex_goto (pc' := 39) dX12_post_56 (by decide) ?_
  refine ex_iload_n (pc' := 40) dX12_post_39 rfl rfl ?_
  refine ex_sipush (v := 363) (pc' := 43) dX12_post_40 (by decide) rfl ?_
  refine ex_icmp_f (pc' := 46) dX12_post_43 (by decide) (by decide) rfl ?_
  refine ex_aload_n (pc' := 47) dX12_post_46 rfl rfl ?_
  refine ex_getR (pc' := 50) (n := 39) (r := 200) dX12_post_47 fl_12_23 (by decide +kernel) (by decide) (by decide +kernel) rfl ?_
  refine ex_iload_n (pc' := 51) dX12_post_50 rfl rfl ?_
  refine ex_iconst (v := 0) (pc' := 52) dX12_post_51 (by decide) rfl ?_
  refine en_iast (pc' := 53) (n := 363) (jj := 335) (h2 := hh_849) dX12_post_52 (by decide +kernel) (by decide) rfl rfl ?_
  refine ex_iinc (pc' := 56) (v := 336) (ls' := [(2, .inl 336), (0, .inr (.inr (some 196))), (1, .inl 0)]) dX12_post_53 rfl (by decide) (by decide) rfl rfl ?_
  refine ex_goto (pc' := 39) dX12_post_56 (by decide) ?_
  refine ex_iload_n (pc' := 40) dX12_post_39 rfl rfl ?_
  refine ex_sipush (v := 363) (pc' := 43) dX12_post_40 (by decide) rfl ?_
  refine ex_icmp_f (pc' := 46) dX12_post_43 (by decide) (by decide) rfl ?_
  refine ex_aload_n (pc' := 47) dX12_post_46 rfl rfl ?_
  refine ex_getR (pc' := 50) (n := 39) (r := 200) dX12_post_47 fl_12_23 (by decide +kernel) (by decide) (by decide +kernel) rfl ?_
  refine ex_iload_n (pc' := 51) dX12_post_50 rfl rfl ?_
  refine ex_iconst (v := 0) (pc' := 52) dX12_post_51 (by decide) rfl ?_
  refine en_iast (pc' := 53) (n := 363) (jj := 336) (h2 := hh_850) dX12_post_52 (by decide +kernel) (by decide) rfl rfl ?_
  refine ex_iinc (pc' := 56) (v := 337) (ls' := [(2, .inl 337), (0, .inr (.inr (some 196))), (1, .inl 0)]) dX12_post_53 rfl (by decide) (by decide) rfl rfl ?_
  refine ex_goto (pc' := 39) dX12_post_56 (by decide) ?_
  refine ex_iload_n (pc' := 40) dX12_post_39 rfl rfl ?_
  refine ex_sipush (v := 363) (pc' := 43) dX12_post_40 (by decide) rfl ?_
  refine ex_icmp_f (pc' := 46) dX12_post_43 (by decide) (by decide) rfl ?_
  refine ex_aload_n (pc' := 47) dX12_post_46 rfl rfl ?_
  refine ex_getR (pc' := 50) (n := 39) (r := 200) dX12_post_47 fl_12_23 (by decide +kernel) (by decide) (by decide +kernel) rfl ?_
  refine ex_iload_n (pc' := 51) dX12_post_50 rfl rfl ?_
  refine ex_iconst (v := 0) (pc' := 52) dX12_post_51 (by decide) rfl ?_
  refine en_iast (pc' := 53) (n := 363) (jj := 337) (h2 := hh_851) dX12_post_52 (by decide +kernel) (by decide) rfl rfl ?_
  refine ex_iinc (pc' := 56) (v := 338) (ls' := [(2, .inl 338), (0, .inr (.inr (some 196))), (1, .inl 0)]) dX12_post_53 rfl (by decide) (by decide) rfl rfl ?_
  refine ex_goto (pc' := 39) dX12_post_56 (by decide) ?_
  refine ex_iload_n (pc' := 40) dX12_post_39 rfl rfl ?_
  refine ex_sipush (v := 363) (pc' := 43) dX12_post_40 (by decide) rfl ?_
  refine ex_icmp_f (pc' := 46) dX12_post_43 (by decide) (by decide) rfl ?_
  refine ex_aload_n (pc' := 47) dX12_post_46 rfl rfl ?_
  refine ex_getR (pc' := 50) (n := 39) (r := 200) dX12_post_47 fl_12_23 (by decide +kernel) (by decide) (by decide +kernel) rfl ?_
  refine ex_iload_n (pc' := 51) dX12_post_50 rfl rfl ?_
  refine ex_iconst (v := 0) (pc' := 52) dX12_post_51 (by decide) rfl ?_
  refine en_iast (pc' := 53) (n := 363) (jj := 338) (h2 := hh_852) dX12_post_52 (by decide +kernel) (by decide) rfl rfl ?_
  refine ex_iinc (pc' := 56) (v := 339) (ls' := [(2, .inl 339), (0, .inr (.inr (some 196))), (1, .inl 0)]) dX12_post_53 rfl (by decide) (by decide) rfl rfl ?_
  refine ex_goto (pc' := 39) dX12_post_56 (by decide) ?_
  refine ex_iload_n (pc' := 40) dX12_post_39 rfl rfl ?_
  refine ex_sipush (v := 363) (pc' := 43) dX12_post_40 (by decide) rfl ?_
  refine ex_icmp_f (pc' := 46) dX12_post_43 (by decide) (by decide) rfl ?_
  refine ex_aload_n (pc' := 47) dX12_post_46 rfl rfl ?_
  refine ex_getR (pc' := 50) (n := 39) (r := 200) dX12_post_47 fl_12_23 (by decide +kernel) (by decide) (by decide +kernel) rfl ?_
  refine ex_iload_n (pc' := 51) dX12_post_50 rfl rfl ?_
  refine ex_iconst (v := 0) (pc' := 52) dX12_post_51 (by decide) rfl ?_
  refine en_iast (pc' := 53) (n := 363) (jj := 339) (h2 := hh_853) dX12_post_52 (by decide +kernel) (by decide) rfl rfl ?_
  refine ex_iinc (pc' := 56) (v := 340) (ls' := [(2, .inl 340), (0, .inr (.inr (some 196))), (1, .inl 0)]) dX12_post_53 rfl (by decide) (by decide) rfl rfl ?_
  refine ex_goto (pc' := 39) dX12_post_56 (by decide) ?_
  refine ex_iload_n (pc' := 40) dX12_post_39 rfl rfl ?_
  refine ex_sipush (v := 363) (pc' := 43) dX12_post_40 (by decide) rfl ?_
  refine ex_icmp_f (pc' := 46) dX12_post_43 (by decide) (by decide) rfl ?_
  refine ex_aload_n (pc' := 47) dX12_post_46 rfl rfl ?_
  refine ex_getR (pc' := 50) (n := 39) (r := 200) dX12_post_47 fl_12_23 (by decide +kernel) (by decide) (by decide +kernel) rfl ?_
  refine ex_iload_n (pc' := 51) dX12_post_50 rfl rfl ?_
  refine ex_iconst (v := 0) (pc' := 52) dX12_post_51 (by decide) rfl ?_
  refine en_iast (pc' := 53) (n := 363) (jj := 340) (h2 := hh_854) dX12_post_52 (by decide +kernel) (by decide) rfl rfl ?_
  refine ex_iinc (pc' := 56) (v := 341) (ls' := [(2, .inl 341), (0, .inr (.inr (some 196))), (1, .inl 0)]) dX12_post_53 rfl (by decide) (by decide) rfl rfl ?_
  refine ex_goto (pc' := 39) dX12_post_56 (by decide) ?_
  refine ex_iload_n (pc' := 40) dX12_post_39 rfl rfl ?_
  refine ex_sipush (v := 363) (pc' := 43) dX12_post_40 (by decide) rfl ?_
  refine ex_icmp_f (pc' := 46) dX12_post_43 (by decide) (by decide) rfl ?_
  refine ex_aload_n (pc' := 47) dX12_post_46 rfl rfl ?_
  refine ex_getR (pc' := 50) (n := 39) (r := 200) dX12_post_47 fl_12_23 (by decide +kernel) (by decide) (by decide +kernel) rfl ?_
  refine ex_iload_n (pc' := 51) dX12_post_50 rfl rfl ?_
  refine ex_iconst (v := 0) (pc' := 52) dX12_post_51 (by decide) rfl ?_
  refine en_iast (pc' := 53) (n := 363) (jj := 341) (h2 := hh_855) dX12_post_52 (by decide +kernel) (by decide) rfl rfl ?_
  refine ex_iinc (pc' := 56) (v := 342) (ls' := [(2, .inl 342), (0, .inr (.inr (some 196))), (1, .inl 0)]) dX12_post_53 rfl (by decide) (by decide) rfl rfl ?_
  refine ex_goto (pc' := 39) dX12_post_56 (by decide) ?_
  refine ex_iload_n (pc' := 40) dX12_post_39 rfl rfl ?_
  refine ex_sipush (v := 363) (pc' := 43) dX12_post_40 (by decide) rfl ?_
  refine ex_icmp_f (pc' := 46) dX12_post_43 (by decide) (by decide) rfl ?_
  refine ex_aload_n (pc' := 47) dX12_post_46 rfl rfl ?_
  refine ex_getR (pc' := 50) (n := 39) (r := 200) dX12_post_47 fl_12_23 (by decide +kernel) (by decide) (by decide +kernel) rfl ?_
  refine ex_iload_n (pc' := 51) dX12_post_50 rfl rfl ?_
  refine ex_iconst (v := 0) (pc' := 52) dX12_post_51 (by decide) rfl ?_
  refine en_iast (pc' := 53) (n := 363) (jj := 342) (h2 := hh_856) dX12_post_52 (by decide +kernel) (by decide) rfl rfl ?_
  refine ex_iinc (pc' := 56) (v := 343) (ls' := [(2, .inl 343), (0, .inr (.inr (some 196))), (1, .inl 0)]) dX12_post_53 rfl (by decide) (by decide) rfl rfl ?_
  refine ex_goto (pc' := 39) dX12_post_56 (by decide) ?_
  refine ex_iload_n (pc' := 40) dX12_post_39 rfl rfl ?_
  refine ex_sipush (v := 363) (pc' := 43) dX12_post_40 (by decide) rfl ?_
  refine ex_icmp_f (pc' := 46) dX12_post_43 (by decide) (by decide) rfl ?_
  refine ex_aload_n (pc' := 47) dX12_post_46 rfl rfl ?_
  refine ex_getR (pc' := 50) (n := 39) (r := 200) dX12_post_47 fl_12_23 (by decide +kernel) (by decide) (by decide +kernel) rfl ?_
  refine ex_iload_n (pc' := 51) dX12_post_50 rfl rfl ?_
  refine ex_iconst (v := 0) (pc' := 52) dX12_post_51 (by decide) rfl ?_
  refine en_iast (pc' := 53) (n := 363) (jj := 343) (h2 := hh_857) dX12_post_52 (by decide +kernel) (by decide) rfl rfl ?_
  refine ex_iinc (pc' := 56) (v := 344) (ls' := [(2, .inl 344), (0, .inr (.inr (some 196))), (1, .inl 0)]) dX12_post_53 rfl (by decide) (by decide) rfl rfl ?_
  refine ex_goto (pc' := 39) dX12_post_56 (by decide) ?_
  refine ex_iload_n (pc' := 40) dX12_post_39 rfl rfl ?_
  refine ex_sipush (v := 363) (pc' := 43) dX12_post_40 (by decide) rfl ?_
  refine ex_icmp_f (pc' := 46) dX12_post_43 (by decide) (by decide) rfl ?_
  refine ex_aload_n (pc' := 47) dX12_post_46 rfl rfl ?_
  refine ex_getR (pc' := 50) (n := 39) (r := 200) dX12_post_47 fl_12_23 (by decide +kernel) (by decide) (by decide +kernel) rfl ?_
  refine ex_iload_n (pc' := 51) dX12_post_50 rfl rfl ?_
  refine ex_iconst (v := 0) (pc' := 52) dX12_post_51 (by decide) rfl ?_
  refine en_iast (pc' := 53) (n := 363) (jj := 344) (h2 := hh_858) dX12_post_52 (by decide +kernel) (by decide) rfl rfl ?_
  refine ex_iinc (pc' := 56) (v := 345) (ls' := [(2, .inl 345), (0, .inr (.inr (some 196))), (1, .inl 0)]) dX12_post_53 rfl (by decide) (by decide) rfl rfl ?_
  refine ex_goto (pc' := 39) dX12_post_56 (by decide) ?_
  refine ex_iload_n (pc' := 40) dX12_post_39 rfl rfl ?_
  refine ex_sipush (v := 363) (pc' := 43) dX12_post_40 (by decide) rfl ?_
  refine ex_icmp_f (pc' := 46) dX12_post_43 (by decide) (by decide) rfl ?_
  refine ex_aload_n (pc' := 47) dX12_post_46 rfl rfl ?_
  refine ex_getR (pc' := 50) (n := 39) (r := 200) dX12_post_47 fl_12_23 (by decide +kernel) (by decide) (by decide +kernel) rfl ?_
  refine ex_iload_n (pc' := 51) dX12_post_50 rfl rfl ?_
  refine ex_iconst (v := 0) (pc' := 52) dX12_post_51 (by decide) rfl ?_
  refine en_iast (pc' := 53) (n := 363) (jj := 345) (h2 := hh_859) dX12_post_52 (by decide +kernel) (by decide) rfl rfl ?_
  refine ex_iinc (pc' := 56) (v := 346) (ls' := [(2, .inl 346), (0, .inr (.inr (some 196))), (1, .inl 0)]) dX12_post_53 rfl (by decide) (by decide) rfl rfl ?_
  refine ex_goto (pc' := 39) dX12_post_56 (by decide) ?_
  refine ex_iload_n (pc' := 40) dX12_post_39 rfl rfl ?_
  refine ex_sipush (v := 363) (pc' := 43) dX12_post_40 (by decide) rfl ?_
  refine ex_icmp_f (pc' := 46) dX12_post_43 (by decide) (by decide) rfl ?_
  refine ex_aload_n (pc' := 47) dX12_post_46 rfl rfl ?_
  refine ex_getR (pc' := 50) (n := 39) (r := 200) dX12_post_47 fl_12_23 (by decide +kernel) (by decide) (by decide +kernel) rfl ?_
  refine ex_iload_n (pc' := 51) dX12_post_50 rfl rfl ?_
  refine ex_iconst (v := 0) (pc' := 52) dX12_post_51 (by decide) rfl ?_
  refine en_iast (pc' := 53) (n := 363) (jj := 346) (h2 := hh_860) dX12_post_52 (by decide +kernel) (by decide) rfl rfl ?_
  refine ex_iinc (pc' := 56) (v := 347) (ls' := [(2, .inl 347), (0, .inr (.inr (some 196))), (1, .inl 0)]) dX12_post_53 rfl (by decide) (by decide) rfl rfl ?_
  refine ex_goto (pc' := 39) dX12_post_56 (by decide) ?_
  refine ex_iload_n (pc' := 40) dX12_post_39 rfl rfl ?_
  refine ex_sipush (v := 363) (pc' := 43) dX12_post_40 (by decide) rfl ?_
  refine ex_icmp_f (pc' := 46) dX12_post_43 (by decide) (by decide) rfl ?_
  refine ex_aload_n (pc' := 47) dX12_post_46 rfl rfl ?_
  refine ex_getR (pc' := 50) (n := 39) (r := 200) dX12_post_47 fl_12_23 (by decide +kernel) (by decide) (by decide +kernel) rfl ?_
  refine ex_iload_n (pc' := 51) dX12_post_50 rfl rfl ?_
  refine ex_iconst (v := 0) (pc' := 52) dX12_post_51 (by decide) rfl ?_
  refine en_iast (pc' := 53) (n := 363) (jj := 347) (h2 := hh_861) dX12_post_52 (by decide +kernel) (by decide) rfl rfl ?_
  refine ex_iinc (pc' := 56) (v := 348) (ls' := [(2, .inl 348), (0, .inr (.inr (some 196))), (1, .inl 0)]) dX12_post_53 rfl (by decide) (by decide) rfl rfl ?_
  refine ex_goto (pc' := 39) dX12_post_56 (by decide) ?_
  refine ex_iload_n (pc' := 40) dX12_post_39 rfl rfl ?_
  refine ex_sipush (v := 363) (pc' := 43) dX12_post_40 (by decide) rfl ?_
  refine ex_icmp_f (pc' := 46) dX12_post_43 (by decide) (by decide) rfl ?_
  refine ex_aload_n (pc' := 47) dX12_post_46 rfl rfl ?_
  refine ex_getR (pc' := 50) (n := 39) (r := 200) dX12_post_47 fl_12_23 (by decide +kernel) (by decide) (by decide +kernel) rfl ?_
  refine ex_iload_n (pc' := 51) dX12_post_50 rfl rfl ?_
  refine ex_iconst (v := 0) (pc' := 52) dX12_post_51 (by decide) rfl ?_
  refine en_iast (pc' := 53) (n := 363) (jj := 348) (h2 := hh_862) dX12_post_52 (by decide +kernel) (by decide) rfl rfl ?_
  refine ex_iinc (pc' := 56) (v := 349) (ls' := [(2, .inl 349), (0, .inr (.inr (some 196))), (1, .inl 0)]) dX12_post_53 rfl (by decide) (by decide) rfl rfl ?_
  refine ex_goto (pc' := 39) dX12_post_56 (by decide) ?_
  refine ex_iload_n (pc' := 40) dX12_post_39 rfl rfl ?_
  refine ex_sipush (v := 363) (pc' := 43) dX12_post_40 (by decide) rfl ?_
  refine ex_icmp_f (pc' := 46) dX12_post_43 (by decide) (by decide) rfl ?_
  refine ex_aload_n (pc' := 47) dX12_post_46 rfl rfl ?_
  refine ex_getR (pc' := 50) (n := 39) (r := 200) dX12_post_47 fl_12_23 (by decide +kernel) (by decide) (by decide +kernel) rfl ?_
  refine ex_iload_n (pc' := 51) dX12_post_50 rfl rfl ?_
  refine ex_iconst (v := 0) (pc' := 52) dX12_post_51 (by decide) rfl ?_
  refine en_iast (pc' := 53) (n := 363) (jj := 349) (h2 := hh_863) dX12_post_52 (by decide +kernel) (by decide) rfl rfl ?_
  refine ex_iinc (pc' := 56) (v := 350) (ls' := [(2, .inl 350), (0, .inr (.inr (some 196))), (1, .inl 0)]) dX12_post_53 rfl (by decide) (by decide) rfl rfl ?_
  refine ex_goto (pc' := 39) dX12_post_56 (by decide) ?_
  refine ex_iload_n (pc' := 40) dX12_post_39 rfl rfl ?_
  refine ex_sipush (v := 363) (pc' := 43) dX12_post_40 (by decide) rfl ?_
  refine ex_icmp_f (pc' := 46) dX12_post_43 (by decide) (by decide) rfl ?_
  refine ex_aload_n (pc' := 47) dX12_post_46 rfl rfl ?_
  refine ex_getR (pc' := 50) (n := 39) (r := 200) dX12_post_47 fl_12_23 (by decide +kernel) (by decide) (by decide +kernel) rfl ?_
  refine ex_iload_n (pc' := 51) dX12_post_50 rfl rfl ?_
  refine ex_iconst (v := 0) (pc' := 52) dX12_post_51 (by decide) rfl ?_
  refine en_iast (pc' := 53) (n := 363) (jj := 350) (h2 := hh_864) dX12_post_52 (by decide +kernel) (by decide) rfl rfl ?_
  refine ex_iinc (pc' := 56) (v := 351) (ls' := [(2, .inl 351), (0, .inr (.inr (some 196))), (1, .inl 0)]) dX12_post_53 rfl (by decide) (by decide) rfl rfl ?_
  refine ex_goto (pc' := 39) dX12_post_56 (by decide) ?_
  refine ex_iload_n (pc' := 40) dX12_post_39 rfl rfl ?_
  refine ex_sipush (v := 363) (pc' := 43) dX12_post_40 (by decide) rfl ?_
  refine ex_icmp_f (pc' := 46) dX12_post_43 (by decide) (by decide) rfl ?_
  refine ex_aload_n (pc' := 47) dX12_post_46 rfl rfl ?_
  refine ex_getR (pc' := 50) (n := 39) (r := 200) dX12_post_47 fl_12_23 (by decide +kernel) (by decide) (by decide +kernel) rfl ?_
  refine ex_iload_n (pc' := 51) dX12_post_50 rfl rfl ?_
  refine ex_iconst (v := 0) (pc' := 52) dX12_post_51 (by decide) rfl ?_
  refine en_iast (pc' := 53) (n := 363) (jj := 351) (h2 := hh_865) dX12_post_52 (by decide +kernel) (by decide) rfl rfl ?_
  refine ex_iinc (pc' := 56) (v := 352) (ls' := [(2, .inl 352), (0, .inr (.inr (some 196))), (1, .inl 0)]) dX12_post_53 rfl (by decide) (by decide) rfl rfl ?_
  refine ex_goto (pc' := 39) dX12_post_56 (by decide) ?_
  refine ex_iload_n (pc' := 40) dX12_post_39 rfl rfl ?_
  refine ex_sipush (v := 363) (pc' := 43) dX12_post_40 (by decide) rfl ?_
  refine ex_icmp_f (pc' := 46) dX12_post_43 (by decide) (by decide) rfl ?_
  refine ex_aload_n (pc' := 47) dX12_post_46 rfl rfl ?_
  refine ex_getR (pc' := 50) (n := 39) (r := 200) dX12_post_47 fl_12_23 (by decide +kernel) (by decide) (by decide +kernel) rfl ?_
  refine ex_iload_n (pc' := 51) dX12_post_50 rfl rfl ?_
  refine ex_iconst (v := 0) (pc' := 52) dX12_post_51 (by decide) rfl ?_
  refine en_iast (pc' := 53) (n := 363) (jj := 352) (h2 := hh_866) dX12_post_52 (by decide +kernel) (by decide) rfl rfl ?_
  refine ex_iinc (pc' := 56) (v := 353) (ls' := [(2, .inl 353), (0, .inr (.inr (some 196))), (1, .inl 0)]) dX12_post_53 rfl (by decide) (by decide) rfl rfl ?_
  refine ex_goto (pc' := 39) dX12_post_56 (by decide) ?_
  refine ex_iload_n (pc' := 40) dX12_post_39 rfl rfl ?_
  refine ex_sipush (v := 363) (pc' := 43) dX12_post_40 (by decide) rfl ?_
  refine ex_icmp_f (pc' := 46) dX12_post_43 (by decide) (by decide) rfl ?_
  refine ex_aload_n (pc' := 47) dX12_post_46 rfl rfl ?_
  refine ex_getR (pc' := 50) (n := 39) (r := 200) dX12_post_47 fl_12_23 (by decide +kernel) (by decide) (by decide +kernel) rfl ?_
  refine ex_iload_n (pc' := 51) dX12_post_50 rfl rfl ?_
  refine ex_iconst (v := 0) (pc' := 52) dX12_post_51 (by decide) rfl ?_
  refine en_iast (pc' := 53) (n := 363) (jj := 353) (h2 := hh_867) dX12_post_52 (by decide +kernel) (by decide) rfl rfl ?_
  refine ex_iinc (pc' := 56) (v := 354) (ls' := [(2, .inl 354), (0, .inr (.inr (some 196))), (1, .inl 0)]) dX12_post_53 rfl (by decide) (by decide) rfl rfl ?_
  refine ex_goto (pc' := 39) dX12_post_56 (by decide) ?_
  refine ex_iload_n (pc' := 40) dX12_post_39 rfl rfl ?_
  refine ex_sipush (v := 363) (pc' := 43) dX12_post_40 (by decide) rfl ?_
  refine ex_icmp_f (pc' := 46) dX12_post_43 (by decide) (by decide) rfl ?_
  refine ex_aload_n (pc' := 47) dX12_post_46 rfl rfl ?_
  refine ex_getR (pc' := 50) (n := 39) (r := 200) dX12_post_47 fl_12_23 (by decide +kernel) (by decide) (by decide +kernel) rfl ?_
  refine ex_iload_n (pc' := 51) dX12_post_50 rfl rfl ?_
  refine ex_iconst (v := 0) (pc' := 52) dX12_post_51 (by decide) rfl ?_
  refine en_iast (pc' := 53) (n := 363) (jj := 354) (h2 := hh_868) dX12_post_52 (by decide +kernel) (by decide) rfl rfl ?_
  refine ex_iinc (pc' := 56) (v := 355) (ls' := [(2, .inl 355), (0, .inr (.inr (some 196))), (1, .inl 0)]) dX12_post_53 rfl (by decide) (by decide) rfl rfl ?_
  refine ex_goto (pc' := 39) dX12_post_56 (by decide) ?_
  refine ex_iload_n (pc' := 40) dX12_post_39 rfl rfl ?_
  refine ex_sipush (v := 363) (pc' := 43) dX12_post_40 (by decide) rfl ?_
  refine ex_icmp_f (pc' := 46) dX12_post_43 (by decide) (by decide) rfl ?_
  refine ex_aload_n (pc' := 47) dX12_post_46 rfl rfl ?_
  refine ex_getR (pc' := 50) (n := 39) (r := 200) dX12_post_47 fl_12_23 (by decide +kernel) (by decide) (by decide +kernel) rfl ?_
  refine ex_iload_n (pc' := 51) dX12_post_50 rfl rfl ?_
  refine ex_iconst (v := 0) (pc' := 52) dX12_post_51 (by decide) rfl ?_
  refine en_iast (pc' := 53) (n := 363) (jj := 355) (h2 := hh_869) dX12_post_52 (by decide +kernel) (by decide) rfl rfl ?_
  refine ex_iinc (pc' := 56) (v := 356) (ls' := [(2, .inl 356), (0, .inr (.inr (some 196))), (1, .inl 0)]) dX12_post_53 rfl (by decide) (by decide) rfl rfl ?_
  refine ex_goto (pc' := 39) dX12_post_56 (by decide) ?_
  refine ex_iload_n (pc' := 40) dX12_post_39 rfl rfl ?_
  refine ex_sipush (v := 363) (pc' := 43) dX12_post_40 (by decide) rfl ?_
  refine ex_icmp_f (pc' := 46) dX12_post_43 (by decide) (by decide) rfl ?_
  refine ex_aload_n (pc' := 47) dX12_post_46 rfl rfl ?_
  refine ex_getR (pc' := 50) (n := 39) (r := 200) dX12_post_47 fl_12_23 (by decide +kernel) (by decide) (by decide +kernel) rfl ?_
  refine ex_iload_n (pc' := 51) dX12_post_50 rfl rfl ?_
  refine ex_iconst (v := 0) (pc' := 52) dX12_post_51 (by decide) rfl ?_
  refine en_iast (pc' := 53) (n := 363) (jj := 356) (h2 := hh_870) dX12_post_52 (by decide +kernel) (by decide) rfl rfl ?_
  refine ex_iinc (pc' := 56) (v := 357) (ls' := [(2, .inl 357), (0, .inr (.inr (some 196))), (1, .inl 0)]) dX12_post_53 rfl (by decide) (by decide) rfl rfl ?_
  refine ex_goto (pc' := 39) dX12_post_56 (by decide) ?_
  refine ex_iload_n (pc' := 40) dX12_post_39 rfl rfl ?_
  refine ex_sipush (v := 363) (pc' := 43) dX12_post_40 (by decide) rfl ?_
  refine ex_icmp_f (pc' := 46) dX12_post_43 (by decide) (by decide) rfl ?_
  refine ex_aload_n (pc' := 47) dX12_post_46 rfl rfl ?_
  refine ex_getR (pc' := 50) (n := 39) (r := 200) dX12_post_47 fl_12_23 (by decide +kernel) (by decide) (by decide +kernel) rfl ?_
  refine ex_iload_n (pc' := 51) dX12_post_50 rfl rfl ?_
  refine ex_iconst (v := 0) (pc' := 52) dX12_post_51 (by decide) rfl ?_
  refine en_iast (pc' := 53) (n := 363) (jj := 357) (h2 := hh_871) dX12_post_52 (by decide +kernel) (by decide) rfl rfl ?_
  refine ex_iinc (pc' := 56) (v := 358) (ls' := [(2, .inl 358), (0, .inr (.inr (some 196))), (1, .inl 0)]) dX12_post_53 rfl (by decide) (by decide) rfl rfl ?_
  refine ex_goto (pc' := 39) dX12_post_56 (by decide) ?_
  refine ex_iload_n (pc' := 40) dX12_post_39 rfl rfl ?_
  refine ex_sipush (v := 363) (pc' := 43) dX12_post_40 (by decide) rfl ?_
  refine ex_icmp_f (pc' := 46) dX12_post_43 (by decide) (by decide) rfl ?_
  refine ex_aload_n (pc' := 47) dX12_post_46 rfl rfl ?_
  refine ex_getR (pc' := 50) (n := 39) (r := 200) dX12_post_47 fl_12_23 (by decide +kernel) (by decide) (by decide +kernel) rfl ?_
  refine ex_iload_n (pc' := 51) dX12_post_50 rfl rfl ?_
  refine ex_iconst (v := 0) (pc' := 52) dX12_post_51 (by decide) rfl ?_
  refine en_iast (pc' := 53) (n := 363) (jj := 358) (h2 := hh_872) dX12_post_52 (by decide +kernel) (by decide) rfl rfl ?_
  refine ex_iinc (pc' := 56) (v := 359) (ls' := [(2, .inl 359), (0, .inr (.inr (some 196))), (1, .inl 0)]) dX12_post_53 rfl (by decide) (by decide) rfl rfl ?_
  refine ex_goto (pc' := 39) dX12_post_56 (by decide) ?_
  refine ex_iload_n (pc' := 40) dX12_post_39 rfl rfl ?_
  refine ex_sipush (v := 363) (pc' := 43) dX12_post_40 (by decide) rfl ?_
  refine ex_icmp_f (pc' := 46) dX12_post_43 (by decide) (by decide) rfl ?_
  refine ex_aload_n (pc' := 47) dX12_post_46 rfl rfl ?_
  refine ex_getR (pc' := 50) (n := 39) (r := 200) dX12_post_47 fl_12_23 (by decide +kernel) (by decide) (by decide +kernel) rfl ?_
  refine ex_iload_n (pc' := 51) dX12_post_50 rfl rfl ?_
  refine ex_iconst (v := 0) (pc' := 52) dX12_post_51 (by decide) rfl ?_
  refine en_iast (pc' := 53) (n := 363) (jj := 359) (h2 := hh_873) dX12_post_52 (by decide +kernel) (by decide) rfl rfl ?_
  refine ex_iinc (pc' := 56) (v := 360) (ls' := [(2, .inl 360), (0, .inr (.inr (some 196))), (1, .inl 0)]) dX12_post_53 rfl (by decide) (by decide) rfl rfl ?_
  refine ex_goto (pc' := 39) dX12_post_56 (by decide) ?_
  refine ex_iload_n (pc' := 40) dX12_post_39 rfl rfl ?_
  refine ex_sipush (v := 363) (pc' := 43) dX12_post_40 (by decide) rfl ?_
  refine ex_icmp_f (pc' := 46) dX12_post_43 (by decide) (by decide) rfl ?_
  refine ex_aload_n (pc' := 47) dX12_post_46 rfl rfl ?_
  refine ex_getR (pc' := 50) (n := 39) (r := 200) dX12_post_47 fl_12_23 (by decide +kernel) (by decide) (by decide +kernel) rfl ?_
  refine ex_iload_n (pc' := 51) dX12_post_50 rfl rfl ?_
  refine ex_iconst (v := 0) (pc' := 52) dX12_post_51 (by decide) rfl ?_
  refine en_iast (pc' := 53) (n := 363) (jj := 360) (h2 := hh_874) dX12_post_52 (by decide +kernel) (by decide) rfl rfl ?_
  refine ex_iinc (pc' := 56) (v := 361) (ls' := [(2, .inl 361), (0, .inr (.inr (some 196))), (1, .inl 0)]) dX12_post_53 rfl (by decide) (by decide) rfl rfl ?_
  refine ex_goto (pc' := 39) dX12_post_56 (by decide) ?_
  refine ex_iload_n (pc' := 40) dX12_post_39 rfl rfl ?_
  refine ex_sipush (v := 363) (pc' := 43) dX12_post_40 (by decide) rfl ?_
  refine ex_icmp_f (pc' := 46) dX12_post_43 (by decide) (by decide) rfl ?_
  refine ex_aload_n (pc' := 47) dX12_post_46 rfl rfl ?_
  refine ex_getR (pc' := 50) (n := 39) (r := 200) dX12_post_47 fl_12_23 (by decide +kernel) (by decide) (by decide +kernel) rfl ?_
  refine ex_iload_n (pc' := 51) dX12_post_50 rfl rfl ?_
  refine ex_iconst (v := 0) (pc' := 52) dX12_post_51 (by decide) rfl ?_
  refine en_iast (pc' := 53) (n := 363) (jj := 361) (h2 := hh_875) dX12_post_52 (by decide +kernel) (by decide) rfl rfl ?_
  refine ex_iinc (pc' := 56) (v := 362) (ls' := [(2, .inl 362), (0, .inr (.inr (some 196))), (1, .inl 0)]) dX12_post_53 rfl (by decide) (by decide) rfl rfl ?_
  refine ex_goto (pc' := 39) dX12_post_56 (by decide) ?_
  refine ex_iload_n (pc' := 40) dX12_post_39 rfl rfl ?_
  refine ex_sipush (v := 363) (pc' := 43) dX12_post_40 (by decide) rfl ?_
  refine ex_icmp_f (pc' := 46) dX12_post_43 (by decide) (by decide) rfl ?_
  refine ex_aload_n (pc' := 47) dX12_post_46 rfl rfl ?_
  refine ex_getR (pc' := 50) (n := 39) (r := 200) dX12_post_47 fl_12_23 (by decide +kernel) (by decide) (by decide +kernel) rfl ?_
  refine ex_iload_n (pc' := 51) dX12_post_50 rfl rfl ?_
  refine ex_iconst (v := 0) (pc' := 52) dX12_post_51 (by decide) rfl ?_
  refine en_iast (pc' := 53) (n := 363) (jj := 362) (h2 := hh_876) dX12_post_52 (by decide +kernel) (by decide) rfl rfl ?_
  refine ex_iinc (pc' := 56) (v := 363) (ls' := [(2, .inl 363), (0, .inr (.inr (some 196))), (1, .inl 0)]) dX12_post_53 rfl (by decide) (by decide) rfl rfl ?_
  refine ex_goto (pc' := 39) dX12_post_56 (by decide) ?_
  refine ex_iload_n (pc' := 40) dX12_post_39 rfl rfl ?_
  refine ex_sipush (v := 363) (pc' := 43) dX12_post_40 (by decide) rfl ?_
  refine ex_icmp_t (pc' := 59) dX12_post_43 (by decide) (by decide) ?_
  refine ex_aload_n (pc' := 60) dX12_post_59 rfl rfl ?_
  refine ex_iload_n (pc' := 61) dX12_post_60 rfl rfl ?_
  refine en_putI (pc' := 64) (n := 39) (h2 := hh_877) dX12_post_61 fl_12_71 (by decide +kernel) (by decide) (by decide) rfl rfl ?_
  refine ex_aload_n (pc' := 65) dX12_post_64 rfl rfl ?_
  refine ex_iconst (v := 0) (pc' := 66) dX12_post_65 (by decide) rfl ?_
  refine en_putI (pc' := 69) (n := 39) (h2 := hh_878) dX12_post_66 fl_12_74 (by decide +kernel) (by decide) (by decide) rfl rfl ?_
  refine ex_aload_n (pc' := 70) dX12_post_69 rfl rfl ?_
  refine en_callvV (pc' := 73) (a := 196) (n := 39) (h2 := hh_883) (vs := []) (rest := []) dX12_post_70 ml_12_121 ⟨by decide, by decide⟩ rfl rfl (by decide +kernel) (by decide) (by decide) rfl (kc_109 _) ?_
  refine ex_aload_n (pc' := 74) dX12_post_73 rfl rfl ?_
  refine en_callvV (pc' := 77) (a := 196) (n := 39) (h2 := hh_886) (vs := []) (rest := []) dX12_post_74 ml_12_173 ⟨by decide, by decide⟩ rfl rfl (by decide +kernel) (by decide) (by decide) rfl (kc_112 _) ?_
  refine ex_aload_n (pc' := 78) dX12_post_77 rfl rfl ?_
  refine ex_getI (pc' := 81) (n := 39) (v := 1) dX12_post_78 fl_12_100 (by decide +kernel) (by decide) (by decide +kernel) rfl ?_
  refine ex_if_t (pc' := 104) dX12_post_81 (by decide) (by decide) ?_
  refine ex_aload_n (pc' := 105) dX12_post_104 rfl rfl ?_
  refine ex_getI (pc' := 108) (n := 39) (v := 1) dX12_post_105 fl_12_100 (by decide +kernel) (by decide) (by decide +kernel) rfl ?_
  refine ex_if_t (pc' := 127) dX12_post_108 (by decide) (by decide) ?_
  refine ex_aload_n (pc' := 128) dX12_post_127 rfl rfl ?_
  refine ex_getI (pc' := 131) (n := 39) (v := 1) dX12_post_128 fl_12_100 (by decide +kernel) (by decide) (by decide +kernel) rfl ?_
  refine ex_if_t (pc' := 163) dX12_post_131 (by decide) (by decide) ?_
  refine ex_aload_n (pc' := 164) dX12_post_163 rfl rfl ?_
  refine ex_getI (pc' := 167) (n := 39) (v := 1) dX12_post_164 fl_12_100 (by decide +kernel) (by decide) (by decide +kernel) rfl ?_
  refine ex_if_f (pc' := 170) dX12_post_167 (by decide) (by decide) rfl ?_
  refine ex_aload_n (pc' := 171) dX12_post_170 rfl rfl ?_
  refine ex_iconst (v := 4) (pc' := 172) dX12_post_171 (by decide) rfl ?_
  refine en_callvI (pc' := 175) (a := 196) (n := 39) (h2 := hh_887) (v := (-1)) (vs := [.inl 4]) (rest := []) dX12_post_172 ml_12_170 ⟨by decide, by decide⟩ rfl rfl (by decide +kernel) (by decide) (by decide) rfl (kc_125 _) ?_
  exact ex_iretI dX12_post_175 rfl (by decide) ⟨rfl, rfl⟩
set_option maxRecDepth 20000 in
theorem kl_op_1_0 (d : Nat) (xs : Nat → Int32) (e1 : xs 1 = 0) : zEx (some (6, xs)) (d + 5) mL_law (329, [(4, .inl 0), (3, .inr (.inr (some 213))), (2, .inr (.inr (some 196))), (1, .inr (.inr (some 0))), (0, .inr (.inr (some 1000000)))], [], hh_487) zQL := by
  refine ex_aload_n (pc' := 330) dL_law_329 rfl rfl ?_
  refine ex_aload_n (pc' := 331) dL_law_330 rfl rfl ?_
  refine ex_iload (pc' := 333) dL_law_331 rfl rfl ?_
  refine ex_iconst (v := 1) (pc' := 334) dL_law_333 (by decide) rfl ?_
  refine ex_iadd (pc' := 335) (v := 1) dL_law_334 (by decide) rfl ?_
  refine ex_sald (pc' := 336) (n := 6) (xs := xs) (v := 0) dL_law_335 (by decide +kernel) rfl (by decide) e1 rfl ?_
  refine en_callvI (pc' := 339) (a := 0) (n := 16) (h2 := hh_508) (v := (-1)) (vs := [.inl 0]) (rest := []) dL_law_336 ml_13_24 ⟨by decide, by decide⟩ rfl rfl (by decide +kernel) (by decide) (by decide) rfl (kc_92 _) ?_
  refine ex_aload_n (pc' := 340) dL_law_339 rfl rfl ?_
  refine ex_aload_n (pc' := 341) dL_law_340 rfl rfl ?_
  refine ex_iload (pc' := 343) dL_law_341 rfl rfl ?_
  refine ex_iconst (v := 1) (pc' := 344) dL_law_343 (by decide) rfl ?_
  refine ex_iadd (pc' := 345) (v := 1) dL_law_344 (by decide) rfl ?_
  refine ex_sald (pc' := 346) (n := 6) (xs := xs) (v := 0) dL_law_345 (by decide +kernel) rfl (by decide) e1 rfl ?_
  refine en_callvI (pc' := 349) (a := 196) (n := 39) (h2 := hh_887) (v := (-1)) (vs := [.inl 0]) (rest := [.inl (-1)]) dL_law_346 ml_13_27 ⟨by decide, by decide⟩ rfl rfl (by decide +kernel) (by decide) (by decide) rfl (kc_106 _) ?_
  refine ex_icmp_t (pc' := 1834) dL_law_349 (by decide) (by decide) ?_
  refine ex_iinc (pc' := 1837) (v := 6) (ls' := [(4, .inl 6), (3, .inr (.inr (some 213))), (2, .inr (.inr (some 196))), (1, .inr (.inr (some 0))), (0, .inr (.inr (some 1000000)))]) dL_law_1834 rfl (by decide) (by decide) rfl rfl ?_
  refine ex_goto (pc' := 23) dL_law_1837 (by decide) ?_
  refine ex_iload (pc' := 25) dL_law_23 rfl rfl ?_
  refine ex_aload_n (pc' := 26) dL_law_25 rfl rfl ?_
  refine ex_slen (pc' := 27) (n := 6) (xs := xs) (v := 6) dL_law_26 (by decide +kernel) rfl (by decide) rfl ?_
  refine ex_bipush (v := 6) (pc' := 29) dL_law_27 (by decide) rfl ?_
  refine ex_isub (pc' := 30) (v := 0) dL_law_29 (by decide) rfl ?_
  refine ex_icmp_t (pc' := 1840) dL_law_30 (by decide) (by decide) ?_
  refine ex_iconst (v := 1) (pc' := 1841) dL_law_1840 (by decide) rfl ?_
  exact ex_iret dL_law_1841 rfl (by decide) ⟨rfl, zble rfl, zble rfl, zble rfl⟩
