/-! the constructors on the law's fresh heap, by program -/
set_option maxRecDepth 20000 in
theorem kc_3 (d : Nat) : zCv (d + 1) mX9_init [.inr (.inr (some 9))] hh_19 (fun h' => h' = hh_19) := by
  show zEx none (d + 1) mX9_init (0, [(0, .inr (.inr (some 9)))], [], hh_19) _
  refine ex_aload_n (pc' := 1) dX9_init_0 rfl rfl ?_
  refine ex_obj (pc' := 4) dX9_init_1 ml_9_1 (by decide) rfl ?_
  exact ex_vretV dX9_init_4 rfl rfl
set_option maxRecDepth 20000 in
theorem kc_4 (d : Nat) : zCv (d + 1) mX9_init [.inr (.inr (some 10))] hh_21 (fun h' => h' = hh_21) := by
  show zEx none (d + 1) mX9_init (0, [(0, .inr (.inr (some 10)))], [], hh_21) _
  refine ex_aload_n (pc' := 1) dX9_init_0 rfl rfl ?_
  refine ex_obj (pc' := 4) dX9_init_1 ml_9_1 (by decide) rfl ?_
  exact ex_vretV dX9_init_4 rfl rfl
set_option maxRecDepth 20000 in
theorem kc_5 (d : Nat) : zCv (d + 1) mX9_init [.inr (.inr (some 11))] hh_23 (fun h' => h' = hh_23) := by
  show zEx none (d + 1) mX9_init (0, [(0, .inr (.inr (some 11)))], [], hh_23) _
  refine ex_aload_n (pc' := 1) dX9_init_0 rfl rfl ?_
  refine ex_obj (pc' := 4) dX9_init_1 ml_9_1 (by decide) rfl ?_
  exact ex_vretV dX9_init_4 rfl rfl
set_option maxRecDepth 20000 in
theorem kc_6 (d : Nat) : zCv (d + 1) mX9_init [.inr (.inr (some 12))] hh_25 (fun h' => h' = hh_25) := by
  show zEx none (d + 1) mX9_init (0, [(0, .inr (.inr (some 12)))], [], hh_25) _
  refine ex_aload_n (pc' := 1) dX9_init_0 rfl rfl ?_
  refine ex_obj (pc' := 4) dX9_init_1 ml_9_1 (by decide) rfl ?_
  exact ex_vretV dX9_init_4 rfl rfl
set_option maxRecDepth 20000 in
theorem kc_7 (d : Nat) : zCv (d + 1) mX9_init [.inr (.inr (some 13))] hh_27 (fun h' => h' = hh_27) := by
  show zEx none (d + 1) mX9_init (0, [(0, .inr (.inr (some 13)))], [], hh_27) _
  refine ex_aload_n (pc' := 1) dX9_init_0 rfl rfl ?_
  refine ex_obj (pc' := 4) dX9_init_1 ml_9_1 (by decide) rfl ?_
  exact ex_vretV dX9_init_4 rfl rfl
set_option maxRecDepth 20000 in
theorem kc_8 (d : Nat) : zCv (d + 1) mX9_init [.inr (.inr (some 14))] hh_29 (fun h' => h' = hh_29) := by
  show zEx none (d + 1) mX9_init (0, [(0, .inr (.inr (some 14)))], [], hh_29) _
  refine ex_aload_n (pc' := 1) dX9_init_0 rfl rfl ?_
  refine ex_obj (pc' := 4) dX9_init_1 ml_9_1 (by decide) rfl ?_
  exact ex_vretV dX9_init_4 rfl rfl
set_option maxRecDepth 20000 in
theorem kc_9 (d : Nat) : zCv (d + 1) mX9_init [.inr (.inr (some 15))] hh_31 (fun h' => h' = hh_31) := by
  show zEx none (d + 1) mX9_init (0, [(0, .inr (.inr (some 15)))], [], hh_31) _
  refine ex_aload_n (pc' := 1) dX9_init_0 rfl rfl ?_
  refine ex_obj (pc' := 4) dX9_init_1 ml_9_1 (by decide) rfl ?_
  exact ex_vretV dX9_init_4 rfl rfl
set_option maxRecDepth 20000 in
theorem kc_10 (d : Nat) : zCv (d + 1) mX9_init [.inr (.inr (some 16))] hh_33 (fun h' => h' = hh_33) := by
  show zEx none (d + 1) mX9_init (0, [(0, .inr (.inr (some 16)))], [], hh_33) _
  refine ex_aload_n (pc' := 1) dX9_init_0 rfl rfl ?_
  refine ex_obj (pc' := 4) dX9_init_1 ml_9_1 (by decide) rfl ?_
  exact ex_vretV dX9_init_4 rfl rfl
set_option maxRecDepth 20000 in
theorem kc_11 (d : Nat) : zCv (d + 1) mX9_init [.inr (.inr (some 17))] hh_35 (fun h' => h' = hh_35) := by
  show zEx none (d + 1) mX9_init (0, [(0, .inr (.inr (some 17)))], [], hh_35) _
  refine ex_aload_n (pc' := 1) dX9_init_0 rfl rfl ?_
  refine ex_obj (pc' := 4) dX9_init_1 ml_9_1 (by decide) rfl ?_
  exact ex_vretV dX9_init_4 rfl rfl
set_option maxRecDepth 20000 in
theorem kc_12 (d : Nat) : zCv (d + 1) mX9_init [.inr (.inr (some 18))] hh_37 (fun h' => h' = hh_37) := by
  show zEx none (d + 1) mX9_init (0, [(0, .inr (.inr (some 18)))], [], hh_37) _
  refine ex_aload_n (pc' := 1) dX9_init_0 rfl rfl ?_
  refine ex_obj (pc' := 4) dX9_init_1 ml_9_1 (by decide) rfl ?_
  exact ex_vretV dX9_init_4 rfl rfl
set_option maxRecDepth 20000 in
theorem kc_13 (d : Nat) : zCv (d + 1) mX9_init [.inr (.inr (some 19))] hh_39 (fun h' => h' = hh_39) := by
  show zEx none (d + 1) mX9_init (0, [(0, .inr (.inr (some 19)))], [], hh_39) _
  refine ex_aload_n (pc' := 1) dX9_init_0 rfl rfl ?_
  refine ex_obj (pc' := 4) dX9_init_1 ml_9_1 (by decide) rfl ?_
  exact ex_vretV dX9_init_4 rfl rfl
set_option maxRecDepth 20000 in
theorem kc_14 (d : Nat) : zCv (d + 1) mX9_init [.inr (.inr (some 20))] hh_41 (fun h' => h' = hh_41) := by
  show zEx none (d + 1) mX9_init (0, [(0, .inr (.inr (some 20)))], [], hh_41) _
  refine ex_aload_n (pc' := 1) dX9_init_0 rfl rfl ?_
  refine ex_obj (pc' := 4) dX9_init_1 ml_9_1 (by decide) rfl ?_
  exact ex_vretV dX9_init_4 rfl rfl
set_option maxRecDepth 20000 in
theorem kc_15 (d : Nat) : zCv (d + 1) mX10_init [.inr (.inr (some 21))] hh_43 (fun h' => h' = hh_43) := by
  show zEx none (d + 1) mX10_init (0, [(0, .inr (.inr (some 21)))], [], hh_43) _
  refine ex_aload_n (pc' := 1) dX10_init_0 rfl rfl ?_
  refine ex_obj (pc' := 4) dX10_init_1 ml_10_1 (by decide) rfl ?_
  exact ex_vretV dX10_init_4 rfl rfl
set_option maxRecDepth 20000 in
theorem kc_16 (d : Nat) : zCv (d + 1) mX10_init [.inr (.inr (some 22))] hh_45 (fun h' => h' = hh_45) := by
  show zEx none (d + 1) mX10_init (0, [(0, .inr (.inr (some 22)))], [], hh_45) _
  refine ex_aload_n (pc' := 1) dX10_init_0 rfl rfl ?_
  refine ex_obj (pc' := 4) dX10_init_1 ml_10_1 (by decide) rfl ?_
  exact ex_vretV dX10_init_4 rfl rfl
set_option maxRecDepth 20000 in
theorem kc_17 (d : Nat) : zCv (d + 1) mX10_init [.inr (.inr (some 23))] hh_47 (fun h' => h' = hh_47) := by
  show zEx none (d + 1) mX10_init (0, [(0, .inr (.inr (some 23)))], [], hh_47) _
  refine ex_aload_n (pc' := 1) dX10_init_0 rfl rfl ?_
  refine ex_obj (pc' := 4) dX10_init_1 ml_10_1 (by decide) rfl ?_
  exact ex_vretV dX10_init_4 rfl rfl
set_option maxRecDepth 20000 in
theorem kc_18 (d : Nat) : zCv (d + 1) mX10_init [.inr (.inr (some 24))] hh_49 (fun h' => h' = hh_49) := by
  show zEx none (d + 1) mX10_init (0, [(0, .inr (.inr (some 24)))], [], hh_49) _
  refine ex_aload_n (pc' := 1) dX10_init_0 rfl rfl ?_
  refine ex_obj (pc' := 4) dX10_init_1 ml_10_1 (by decide) rfl ?_
  exact ex_vretV dX10_init_4 rfl rfl
set_option maxRecDepth 20000 in
theorem kc_19 (d : Nat) : zCv (d + 1) mX10_init [.inr (.inr (some 25))] hh_51 (fun h' => h' = hh_51) := by
  show zEx none (d + 1) mX10_init (0, [(0, .inr (.inr (some 25)))], [], hh_51) _
  refine ex_aload_n (pc' := 1) dX10_init_0 rfl rfl ?_
  refine ex_obj (pc' := 4) dX10_init_1 ml_10_1 (by decide) rfl ?_
  exact ex_vretV dX10_init_4 rfl rfl
set_option maxRecDepth 20000 in
theorem kc_20 (d : Nat) : zCv (d + 1) mX0_init [.inr (.inr (some 26))] hh_53 (fun h' => h' = hh_53) := by
  show zEx none (d + 1) mX0_init (0, [(0, .inr (.inr (some 26)))], [], hh_53) _
  refine ex_aload_n (pc' := 1) dX0_init_0 rfl rfl ?_
  refine ex_obj (pc' := 4) dX0_init_1 ml_0_1 (by decide) rfl ?_
  exact ex_vretV dX0_init_4 rfl rfl
set_option maxRecDepth 20000 in
theorem kc_21 (d : Nat) : zCv (d + 1) mX0_init [.inr (.inr (some 27))] hh_55 (fun h' => h' = hh_55) := by
  show zEx none (d + 1) mX0_init (0, [(0, .inr (.inr (some 27)))], [], hh_55) _
  refine ex_aload_n (pc' := 1) dX0_init_0 rfl rfl ?_
  refine ex_obj (pc' := 4) dX0_init_1 ml_0_1 (by decide) rfl ?_
  exact ex_vretV dX0_init_4 rfl rfl
set_option maxRecDepth 20000 in
theorem kc_22 (d : Nat) : zCv (d + 1) mX0_init [.inr (.inr (some 28))] hh_57 (fun h' => h' = hh_57) := by
  show zEx none (d + 1) mX0_init (0, [(0, .inr (.inr (some 28)))], [], hh_57) _
  refine ex_aload_n (pc' := 1) dX0_init_0 rfl rfl ?_
  refine ex_obj (pc' := 4) dX0_init_1 ml_0_1 (by decide) rfl ?_
  exact ex_vretV dX0_init_4 rfl rfl
set_option maxRecDepth 20000 in
theorem kc_23 (d : Nat) : zCv (d + 1) mX0_init [.inr (.inr (some 29))] hh_59 (fun h' => h' = hh_59) := by
  show zEx none (d + 1) mX0_init (0, [(0, .inr (.inr (some 29)))], [], hh_59) _
  refine ex_aload_n (pc' := 1) dX0_init_0 rfl rfl ?_
  refine ex_obj (pc' := 4) dX0_init_1 ml_0_1 (by decide) rfl ?_
  exact ex_vretV dX0_init_4 rfl rfl
set_option maxRecDepth 20000 in
theorem kc_24 (d : Nat) : zCv (d + 1) mX0_init [.inr (.inr (some 30))] hh_61 (fun h' => h' = hh_61) := by
  show zEx none (d + 1) mX0_init (0, [(0, .inr (.inr (some 30)))], [], hh_61) _
  refine ex_aload_n (pc' := 1) dX0_init_0 rfl rfl ?_
  refine ex_obj (pc' := 4) dX0_init_1 ml_0_1 (by decide) rfl ?_
  exact ex_vretV dX0_init_4 rfl rfl
set_option maxRecDepth 20000 in
theorem kc_25 (d : Nat) : zCv (d + 1) mX0_init [.inr (.inr (some 31))] hh_63 (fun h' => h' = hh_63) := by
  show zEx none (d + 1) mX0_init (0, [(0, .inr (.inr (some 31)))], [], hh_63) _
  refine ex_aload_n (pc' := 1) dX0_init_0 rfl rfl ?_
  refine ex_obj (pc' := 4) dX0_init_1 ml_0_1 (by decide) rfl ?_
  exact ex_vretV dX0_init_4 rfl rfl
set_option maxRecDepth 20000 in
theorem kc_26 (d : Nat) : zCv (d + 1) mX0_init [.inr (.inr (some 32))] hh_65 (fun h' => h' = hh_65) := by
  show zEx none (d + 1) mX0_init (0, [(0, .inr (.inr (some 32)))], [], hh_65) _
  refine ex_aload_n (pc' := 1) dX0_init_0 rfl rfl ?_
  refine ex_obj (pc' := 4) dX0_init_1 ml_0_1 (by decide) rfl ?_
  exact ex_vretV dX0_init_4 rfl rfl
set_option maxRecDepth 20000 in
theorem kc_27 (d : Nat) : zCv (d + 1) mX0_init [.inr (.inr (some 33))] hh_67 (fun h' => h' = hh_67) := by
  show zEx none (d + 1) mX0_init (0, [(0, .inr (.inr (some 33)))], [], hh_67) _
  refine ex_aload_n (pc' := 1) dX0_init_0 rfl rfl ?_
  refine ex_obj (pc' := 4) dX0_init_1 ml_0_1 (by decide) rfl ?_
  exact ex_vretV dX0_init_4 rfl rfl
set_option maxRecDepth 20000 in
theorem kc_28 (d : Nat) : zCv (d + 1) mX8_init [.inr (.inr (some 34))] hh_69 (fun h' => h' = hh_69) := by
  show zEx none (d + 1) mX8_init (0, [(0, .inr (.inr (some 34)))], [], hh_69) _
  refine ex_aload_n (pc' := 1) dX8_init_0 rfl rfl ?_
  refine ex_obj (pc' := 4) dX8_init_1 ml_8_1 (by decide) rfl ?_
  exact ex_vretV dX8_init_4 rfl rfl
set_option maxRecDepth 20000 in
theorem kc_29 (d : Nat) : zCv (d + 1) mX8_init [.inr (.inr (some 35))] hh_71 (fun h' => h' = hh_71) := by
  show zEx none (d + 1) mX8_init (0, [(0, .inr (.inr (some 35)))], [], hh_71) _
  refine ex_aload_n (pc' := 1) dX8_init_0 rfl rfl ?_
  refine ex_obj (pc' := 4) dX8_init_1 ml_8_1 (by decide) rfl ?_
  exact ex_vretV dX8_init_4 rfl rfl
set_option maxRecDepth 20000 in
theorem kc_30 (d : Nat) : zCv (d + 1) mX8_init [.inr (.inr (some 36))] hh_73 (fun h' => h' = hh_73) := by
  show zEx none (d + 1) mX8_init (0, [(0, .inr (.inr (some 36)))], [], hh_73) _
  refine ex_aload_n (pc' := 1) dX8_init_0 rfl rfl ?_
  refine ex_obj (pc' := 4) dX8_init_1 ml_8_1 (by decide) rfl ?_
  exact ex_vretV dX8_init_4 rfl rfl
set_option maxRecDepth 20000 in
theorem kc_31 (d : Nat) : zCv (d + 1) mX8_init [.inr (.inr (some 37))] hh_75 (fun h' => h' = hh_75) := by
  show zEx none (d + 1) mX8_init (0, [(0, .inr (.inr (some 37)))], [], hh_75) _
  refine ex_aload_n (pc' := 1) dX8_init_0 rfl rfl ?_
  refine ex_obj (pc' := 4) dX8_init_1 ml_8_1 (by decide) rfl ?_
  exact ex_vretV dX8_init_4 rfl rfl
set_option maxRecDepth 20000 in
theorem kc_32 (d : Nat) : zCv (d + 1) mX8_init [.inr (.inr (some 38))] hh_77 (fun h' => h' = hh_77) := by
  show zEx none (d + 1) mX8_init (0, [(0, .inr (.inr (some 38)))], [], hh_77) _
  refine ex_aload_n (pc' := 1) dX8_init_0 rfl rfl ?_
  refine ex_obj (pc' := 4) dX8_init_1 ml_8_1 (by decide) rfl ?_
  exact ex_vretV dX8_init_4 rfl rfl
set_option maxRecDepth 20000 in
theorem kc_33 (d : Nat) : zCv (d + 1) mX8_init [.inr (.inr (some 39))] hh_79 (fun h' => h' = hh_79) := by
  show zEx none (d + 1) mX8_init (0, [(0, .inr (.inr (some 39)))], [], hh_79) _
  refine ex_aload_n (pc' := 1) dX8_init_0 rfl rfl ?_
  refine ex_obj (pc' := 4) dX8_init_1 ml_8_1 (by decide) rfl ?_
  exact ex_vretV dX8_init_4 rfl rfl
set_option maxRecDepth 20000 in
theorem kc_34 (d : Nat) : zCv (d + 1) mX8_init [.inr (.inr (some 40))] hh_81 (fun h' => h' = hh_81) := by
  show zEx none (d + 1) mX8_init (0, [(0, .inr (.inr (some 40)))], [], hh_81) _
  refine ex_aload_n (pc' := 1) dX8_init_0 rfl rfl ?_
  refine ex_obj (pc' := 4) dX8_init_1 ml_8_1 (by decide) rfl ?_
  exact ex_vretV dX8_init_4 rfl rfl
set_option maxRecDepth 20000 in
theorem kc_35 (d : Nat) : zCv (d + 1) mX8_init [.inr (.inr (some 41))] hh_83 (fun h' => h' = hh_83) := by
  show zEx none (d + 1) mX8_init (0, [(0, .inr (.inr (some 41)))], [], hh_83) _
  refine ex_aload_n (pc' := 1) dX8_init_0 rfl rfl ?_
  refine ex_obj (pc' := 4) dX8_init_1 ml_8_1 (by decide) rfl ?_
  exact ex_vretV dX8_init_4 rfl rfl
set_option maxRecDepth 20000 in
theorem kc_2 (d : Nat) : zCv (d + 2) mX4_init [.inr (.inr (some 2))] hh_6 (fun h' => h' = hh_84) := by
  show zEx none (d + 2) mX4_init (0, [(0, .inr (.inr (some 2)))], [], hh_6) _
  refine ex_aload_n (pc' := 1) dX4_init_0 rfl rfl ?_
  refine ex_obj (pc' := 4) dX4_init_1 ml_4_3 (by decide) rfl ?_
  refine ex_aload_n (pc' := 5) dX4_init_4 rfl rfl ?_
  refine ex_bipush (v := 7) (pc' := 7) dX4_init_5 (by decide) rfl ?_
  refine en_narrI (pc' := 9) (a := 3) (nn := 7) (h2 := hh_7) dX4_init_7 (by decide +kernel) rfl rfl ?_
  refine en_putR (pc' := 12) (n := 15) (h2 := hh_8) dX4_init_9 fl_4_9 (by decide +kernel) (by decide) (by decide) rfl rfl ?_
  refine ex_aload_n (pc' := 13) dX4_init_12 rfl rfl ?_
  refine ex_bipush (v := 7) (pc' := 15) dX4_init_13 (by decide) rfl ?_
  refine en_narrI (pc' := 17) (a := 4) (nn := 7) (h2 := hh_9) dX4_init_15 (by decide +kernel) rfl rfl ?_
  refine en_putR (pc' := 20) (n := 15) (h2 := hh_10) dX4_init_17 fl_4_15 (by decide +kernel) (by decide) (by decide) rfl rfl ?_
  refine ex_aload_n (pc' := 21) dX4_init_20 rfl rfl ?_
  refine ex_bipush (v := 12) (pc' := 23) dX4_init_21 (by decide) rfl ?_
  refine en_anarr (pc' := 26) (a := 5) (nn := 12) (ak := 19) (h2 := hh_11) dX4_init_23 kl_4_18 (by decide +kernel) rfl rfl ?_
  refine en_putR (pc' := 29) (n := 15) (h2 := hh_12) dX4_init_26 fl_4_20 (by decide +kernel) (by decide) (by decide) rfl rfl ?_
  refine ex_aload_n (pc' := 30) dX4_init_29 rfl rfl ?_
  refine ex_iconst (v := 5) (pc' := 31) dX4_init_30 (by decide) rfl ?_
  refine en_anarr (pc' := 34) (a := 6) (nn := 5) (ak := 20) (h2 := hh_13) dX4_init_31 kl_4_24 (by decide +kernel) rfl rfl ?_
  refine en_putR (pc' := 37) (n := 15) (h2 := hh_14) dX4_init_34 fl_4_26 (by decide +kernel) (by decide) (by decide) rfl rfl ?_
  refine ex_aload_n (pc' := 38) dX4_init_37 rfl rfl ?_
  refine ex_bipush (v := 8) (pc' := 40) dX4_init_38 (by decide) rfl ?_
  refine en_anarr (pc' := 43) (a := 7) (nn := 8) (ak := 16) (h2 := hh_15) dX4_init_40 kl_4_30 (by decide +kernel) rfl rfl ?_
  refine en_putR (pc' := 46) (n := 15) (h2 := hh_16) dX4_init_43 fl_4_32 (by decide +kernel) (by decide) (by decide) rfl rfl ?_
  refine ex_aload_n (pc' := 47) dX4_init_46 rfl rfl ?_
  refine ex_bipush (v := 8) (pc' := 49) dX4_init_47 (by decide) rfl ?_
  refine en_anarr (pc' := 52) (a := 8) (nn := 8) (ak := 18) (h2 := hh_17) dX4_init_49 kl_4_36 (by decide +kernel) rfl rfl ?_
  refine en_putR (pc' := 55) (n := 15) (h2 := hh_18) dX4_init_52 fl_4_38 (by decide +kernel) (by decide) (by decide) rfl rfl ?_
  refine ex_iconst (v := 0) (pc' := 56) dX4_init_55 (by decide) rfl ?_
  refine ex_istore_n (pc' := 57) (ls' := [(1, .inl 0), (0, .inr (.inr (some 2)))]) dX4_init_56 (by decide) rfl rfl ?_
  refine ex_iload_n (pc' := 58) dX4_init_57 rfl rfl ?_
  refine ex_bipush (v := 12) (pc' := 60) dX4_init_58 (by decide) rfl ?_
  refine ex_icmp_f (pc' := 63) dX4_init_60 (by decide) (by decide) rfl ?_
  refine ex_aload_n (pc' := 64) dX4_init_63 rfl rfl ?_
  refine ex_getR (pc' := 67) (n := 15) (r := 5) dX4_init_64 fl_4_20 (by decide +kernel) (by decide) (by decide +kernel) rfl ?_
  refine ex_iload_n (pc' := 68) dX4_init_67 rfl rfl ?_
  refine en_new (pc' := 71) (a := 9) (nf := 4) (h2 := hh_19) dX4_init_68 kl_4_18 (by decide +kernel) rfl rfl ?_
  refine ex_dup (pc' := 72) dX4_init_71 rfl rfl ?_
  refine en_calliV (pc' := 75) (a := 9) (n := 4) (h2 := hh_19) (vs := []) (rest := [.inr (.inr (some 9)), .inl 0, .inr (.inr (some 5))]) dX4_init_72 ml_4_42 (by decide) ⟨by decide, by decide⟩ rfl rfl (by decide +kernel) (by decide) (by decide) rfl (kc_3 _) ?_
  refine en_aast (pc' := 76) (kd := 19) (n := 12) (nv := 4) (jj := 0) (h2 := hh_20) dX4_init_75 (by decide +kernel) (by decide +kernel) (by decide) (by decide) rfl rfl ?_
  refine ex_iinc (pc' := 79) (v := 1) (ls' := [(1, .inl 1), (0, .inr (.inr (some 2)))]) dX4_init_76 rfl (by decide) (by decide) rfl rfl ?_
  refine ex_goto (pc' := 57) dX4_init_79 (by decide) ?_
  refine ex_iload_n (pc' := 58) dX4_init_57 rfl rfl ?_
  refine ex_bipush (v := 12) (pc' := 60) dX4_init_58 (by decide) rfl ?_
  refine ex_icmp_f (pc' := 63) dX4_init_60 (by decide) (by decide) rfl ?_
  refine ex_aload_n (pc' := 64) dX4_init_63 rfl rfl ?_
  refine ex_getR (pc' := 67) (n := 15) (r := 5) dX4_init_64 fl_4_20 (by decide +kernel) (by decide) (by decide +kernel) rfl ?_
  refine ex_iload_n (pc' := 68) dX4_init_67 rfl rfl ?_
  refine en_new (pc' := 71) (a := 10) (nf := 4) (h2 := hh_21) dX4_init_68 kl_4_18 (by decide +kernel) rfl rfl ?_
  refine ex_dup (pc' := 72) dX4_init_71 rfl rfl ?_
  refine en_calliV (pc' := 75) (a := 10) (n := 4) (h2 := hh_21) (vs := []) (rest := [.inr (.inr (some 10)), .inl 1, .inr (.inr (some 5))]) dX4_init_72 ml_4_42 (by decide) ⟨by decide, by decide⟩ rfl rfl (by decide +kernel) (by decide) (by decide) rfl (kc_4 _) ?_
  refine en_aast (pc' := 76) (kd := 19) (n := 12) (nv := 4) (jj := 1) (h2 := hh_22) dX4_init_75 (by decide +kernel) (by decide +kernel) (by decide) (by decide) rfl rfl ?_
  refine ex_iinc (pc' := 79) (v := 2) (ls' := [(1, .inl 2), (0, .inr (.inr (some 2)))]) dX4_init_76 rfl (by decide) (by decide) rfl rfl ?_
  refine ex_goto (pc' := 57) dX4_init_79 (by decide) ?_
  refine ex_iload_n (pc' := 58) dX4_init_57 rfl rfl ?_
  refine ex_bipush (v := 12) (pc' := 60) dX4_init_58 (by decide) rfl ?_
  refine ex_icmp_f (pc' := 63) dX4_init_60 (by decide) (by decide) rfl ?_
  refine ex_aload_n (pc' := 64) dX4_init_63 rfl rfl ?_
  refine ex_getR (pc' := 67) (n := 15) (r := 5) dX4_init_64 fl_4_20 (by decide +kernel) (by decide) (by decide +kernel) rfl ?_
  refine ex_iload_n (pc' := 68) dX4_init_67 rfl rfl ?_
  refine en_new (pc' := 71) (a := 11) (nf := 4) (h2 := hh_23) dX4_init_68 kl_4_18 (by decide +kernel) rfl rfl ?_
  refine ex_dup (pc' := 72) dX4_init_71 rfl rfl ?_
  refine en_calliV (pc' := 75) (a := 11) (n := 4) (h2 := hh_23) (vs := []) (rest := [.inr (.inr (some 11)), .inl 2, .inr (.inr (some 5))]) dX4_init_72 ml_4_42 (by decide) ⟨by decide, by decide⟩ rfl rfl (by decide +kernel) (by decide) (by decide) rfl (kc_5 _) ?_
  refine en_aast (pc' := 76) (kd := 19) (n := 12) (nv := 4) (jj := 2) (h2 := hh_24) dX4_init_75 (by decide +kernel) (by decide +kernel) (by decide) (by decide) rfl rfl ?_
  refine ex_iinc (pc' := 79) (v := 3) (ls' := [(1, .inl 3), (0, .inr (.inr (some 2)))]) dX4_init_76 rfl (by decide) (by decide) rfl rfl ?_
  refine ex_goto (pc' := 57) dX4_init_79 (by decide) ?_
  refine ex_iload_n (pc' := 58) dX4_init_57 rfl rfl ?_
  refine ex_bipush (v := 12) (pc' := 60) dX4_init_58 (by decide) rfl ?_
  refine ex_icmp_f (pc' := 63) dX4_init_60 (by decide) (by decide) rfl ?_
  refine ex_aload_n (pc' := 64) dX4_init_63 rfl rfl ?_
  refine ex_getR (pc' := 67) (n := 15) (r := 5) dX4_init_64 fl_4_20 (by decide +kernel) (by decide) (by decide +kernel) rfl ?_
  refine ex_iload_n (pc' := 68) dX4_init_67 rfl rfl ?_
  refine en_new (pc' := 71) (a := 12) (nf := 4) (h2 := hh_25) dX4_init_68 kl_4_18 (by decide +kernel) rfl rfl ?_
  refine ex_dup (pc' := 72) dX4_init_71 rfl rfl ?_
  refine en_calliV (pc' := 75) (a := 12) (n := 4) (h2 := hh_25) (vs := []) (rest := [.inr (.inr (some 12)), .inl 3, .inr (.inr (some 5))]) dX4_init_72 ml_4_42 (by decide) ⟨by decide, by decide⟩ rfl rfl (by decide +kernel) (by decide) (by decide) rfl (kc_6 _) ?_
  refine en_aast (pc' := 76) (kd := 19) (n := 12) (nv := 4) (jj := 3) (h2 := hh_26) dX4_init_75 (by decide +kernel) (by decide +kernel) (by decide) (by decide) rfl rfl ?_
  refine ex_iinc (pc' := 79) (v := 4) (ls' := [(1, .inl 4), (0, .inr (.inr (some 2)))]) dX4_init_76 rfl (by decide) (by decide) rfl rfl ?_
  refine ex_goto (pc' := 57) dX4_init_79 (by decide) ?_
  refine ex_iload_n (pc' := 58) dX4_init_57 rfl rfl ?_
  refine ex_bipush (v := 12) (pc' := 60) dX4_init_58 (by decide) rfl ?_
  refine ex_icmp_f (pc' := 63) dX4_init_60 (by decide) (by decide) rfl ?_
  refine ex_aload_n (pc' := 64) dX4_init_63 rfl rfl ?_
  refine ex_getR (pc' := 67) (n := 15) (r := 5) dX4_init_64 fl_4_20 (by decide +kernel) (by decide) (by decide +kernel) rfl ?_
  refine ex_iload_n (pc' := 68) dX4_init_67 rfl rfl ?_
  refine en_new (pc' := 71) (a := 13) (nf := 4) (h2 := hh_27) dX4_init_68 kl_4_18 (by decide +kernel) rfl rfl ?_
  refine ex_dup (pc' := 72) dX4_init_71 rfl rfl ?_
  refine en_calliV (pc' := 75) (a := 13) (n := 4) (h2 := hh_27) (vs := []) (rest := [.inr (.inr (some 13)), .inl 4, .inr (.inr (some 5))]) dX4_init_72 ml_4_42 (by decide) ⟨by decide, by decide⟩ rfl rfl (by decide +kernel) (by decide) (by decide) rfl (kc_7 _) ?_
  refine en_aast (pc' := 76) (kd := 19) (n := 12) (nv := 4) (jj := 4) (h2 := hh_28) dX4_init_75 (by decide +kernel) (by decide +kernel) (by decide) (by decide) rfl rfl ?_
  refine ex_iinc (pc' := 79) (v := 5) (ls' := [(1, .inl 5), (0, .inr (.inr (some 2)))]) dX4_init_76 rfl (by decide) (by decide) rfl rfl ?_
  refine ex_goto (pc' := 57) dX4_init_79 (by decide) ?_
  refine ex_iload_n (pc' := 58) dX4_init_57 rfl rfl ?_
  refine ex_bipush (v := 12) (pc' := 60) dX4_init_58 (by decide) rfl ?_
  refine ex_icmp_f (pc' := 63) dX4_init_60 (by decide) (by decide) rfl ?_
  refine ex_aload_n (pc' := 64) dX4_init_63 rfl rfl ?_
  refine ex_getR (pc' := 67) (n := 15) (r := 5) dX4_init_64 fl_4_20 (by decide +kernel) (by decide) (by decide +kernel) rfl ?_
  refine ex_iload_n (pc' := 68) dX4_init_67 rfl rfl ?_
  refine en_new (pc' := 71) (a := 14) (nf := 4) (h2 := hh_29) dX4_init_68 kl_4_18 (by decide +kernel) rfl rfl ?_
  refine ex_dup (pc' := 72) dX4_init_71 rfl rfl ?_
  refine en_calliV (pc' := 75) (a := 14) (n := 4) (h2 := hh_29) (vs := []) (rest := [.inr (.inr (some 14)), .inl 5, .inr (.inr (some 5))]) dX4_init_72 ml_4_42 (by decide) ⟨by decide, by decide⟩ rfl rfl (by decide +kernel) (by decide) (by decide) rfl (kc_8 _) ?_
  refine en_aast (pc' := 76) (kd := 19) (n := 12) (nv := 4) (jj := 5) (h2 := hh_30) dX4_init_75 (by decide +kernel) (by decide +kernel) (by decide) (by decide) rfl rfl ?_
  refine ex_iinc (pc' := 79) (v := 6) (ls' := [(1, .inl 6), (0, .inr (.inr (some 2)))]) dX4_init_76 rfl (by decide) (by decide) rfl rfl ?_
  refine ex_goto (pc' := 57) dX4_init_79 (by decide) ?_
  refine ex_iload_n (pc' := 58) dX4_init_57 rfl rfl ?_
  refine ex_bipush (v := 12) (pc' := 60) dX4_init_58 (by decide) rfl ?_
  refine ex_icmp_f (pc' := 63) dX4_init_60 (by decide) (by decide) rfl ?_
  refine ex_aload_n (pc' := 64) dX4_init_63 rfl rfl ?_
  refine ex_getR (pc' := 67) (n := 15) (r := 5) dX4_init_64 fl_4_20 (by decide +kernel) (by decide) (by decide +kernel) rfl ?_
  refine ex_iload_n (pc' := 68) dX4_init_67 rfl rfl ?_
  refine en_new (pc' := 71) (a := 15) (nf := 4) (h2 := hh_31) dX4_init_68 kl_4_18 (by decide +kernel) rfl rfl ?_
  refine ex_dup (pc' := 72) dX4_init_71 rfl rfl ?_
  refine en_calliV (pc' := 75) (a := 15) (n := 4) (h2 := hh_31) (vs := []) (rest := [.inr (.inr (some 15)), .inl 6, .inr (.inr (some 5))]) dX4_init_72 ml_4_42 (by decide) ⟨by decide, by decide⟩ rfl rfl (by decide +kernel) (by decide) (by decide) rfl (kc_9 _) ?_
  refine en_aast (pc' := 76) (kd := 19) (n := 12) (nv := 4) (jj := 6) (h2 := hh_32) dX4_init_75 (by decide +kernel) (by decide +kernel) (by decide) (by decide) rfl rfl ?_
  refine ex_iinc (pc' := 79) (v := 7) (ls' := [(1, .inl 7), (0, .inr (.inr (some 2)))]) dX4_init_76 rfl (by decide) (by decide) rfl rfl ?_
  refine ex_goto (pc' := 57) dX4_init_79 (by decide) ?_
  refine ex_iload_n (pc' := 58) dX4_init_57 rfl rfl ?_
  refine ex_bipush (v := 12) (pc' := 60) dX4_init_58 (by decide) rfl ?_
  refine ex_icmp_f (pc' := 63) dX4_init_60 (by decide) (by decide) rfl ?_
  refine ex_aload_n (pc' := 64) dX4_init_63 rfl rfl ?_
  refine ex_getR (pc' := 67) (n := 15) (r := 5) dX4_init_64 fl_4_20 (by decide +kernel) (by decide) (by decide +kernel) rfl ?_
  refine ex_iload_n (pc' := 68) dX4_init_67 rfl rfl ?_
  refine en_new (pc' := 71) (a := 16) (nf := 4) (h2 := hh_33) dX4_init_68 kl_4_18 (by decide +kernel) rfl rfl ?_
  refine ex_dup (pc' := 72) dX4_init_71 rfl rfl ?_
  refine en_calliV (pc' := 75) (a := 16) (n := 4) (h2 := hh_33) (vs := []) (rest := [.inr (.inr (some 16)), .inl 7, .inr (.inr (some 5))]) dX4_init_72 ml_4_42 (by decide) ⟨by decide, by decide⟩ rfl rfl (by decide +kernel) (by decide) (by decide) rfl (kc_10 _) ?_
  refine en_aast (pc' := 76) (kd := 19) (n := 12) (nv := 4) (jj := 7) (h2 := hh_34) dX4_init_75 (by decide +kernel) (by decide +kernel) (by decide) (by decide) rfl rfl ?_
  refine ex_iinc (pc' := 79) (v := 8) (ls' := [(1, .inl 8), (0, .inr (.inr (some 2)))]) dX4_init_76 rfl (by decide) (by decide) rfl rfl ?_
  refine ex_goto (pc' := 57) dX4_init_79 (by decide) ?_
  refine ex_iload_n (pc' := 58) dX4_init_57 rfl rfl ?_
  refine ex_bipush (v := 12) (pc' := 60) dX4_init_58 (by decide) rfl ?_
  refine ex_icmp_f (pc' := 63) dX4_init_60 (by decide) (by decide) rfl ?_
  refine ex_aload_n (pc' := 64) dX4_init_63 rfl rfl ?_
  refine ex_getR (pc' := 67) (n := 15) (r := 5) dX4_init_64 fl_4_20 (by decide +kernel) (by decide) (by decide +kernel) rfl ?_
  refine ex_iload_n (pc' := 68) dX4_init_67 rfl rfl ?_
  refine en_new (pc' := 71) (a := 17) (nf := 4) (h2 := hh_35) dX4_init_68 kl_4_18 (by decide +kernel) rfl rfl ?_
  refine ex_dup (pc' := 72) dX4_init_71 rfl rfl ?_
  refine en_calliV (pc' := 75) (a := 17) (n := 4) (h2 := hh_35) (vs := []) (rest := [.inr (.inr (some 17)), .inl 8, .inr (.inr (some 5))]) dX4_init_72 ml_4_42 (by decide) ⟨by decide, by decide⟩ rfl rfl (by decide +kernel) (by decide) (by decide) rfl (kc_11 _) ?_
  refine en_aast (pc' := 76) (kd := 19) (n := 12) (nv := 4) (jj := 8) (h2 := hh_36) dX4_init_75 (by decide +kernel) (by decide +kernel) (by decide) (by decide) rfl rfl ?_
  refine ex_iinc (pc' := 79) (v := 9) (ls' := [(1, .inl 9), (0, .inr (.inr (some 2)))]) dX4_init_76 rfl (by decide) (by decide) rfl rfl ?_
  refine ex_goto (pc' := 57) dX4_init_79 (by decide) ?_
  refine ex_iload_n (pc' := 58) dX4_init_57 rfl rfl ?_
  refine ex_bipush (v := 12) (pc' := 60) dX4_init_58 (by decide) rfl ?_
  refine ex_icmp_f (pc' := 63) dX4_init_60 (by decide) (by decide) rfl ?_
  refine ex_aload_n (pc' := 64) dX4_init_63 rfl rfl ?_
  refine ex_getR (pc' := 67) (n := 15) (r := 5) dX4_init_64 fl_4_20 (by decide +kernel) (by decide) (by decide +kernel) rfl ?_
  refine ex_iload_n (pc' := 68) dX4_init_67 rfl rfl ?_
  refine en_new (pc' := 71) (a := 18) (nf := 4) (h2 := hh_37) dX4_init_68 kl_4_18 (by decide +kernel) rfl rfl ?_
  refine ex_dup (pc' := 72) dX4_init_71 rfl rfl ?_
  refine en_calliV (pc' := 75) (a := 18) (n := 4) (h2 := hh_37) (vs := []) (rest := [.inr (.inr (some 18)), .inl 9, .inr (.inr (some 5))]) dX4_init_72 ml_4_42 (by decide) ⟨by decide, by decide⟩ rfl rfl (by decide +kernel) (by decide) (by decide) rfl (kc_12 _) ?_
  refine en_aast (pc' := 76) (kd := 19) (n := 12) (nv := 4) (jj := 9) (h2 := hh_38) dX4_init_75 (by decide +kernel) (by decide +kernel) (by decide) (by decide) rfl rfl ?_
  refine ex_iinc (pc' := 79) (v := 10) (ls' := [(1, .inl 10), (0, .inr (.inr (some 2)))]) dX4_init_76 rfl (by decide) (by decide) rfl rfl ?_
  refine ex_goto (pc' := 57) dX4_init_79 (by decide) ?_
  refine ex_iload_n (pc' := 58) dX4_init_57 rfl rfl ?_
  refine ex_bipush (v := 12) (pc' := 60) dX4_init_58 (by decide) rfl ?_
  refine ex_icmp_f (pc' := 63) dX4_init_60 (by decide) (by decide) rfl ?_
  refine ex_aload_n (pc' := 64) dX4_init_63 rfl rfl ?_
  refine ex_getR (pc' := 67) (n := 15) (r := 5) dX4_init_64 fl_4_20 (by decide +kernel) (by decide) (by decide +kernel) rfl ?_
  refine ex_iload_n (pc' := 68) dX4_init_67 rfl rfl ?_
  refine en_new (pc' := 71) (a := 19) (nf := 4) (h2 := hh_39) dX4_init_68 kl_4_18 (by decide +kernel) rfl rfl ?_
  refine ex_dup (pc' := 72) dX4_init_71 rfl rfl ?_
  refine en_calliV (pc' := 75) (a := 19) (n := 4) (h2 := hh_39) (vs := []) (rest := [.inr (.inr (some 19)), .inl 10, .inr (.inr (some 5))]) dX4_init_72 ml_4_42 (by decide) ⟨by decide, by decide⟩ rfl rfl (by decide +kernel) (by decide) (by decide) rfl (kc_13 _) ?_
  refine en_aast (pc' := 76) (kd := 19) (n := 12) (nv := 4) (jj := 10) (h2 := hh_40) dX4_init_75 (by decide +kernel) (by decide +kernel) (by decide) (by decide) rfl rfl ?_
  refine ex_iinc (pc' := 79) (v := 11) (ls' := [(1, .inl 11), (0, .inr (.inr (some 2)))]) dX4_init_76 rfl (by decide) (by decide) rfl rfl ?_
  refine ex_goto (pc' := 57) dX4_init_79 (by decide) ?_
  refine ex_iload_n (pc' := 58) dX4_init_57 rfl rfl ?_
  refine ex_bipush (v := 12) (pc' := 60) dX4_init_58 (by decide) rfl ?_
  refine ex_icmp_f (pc' := 63) dX4_init_60 (by decide) (by decide) rfl ?_
  refine ex_aload_n (pc' := 64) dX4_init_63 rfl rfl ?_
  refine ex_getR (pc' := 67) (n := 15) (r := 5) dX4_init_64 fl_4_20 (by decide +kernel) (by decide) (by decide +kernel) rfl ?_
  refine ex_iload_n (pc' := 68) dX4_init_67 rfl rfl ?_
  refine en_new (pc' := 71) (a := 20) (nf := 4) (h2 := hh_41) dX4_init_68 kl_4_18 (by decide +kernel) rfl rfl ?_
  refine ex_dup (pc' := 72) dX4_init_71 rfl rfl ?_
  refine en_calliV (pc' := 75) (a := 20) (n := 4) (h2 := hh_41) (vs := []) (rest := [.inr (.inr (some 20)), .inl 11, .inr (.inr (some 5))]) dX4_init_72 ml_4_42 (by decide) ⟨by decide, by decide⟩ rfl rfl (by decide +kernel) (by decide) (by decide) rfl (kc_14 _) ?_
  refine en_aast (pc' := 76) (kd := 19) (n := 12) (nv := 4) (jj := 11) (h2 := hh_42) dX4_init_75 (by decide +kernel) (by decide +kernel) (by decide) (by decide) rfl rfl ?_
  refine ex_iinc (pc' := 79) (v := 12) (ls' := [(1, .inl 12), (0, .inr (.inr (some 2)))]) dX4_init_76 rfl (by decide) (by decide) rfl rfl ?_
  refine ex_goto (pc' := 57) dX4_init_79 (by decide) ?_
  refine ex_iload_n (pc' := 58) dX4_init_57 rfl rfl ?_
  refine ex_bipush (v := 12) (pc' := 60) dX4_init_58 (by decide) rfl ?_
  refine ex_icmp_t (pc' := 82) dX4_init_60 (by decide) (by decide) ?_
  refine ex_iconst (v := 0) (pc' := 83) dX4_init_82 (by decide) rfl ?_
  refine ex_istore_n (pc' := 84) (ls' := [(1, .inl 0), (0, .inr (.inr (some 2)))]) dX4_init_83 (by decide) rfl rfl ?_
  refine ex_iload_n (pc' := 85) dX4_init_84 rfl rfl ?_
  refine ex_iconst (v := 5) (pc' := 86) dX4_init_85 (by decide) rfl ?_
  refine ex_icmp_f (pc' := 89) dX4_init_86 (by decide) (by decide) rfl ?_
  refine ex_aload_n (pc' := 90) dX4_init_89 rfl rfl ?_
  refine ex_getR (pc' := 93) (n := 15) (r := 6) dX4_init_90 fl_4_26 (by decide +kernel) (by decide) (by decide +kernel) rfl ?_
  refine ex_iload_n (pc' := 94) dX4_init_93 rfl rfl ?_
  refine en_new (pc' := 97) (a := 21) (nf := 4) (h2 := hh_43) dX4_init_94 kl_4_24 (by decide +kernel) rfl rfl ?_
  refine ex_dup (pc' := 98) dX4_init_97 rfl rfl ?_
  refine en_calliV (pc' := 101) (a := 21) (n := 4) (h2 := hh_43) (vs := []) (rest := [.inr (.inr (some 21)), .inl 0, .inr (.inr (some 6))]) dX4_init_98 ml_4_43 (by decide) ⟨by decide, by decide⟩ rfl rfl (by decide +kernel) (by decide) (by decide) rfl (kc_15 _) ?_
  refine en_aast (pc' := 102) (kd := 20) (n := 5) (nv := 4) (jj := 0) (h2 := hh_44) dX4_init_101 (by decide +kernel) (by decide +kernel) (by decide) (by decide) rfl rfl ?_
  refine ex_iinc (pc' := 105) (v := 1) (ls' := [(1, .inl 1), (0, .inr (.inr (some 2)))]) dX4_init_102 rfl (by decide) (by decide) rfl rfl ?_
  refine ex_goto (pc' := 84) dX4_init_105 (by decide) ?_
  refine ex_iload_n (pc' := 85) dX4_init_84 rfl rfl ?_
  refine ex_iconst (v := 5) (pc' := 86) dX4_init_85 (by decide) rfl ?_
  refine ex_icmp_f (pc' := 89) dX4_init_86 (by decide) (by decide) rfl ?_
  refine ex_aload_n (pc' := 90) dX4_init_89 rfl rfl ?_
  refine ex_getR (pc' := 93) (n := 15) (r := 6) dX4_init_90 fl_4_26 (by decide +kernel) (by decide) (by decide +kernel) rfl ?_
  refine ex_iload_n (pc' := 94) dX4_init_93 rfl rfl ?_
  refine en_new (pc' := 97) (a := 22) (nf := 4) (h2 := hh_45) dX4_init_94 kl_4_24 (by decide +kernel) rfl rfl ?_
  refine ex_dup (pc' := 98) dX4_init_97 rfl rfl ?_
  refine en_calliV (pc' := 101) (a := 22) (n := 4) (h2 := hh_45) (vs := []) (rest := [.inr (.inr (some 22)), .inl 1, .inr (.inr (some 6))]) dX4_init_98 ml_4_43 (by decide) ⟨by decide, by decide⟩ rfl rfl (by decide +kernel) (by decide) (by decide) rfl (kc_16 _) ?_
  refine en_aast (pc' := 102) (kd := 20) (n := 5) (nv := 4) (jj := 1) (h2 := hh_46) dX4_init_101 (by decide +kernel) (by decide +kernel) (by decide) (by decide) rfl rfl ?_
  refine ex_iinc (pc' := 105) (v := 2) (ls' := [(1, .inl 2), (0, .inr (.inr (some 2)))]) dX4_init_102 rfl (by decide) (by decide) rfl rfl ?_
  refine ex_goto (pc' := 84) dX4_init_105 (by decide) ?_
  refine ex_iload_n (pc' := 85) dX4_init_84 rfl rfl ?_
  refine ex_iconst (v := 5) (pc' := 86) dX4_init_85 (by decide) rfl ?_
  refine ex_icmp_f (pc' := 89) dX4_init_86 (by decide) (by decide) rfl ?_
  refine ex_aload_n (pc' := 90) dX4_init_89 rfl rfl ?_
  refine ex_getR (pc' := 93) (n := 15) (r := 6) dX4_init_90 fl_4_26 (by decide +kernel) (by decide) (by decide +kernel) rfl ?_
  refine ex_iload_n (pc' := 94) dX4_init_93 rfl rfl ?_
  refine en_new (pc' := 97) (a := 23) (nf := 4) (h2 := hh_47) dX4_init_94 kl_4_24 (by decide +kernel) rfl rfl ?_
  refine ex_dup (pc' := 98) dX4_init_97 rfl rfl ?_
  refine en_calliV (pc' := 101) (a := 23) (n := 4) (h2 := hh_47) (vs := []) (rest := [.inr (.inr (some 23)), .inl 2, .inr (.inr (some 6))]) dX4_init_98 ml_4_43 (by decide) ⟨by decide, by decide⟩ rfl rfl (by decide +kernel) (by decide) (by decide) rfl (kc_17 _) ?_
  refine en_aast (pc' := 102) (kd := 20) (n := 5) (nv := 4) (jj := 2) (h2 := hh_48) dX4_init_101 (by decide +kernel) (by decide +kernel) (by decide) (by decide) rfl rfl ?_
  refine ex_iinc (pc' := 105) (v := 3) (ls' := [(1, .inl 3), (0, .inr (.inr (some 2)))]) dX4_init_102 rfl (by decide) (by decide) rfl rfl ?_
  refine ex_goto (pc' := 84) dX4_init_105 (by decide) ?_
  refine ex_iload_n (pc' := 85) dX4_init_84 rfl rfl ?_
  refine ex_iconst (v := 5) (pc' := 86) dX4_init_85 (by decide) rfl ?_
  refine ex_icmp_f (pc' := 89) dX4_init_86 (by decide) (by decide) rfl ?_
  refine ex_aload_n (pc' := 90) dX4_init_89 rfl rfl ?_
  refine ex_getR (pc' := 93) (n := 15) (r := 6) dX4_init_90 fl_4_26 (by decide +kernel) (by decide) (by decide +kernel) rfl ?_
  refine ex_iload_n (pc' := 94) dX4_init_93 rfl rfl ?_
  refine en_new (pc' := 97) (a := 24) (nf := 4) (h2 := hh_49) dX4_init_94 kl_4_24 (by decide +kernel) rfl rfl ?_
  refine ex_dup (pc' := 98) dX4_init_97 rfl rfl ?_
  refine en_calliV (pc' := 101) (a := 24) (n := 4) (h2 := hh_49) (vs := []) (rest := [.inr (.inr (some 24)), .inl 3, .inr (.inr (some 6))]) dX4_init_98 ml_4_43 (by decide) ⟨by decide, by decide⟩ rfl rfl (by decide +kernel) (by decide) (by decide) rfl (kc_18 _) ?_
  refine en_aast (pc' := 102) (kd := 20) (n := 5) (nv := 4) (jj := 3) (h2 := hh_50) dX4_init_101 (by decide +kernel) (by decide +kernel) (by decide) (by decide) rfl rfl ?_
  refine ex_iinc (pc' := 105) (v := 4) (ls' := [(1, .inl 4), (0, .inr (.inr (some 2)))]) dX4_init_102 rfl (by decide) (by decide) rfl rfl ?_
  refine ex_goto (pc' := 84) dX4_init_105 (by decide) ?_
  refine ex_iload_n (pc' := 85) dX4_init_84 rfl rfl ?_
  refine ex_iconst (v := 5) (pc' := 86) dX4_init_85 (by decide) rfl ?_
  refine ex_icmp_f (pc' := 89) dX4_init_86 (by decide) (by decide) rfl ?_
  refine ex_aload_n (pc' := 90) dX4_init_89 rfl rfl ?_
  refine ex_getR (pc' := 93) (n := 15) (r := 6) dX4_init_90 fl_4_26 (by decide +kernel) (by decide) (by decide +kernel) rfl ?_
  refine ex_iload_n (pc' := 94) dX4_init_93 rfl rfl ?_
  refine en_new (pc' := 97) (a := 25) (nf := 4) (h2 := hh_51) dX4_init_94 kl_4_24 (by decide +kernel) rfl rfl ?_
  refine ex_dup (pc' := 98) dX4_init_97 rfl rfl ?_
  refine en_calliV (pc' := 101) (a := 25) (n := 4) (h2 := hh_51) (vs := []) (rest := [.inr (.inr (some 25)), .inl 4, .inr (.inr (some 6))]) dX4_init_98 ml_4_43 (by decide) ⟨by decide, by decide⟩ rfl rfl (by decide +kernel) (by decide) (by decide) rfl (kc_19 _) ?_
  refine en_aast (pc' := 102) (kd := 20) (n := 5) (nv := 4) (jj := 4) (h2 := hh_52) dX4_init_101 (by decide +kernel) (by decide +kernel) (by decide) (by decide) rfl rfl ?_
  refine ex_iinc (pc' := 105) (v := 5) (ls' := [(1, .inl 5), (0, .inr (.inr (some 2)))]) dX4_init_102 rfl (by decide) (by decide) rfl rfl ?_
  refine ex_goto (pc' := 84) dX4_init_105 (by decide) ?_
  refine ex_iload_n (pc' := 85) dX4_init_84 rfl rfl ?_
  refine ex_iconst (v := 5) (pc' := 86) dX4_init_85 (by decide) rfl ?_
  refine ex_icmp_t (pc' := 108) dX4_init_86 (by decide) (by decide) ?_
  refine ex_iconst (v := 0) (pc' := 109) dX4_init_108 (by decide) rfl ?_
  refine ex_istore_n (pc' := 110) (ls' := [(1, .inl 0), (0, .inr (.inr (some 2)))]) dX4_init_109 (by decide) rfl rfl ?_
  refine ex_iload_n (pc' := 111) dX4_init_110 rfl rfl ?_
  refine ex_bipush (v := 8) (pc' := 113) dX4_init_111 (by decide) rfl ?_
  refine ex_icmp_f (pc' := 116) dX4_init_113 (by decide) (by decide) rfl ?_
  refine ex_aload_n (pc' := 117) dX4_init_116 rfl rfl ?_
  refine ex_getR (pc' := 120) (n := 15) (r := 7) dX4_init_117 fl_4_32 (by decide +kernel) (by decide) (by decide +kernel) rfl ?_
  refine ex_iload_n (pc' := 121) dX4_init_120 rfl rfl ?_
  refine en_new (pc' := 124) (a := 26) (nf := 4) (h2 := hh_53) dX4_init_121 kl_4_30 (by decide +kernel) rfl rfl ?_
  refine ex_dup (pc' := 125) dX4_init_124 rfl rfl ?_
  refine en_calliV (pc' := 128) (a := 26) (n := 4) (h2 := hh_53) (vs := []) (rest := [.inr (.inr (some 26)), .inl 0, .inr (.inr (some 7))]) dX4_init_125 ml_4_44 (by decide) ⟨by decide, by decide⟩ rfl rfl (by decide +kernel) (by decide) (by decide) rfl (kc_20 _) ?_
  refine en_aast (pc' := 129) (kd := 16) (n := 8) (nv := 4) (jj := 0) (h2 := hh_54) dX4_init_128 (by decide +kernel) (by decide +kernel) (by decide) (by decide) rfl rfl ?_
  refine ex_iinc (pc' := 132) (v := 1) (ls' := [(1, .inl 1), (0, .inr (.inr (some 2)))]) dX4_init_129 rfl (by decide) (by decide) rfl rfl ?_
  refine ex_goto (pc' := 110) dX4_init_132 (by decide) ?_
  refine ex_iload_n (pc' := 111) dX4_init_110 rfl rfl ?_
  refine ex_bipush (v := 8) (pc' := 113) dX4_init_111 (by decide) rfl ?_
  refine ex_icmp_f (pc' := 116) dX4_init_113 (by decide) (by decide) rfl ?_
  refine ex_aload_n (pc' := 117) dX4_init_116 rfl rfl ?_
  refine ex_getR (pc' := 120) (n := 15) (r := 7) dX4_init_117 fl_4_32 (by decide +kernel) (by decide) (by decide +kernel) rfl ?_
  refine ex_iload_n (pc' := 121) dX4_init_120 rfl rfl ?_
  refine en_new (pc' := 124) (a := 27) (nf := 4) (h2 := hh_55) dX4_init_121 kl_4_30 (by decide +kernel) rfl rfl ?_
  refine ex_dup (pc' := 125) dX4_init_124 rfl rfl ?_
  refine en_calliV (pc' := 128) (a := 27) (n := 4) (h2 := hh_55) (vs := []) (rest := [.inr (.inr (some 27)), .inl 1, .inr (.inr (some 7))]) dX4_init_125 ml_4_44 (by decide) ⟨by decide, by decide⟩ rfl rfl (by decide +kernel) (by decide) (by decide) rfl (kc_21 _) ?_
  refine en_aast (pc' := 129) (kd := 16) (n := 8) (nv := 4) (jj := 1) (h2 := hh_56) dX4_init_128 (by decide +kernel) (by decide +kernel) (by decide) (by decide) rfl rfl ?_
  refine ex_iinc (pc' := 132) (v := 2) (ls' := [(1, .inl 2), (0, .inr (.inr (some 2)))]) dX4_init_129 rfl (by decide) (by decide) rfl rfl ?_
  refine ex_goto (pc' := 110) dX4_init_132 (by decide) ?_
  refine ex_iload_n (pc' := 111) dX4_init_110 rfl rfl ?_
  refine ex_bipush (v := 8) (pc' := 113) dX4_init_111 (by decide) rfl ?_
  refine ex_icmp_f (pc' := 116) dX4_init_113 (by decide) (by decide) rfl ?_
  refine ex_aload_n (pc' := 117) dX4_init_116 rfl rfl ?_
  refine ex_getR (pc' := 120) (n := 15) (r := 7) dX4_init_117 fl_4_32 (by decide +kernel) (by decide) (by decide +kernel) rfl ?_
  refine ex_iload_n (pc' := 121) dX4_init_120 rfl rfl ?_
  refine en_new (pc' := 124) (a := 28) (nf := 4) (h2 := hh_57) dX4_init_121 kl_4_30 (by decide +kernel) rfl rfl ?_
  refine ex_dup (pc' := 125) dX4_init_124 rfl rfl ?_
  refine en_calliV (pc' := 128) (a := 28) (n := 4) (h2 := hh_57) (vs := []) (rest := [.inr (.inr (some 28)), .inl 2, .inr (.inr (some 7))]) dX4_init_125 ml_4_44 (by decide) ⟨by decide, by decide⟩ rfl rfl (by decide +kernel) (by decide) (by decide) rfl (kc_22 _) ?_
  refine en_aast (pc' := 129) (kd := 16) (n := 8) (nv := 4) (jj := 2) (h2 := hh_58) dX4_init_128 (by decide +kernel) (by decide +kernel) (by decide) (by decide) rfl rfl ?_
  refine ex_iinc (pc' := 132) (v := 3) (ls' := [(1, .inl 3), (0, .inr (.inr (some 2)))]) dX4_init_129 rfl (by decide) (by decide) rfl rfl ?_
  refine ex_goto (pc' := 110) dX4_init_132 (by decide) ?_
  refine ex_iload_n (pc' := 111) dX4_init_110 rfl rfl ?_
  refine ex_bipush (v := 8) (pc' := 113) dX4_init_111 (by decide) rfl ?_
  refine ex_icmp_f (pc' := 116) dX4_init_113 (by decide) (by decide) rfl ?_
  refine ex_aload_n (pc' := 117) dX4_init_116 rfl rfl ?_
  refine ex_getR (pc' := 120) (n := 15) (r := 7) dX4_init_117 fl_4_32 (by decide +kernel) (by decide) (by decide +kernel) rfl ?_
  refine ex_iload_n (pc' := 121) dX4_init_120 rfl rfl ?_
  refine en_new (pc' := 124) (a := 29) (nf := 4) (h2 := hh_59) dX4_init_121 kl_4_30 (by decide +kernel) rfl rfl ?_
  refine ex_dup (pc' := 125) dX4_init_124 rfl rfl ?_
  refine en_calliV (pc' := 128) (a := 29) (n := 4) (h2 := hh_59) (vs := []) (rest := [.inr (.inr (some 29)), .inl 3, .inr (.inr (some 7))]) dX4_init_125 ml_4_44 (by decide) ⟨by decide, by decide⟩ rfl rfl (by decide +kernel) (by decide) (by decide) rfl (kc_23 _) ?_
  refine en_aast (pc' := 129) (kd := 16) (n := 8) (nv := 4) (jj := 3) (h2 := hh_60) dX4_init_128 (by decide +kernel) (by decide +kernel) (by decide) (by decide) rfl rfl ?_
  refine ex_iinc (pc' := 132) (v := 4) (ls' := [(1, .inl 4), (0, .inr (.inr (some 2)))]) dX4_init_129 rfl (by decide) (by decide) rfl rfl ?_
  refine ex_goto (pc' := 110) dX4_init_132 (by decide) ?_
  refine ex_iload_n (pc' := 111) dX4_init_110 rfl rfl ?_
  refine ex_bipush (v := 8) (pc' := 113) dX4_init_111 (by decide) rfl ?_
  refine ex_icmp_f (pc' := 116) dX4_init_113 (by decide) (by decide) rfl ?_
  refine ex_aload_n (pc' := 117) dX4_init_116 rfl rfl ?_
  refine ex_getR (pc' := 120) (n := 15) (r := 7) dX4_init_117 fl_4_32 (by decide +kernel) (by decide) (by decide +kernel) rfl ?_
  refine ex_iload_n (pc' := 121) dX4_init_120 rfl rfl ?_
  refine en_new (pc' := 124) (a := 30) (nf := 4) (h2 := hh_61) dX4_init_121 kl_4_30 (by decide +kernel) rfl rfl ?_
  refine ex_dup (pc' := 125) dX4_init_124 rfl rfl ?_
  refine en_calliV (pc' := 128) (a := 30) (n := 4) (h2 := hh_61) (vs := []) (rest := [.inr (.inr (some 30)), .inl 4, .inr (.inr (some 7))]) dX4_init_125 ml_4_44 (by decide) ⟨by decide, by decide⟩ rfl rfl (by decide +kernel) (by decide) (by decide) rfl (kc_24 _) ?_
  refine en_aast (pc' := 129) (kd := 16) (n := 8) (nv := 4) (jj := 4) (h2 := hh_62) dX4_init_128 (by decide +kernel) (by decide +kernel) (by decide) (by decide) rfl rfl ?_
  refine ex_iinc (pc' := 132) (v := 5) (ls' := [(1, .inl 5), (0, .inr (.inr (some 2)))]) dX4_init_129 rfl (by decide) (by decide) rfl rfl ?_
  refine ex_goto (pc' := 110) dX4_init_132 (by decide) ?_
  refine ex_iload_n (pc' := 111) dX4_init_110 rfl rfl ?_
  refine ex_bipush (v := 8) (pc' := 113) dX4_init_111 (by decide) rfl ?_
  refine ex_icmp_f (pc' := 116) dX4_init_113 (by decide) (by decide) rfl ?_
  refine ex_aload_n (pc' := 117) dX4_init_116 rfl rfl ?_
  refine ex_getR (pc' := 120) (n := 15) (r := 7) dX4_init_117 fl_4_32 (by decide +kernel) (by decide) (by decide +kernel) rfl ?_
  refine ex_iload_n (pc' := 121) dX4_init_120 rfl rfl ?_
  refine en_new (pc' := 124) (a := 31) (nf := 4) (h2 := hh_63) dX4_init_121 kl_4_30 (by decide +kernel) rfl rfl ?_
  refine ex_dup (pc' := 125) dX4_init_124 rfl rfl ?_
  refine en_calliV (pc' := 128) (a := 31) (n := 4) (h2 := hh_63) (vs := []) (rest := [.inr (.inr (some 31)), .inl 5, .inr (.inr (some 7))]) dX4_init_125 ml_4_44 (by decide) ⟨by decide, by decide⟩ rfl rfl (by decide +kernel) (by decide) (by decide) rfl (kc_25 _) ?_
  refine en_aast (pc' := 129) (kd := 16) (n := 8) (nv := 4) (jj := 5) (h2 := hh_64) dX4_init_128 (by decide +kernel) (by decide +kernel) (by decide) (by decide) rfl rfl ?_
  refine ex_iinc (pc' := 132) (v := 6) (ls' := [(1, .inl 6), (0, .inr (.inr (some 2)))]) dX4_init_129 rfl (by decide) (by decide) rfl rfl ?_
  refine ex_goto (pc' := 110) dX4_init_132 (by decide) ?_
  refine ex_iload_n (pc' := 111) dX4_init_110 rfl rfl ?_
  refine ex_bipush (v := 8) (pc' := 113) dX4_init_111 (by decide) rfl ?_
  refine ex_icmp_f (pc' := 116) dX4_init_113 (by decide) (by decide) rfl ?_
  refine ex_aload_n (pc' := 117) dX4_init_116 rfl rfl ?_
  refine ex_getR (pc' := 120) (n := 15) (r := 7) dX4_init_117 fl_4_32 (by decide +kernel) (by decide) (by decide +kernel) rfl ?_
  refine ex_iload_n (pc' := 121) dX4_init_120 rfl rfl ?_
  refine en_new (pc' := 124) (a := 32) (nf := 4) (h2 := hh_65) dX4_init_121 kl_4_30 (by decide +kernel) rfl rfl ?_
  refine ex_dup (pc' := 125) dX4_init_124 rfl rfl ?_
  refine en_calliV (pc' := 128) (a := 32) (n := 4) (h2 := hh_65) (vs := []) (rest := [.inr (.inr (some 32)), .inl 6, .inr (.inr (some 7))]) dX4_init_125 ml_4_44 (by decide) ⟨by decide, by decide⟩ rfl rfl (by decide +kernel) (by decide) (by decide) rfl (kc_26 _) ?_
  refine en_aast (pc' := 129) (kd := 16) (n := 8) (nv := 4) (jj := 6) (h2 := hh_66) dX4_init_128 (by decide +kernel) (by decide +kernel) (by decide) (by decide) rfl rfl ?_
  refine ex_iinc (pc' := 132) (v := 7) (ls' := [(1, .inl 7), (0, .inr (.inr (some 2)))]) dX4_init_129 rfl (by decide) (by decide) rfl rfl ?_
  refine ex_goto (pc' := 110) dX4_init_132 (by decide) ?_
  refine ex_iload_n (pc' := 111) dX4_init_110 rfl rfl ?_
  refine ex_bipush (v := 8) (pc' := 113) dX4_init_111 (by decide) rfl ?_
  refine ex_icmp_f (pc' := 116) dX4_init_113 (by decide) (by decide) rfl ?_
  refine ex_aload_n (pc' := 117) dX4_init_116 rfl rfl ?_
  refine ex_getR (pc' := 120) (n := 15) (r := 7) dX4_init_117 fl_4_32 (by decide +kernel) (by decide) (by decide +kernel) rfl ?_
  refine ex_iload_n (pc' := 121) dX4_init_120 rfl rfl ?_
  refine en_new (pc' := 124) (a := 33) (nf := 4) (h2 := hh_67) dX4_init_121 kl_4_30 (by decide +kernel) rfl rfl ?_
  refine ex_dup (pc' := 125) dX4_init_124 rfl rfl ?_
  refine en_calliV (pc' := 128) (a := 33) (n := 4) (h2 := hh_67) (vs := []) (rest := [.inr (.inr (some 33)), .inl 7, .inr (.inr (some 7))]) dX4_init_125 ml_4_44 (by decide) ⟨by decide, by decide⟩ rfl rfl (by decide +kernel) (by decide) (by decide) rfl (kc_27 _) ?_
  refine en_aast (pc' := 129) (kd := 16) (n := 8) (nv := 4) (jj := 7) (h2 := hh_68) dX4_init_128 (by decide +kernel) (by decide +kernel) (by decide) (by decide) rfl rfl ?_
  refine ex_iinc (pc' := 132) (v := 8) (ls' := [(1, .inl 8), (0, .inr (.inr (some 2)))]) dX4_init_129 rfl (by decide) (by decide) rfl rfl ?_
  refine ex_goto (pc' := 110) dX4_init_132 (by decide) ?_
  refine ex_iload_n (pc' := 111) dX4_init_110 rfl rfl ?_
  refine ex_bipush (v := 8) (pc' := 113) dX4_init_111 (by decide) rfl ?_
  refine ex_icmp_t (pc' := 135) dX4_init_113 (by decide) (by decide) ?_
  refine ex_iconst (v := 0) (pc' := 136) dX4_init_135 (by decide) rfl ?_
  refine ex_istore_n (pc' := 137) (ls' := [(1, .inl 0), (0, .inr (.inr (some 2)))]) dX4_init_136 (by decide) rfl rfl ?_
  refine ex_iload_n (pc' := 138) dX4_init_137 rfl rfl ?_
  refine ex_bipush (v := 8) (pc' := 140) dX4_init_138 (by decide) rfl ?_
  refine ex_icmp_f (pc' := 143) dX4_init_140 (by decide) (by decide) rfl ?_
  refine ex_aload_n (pc' := 144) dX4_init_143 rfl rfl ?_
  refine ex_getR (pc' := 147) (n := 15) (r := 8) dX4_init_144 fl_4_38 (by decide +kernel) (by decide) (by decide +kernel) rfl ?_
  refine ex_iload_n (pc' := 148) dX4_init_147 rfl rfl ?_
  refine en_new (pc' := 151) (a := 34) (nf := 3) (h2 := hh_69) dX4_init_148 kl_4_36 (by decide +kernel) rfl rfl ?_
  refine ex_dup (pc' := 152) dX4_init_151 rfl rfl ?_
  refine en_calliV (pc' := 155) (a := 34) (n := 3) (h2 := hh_69) (vs := []) (rest := [.inr (.inr (some 34)), .inl 0, .inr (.inr (some 8))]) dX4_init_152 ml_4_45 (by decide) ⟨by decide, by decide⟩ rfl rfl (by decide +kernel) (by decide) (by decide) rfl (kc_28 _) ?_
  refine en_aast (pc' := 156) (kd := 18) (n := 8) (nv := 3) (jj := 0) (h2 := hh_70) dX4_init_155 (by decide +kernel) (by decide +kernel) (by decide) (by decide) rfl rfl ?_
  refine ex_iinc (pc' := 159) (v := 1) (ls' := [(1, .inl 1), (0, .inr (.inr (some 2)))]) dX4_init_156 rfl (by decide) (by decide) rfl rfl ?_
  refine ex_goto (pc' := 137) dX4_init_159 (by decide) ?_
  refine ex_iload_n (pc' := 138) dX4_init_137 rfl rfl ?_
  refine ex_bipush (v := 8) (pc' := 140) dX4_init_138 (by decide) rfl ?_
  refine ex_icmp_f (pc' := 143) dX4_init_140 (by decide) (by decide) rfl ?_
  refine ex_aload_n (pc' := 144) dX4_init_143 rfl rfl ?_
  refine ex_getR (pc' := 147) (n := 15) (r := 8) dX4_init_144 fl_4_38 (by decide +kernel) (by decide) (by decide +kernel) rfl ?_
  refine ex_iload_n (pc' := 148) dX4_init_147 rfl rfl ?_
  refine en_new (pc' := 151) (a := 35) (nf := 3) (h2 := hh_71) dX4_init_148 kl_4_36 (by decide +kernel) rfl rfl ?_
  refine ex_dup (pc' := 152) dX4_init_151 rfl rfl ?_
  refine en_calliV (pc' := 155) (a := 35) (n := 3) (h2 := hh_71) (vs := []) (rest := [.inr (.inr (some 35)), .inl 1, .inr (.inr (some 8))]) dX4_init_152 ml_4_45 (by decide) ⟨by decide, by decide⟩ rfl rfl (by decide +kernel) (by decide) (by decide) rfl (kc_29 _) ?_
  refine en_aast (pc' := 156) (kd := 18) (n := 8) (nv := 3) (jj := 1) (h2 := hh_72) dX4_init_155 (by decide +kernel) (by decide +kernel) (by decide) (by decide) rfl rfl ?_
  refine ex_iinc (pc' := 159) (v := 2) (ls' := [(1, .inl 2), (0, .inr (.inr (some 2)))]) dX4_init_156 rfl (by decide) (by decide) rfl rfl ?_
  refine ex_goto (pc' := 137) dX4_init_159 (by decide) ?_
  refine ex_iload_n (pc' := 138) dX4_init_137 rfl rfl ?_
  refine ex_bipush (v := 8) (pc' := 140) dX4_init_138 (by decide) rfl ?_
  refine ex_icmp_f (pc' := 143) dX4_init_140 (by decide) (by decide) rfl ?_
  refine ex_aload_n (pc' := 144) dX4_init_143 rfl rfl ?_
  refine ex_getR (pc' := 147) (n := 15) (r := 8) dX4_init_144 fl_4_38 (by decide +kernel) (by decide) (by decide +kernel) rfl ?_
  refine ex_iload_n (pc' := 148) dX4_init_147 rfl rfl ?_
  refine en_new (pc' := 151) (a := 36) (nf := 3) (h2 := hh_73) dX4_init_148 kl_4_36 (by decide +kernel) rfl rfl ?_
  refine ex_dup (pc' := 152) dX4_init_151 rfl rfl ?_
  refine en_calliV (pc' := 155) (a := 36) (n := 3) (h2 := hh_73) (vs := []) (rest := [.inr (.inr (some 36)), .inl 2, .inr (.inr (some 8))]) dX4_init_152 ml_4_45 (by decide) ⟨by decide, by decide⟩ rfl rfl (by decide +kernel) (by decide) (by decide) rfl (kc_30 _) ?_
  refine en_aast (pc' := 156) (kd := 18) (n := 8) (nv := 3) (jj := 2) (h2 := hh_74) dX4_init_155 (by decide +kernel) (by decide +kernel) (by decide) (by decide) rfl rfl ?_
  refine ex_iinc (pc' := 159) (v := 3) (ls' := [(1, .inl 3), (0, .inr (.inr (some 2)))]) dX4_init_156 rfl (by decide) (by decide) rfl rfl ?_
  refine ex_goto (pc' := 137) dX4_init_159 (by decide) ?_
  refine ex_iload_n (pc' := 138) dX4_init_137 rfl rfl ?_
  refine ex_bipush (v := 8) (pc' := 140) dX4_init_138 (by decide) rfl ?_
  refine ex_icmp_f (pc' := 143) dX4_init_140 (by decide) (by decide) rfl ?_
  refine ex_aload_n (pc' := 144) dX4_init_143 rfl rfl ?_
  refine ex_getR (pc' := 147) (n := 15) (r := 8) dX4_init_144 fl_4_38 (by decide +kernel) (by decide) (by decide +kernel) rfl ?_
  refine ex_iload_n (pc' := 148) dX4_init_147 rfl rfl ?_
  refine en_new (pc' := 151) (a := 37) (nf := 3) (h2 := hh_75) dX4_init_148 kl_4_36 (by decide +kernel) rfl rfl ?_
  refine ex_dup (pc' := 152) dX4_init_151 rfl rfl ?_
  refine en_calliV (pc' := 155) (a := 37) (n := 3) (h2 := hh_75) (vs := []) (rest := [.inr (.inr (some 37)), .inl 3, .inr (.inr (some 8))]) dX4_init_152 ml_4_45 (by decide) ⟨by decide, by decide⟩ rfl rfl (by decide +kernel) (by decide) (by decide) rfl (kc_31 _) ?_
  refine en_aast (pc' := 156) (kd := 18) (n := 8) (nv := 3) (jj := 3) (h2 := hh_76) dX4_init_155 (by decide +kernel) (by decide +kernel) (by decide) (by decide) rfl rfl ?_
  refine ex_iinc (pc' := 159) (v := 4) (ls' := [(1, .inl 4), (0, .inr (.inr (some 2)))]) dX4_init_156 rfl (by decide) (by decide) rfl rfl ?_
  refine ex_goto (pc' := 137) dX4_init_159 (by decide) ?_
  refine ex_iload_n (pc' := 138) dX4_init_137 rfl rfl ?_
  refine ex_bipush (v := 8) (pc' := 140) dX4_init_138 (by decide) rfl ?_
  refine ex_icmp_f (pc' := 143) dX4_init_140 (by decide) (by decide) rfl ?_
  refine ex_aload_n (pc' := 144) dX4_init_143 rfl rfl ?_
  refine ex_getR (pc' := 147) (n := 15) (r := 8) dX4_init_144 fl_4_38 (by decide +kernel) (by decide) (by decide +kernel) rfl ?_
  refine ex_iload_n (pc' := 148) dX4_init_147 rfl rfl ?_
  refine en_new (pc' := 151) (a := 38) (nf := 3) (h2 := hh_77) dX4_init_148 kl_4_36 (by decide +kernel) rfl rfl ?_
  refine ex_dup (pc' := 152) dX4_init_151 rfl rfl ?_
  refine en_calliV (pc' := 155) (a := 38) (n := 3) (h2 := hh_77) (vs := []) (rest := [.inr (.inr (some 38)), .inl 4, .inr (.inr (some 8))]) dX4_init_152 ml_4_45 (by decide) ⟨by decide, by decide⟩ rfl rfl (by decide +kernel) (by decide) (by decide) rfl (kc_32 _) ?_
  refine en_aast (pc' := 156) (kd := 18) (n := 8) (nv := 3) (jj := 4) (h2 := hh_78) dX4_init_155 (by decide +kernel) (by decide +kernel) (by decide) (by decide) rfl rfl ?_
  refine ex_iinc (pc' := 159) (v := 5) (ls' := [(1, .inl 5), (0, .inr (.inr (some 2)))]) dX4_init_156 rfl (by decide) (by decide) rfl rfl ?_
  refine ex_goto (pc' := 137) dX4_init_159 (by decide) ?_
  refine ex_iload_n (pc' := 138) dX4_init_137 rfl rfl ?_
  refine ex_bipush (v := 8) (pc' := 140) dX4_init_138 (by decide) rfl ?_
  refine ex_icmp_f (pc' := 143) dX4_init_140 (by decide) (by decide) rfl ?_
  refine ex_aload_n (pc' := 144) dX4_init_143 rfl rfl ?_
  refine ex_getR (pc' := 147) (n := 15) (r := 8) dX4_init_144 fl_4_38 (by decide +kernel) (by decide) (by decide +kernel) rfl ?_
  refine ex_iload_n (pc' := 148) dX4_init_147 rfl rfl ?_
  refine en_new (pc' := 151) (a := 39) (nf := 3) (h2 := hh_79) dX4_init_148 kl_4_36 (by decide +kernel) rfl rfl ?_
  refine ex_dup (pc' := 152) dX4_init_151 rfl rfl ?_
  refine en_calliV (pc' := 155) (a := 39) (n := 3) (h2 := hh_79) (vs := []) (rest := [.inr (.inr (some 39)), .inl 5, .inr (.inr (some 8))]) dX4_init_152 ml_4_45 (by decide) ⟨by decide, by decide⟩ rfl rfl (by decide +kernel) (by decide) (by decide) rfl (kc_33 _) ?_
  refine en_aast (pc' := 156) (kd := 18) (n := 8) (nv := 3) (jj := 5) (h2 := hh_80) dX4_init_155 (by decide +kernel) (by decide +kernel) (by decide) (by decide) rfl rfl ?_
  refine ex_iinc (pc' := 159) (v := 6) (ls' := [(1, .inl 6), (0, .inr (.inr (some 2)))]) dX4_init_156 rfl (by decide) (by decide) rfl rfl ?_
  refine ex_goto (pc' := 137) dX4_init_159 (by decide) ?_
  refine ex_iload_n (pc' := 138) dX4_init_137 rfl rfl ?_
  refine ex_bipush (v := 8) (pc' := 140) dX4_init_138 (by decide) rfl ?_
  refine ex_icmp_f (pc' := 143) dX4_init_140 (by decide) (by decide) rfl ?_
  refine ex_aload_n (pc' := 144) dX4_init_143 rfl rfl ?_
  refine ex_getR (pc' := 147) (n := 15) (r := 8) dX4_init_144 fl_4_38 (by decide +kernel) (by decide) (by decide +kernel) rfl ?_
  refine ex_iload_n (pc' := 148) dX4_init_147 rfl rfl ?_
  refine en_new (pc' := 151) (a := 40) (nf := 3) (h2 := hh_81) dX4_init_148 kl_4_36 (by decide +kernel) rfl rfl ?_
  refine ex_dup (pc' := 152) dX4_init_151 rfl rfl ?_
  refine en_calliV (pc' := 155) (a := 40) (n := 3) (h2 := hh_81) (vs := []) (rest := [.inr (.inr (some 40)), .inl 6, .inr (.inr (some 8))]) dX4_init_152 ml_4_45 (by decide) ⟨by decide, by decide⟩ rfl rfl (by decide +kernel) (by decide) (by decide) rfl (kc_34 _) ?_
  refine en_aast (pc' := 156) (kd := 18) (n := 8) (nv := 3) (jj := 6) (h2 := hh_82) dX4_init_155 (by decide +kernel) (by decide +kernel) (by decide) (by decide) rfl rfl ?_
  refine ex_iinc (pc' := 159) (v := 7) (ls' := [(1, .inl 7), (0, .inr (.inr (some 2)))]) dX4_init_156 rfl (by decide) (by decide) rfl rfl ?_
  refine ex_goto (pc' := 137) dX4_init_159 (by decide) ?_
  refine ex_iload_n (pc' := 138) dX4_init_137 rfl rfl ?_
  refine ex_bipush (v := 8) (pc' := 140) dX4_init_138 (by decide) rfl ?_
  refine ex_icmp_f (pc' := 143) dX4_init_140 (by decide) (by decide) rfl ?_
  refine ex_aload_n (pc' := 144) dX4_init_143 rfl rfl ?_
  refine ex_getR (pc' := 147) (n := 15) (r := 8) dX4_init_144 fl_4_38 (by decide +kernel) (by decide) (by decide +kernel) rfl ?_
  refine ex_iload_n (pc' := 148) dX4_init_147 rfl rfl ?_
  refine en_new (pc' := 151) (a := 41) (nf := 3) (h2 := hh_83) dX4_init_148 kl_4_36 (by decide +kernel) rfl rfl ?_
  refine ex_dup (pc' := 152) dX4_init_151 rfl rfl ?_
  refine en_calliV (pc' := 155) (a := 41) (n := 3) (h2 := hh_83) (vs := []) (rest := [.inr (.inr (some 41)), .inl 7, .inr (.inr (some 8))]) dX4_init_152 ml_4_45 (by decide) ⟨by decide, by decide⟩ rfl rfl (by decide +kernel) (by decide) (by decide) rfl (kc_35 _) ?_
  refine en_aast (pc' := 156) (kd := 18) (n := 8) (nv := 3) (jj := 7) (h2 := hh_84) dX4_init_155 (by decide +kernel) (by decide +kernel) (by decide) (by decide) rfl rfl ?_
  refine ex_iinc (pc' := 159) (v := 8) (ls' := [(1, .inl 8), (0, .inr (.inr (some 2)))]) dX4_init_156 rfl (by decide) (by decide) rfl rfl ?_
  refine ex_goto (pc' := 137) dX4_init_159 (by decide) ?_
  refine ex_iload_n (pc' := 138) dX4_init_137 rfl rfl ?_
  refine ex_bipush (v := 8) (pc' := 140) dX4_init_138 (by decide) rfl ?_
  refine ex_icmp_t (pc' := 162) dX4_init_140 (by decide) (by decide) ?_
  exact ex_vretV dX4_init_162 rfl rfl
set_option maxRecDepth 20000 in
theorem kc_37 (d : Nat) : zCv (d + 1) mX9_init [.inr (.inr (some 49))] hh_99 (fun h' => h' = hh_99) := by
  show zEx none (d + 1) mX9_init (0, [(0, .inr (.inr (some 49)))], [], hh_99) _
  refine ex_aload_n (pc' := 1) dX9_init_0 rfl rfl ?_
  refine ex_obj (pc' := 4) dX9_init_1 ml_9_1 (by decide) rfl ?_
  exact ex_vretV dX9_init_4 rfl rfl
set_option maxRecDepth 20000 in
theorem kc_38 (d : Nat) : zCv (d + 1) mX9_init [.inr (.inr (some 50))] hh_101 (fun h' => h' = hh_101) := by
  show zEx none (d + 1) mX9_init (0, [(0, .inr (.inr (some 50)))], [], hh_101) _
  refine ex_aload_n (pc' := 1) dX9_init_0 rfl rfl ?_
  refine ex_obj (pc' := 4) dX9_init_1 ml_9_1 (by decide) rfl ?_
  exact ex_vretV dX9_init_4 rfl rfl
set_option maxRecDepth 20000 in
theorem kc_39 (d : Nat) : zCv (d + 1) mX9_init [.inr (.inr (some 51))] hh_103 (fun h' => h' = hh_103) := by
  show zEx none (d + 1) mX9_init (0, [(0, .inr (.inr (some 51)))], [], hh_103) _
  refine ex_aload_n (pc' := 1) dX9_init_0 rfl rfl ?_
  refine ex_obj (pc' := 4) dX9_init_1 ml_9_1 (by decide) rfl ?_
  exact ex_vretV dX9_init_4 rfl rfl
set_option maxRecDepth 20000 in
theorem kc_40 (d : Nat) : zCv (d + 1) mX9_init [.inr (.inr (some 52))] hh_105 (fun h' => h' = hh_105) := by
  show zEx none (d + 1) mX9_init (0, [(0, .inr (.inr (some 52)))], [], hh_105) _
  refine ex_aload_n (pc' := 1) dX9_init_0 rfl rfl ?_
  refine ex_obj (pc' := 4) dX9_init_1 ml_9_1 (by decide) rfl ?_
  exact ex_vretV dX9_init_4 rfl rfl
set_option maxRecDepth 20000 in
theorem kc_41 (d : Nat) : zCv (d + 1) mX9_init [.inr (.inr (some 53))] hh_107 (fun h' => h' = hh_107) := by
  show zEx none (d + 1) mX9_init (0, [(0, .inr (.inr (some 53)))], [], hh_107) _
  refine ex_aload_n (pc' := 1) dX9_init_0 rfl rfl ?_
  refine ex_obj (pc' := 4) dX9_init_1 ml_9_1 (by decide) rfl ?_
  exact ex_vretV dX9_init_4 rfl rfl
set_option maxRecDepth 20000 in
theorem kc_42 (d : Nat) : zCv (d + 1) mX9_init [.inr (.inr (some 54))] hh_109 (fun h' => h' = hh_109) := by
  show zEx none (d + 1) mX9_init (0, [(0, .inr (.inr (some 54)))], [], hh_109) _
  refine ex_aload_n (pc' := 1) dX9_init_0 rfl rfl ?_
  refine ex_obj (pc' := 4) dX9_init_1 ml_9_1 (by decide) rfl ?_
  exact ex_vretV dX9_init_4 rfl rfl
set_option maxRecDepth 20000 in
theorem kc_43 (d : Nat) : zCv (d + 1) mX9_init [.inr (.inr (some 55))] hh_111 (fun h' => h' = hh_111) := by
  show zEx none (d + 1) mX9_init (0, [(0, .inr (.inr (some 55)))], [], hh_111) _
  refine ex_aload_n (pc' := 1) dX9_init_0 rfl rfl ?_
  refine ex_obj (pc' := 4) dX9_init_1 ml_9_1 (by decide) rfl ?_
  exact ex_vretV dX9_init_4 rfl rfl
set_option maxRecDepth 20000 in
theorem kc_44 (d : Nat) : zCv (d + 1) mX9_init [.inr (.inr (some 56))] hh_113 (fun h' => h' = hh_113) := by
  show zEx none (d + 1) mX9_init (0, [(0, .inr (.inr (some 56)))], [], hh_113) _
  refine ex_aload_n (pc' := 1) dX9_init_0 rfl rfl ?_
  refine ex_obj (pc' := 4) dX9_init_1 ml_9_1 (by decide) rfl ?_
  exact ex_vretV dX9_init_4 rfl rfl
set_option maxRecDepth 20000 in
theorem kc_45 (d : Nat) : zCv (d + 1) mX9_init [.inr (.inr (some 57))] hh_115 (fun h' => h' = hh_115) := by
  show zEx none (d + 1) mX9_init (0, [(0, .inr (.inr (some 57)))], [], hh_115) _
  refine ex_aload_n (pc' := 1) dX9_init_0 rfl rfl ?_
  refine ex_obj (pc' := 4) dX9_init_1 ml_9_1 (by decide) rfl ?_
  exact ex_vretV dX9_init_4 rfl rfl
set_option maxRecDepth 20000 in
theorem kc_46 (d : Nat) : zCv (d + 1) mX9_init [.inr (.inr (some 58))] hh_117 (fun h' => h' = hh_117) := by
  show zEx none (d + 1) mX9_init (0, [(0, .inr (.inr (some 58)))], [], hh_117) _
  refine ex_aload_n (pc' := 1) dX9_init_0 rfl rfl ?_
  refine ex_obj (pc' := 4) dX9_init_1 ml_9_1 (by decide) rfl ?_
  exact ex_vretV dX9_init_4 rfl rfl
set_option maxRecDepth 20000 in
theorem kc_47 (d : Nat) : zCv (d + 1) mX9_init [.inr (.inr (some 59))] hh_119 (fun h' => h' = hh_119) := by
  show zEx none (d + 1) mX9_init (0, [(0, .inr (.inr (some 59)))], [], hh_119) _
  refine ex_aload_n (pc' := 1) dX9_init_0 rfl rfl ?_
  refine ex_obj (pc' := 4) dX9_init_1 ml_9_1 (by decide) rfl ?_
  exact ex_vretV dX9_init_4 rfl rfl
set_option maxRecDepth 20000 in
theorem kc_48 (d : Nat) : zCv (d + 1) mX9_init [.inr (.inr (some 60))] hh_121 (fun h' => h' = hh_121) := by
  show zEx none (d + 1) mX9_init (0, [(0, .inr (.inr (some 60)))], [], hh_121) _
  refine ex_aload_n (pc' := 1) dX9_init_0 rfl rfl ?_
  refine ex_obj (pc' := 4) dX9_init_1 ml_9_1 (by decide) rfl ?_
  exact ex_vretV dX9_init_4 rfl rfl
set_option maxRecDepth 20000 in
theorem kc_49 (d : Nat) : zCv (d + 1) mX10_init [.inr (.inr (some 61))] hh_123 (fun h' => h' = hh_123) := by
  show zEx none (d + 1) mX10_init (0, [(0, .inr (.inr (some 61)))], [], hh_123) _
  refine ex_aload_n (pc' := 1) dX10_init_0 rfl rfl ?_
  refine ex_obj (pc' := 4) dX10_init_1 ml_10_1 (by decide) rfl ?_
  exact ex_vretV dX10_init_4 rfl rfl
set_option maxRecDepth 20000 in
theorem kc_50 (d : Nat) : zCv (d + 1) mX10_init [.inr (.inr (some 62))] hh_125 (fun h' => h' = hh_125) := by
  show zEx none (d + 1) mX10_init (0, [(0, .inr (.inr (some 62)))], [], hh_125) _
  refine ex_aload_n (pc' := 1) dX10_init_0 rfl rfl ?_
  refine ex_obj (pc' := 4) dX10_init_1 ml_10_1 (by decide) rfl ?_
  exact ex_vretV dX10_init_4 rfl rfl
set_option maxRecDepth 20000 in
theorem kc_51 (d : Nat) : zCv (d + 1) mX10_init [.inr (.inr (some 63))] hh_127 (fun h' => h' = hh_127) := by
  show zEx none (d + 1) mX10_init (0, [(0, .inr (.inr (some 63)))], [], hh_127) _
  refine ex_aload_n (pc' := 1) dX10_init_0 rfl rfl ?_
  refine ex_obj (pc' := 4) dX10_init_1 ml_10_1 (by decide) rfl ?_
  exact ex_vretV dX10_init_4 rfl rfl
set_option maxRecDepth 20000 in
theorem kc_52 (d : Nat) : zCv (d + 1) mX10_init [.inr (.inr (some 64))] hh_129 (fun h' => h' = hh_129) := by
  show zEx none (d + 1) mX10_init (0, [(0, .inr (.inr (some 64)))], [], hh_129) _
  refine ex_aload_n (pc' := 1) dX10_init_0 rfl rfl ?_
  refine ex_obj (pc' := 4) dX10_init_1 ml_10_1 (by decide) rfl ?_
  exact ex_vretV dX10_init_4 rfl rfl
set_option maxRecDepth 20000 in
theorem kc_53 (d : Nat) : zCv (d + 1) mX10_init [.inr (.inr (some 65))] hh_131 (fun h' => h' = hh_131) := by
  show zEx none (d + 1) mX10_init (0, [(0, .inr (.inr (some 65)))], [], hh_131) _
  refine ex_aload_n (pc' := 1) dX10_init_0 rfl rfl ?_
  refine ex_obj (pc' := 4) dX10_init_1 ml_10_1 (by decide) rfl ?_
  exact ex_vretV dX10_init_4 rfl rfl
set_option maxRecDepth 20000 in
theorem kc_54 (d : Nat) : zCv (d + 1) mX0_init [.inr (.inr (some 66))] hh_133 (fun h' => h' = hh_133) := by
  show zEx none (d + 1) mX0_init (0, [(0, .inr (.inr (some 66)))], [], hh_133) _
  refine ex_aload_n (pc' := 1) dX0_init_0 rfl rfl ?_
  refine ex_obj (pc' := 4) dX0_init_1 ml_0_1 (by decide) rfl ?_
  exact ex_vretV dX0_init_4 rfl rfl
set_option maxRecDepth 20000 in
theorem kc_55 (d : Nat) : zCv (d + 1) mX0_init [.inr (.inr (some 67))] hh_135 (fun h' => h' = hh_135) := by
  show zEx none (d + 1) mX0_init (0, [(0, .inr (.inr (some 67)))], [], hh_135) _
  refine ex_aload_n (pc' := 1) dX0_init_0 rfl rfl ?_
  refine ex_obj (pc' := 4) dX0_init_1 ml_0_1 (by decide) rfl ?_
  exact ex_vretV dX0_init_4 rfl rfl
set_option maxRecDepth 20000 in
theorem kc_56 (d : Nat) : zCv (d + 1) mX0_init [.inr (.inr (some 68))] hh_137 (fun h' => h' = hh_137) := by
  show zEx none (d + 1) mX0_init (0, [(0, .inr (.inr (some 68)))], [], hh_137) _
  refine ex_aload_n (pc' := 1) dX0_init_0 rfl rfl ?_
  refine ex_obj (pc' := 4) dX0_init_1 ml_0_1 (by decide) rfl ?_
  exact ex_vretV dX0_init_4 rfl rfl
set_option maxRecDepth 20000 in
theorem kc_57 (d : Nat) : zCv (d + 1) mX0_init [.inr (.inr (some 69))] hh_139 (fun h' => h' = hh_139) := by
  show zEx none (d + 1) mX0_init (0, [(0, .inr (.inr (some 69)))], [], hh_139) _
  refine ex_aload_n (pc' := 1) dX0_init_0 rfl rfl ?_
  refine ex_obj (pc' := 4) dX0_init_1 ml_0_1 (by decide) rfl ?_
  exact ex_vretV dX0_init_4 rfl rfl
set_option maxRecDepth 20000 in
theorem kc_58 (d : Nat) : zCv (d + 1) mX0_init [.inr (.inr (some 70))] hh_141 (fun h' => h' = hh_141) := by
  show zEx none (d + 1) mX0_init (0, [(0, .inr (.inr (some 70)))], [], hh_141) _
  refine ex_aload_n (pc' := 1) dX0_init_0 rfl rfl ?_
  refine ex_obj (pc' := 4) dX0_init_1 ml_0_1 (by decide) rfl ?_
  exact ex_vretV dX0_init_4 rfl rfl
set_option maxRecDepth 20000 in
theorem kc_59 (d : Nat) : zCv (d + 1) mX0_init [.inr (.inr (some 71))] hh_143 (fun h' => h' = hh_143) := by
  show zEx none (d + 1) mX0_init (0, [(0, .inr (.inr (some 71)))], [], hh_143) _
  refine ex_aload_n (pc' := 1) dX0_init_0 rfl rfl ?_
  refine ex_obj (pc' := 4) dX0_init_1 ml_0_1 (by decide) rfl ?_
  exact ex_vretV dX0_init_4 rfl rfl
set_option maxRecDepth 20000 in
theorem kc_60 (d : Nat) : zCv (d + 1) mX0_init [.inr (.inr (some 72))] hh_145 (fun h' => h' = hh_145) := by
  show zEx none (d + 1) mX0_init (0, [(0, .inr (.inr (some 72)))], [], hh_145) _
  refine ex_aload_n (pc' := 1) dX0_init_0 rfl rfl ?_
  refine ex_obj (pc' := 4) dX0_init_1 ml_0_1 (by decide) rfl ?_
  exact ex_vretV dX0_init_4 rfl rfl
set_option maxRecDepth 20000 in
theorem kc_61 (d : Nat) : zCv (d + 1) mX0_init [.inr (.inr (some 73))] hh_147 (fun h' => h' = hh_147) := by
  show zEx none (d + 1) mX0_init (0, [(0, .inr (.inr (some 73)))], [], hh_147) _
  refine ex_aload_n (pc' := 1) dX0_init_0 rfl rfl ?_
  refine ex_obj (pc' := 4) dX0_init_1 ml_0_1 (by decide) rfl ?_
  exact ex_vretV dX0_init_4 rfl rfl
set_option maxRecDepth 20000 in
theorem kc_62 (d : Nat) : zCv (d + 1) mX8_init [.inr (.inr (some 74))] hh_149 (fun h' => h' = hh_149) := by
  show zEx none (d + 1) mX8_init (0, [(0, .inr (.inr (some 74)))], [], hh_149) _
  refine ex_aload_n (pc' := 1) dX8_init_0 rfl rfl ?_
  refine ex_obj (pc' := 4) dX8_init_1 ml_8_1 (by decide) rfl ?_
  exact ex_vretV dX8_init_4 rfl rfl
set_option maxRecDepth 20000 in
theorem kc_63 (d : Nat) : zCv (d + 1) mX8_init [.inr (.inr (some 75))] hh_151 (fun h' => h' = hh_151) := by
  show zEx none (d + 1) mX8_init (0, [(0, .inr (.inr (some 75)))], [], hh_151) _
  refine ex_aload_n (pc' := 1) dX8_init_0 rfl rfl ?_
  refine ex_obj (pc' := 4) dX8_init_1 ml_8_1 (by decide) rfl ?_
  exact ex_vretV dX8_init_4 rfl rfl
set_option maxRecDepth 20000 in
theorem kc_64 (d : Nat) : zCv (d + 1) mX8_init [.inr (.inr (some 76))] hh_153 (fun h' => h' = hh_153) := by
  show zEx none (d + 1) mX8_init (0, [(0, .inr (.inr (some 76)))], [], hh_153) _
  refine ex_aload_n (pc' := 1) dX8_init_0 rfl rfl ?_
  refine ex_obj (pc' := 4) dX8_init_1 ml_8_1 (by decide) rfl ?_
  exact ex_vretV dX8_init_4 rfl rfl
set_option maxRecDepth 20000 in
theorem kc_65 (d : Nat) : zCv (d + 1) mX8_init [.inr (.inr (some 77))] hh_155 (fun h' => h' = hh_155) := by
  show zEx none (d + 1) mX8_init (0, [(0, .inr (.inr (some 77)))], [], hh_155) _
  refine ex_aload_n (pc' := 1) dX8_init_0 rfl rfl ?_
  refine ex_obj (pc' := 4) dX8_init_1 ml_8_1 (by decide) rfl ?_
  exact ex_vretV dX8_init_4 rfl rfl
set_option maxRecDepth 20000 in
theorem kc_66 (d : Nat) : zCv (d + 1) mX8_init [.inr (.inr (some 78))] hh_157 (fun h' => h' = hh_157) := by
  show zEx none (d + 1) mX8_init (0, [(0, .inr (.inr (some 78)))], [], hh_157) _
  refine ex_aload_n (pc' := 1) dX8_init_0 rfl rfl ?_
  refine ex_obj (pc' := 4) dX8_init_1 ml_8_1 (by decide) rfl ?_
  exact ex_vretV dX8_init_4 rfl rfl
set_option maxRecDepth 20000 in
theorem kc_67 (d : Nat) : zCv (d + 1) mX8_init [.inr (.inr (some 79))] hh_159 (fun h' => h' = hh_159) := by
  show zEx none (d + 1) mX8_init (0, [(0, .inr (.inr (some 79)))], [], hh_159) _
  refine ex_aload_n (pc' := 1) dX8_init_0 rfl rfl ?_
  refine ex_obj (pc' := 4) dX8_init_1 ml_8_1 (by decide) rfl ?_
  exact ex_vretV dX8_init_4 rfl rfl
set_option maxRecDepth 20000 in
theorem kc_68 (d : Nat) : zCv (d + 1) mX8_init [.inr (.inr (some 80))] hh_161 (fun h' => h' = hh_161) := by
  show zEx none (d + 1) mX8_init (0, [(0, .inr (.inr (some 80)))], [], hh_161) _
  refine ex_aload_n (pc' := 1) dX8_init_0 rfl rfl ?_
  refine ex_obj (pc' := 4) dX8_init_1 ml_8_1 (by decide) rfl ?_
  exact ex_vretV dX8_init_4 rfl rfl
set_option maxRecDepth 20000 in
theorem kc_69 (d : Nat) : zCv (d + 1) mX8_init [.inr (.inr (some 81))] hh_163 (fun h' => h' = hh_163) := by
  show zEx none (d + 1) mX8_init (0, [(0, .inr (.inr (some 81)))], [], hh_163) _
  refine ex_aload_n (pc' := 1) dX8_init_0 rfl rfl ?_
  refine ex_obj (pc' := 4) dX8_init_1 ml_8_1 (by decide) rfl ?_
  exact ex_vretV dX8_init_4 rfl rfl
set_option maxRecDepth 20000 in
theorem kc_36 (d : Nat) : zCv (d + 2) mX4_init [.inr (.inr (some 42))] hh_86 (fun h' => h' = hh_164) := by
  show zEx none (d + 2) mX4_init (0, [(0, .inr (.inr (some 42)))], [], hh_86) _
  refine ex_aload_n (pc' := 1) dX4_init_0 rfl rfl ?_
  refine ex_obj (pc' := 4) dX4_init_1 ml_4_3 (by decide) rfl ?_
  refine ex_aload_n (pc' := 5) dX4_init_4 rfl rfl ?_
  refine ex_bipush (v := 7) (pc' := 7) dX4_init_5 (by decide) rfl ?_
  refine en_narrI (pc' := 9) (a := 43) (nn := 7) (h2 := hh_87) dX4_init_7 (by decide +kernel) rfl rfl ?_
  refine en_putR (pc' := 12) (n := 15) (h2 := hh_88) dX4_init_9 fl_4_9 (by decide +kernel) (by decide) (by decide) rfl rfl ?_
  refine ex_aload_n (pc' := 13) dX4_init_12 rfl rfl ?_
  refine ex_bipush (v := 7) (pc' := 15) dX4_init_13 (by decide) rfl ?_
  refine en_narrI (pc' := 17) (a := 44) (nn := 7) (h2 := hh_89) dX4_init_15 (by decide +kernel) rfl rfl ?_
  refine en_putR (pc' := 20) (n := 15) (h2 := hh_90) dX4_init_17 fl_4_15 (by decide +kernel) (by decide) (by decide) rfl rfl ?_
  refine ex_aload_n (pc' := 21) dX4_init_20 rfl rfl ?_
  refine ex_bipush (v := 12) (pc' := 23) dX4_init_21 (by decide) rfl ?_
  refine en_anarr (pc' := 26) (a := 45) (nn := 12) (ak := 19) (h2 := hh_91) dX4_init_23 kl_4_18 (by decide +kernel) rfl rfl ?_
  refine en_putR (pc' := 29) (n := 15) (h2 := hh_92) dX4_init_26 fl_4_20 (by decide +kernel) (by decide) (by decide) rfl rfl ?_
  refine ex_aload_n (pc' := 30) dX4_init_29 rfl rfl ?_
  refine ex_iconst (v := 5) (pc' := 31) dX4_init_30 (by decide) rfl ?_
  refine en_anarr (pc' := 34) (a := 46) (nn := 5) (ak := 20) (h2 := hh_93) dX4_init_31 kl_4_24 (by decide +kernel) rfl rfl ?_
  refine en_putR (pc' := 37) (n := 15) (h2 := hh_94) dX4_init_34 fl_4_26 (by decide +kernel) (by decide) (by decide) rfl rfl ?_
  refine ex_aload_n (pc' := 38) dX4_init_37 rfl rfl ?_
  refine ex_bipush (v := 8) (pc' := 40) dX4_init_38 (by decide) rfl ?_
  refine en_anarr (pc' := 43) (a := 47) (nn := 8) (ak := 16) (h2 := hh_95) dX4_init_40 kl_4_30 (by decide +kernel) rfl rfl ?_
  refine en_putR (pc' := 46) (n := 15) (h2 := hh_96) dX4_init_43 fl_4_32 (by decide +kernel) (by decide) (by decide) rfl rfl ?_
  refine ex_aload_n (pc' := 47) dX4_init_46 rfl rfl ?_
  refine ex_bipush (v := 8) (pc' := 49) dX4_init_47 (by decide) rfl ?_
  refine en_anarr (pc' := 52) (a := 48) (nn := 8) (ak := 18) (h2 := hh_97) dX4_init_49 kl_4_36 (by decide +kernel) rfl rfl ?_
  refine en_putR (pc' := 55) (n := 15) (h2 := hh_98) dX4_init_52 fl_4_38 (by decide +kernel) (by decide) (by decide) rfl rfl ?_
  refine ex_iconst (v := 0) (pc' := 56) dX4_init_55 (by decide) rfl ?_
  refine ex_istore_n (pc' := 57) (ls' := [(1, .inl 0), (0, .inr (.inr (some 42)))]) dX4_init_56 (by decide) rfl rfl ?_
  refine ex_iload_n (pc' := 58) dX4_init_57 rfl rfl ?_
  refine ex_bipush (v := 12) (pc' := 60) dX4_init_58 (by decide) rfl ?_
  refine ex_icmp_f (pc' := 63) dX4_init_60 (by decide) (by decide) rfl ?_
  refine ex_aload_n (pc' := 64) dX4_init_63 rfl rfl ?_
  refine ex_getR (pc' := 67) (n := 15) (r := 45) dX4_init_64 fl_4_20 (by decide +kernel) (by decide) (by decide +kernel) rfl ?_
  refine ex_iload_n (pc' := 68) dX4_init_67 rfl rfl ?_
  refine en_new (pc' := 71) (a := 49) (nf := 4) (h2 := hh_99) dX4_init_68 kl_4_18 (by decide +kernel) rfl rfl ?_
  refine ex_dup (pc' := 72) dX4_init_71 rfl rfl ?_
  refine en_calliV (pc' := 75) (a := 49) (n := 4) (h2 := hh_99) (vs := []) (rest := [.inr (.inr (some 49)), .inl 0, .inr (.inr (some 45))]) dX4_init_72 ml_4_42 (by decide) ⟨by decide, by decide⟩ rfl rfl (by decide +kernel) (by decide) (by decide) rfl (kc_37 _) ?_
  refine en_aast (pc' := 76) (kd := 19) (n := 12) (nv := 4) (jj := 0) (h2 := hh_100) dX4_init_75 (by decide +kernel) (by decide +kernel) (by decide) (by decide) rfl rfl ?_
  refine ex_iinc (pc' := 79) (v := 1) (ls' := [(1, .inl 1), (0, .inr (.inr (some 42)))]) dX4_init_76 rfl (by decide) (by decide) rfl rfl ?_
  refine ex_goto (pc' := 57) dX4_init_79 (by decide) ?_
  refine ex_iload_n (pc' := 58) dX4_init_57 rfl rfl ?_
  refine ex_bipush (v := 12) (pc' := 60) dX4_init_58 (by decide) rfl ?_
  refine ex_icmp_f (pc' := 63) dX4_init_60 (by decide) (by decide) rfl ?_
  refine ex_aload_n (pc' := 64) dX4_init_63 rfl rfl ?_
  refine ex_getR (pc' := 67) (n := 15) (r := 45) dX4_init_64 fl_4_20 (by decide +kernel) (by decide) (by decide +kernel) rfl ?_
  refine ex_iload_n (pc' := 68) dX4_init_67 rfl rfl ?_
  refine en_new (pc' := 71) (a := 50) (nf := 4) (h2 := hh_101) dX4_init_68 kl_4_18 (by decide +kernel) rfl rfl ?_
  refine ex_dup (pc' := 72) dX4_init_71 rfl rfl ?_
  refine en_calliV (pc' := 75) (a := 50) (n := 4) (h2 := hh_101) (vs := []) (rest := [.inr (.inr (some 50)), .inl 1, .inr (.inr (some 45))]) dX4_init_72 ml_4_42 (by decide) ⟨by decide, by decide⟩ rfl rfl (by decide +kernel) (by decide) (by decide) rfl (kc_38 _) ?_
  refine en_aast (pc' := 76) (kd := 19) (n := 12) (nv := 4) (jj := 1) (h2 := hh_102) dX4_init_75 (by decide +kernel) (by decide +kernel) (by decide) (by decide) rfl rfl ?_
  refine ex_iinc (pc' := 79) (v := 2) (ls' := [(1, .inl 2), (0, .inr (.inr (some 42)))]) dX4_init_76 rfl (by decide) (by decide) rfl rfl ?_
  refine ex_goto (pc' := 57) dX4_init_79 (by decide) ?_
  refine ex_iload_n (pc' := 58) dX4_init_57 rfl rfl ?_
  refine ex_bipush (v := 12) (pc' := 60) dX4_init_58 (by decide) rfl ?_
  refine ex_icmp_f (pc' := 63) dX4_init_60 (by decide) (by decide) rfl ?_
  refine ex_aload_n (pc' := 64) dX4_init_63 rfl rfl ?_
  refine ex_getR (pc' := 67) (n := 15) (r := 45) dX4_init_64 fl_4_20 (by decide +kernel) (by decide) (by decide +kernel) rfl ?_
  refine ex_iload_n (pc' := 68) dX4_init_67 rfl rfl ?_
  refine en_new (pc' := 71) (a := 51) (nf := 4) (h2 := hh_103) dX4_init_68 kl_4_18 (by decide +kernel) rfl rfl ?_
  refine ex_dup (pc' := 72) dX4_init_71 rfl rfl ?_
  refine en_calliV (pc' := 75) (a := 51) (n := 4) (h2 := hh_103) (vs := []) (rest := [.inr (.inr (some 51)), .inl 2, .inr (.inr (some 45))]) dX4_init_72 ml_4_42 (by decide) ⟨by decide, by decide⟩ rfl rfl (by decide +kernel) (by decide) (by decide) rfl (kc_39 _) ?_
  refine en_aast (pc' := 76) (kd := 19) (n := 12) (nv := 4) (jj := 2) (h2 := hh_104) dX4_init_75 (by decide +kernel) (by decide +kernel) (by decide) (by decide) rfl rfl ?_
  refine ex_iinc (pc' := 79) (v := 3) (ls' := [(1, .inl 3), (0, .inr (.inr (some 42)))]) dX4_init_76 rfl (by decide) (by decide) rfl rfl ?_
  refine ex_goto (pc' := 57) dX4_init_79 (by decide) ?_
  refine ex_iload_n (pc' := 58) dX4_init_57 rfl rfl ?_
  refine ex_bipush (v := 12) (pc' := 60) dX4_init_58 (by decide) rfl ?_
  refine ex_icmp_f (pc' := 63) dX4_init_60 (by decide) (by decide) rfl ?_
  refine ex_aload_n (pc' := 64) dX4_init_63 rfl rfl ?_
  refine ex_getR (pc' := 67) (n := 15) (r := 45) dX4_init_64 fl_4_20 (by decide +kernel) (by decide) (by decide +kernel) rfl ?_
  refine ex_iload_n (pc' := 68) dX4_init_67 rfl rfl ?_
  refine en_new (pc' := 71) (a := 52) (nf := 4) (h2 := hh_105) dX4_init_68 kl_4_18 (by decide +kernel) rfl rfl ?_
  refine ex_dup (pc' := 72) dX4_init_71 rfl rfl ?_
  refine en_calliV (pc' := 75) (a := 52) (n := 4) (h2 := hh_105) (vs := []) (rest := [.inr (.inr (some 52)), .inl 3, .inr (.inr (some 45))]) dX4_init_72 ml_4_42 (by decide) ⟨by decide, by decide⟩ rfl rfl (by decide +kernel) (by decide) (by decide) rfl (kc_40 _) ?_
  refine en_aast (pc' := 76) (kd := 19) (n := 12) (nv := 4) (jj := 3) (h2 := hh_106) dX4_init_75 (by decide +kernel) (by decide +kernel) (by decide) (by decide) rfl rfl ?_
  refine ex_iinc (pc' := 79) (v := 4) (ls' := [(1, .inl 4), (0, .inr (.inr (some 42)))]) dX4_init_76 rfl (by decide) (by decide) rfl rfl ?_
  refine ex_goto (pc' := 57) dX4_init_79 (by decide) ?_
  refine ex_iload_n (pc' := 58) dX4_init_57 rfl rfl ?_
  refine ex_bipush (v := 12) (pc' := 60) dX4_init_58 (by decide) rfl ?_
  refine ex_icmp_f (pc' := 63) dX4_init_60 (by decide) (by decide) rfl ?_
  refine ex_aload_n (pc' := 64) dX4_init_63 rfl rfl ?_
  refine ex_getR (pc' := 67) (n := 15) (r := 45) dX4_init_64 fl_4_20 (by decide +kernel) (by decide) (by decide +kernel) rfl ?_
  refine ex_iload_n (pc' := 68) dX4_init_67 rfl rfl ?_
  refine en_new (pc' := 71) (a := 53) (nf := 4) (h2 := hh_107) dX4_init_68 kl_4_18 (by decide +kernel) rfl rfl ?_
  refine ex_dup (pc' := 72) dX4_init_71 rfl rfl ?_
  refine en_calliV (pc' := 75) (a := 53) (n := 4) (h2 := hh_107) (vs := []) (rest := [.inr (.inr (some 53)), .inl 4, .inr (.inr (some 45))]) dX4_init_72 ml_4_42 (by decide) ⟨by decide, by decide⟩ rfl rfl (by decide +kernel) (by decide) (by decide) rfl (kc_41 _) ?_
  refine en_aast (pc' := 76) (kd := 19) (n := 12) (nv := 4) (jj := 4) (h2 := hh_108) dX4_init_75 (by decide +kernel) (by decide +kernel) (by decide) (by decide) rfl rfl ?_
  refine ex_iinc (pc' := 79) (v := 5) (ls' := [(1, .inl 5), (0, .inr (.inr (some 42)))]) dX4_init_76 rfl (by decide) (by decide) rfl rfl ?_
  refine ex_goto (pc' := 57) dX4_init_79 (by decide) ?_
  refine ex_iload_n (pc' := 58) dX4_init_57 rfl rfl ?_
  refine ex_bipush (v := 12) (pc' := 60) dX4_init_58 (by decide) rfl ?_
  refine ex_icmp_f (pc' := 63) dX4_init_60 (by decide) (by decide) rfl ?_
  refine ex_aload_n (pc' := 64) dX4_init_63 rfl rfl ?_
  refine ex_getR (pc' := 67) (n := 15) (r := 45) dX4_init_64 fl_4_20 (by decide +kernel) (by decide) (by decide +kernel) rfl ?_
  refine ex_iload_n (pc' := 68) dX4_init_67 rfl rfl ?_
  refine en_new (pc' := 71) (a := 54) (nf := 4) (h2 := hh_109) dX4_init_68 kl_4_18 (by decide +kernel) rfl rfl ?_
  refine ex_dup (pc' := 72) dX4_init_71 rfl rfl ?_
  refine en_calliV (pc' := 75) (a := 54) (n := 4) (h2 := hh_109) (vs := []) (rest := [.inr (.inr (some 54)), .inl 5, .inr (.inr (some 45))]) dX4_init_72 ml_4_42 (by decide) ⟨by decide, by decide⟩ rfl rfl (by decide +kernel) (by decide) (by decide) rfl (kc_42 _) ?_
  refine en_aast (pc' := 76) (kd := 19) (n := 12) (nv := 4) (jj := 5) (h2 := hh_110) dX4_init_75 (by decide +kernel) (by decide +kernel) (by decide) (by decide) rfl rfl ?_
  refine ex_iinc (pc' := 79) (v := 6) (ls' := [(1, .inl 6), (0, .inr (.inr (some 42)))]) dX4_init_76 rfl (by decide) (by decide) rfl rfl ?_
  refine ex_goto (pc' := 57) dX4_init_79 (by decide) ?_
  refine ex_iload_n (pc' := 58) dX4_init_57 rfl rfl ?_
  refine ex_bipush (v := 12) (pc' := 60) dX4_init_58 (by decide) rfl ?_
  refine ex_icmp_f (pc' := 63) dX4_init_60 (by decide) (by decide) rfl ?_
  refine ex_aload_n (pc' := 64) dX4_init_63 rfl rfl ?_
  refine ex_getR (pc' := 67) (n := 15) (r := 45) dX4_init_64 fl_4_20 (by decide +kernel) (by decide) (by decide +kernel) rfl ?_
  refine ex_iload_n (pc' := 68) dX4_init_67 rfl rfl ?_
  refine en_new (pc' := 71) (a := 55) (nf := 4) (h2 := hh_111) dX4_init_68 kl_4_18 (by decide +kernel) rfl rfl ?_
  refine ex_dup (pc' := 72) dX4_init_71 rfl rfl ?_
  refine en_calliV (pc' := 75) (a := 55) (n := 4) (h2 := hh_111) (vs := []) (rest := [.inr (.inr (some 55)), .inl 6, .inr (.inr (some 45))]) dX4_init_72 ml_4_42 (by decide) ⟨by decide, by decide⟩ rfl rfl (by decide +kernel) (by decide) (by decide) rfl (kc_43 _) ?_
  refine en_aast (pc' := 76) (kd := 19) (n := 12) (nv := 4) (jj := 6) (h2 := hh_112) dX4_init_75 (by decide +kernel) (by decide +kernel) (by decide) (by decide) rfl rfl ?_
  refine ex_iinc (pc' := 79) (v := 7) (ls' := [(1, .inl 7), (0, .inr (.inr (some 42)))]) dX4_init_76 rfl (by decide) (by decide) rfl rfl ?_
  refine ex_goto (pc' := 57) dX4_init_79 (by decide) ?_
  refine ex_iload_n (pc' := 58) dX4_init_57 rfl rfl ?_
  refine ex_bipush (v := 12) (pc' := 60) dX4_init_58 (by decide) rfl ?_
  refine ex_icmp_f (pc' := 63) dX4_init_60 (by decide) (by decide) rfl ?_
  refine ex_aload_n (pc' := 64) dX4_init_63 rfl rfl ?_
  refine ex_getR (pc' := 67) (n := 15) (r := 45) dX4_init_64 fl_4_20 (by decide +kernel) (by decide) (by decide +kernel) rfl ?_
  refine ex_iload_n (pc' := 68) dX4_init_67 rfl rfl ?_
  refine en_new (pc' := 71) (a := 56) (nf := 4) (h2 := hh_113) dX4_init_68 kl_4_18 (by decide +kernel) rfl rfl ?_
  refine ex_dup (pc' := 72) dX4_init_71 rfl rfl ?_
  refine en_calliV (pc' := 75) (a := 56) (n := 4) (h2 := hh_113) (vs := []) (rest := [.inr (.inr (some 56)), .inl 7, .inr (.inr (some 45))]) dX4_init_72 ml_4_42 (by decide) ⟨by decide, by decide⟩ rfl rfl (by decide +kernel) (by decide) (by decide) rfl (kc_44 _) ?_
  refine en_aast (pc' := 76) (kd := 19) (n := 12) (nv := 4) (jj := 7) (h2 := hh_114) dX4_init_75 (by decide +kernel) (by decide +kernel) (by decide) (by decide) rfl rfl ?_
  refine ex_iinc (pc' := 79) (v := 8) (ls' := [(1, .inl 8), (0, .inr (.inr (some 42)))]) dX4_init_76 rfl (by decide) (by decide) rfl rfl ?_
  refine ex_goto (pc' := 57) dX4_init_79 (by decide) ?_
  refine ex_iload_n (pc' := 58) dX4_init_57 rfl rfl ?_
  refine ex_bipush (v := 12) (pc' := 60) dX4_init_58 (by decide) rfl ?_
  refine ex_icmp_f (pc' := 63) dX4_init_60 (by decide) (by decide) rfl ?_
  refine ex_aload_n (pc' := 64) dX4_init_63 rfl rfl ?_
  refine ex_getR (pc' := 67) (n := 15) (r := 45) dX4_init_64 fl_4_20 (by decide +kernel) (by decide) (by decide +kernel) rfl ?_
  refine ex_iload_n (pc' := 68) dX4_init_67 rfl rfl ?_
  refine en_new (pc' := 71) (a := 57) (nf := 4) (h2 := hh_115) dX4_init_68 kl_4_18 (by decide +kernel) rfl rfl ?_
  refine ex_dup (pc' := 72) dX4_init_71 rfl rfl ?_
  refine en_calliV (pc' := 75) (a := 57) (n := 4) (h2 := hh_115) (vs := []) (rest := [.inr (.inr (some 57)), .inl 8, .inr (.inr (some 45))]) dX4_init_72 ml_4_42 (by decide) ⟨by decide, by decide⟩ rfl rfl (by decide +kernel) (by decide) (by decide) rfl (kc_45 _) ?_
  refine en_aast (pc' := 76) (kd := 19) (n := 12) (nv := 4) (jj := 8) (h2 := hh_116) dX4_init_75 (by decide +kernel) (by decide +kernel) (by decide) (by decide) rfl rfl ?_
  refine ex_iinc (pc' := 79) (v := 9) (ls' := [(1, .inl 9), (0, .inr (.inr (some 42)))]) dX4_init_76 rfl (by decide) (by decide) rfl rfl ?_
  refine ex_goto (pc' := 57) dX4_init_79 (by decide) ?_
  refine ex_iload_n (pc' := 58) dX4_init_57 rfl rfl ?_
  refine ex_bipush (v := 12) (pc' := 60) dX4_init_58 (by decide) rfl ?_
  refine ex_icmp_f (pc' := 63) dX4_init_60 (by decide) (by decide) rfl ?_
  refine ex_aload_n (pc' := 64) dX4_init_63 rfl rfl ?_
  refine ex_getR (pc' := 67) (n := 15) (r := 45) dX4_init_64 fl_4_20 (by decide +kernel) (by decide) (by decide +kernel) rfl ?_
  refine ex_iload_n (pc' := 68) dX4_init_67 rfl rfl ?_
  refine en_new (pc' := 71) (a := 58) (nf := 4) (h2 := hh_117) dX4_init_68 kl_4_18 (by decide +kernel) rfl rfl ?_
  refine ex_dup (pc' := 72) dX4_init_71 rfl rfl ?_
  refine en_calliV (pc' := 75) (a := 58) (n := 4) (h2 := hh_117) (vs := []) (rest := [.inr (.inr (some 58)), .inl 9, .inr (.inr (some 45))]) dX4_init_72 ml_4_42 (by decide) ⟨by decide, by decide⟩ rfl rfl (by decide +kernel) (by decide) (by decide) rfl (kc_46 _) ?_
  refine en_aast (pc' := 76) (kd := 19) (n := 12) (nv := 4) (jj := 9) (h2 := hh_118) dX4_init_75 (by decide +kernel) (by decide +kernel) (by decide) (by decide) rfl rfl ?_
  refine ex_iinc (pc' := 79) (v := 10) (ls' := [(1, .inl 10), (0, .inr (.inr (some 42)))]) dX4_init_76 rfl (by decide) (by decide) rfl rfl ?_
  refine ex_goto (pc' := 57) dX4_init_79 (by decide) ?_
  refine ex_iload_n (pc' := 58) dX4_init_57 rfl rfl ?_
  refine ex_bipush (v := 12) (pc' := 60) dX4_init_58 (by decide) rfl ?_
  refine ex_icmp_f (pc' := 63) dX4_init_60 (by decide) (by decide) rfl ?_
  refine ex_aload_n (pc' := 64) dX4_init_63 rfl rfl ?_
  refine ex_getR (pc' := 67) (n := 15) (r := 45) dX4_init_64 fl_4_20 (by decide +kernel) (by decide) (by decide +kernel) rfl ?_
  refine ex_iload_n (pc' := 68) dX4_init_67 rfl rfl ?_
  refine en_new (pc' := 71) (a := 59) (nf := 4) (h2 := hh_119) dX4_init_68 kl_4_18 (by decide +kernel) rfl rfl ?_
  refine ex_dup (pc' := 72) dX4_init_71 rfl rfl ?_
  refine en_calliV (pc' := 75) (a := 59) (n := 4) (h2 := hh_119) (vs := []) (rest := [.inr (.inr (some 59)), .inl 10, .inr (.inr (some 45))]) dX4_init_72 ml_4_42 (by decide) ⟨by decide, by decide⟩ rfl rfl (by decide +kernel) (by decide) (by decide) rfl (kc_47 _) ?_
  refine en_aast (pc' := 76) (kd := 19) (n := 12) (nv := 4) (jj := 10) (h2 := hh_120) dX4_init_75 (by decide +kernel) (by decide +kernel) (by decide) (by decide) rfl rfl ?_
  refine ex_iinc (pc' := 79) (v := 11) (ls' := [(1, .inl 11), (0, .inr (.inr (some 42)))]) dX4_init_76 rfl (by decide) (by decide) rfl rfl ?_
  refine ex_goto (pc' := 57) dX4_init_79 (by decide) ?_
  refine ex_iload_n (pc' := 58) dX4_init_57 rfl rfl ?_
  refine ex_bipush (v := 12) (pc' := 60) dX4_init_58 (by decide) rfl ?_
  refine ex_icmp_f (pc' := 63) dX4_init_60 (by decide) (by decide) rfl ?_
  refine ex_aload_n (pc' := 64) dX4_init_63 rfl rfl ?_
  refine ex_getR (pc' := 67) (n := 15) (r := 45) dX4_init_64 fl_4_20 (by decide +kernel) (by decide) (by decide +kernel) rfl ?_
  refine ex_iload_n (pc' := 68) dX4_init_67 rfl rfl ?_
  refine en_new (pc' := 71) (a := 60) (nf := 4) (h2 := hh_121) dX4_init_68 kl_4_18 (by decide +kernel) rfl rfl ?_
  refine ex_dup (pc' := 72) dX4_init_71 rfl rfl ?_
  refine en_calliV (pc' := 75) (a := 60) (n := 4) (h2 := hh_121) (vs := []) (rest := [.inr (.inr (some 60)), .inl 11, .inr (.inr (some 45))]) dX4_init_72 ml_4_42 (by decide) ⟨by decide, by decide⟩ rfl rfl (by decide +kernel) (by decide) (by decide) rfl (kc_48 _) ?_
  refine en_aast (pc' := 76) (kd := 19) (n := 12) (nv := 4) (jj := 11) (h2 := hh_122) dX4_init_75 (by decide +kernel) (by decide +kernel) (by decide) (by decide) rfl rfl ?_
  refine ex_iinc (pc' := 79) (v := 12) (ls' := [(1, .inl 12), (0, .inr (.inr (some 42)))]) dX4_init_76 rfl (by decide) (by decide) rfl rfl ?_
  refine ex_goto (pc' := 57) dX4_init_79 (by decide) ?_
  refine ex_iload_n (pc' := 58) dX4_init_57 rfl rfl ?_
  refine ex_bipush (v := 12) (pc' := 60) dX4_init_58 (by decide) rfl ?_
  refine ex_icmp_t (pc' := 82) dX4_init_60 (by decide) (by decide) ?_
  refine ex_iconst (v := 0) (pc' := 83) dX4_init_82 (by decide) rfl ?_
  refine ex_istore_n (pc' := 84) (ls' := [(1, .inl 0), (0, .inr (.inr (some 42)))]) dX4_init_83 (by decide) rfl rfl ?_
  refine ex_iload_n (pc' := 85) dX4_init_84 rfl rfl ?_
  refine ex_iconst (v := 5) (pc' := 86) dX4_init_85 (by decide) rfl ?_
  refine ex_icmp_f (pc' := 89) dX4_init_86 (by decide) (by decide) rfl ?_
  refine ex_aload_n (pc' := 90) dX4_init_89 rfl rfl ?_
  refine ex_getR (pc' := 93) (n := 15) (r := 46) dX4_init_90 fl_4_26 (by decide +kernel) (by decide) (by decide +kernel) rfl ?_
  refine ex_iload_n (pc' := 94) dX4_init_93 rfl rfl ?_
  refine en_new (pc' := 97) (a := 61) (nf := 4) (h2 := hh_123) dX4_init_94 kl_4_24 (by decide +kernel) rfl rfl ?_
  refine ex_dup (pc' := 98) dX4_init_97 rfl rfl ?_
  refine en_calliV (pc' := 101) (a := 61) (n := 4) (h2 := hh_123) (vs := []) (rest := [.inr (.inr (some 61)), .inl 0, .inr (.inr (some 46))]) dX4_init_98 ml_4_43 (by decide) ⟨by decide, by decide⟩ rfl rfl (by decide +kernel) (by decide) (by decide) rfl (kc_49 _) ?_
  refine en_aast (pc' := 102) (kd := 20) (n := 5) (nv := 4) (jj := 0) (h2 := hh_124) dX4_init_101 (by decide +kernel) (by decide +kernel) (by decide) (by decide) rfl rfl ?_
  refine ex_iinc (pc' := 105) (v := 1) (ls' := [(1, .inl 1), (0, .inr (.inr (some 42)))]) dX4_init_102 rfl (by decide) (by decide) rfl rfl ?_
  refine ex_goto (pc' := 84) dX4_init_105 (by decide) ?_
  refine ex_iload_n (pc' := 85) dX4_init_84 rfl rfl ?_
  refine ex_iconst (v := 5) (pc' := 86) dX4_init_85 (by decide) rfl ?_
  refine ex_icmp_f (pc' := 89) dX4_init_86 (by decide) (by decide) rfl ?_
  refine ex_aload_n (pc' := 90) dX4_init_89 rfl rfl ?_
  refine ex_getR (pc' := 93) (n := 15) (r := 46) dX4_init_90 fl_4_26 (by decide +kernel) (by decide) (by decide +kernel) rfl ?_
  refine ex_iload_n (pc' := 94) dX4_init_93 rfl rfl ?_
  refine en_new (pc' := 97) (a := 62) (nf := 4) (h2 := hh_125) dX4_init_94 kl_4_24 (by decide +kernel) rfl rfl ?_
  refine ex_dup (pc' := 98) dX4_init_97 rfl rfl ?_
  refine en_calliV (pc' := 101) (a := 62) (n := 4) (h2 := hh_125) (vs := []) (rest := [.inr (.inr (some 62)), .inl 1, .inr (.inr (some 46))]) dX4_init_98 ml_4_43 (by decide) ⟨by decide, by decide⟩ rfl rfl (by decide +kernel) (by decide) (by decide) rfl (kc_50 _) ?_
  refine en_aast (pc' := 102) (kd := 20) (n := 5) (nv := 4) (jj := 1) (h2 := hh_126) dX4_init_101 (by decide +kernel) (by decide +kernel) (by decide) (by decide) rfl rfl ?_
  refine ex_iinc (pc' := 105) (v := 2) (ls' := [(1, .inl 2), (0, .inr (.inr (some 42)))]) dX4_init_102 rfl (by decide) (by decide) rfl rfl ?_
  refine ex_goto (pc' := 84) dX4_init_105 (by decide) ?_
  refine ex_iload_n (pc' := 85) dX4_init_84 rfl rfl ?_
  refine ex_iconst (v := 5) (pc' := 86) dX4_init_85 (by decide) rfl ?_
  refine ex_icmp_f (pc' := 89) dX4_init_86 (by decide) (by decide) rfl ?_
  refine ex_aload_n (pc' := 90) dX4_init_89 rfl rfl ?_
  refine ex_getR (pc' := 93) (n := 15) (r := 46) dX4_init_90 fl_4_26 (by decide +kernel) (by decide) (by decide +kernel) rfl ?_
  refine ex_iload_n (pc' := 94) dX4_init_93 rfl rfl ?_
  refine en_new (pc' := 97) (a := 63) (nf := 4) (h2 := hh_127) dX4_init_94 kl_4_24 (by decide +kernel) rfl rfl ?_
  refine ex_dup (pc' := 98) dX4_init_97 rfl rfl ?_
  refine en_calliV (pc' := 101) (a := 63) (n := 4) (h2 := hh_127) (vs := []) (rest := [.inr (.inr (some 63)), .inl 2, .inr (.inr (some 46))]) dX4_init_98 ml_4_43 (by decide) ⟨by decide, by decide⟩ rfl rfl (by decide +kernel) (by decide) (by decide) rfl (kc_51 _) ?_
  refine en_aast (pc' := 102) (kd := 20) (n := 5) (nv := 4) (jj := 2) (h2 := hh_128) dX4_init_101 (by decide +kernel) (by decide +kernel) (by decide) (by decide) rfl rfl ?_
  refine ex_iinc (pc' := 105) (v := 3) (ls' := [(1, .inl 3), (0, .inr (.inr (some 42)))]) dX4_init_102 rfl (by decide) (by decide) rfl rfl ?_
  refine ex_goto (pc' := 84) dX4_init_105 (by decide) ?_
  refine ex_iload_n (pc' := 85) dX4_init_84 rfl rfl ?_
  refine ex_iconst (v := 5) (pc' := 86) dX4_init_85 (by decide) rfl ?_
  refine ex_icmp_f (pc' := 89) dX4_init_86 (by decide) (by decide) rfl ?_
  refine ex_aload_n (pc' := 90) dX4_init_89 rfl rfl ?_
  refine ex_getR (pc' := 93) (n := 15) (r := 46) dX4_init_90 fl_4_26 (by decide +kernel) (by decide) (by decide +kernel) rfl ?_
  refine ex_iload_n (pc' := 94) dX4_init_93 rfl rfl ?_
  refine en_new (pc' := 97) (a := 64) (nf := 4) (h2 := hh_129) dX4_init_94 kl_4_24 (by decide +kernel) rfl rfl ?_
  refine ex_dup (pc' := 98) dX4_init_97 rfl rfl ?_
  refine en_calliV (pc' := 101) (a := 64) (n := 4) (h2 := hh_129) (vs := []) (rest := [.inr (.inr (some 64)), .inl 3, .inr (.inr (some 46))]) dX4_init_98 ml_4_43 (by decide) ⟨by decide, by decide⟩ rfl rfl (by decide +kernel) (by decide) (by decide) rfl (kc_52 _) ?_
  refine en_aast (pc' := 102) (kd := 20) (n := 5) (nv := 4) (jj := 3) (h2 := hh_130) dX4_init_101 (by decide +kernel) (by decide +kernel) (by decide) (by decide) rfl rfl ?_
  refine ex_iinc (pc' := 105) (v := 4) (ls' := [(1, .inl 4), (0, .inr (.inr (some 42)))]) dX4_init_102 rfl (by decide) (by decide) rfl rfl ?_
  refine ex_goto (pc' := 84) dX4_init_105 (by decide) ?_
  refine ex_iload_n (pc' := 85) dX4_init_84 rfl rfl ?_
  refine ex_iconst (v := 5) (pc' := 86) dX4_init_85 (by decide) rfl ?_
  refine ex_icmp_f (pc' := 89) dX4_init_86 (by decide) (by decide) rfl ?_
  refine ex_aload_n (pc' := 90) dX4_init_89 rfl rfl ?_
  refine ex_getR (pc' := 93) (n := 15) (r := 46) dX4_init_90 fl_4_26 (by decide +kernel) (by decide) (by decide +kernel) rfl ?_
  refine ex_iload_n (pc' := 94) dX4_init_93 rfl rfl ?_
  refine en_new (pc' := 97) (a := 65) (nf := 4) (h2 := hh_131) dX4_init_94 kl_4_24 (by decide +kernel) rfl rfl ?_
  refine ex_dup (pc' := 98) dX4_init_97 rfl rfl ?_
  refine en_calliV (pc' := 101) (a := 65) (n := 4) (h2 := hh_131) (vs := []) (rest := [.inr (.inr (some 65)), .inl 4, .inr (.inr (some 46))]) dX4_init_98 ml_4_43 (by decide) ⟨by decide, by decide⟩ rfl rfl (by decide +kernel) (by decide) (by decide) rfl (kc_53 _) ?_
  refine en_aast (pc' := 102) (kd := 20) (n := 5) (nv := 4) (jj := 4) (h2 := hh_132) dX4_init_101 (by decide +kernel) (by decide +kernel) (by decide) (by decide) rfl rfl ?_
  refine ex_iinc (pc' := 105) (v := 5) (ls' := [(1, .inl 5), (0, .inr (.inr (some 42)))]) dX4_init_102 rfl (by decide) (by decide) rfl rfl ?_
  refine ex_goto (pc' := 84) dX4_init_105 (by decide) ?_
  refine ex_iload_n (pc' := 85) dX4_init_84 rfl rfl ?_
  refine ex_iconst (v := 5) (pc' := 86) dX4_init_85 (by decide) rfl ?_
  refine ex_icmp_t (pc' := 108) dX4_init_86 (by decide) (by decide) ?_
  refine ex_iconst (v := 0) (pc' := 109) dX4_init_108 (by decide) rfl ?_
  refine ex_istore_n (pc' := 110) (ls' := [(1, .inl 0), (0, .inr (.inr (some 42)))]) dX4_init_109 (by decide) rfl rfl ?_
  refine ex_iload_n (pc' := 111) dX4_init_110 rfl rfl ?_
  refine ex_bipush (v := 8) (pc' := 113) dX4_init_111 (by decide) rfl ?_
  refine ex_icmp_f (pc' := 116) dX4_init_113 (by decide) (by decide) rfl ?_
  refine ex_aload_n (pc' := 117) dX4_init_116 rfl rfl ?_
  refine ex_getR (pc' := 120) (n := 15) (r := 47) dX4_init_117 fl_4_32 (by decide +kernel) (by decide) (by decide +kernel) rfl ?_
  refine ex_iload_n (pc' := 121) dX4_init_120 rfl rfl ?_
  refine en_new (pc' := 124) (a := 66) (nf := 4) (h2 := hh_133) dX4_init_121 kl_4_30 (by decide +kernel) rfl rfl ?_
  refine ex_dup (pc' := 125) dX4_init_124 rfl rfl ?_
  refine en_calliV (pc' := 128) (a := 66) (n := 4) (h2 := hh_133) (vs := []) (rest := [.inr (.inr (some 66)), .inl 0, .inr (.inr (some 47))]) dX4_init_125 ml_4_44 (by decide) ⟨by decide, by decide⟩ rfl rfl (by decide +kernel) (by decide) (by decide) rfl (kc_54 _) ?_
  refine en_aast (pc' := 129) (kd := 16) (n := 8) (nv := 4) (jj := 0) (h2 := hh_134) dX4_init_128 (by decide +kernel) (by decide +kernel) (by decide) (by decide) rfl rfl ?_
  refine ex_iinc (pc' := 132) (v := 1) (ls' := [(1, .inl 1), (0, .inr (.inr (some 42)))]) dX4_init_129 rfl (by decide) (by decide) rfl rfl ?_
  refine ex_goto (pc' := 110) dX4_init_132 (by decide) ?_
  refine ex_iload_n (pc' := 111) dX4_init_110 rfl rfl ?_
  refine ex_bipush (v := 8) (pc' := 113) dX4_init_111 (by decide) rfl ?_
  refine ex_icmp_f (pc' := 116) dX4_init_113 (by decide) (by decide) rfl ?_
  refine ex_aload_n (pc' := 117) dX4_init_116 rfl rfl ?_
  refine ex_getR (pc' := 120) (n := 15) (r := 47) dX4_init_117 fl_4_32 (by decide +kernel) (by decide) (by decide +kernel) rfl ?_
  refine ex_iload_n (pc' := 121) dX4_init_120 rfl rfl ?_
  refine en_new (pc' := 124) (a := 67) (nf := 4) (h2 := hh_135) dX4_init_121 kl_4_30 (by decide +kernel) rfl rfl ?_
  refine ex_dup (pc' := 125) dX4_init_124 rfl rfl ?_
  refine en_calliV (pc' := 128) (a := 67) (n := 4) (h2 := hh_135) (vs := []) (rest := [.inr (.inr (some 67)), .inl 1, .inr (.inr (some 47))]) dX4_init_125 ml_4_44 (by decide) ⟨by decide, by decide⟩ rfl rfl (by decide +kernel) (by decide) (by decide) rfl (kc_55 _) ?_
  refine en_aast (pc' := 129) (kd := 16) (n := 8) (nv := 4) (jj := 1) (h2 := hh_136) dX4_init_128 (by decide +kernel) (by decide +kernel) (by decide) (by decide) rfl rfl ?_
  refine ex_iinc (pc' := 132) (v := 2) (ls' := [(1, .inl 2), (0, .inr (.inr (some 42)))]) dX4_init_129 rfl (by decide) (by decide) rfl rfl ?_
  refine ex_goto (pc' := 110) dX4_init_132 (by decide) ?_
  refine ex_iload_n (pc' := 111) dX4_init_110 rfl rfl ?_
  refine ex_bipush (v := 8) (pc' := 113) dX4_init_111 (by decide) rfl ?_
  refine ex_icmp_f (pc' := 116) dX4_init_113 (by decide) (by decide) rfl ?_
  refine ex_aload_n (pc' := 117) dX4_init_116 rfl rfl ?_
  refine ex_getR (pc' := 120) (n := 15) (r := 47) dX4_init_117 fl_4_32 (by decide +kernel) (by decide) (by decide +kernel) rfl ?_
  refine ex_iload_n (pc' := 121) dX4_init_120 rfl rfl ?_
  refine en_new (pc' := 124) (a := 68) (nf := 4) (h2 := hh_137) dX4_init_121 kl_4_30 (by decide +kernel) rfl rfl ?_
  refine ex_dup (pc' := 125) dX4_init_124 rfl rfl ?_
  refine en_calliV (pc' := 128) (a := 68) (n := 4) (h2 := hh_137) (vs := []) (rest := [.inr (.inr (some 68)), .inl 2, .inr (.inr (some 47))]) dX4_init_125 ml_4_44 (by decide) ⟨by decide, by decide⟩ rfl rfl (by decide +kernel) (by decide) (by decide) rfl (kc_56 _) ?_
  refine en_aast (pc' := 129) (kd := 16) (n := 8) (nv := 4) (jj := 2) (h2 := hh_138) dX4_init_128 (by decide +kernel) (by decide +kernel) (by decide) (by decide) rfl rfl ?_
  refine ex_iinc (pc' := 132) (v := 3) (ls' := [(1, .inl 3), (0, .inr (.inr (some 42)))]) dX4_init_129 rfl (by decide) (by decide) rfl rfl ?_
  refine ex_goto (pc' := 110) dX4_init_132 (by decide) ?_
  refine ex_iload_n (pc' := 111) dX4_init_110 rfl rfl ?_
  refine ex_bipush (v := 8) (pc' := 113) dX4_init_111 (by decide) rfl ?_
  refine ex_icmp_f (pc' := 116) dX4_init_113 (by decide) (by decide) rfl ?_
  refine ex_aload_n (pc' := 117) dX4_init_116 rfl rfl ?_
  refine ex_getR (pc' := 120) (n := 15) (r := 47) dX4_init_117 fl_4_32 (by decide +kernel) (by decide) (by decide +kernel) rfl ?_
  refine ex_iload_n (pc' := 121) dX4_init_120 rfl rfl ?_
  refine en_new (pc' := 124) (a := 69) (nf := 4) (h2 := hh_139) dX4_init_121 kl_4_30 (by decide +kernel) rfl rfl ?_
  refine ex_dup (pc' := 125) dX4_init_124 rfl rfl ?_
  refine en_calliV (pc' := 128) (a := 69) (n := 4) (h2 := hh_139) (vs := []) (rest := [.inr (.inr (some 69)), .inl 3, .inr (.inr (some 47))]) dX4_init_125 ml_4_44 (by decide) ⟨by decide, by decide⟩ rfl rfl (by decide +kernel) (by decide) (by decide) rfl (kc_57 _) ?_
  refine en_aast (pc' := 129) (kd := 16) (n := 8) (nv := 4) (jj := 3) (h2 := hh_140) dX4_init_128 (by decide +kernel) (by decide +kernel) (by decide) (by decide) rfl rfl ?_
  refine ex_iinc (pc' := 132) (v := 4) (ls' := [(1, .inl 4), (0, .inr (.inr (some 42)))]) dX4_init_129 rfl (by decide) (by decide) rfl rfl ?_
  refine ex_goto (pc' := 110) dX4_init_132 (by decide) ?_
  refine ex_iload_n (pc' := 111) dX4_init_110 rfl rfl ?_
  refine ex_bipush (v := 8) (pc' := 113) dX4_init_111 (by decide) rfl ?_
  refine ex_icmp_f (pc' := 116) dX4_init_113 (by decide) (by decide) rfl ?_
  refine ex_aload_n (pc' := 117) dX4_init_116 rfl rfl ?_
  refine ex_getR (pc' := 120) (n := 15) (r := 47) dX4_init_117 fl_4_32 (by decide +kernel) (by decide) (by decide +kernel) rfl ?_
  refine ex_iload_n (pc' := 121) dX4_init_120 rfl rfl ?_
  refine en_new (pc' := 124) (a := 70) (nf := 4) (h2 := hh_141) dX4_init_121 kl_4_30 (by decide +kernel) rfl rfl ?_
  refine ex_dup (pc' := 125) dX4_init_124 rfl rfl ?_
  refine en_calliV (pc' := 128) (a := 70) (n := 4) (h2 := hh_141) (vs := []) (rest := [.inr (.inr (some 70)), .inl 4, .inr (.inr (some 47))]) dX4_init_125 ml_4_44 (by decide) ⟨by decide, by decide⟩ rfl rfl (by decide +kernel) (by decide) (by decide) rfl (kc_58 _) ?_
  refine en_aast (pc' := 129) (kd := 16) (n := 8) (nv := 4) (jj := 4) (h2 := hh_142) dX4_init_128 (by decide +kernel) (by decide +kernel) (by decide) (by decide) rfl rfl ?_
  refine ex_iinc (pc' := 132) (v := 5) (ls' := [(1, .inl 5), (0, .inr (.inr (some 42)))]) dX4_init_129 rfl (by decide) (by decide) rfl rfl ?_
  refine ex_goto (pc' := 110) dX4_init_132 (by decide) ?_
  refine ex_iload_n (pc' := 111) dX4_init_110 rfl rfl ?_
  refine ex_bipush (v := 8) (pc' := 113) dX4_init_111 (by decide) rfl ?_
  refine ex_icmp_f (pc' := 116) dX4_init_113 (by decide) (by decide) rfl ?_
  refine ex_aload_n (pc' := 117) dX4_init_116 rfl rfl ?_
  refine ex_getR (pc' := 120) (n := 15) (r := 47) dX4_init_117 fl_4_32 (by decide +kernel) (by decide) (by decide +kernel) rfl ?_
  refine ex_iload_n (pc' := 121) dX4_init_120 rfl rfl ?_
  refine en_new (pc' := 124) (a := 71) (nf := 4) (h2 := hh_143) dX4_init_121 kl_4_30 (by decide +kernel) rfl rfl ?_
  refine ex_dup (pc' := 125) dX4_init_124 rfl rfl ?_
  refine en_calliV (pc' := 128) (a := 71) (n := 4) (h2 := hh_143) (vs := []) (rest := [.inr (.inr (some 71)), .inl 5, .inr (.inr (some 47))]) dX4_init_125 ml_4_44 (by decide) ⟨by decide, by decide⟩ rfl rfl (by decide +kernel) (by decide) (by decide) rfl (kc_59 _) ?_
  refine en_aast (pc' := 129) (kd := 16) (n := 8) (nv := 4) (jj := 5) (h2 := hh_144) dX4_init_128 (by decide +kernel) (by decide +kernel) (by decide) (by decide) rfl rfl ?_
  refine ex_iinc (pc' := 132) (v := 6) (ls' := [(1, .inl 6), (0, .inr (.inr (some 42)))]) dX4_init_129 rfl (by decide) (by decide) rfl rfl ?_
  refine ex_goto (pc' := 110) dX4_init_132 (by decide) ?_
  refine ex_iload_n (pc' := 111) dX4_init_110 rfl rfl ?_
  refine ex_bipush (v := 8) (pc' := 113) dX4_init_111 (by decide) rfl ?_
  refine ex_icmp_f (pc' := 116) dX4_init_113 (by decide) (by decide) rfl ?_
  refine ex_aload_n (pc' := 117) dX4_init_116 rfl rfl ?_
  refine ex_getR (pc' := 120) (n := 15) (r := 47) dX4_init_117 fl_4_32 (by decide +kernel) (by decide) (by decide +kernel) rfl ?_
  refine ex_iload_n (pc' := 121) dX4_init_120 rfl rfl ?_
  refine en_new (pc' := 124) (a := 72) (nf := 4) (h2 := hh_145) dX4_init_121 kl_4_30 (by decide +kernel) rfl rfl ?_
  refine ex_dup (pc' := 125) dX4_init_124 rfl rfl ?_
  refine en_calliV (pc' := 128) (a := 72) (n := 4) (h2 := hh_145) (vs := []) (rest := [.inr (.inr (some 72)), .inl 6, .inr (.inr (some 47))]) dX4_init_125 ml_4_44 (by decide) ⟨by decide, by decide⟩ rfl rfl (by decide +kernel) (by decide) (by decide) rfl (kc_60 _) ?_
  refine en_aast (pc' := 129) (kd := 16) (n := 8) (nv := 4) (jj := 6) (h2 := hh_146) dX4_init_128 (by decide +kernel) (by decide +kernel) (by decide) (by decide) rfl rfl ?_
  refine ex_iinc (pc' := 132) (v := 7) (ls' := [(1, .inl 7), (0, .inr (.inr (some 42)))]) dX4_init_129 rfl (by decide) (by decide) rfl rfl ?_
  refine ex_goto (pc' := 110) dX4_init_132 (by decide) ?_
  refine ex_iload_n (pc' := 111) dX4_init_110 rfl rfl ?_
  refine ex_bipush (v := 8) (pc' := 113) dX4_init_111 (by decide) rfl ?_
  refine ex_icmp_f (pc' := 116) dX4_init_113 (by decide) (by decide) rfl ?_
  refine ex_aload_n (pc' := 117) dX4_init_116 rfl rfl ?_
  refine ex_getR (pc' := 120) (n := 15) (r := 47) dX4_init_117 fl_4_32 (by decide +kernel) (by decide) (by decide +kernel) rfl ?_
  refine ex_iload_n (pc' := 121) dX4_init_120 rfl rfl ?_
  refine en_new (pc' := 124) (a := 73) (nf := 4) (h2 := hh_147) dX4_init_121 kl_4_30 (by decide +kernel) rfl rfl ?_
  refine ex_dup (pc' := 125) dX4_init_124 rfl rfl ?_
  refine en_calliV (pc' := 128) (a := 73) (n := 4) (h2 := hh_147) (vs := []) (rest := [.inr (.inr (some 73)), .inl 7, .inr (.inr (some 47))]) dX4_init_125 ml_4_44 (by decide) ⟨by decide, by decide⟩ rfl rfl (by decide +kernel) (by decide) (by decide) rfl (kc_61 _) ?_
  refine en_aast (pc' := 129) (kd := 16) (n := 8) (nv := 4) (jj := 7) (h2 := hh_148) dX4_init_128 (by decide +kernel) (by decide +kernel) (by decide) (by decide) rfl rfl ?_
  refine ex_iinc (pc' := 132) (v := 8) (ls' := [(1, .inl 8), (0, .inr (.inr (some 42)))]) dX4_init_129 rfl (by decide) (by decide) rfl rfl ?_
  refine ex_goto (pc' := 110) dX4_init_132 (by decide) ?_
  refine ex_iload_n (pc' := 111) dX4_init_110 rfl rfl ?_
  refine ex_bipush (v := 8) (pc' := 113) dX4_init_111 (by decide) rfl ?_
  refine ex_icmp_t (pc' := 135) dX4_init_113 (by decide) (by decide) ?_
  refine ex_iconst (v := 0) (pc' := 136) dX4_init_135 (by decide) rfl ?_
  refine ex_istore_n (pc' := 137) (ls' := [(1, .inl 0), (0, .inr (.inr (some 42)))]) dX4_init_136 (by decide) rfl rfl ?_
  refine ex_iload_n (pc' := 138) dX4_init_137 rfl rfl ?_
  refine ex_bipush (v := 8) (pc' := 140) dX4_init_138 (by decide) rfl ?_
  refine ex_icmp_f (pc' := 143) dX4_init_140 (by decide) (by decide) rfl ?_
  refine ex_aload_n (pc' := 144) dX4_init_143 rfl rfl ?_
  refine ex_getR (pc' := 147) (n := 15) (r := 48) dX4_init_144 fl_4_38 (by decide +kernel) (by decide) (by decide +kernel) rfl ?_
  refine ex_iload_n (pc' := 148) dX4_init_147 rfl rfl ?_
  refine en_new (pc' := 151) (a := 74) (nf := 3) (h2 := hh_149) dX4_init_148 kl_4_36 (by decide +kernel) rfl rfl ?_
  refine ex_dup (pc' := 152) dX4_init_151 rfl rfl ?_
  refine en_calliV (pc' := 155) (a := 74) (n := 3) (h2 := hh_149) (vs := []) (rest := [.inr (.inr (some 74)), .inl 0, .inr (.inr (some 48))]) dX4_init_152 ml_4_45 (by decide) ⟨by decide, by decide⟩ rfl rfl (by decide +kernel) (by decide) (by decide) rfl (kc_62 _) ?_
  refine en_aast (pc' := 156) (kd := 18) (n := 8) (nv := 3) (jj := 0) (h2 := hh_150) dX4_init_155 (by decide +kernel) (by decide +kernel) (by decide) (by decide) rfl rfl ?_
  refine ex_iinc (pc' := 159) (v := 1) (ls' := [(1, .inl 1), (0, .inr (.inr (some 42)))]) dX4_init_156 rfl (by decide) (by decide) rfl rfl ?_
  refine ex_goto (pc' := 137) dX4_init_159 (by decide) ?_
  refine ex_iload_n (pc' := 138) dX4_init_137 rfl rfl ?_
  refine ex_bipush (v := 8) (pc' := 140) dX4_init_138 (by decide) rfl ?_
  refine ex_icmp_f (pc' := 143) dX4_init_140 (by decide) (by decide) rfl ?_
  refine ex_aload_n (pc' := 144) dX4_init_143 rfl rfl ?_
  refine ex_getR (pc' := 147) (n := 15) (r := 48) dX4_init_144 fl_4_38 (by decide +kernel) (by decide) (by decide +kernel) rfl ?_
  refine ex_iload_n (pc' := 148) dX4_init_147 rfl rfl ?_
  refine en_new (pc' := 151) (a := 75) (nf := 3) (h2 := hh_151) dX4_init_148 kl_4_36 (by decide +kernel) rfl rfl ?_
  refine ex_dup (pc' := 152) dX4_init_151 rfl rfl ?_
  refine en_calliV (pc' := 155) (a := 75) (n := 3) (h2 := hh_151) (vs := []) (rest := [.inr (.inr (some 75)), .inl 1, .inr (.inr (some 48))]) dX4_init_152 ml_4_45 (by decide) ⟨by decide, by decide⟩ rfl rfl (by decide +kernel) (by decide) (by decide) rfl (kc_63 _) ?_
  refine en_aast (pc' := 156) (kd := 18) (n := 8) (nv := 3) (jj := 1) (h2 := hh_152) dX4_init_155 (by decide +kernel) (by decide +kernel) (by decide) (by decide) rfl rfl ?_
  refine ex_iinc (pc' := 159) (v := 2) (ls' := [(1, .inl 2), (0, .inr (.inr (some 42)))]) dX4_init_156 rfl (by decide) (by decide) rfl rfl ?_
  refine ex_goto (pc' := 137) dX4_init_159 (by decide) ?_
  refine ex_iload_n (pc' := 138) dX4_init_137 rfl rfl ?_
  refine ex_bipush (v := 8) (pc' := 140) dX4_init_138 (by decide) rfl ?_
  refine ex_icmp_f (pc' := 143) dX4_init_140 (by decide) (by decide) rfl ?_
  refine ex_aload_n (pc' := 144) dX4_init_143 rfl rfl ?_
  refine ex_getR (pc' := 147) (n := 15) (r := 48) dX4_init_144 fl_4_38 (by decide +kernel) (by decide) (by decide +kernel) rfl ?_
  refine ex_iload_n (pc' := 148) dX4_init_147 rfl rfl ?_
  refine en_new (pc' := 151) (a := 76) (nf := 3) (h2 := hh_153) dX4_init_148 kl_4_36 (by decide +kernel) rfl rfl ?_
  refine ex_dup (pc' := 152) dX4_init_151 rfl rfl ?_
  refine en_calliV (pc' := 155) (a := 76) (n := 3) (h2 := hh_153) (vs := []) (rest := [.inr (.inr (some 76)), .inl 2, .inr (.inr (some 48))]) dX4_init_152 ml_4_45 (by decide) ⟨by decide, by decide⟩ rfl rfl (by decide +kernel) (by decide) (by decide) rfl (kc_64 _) ?_
  refine en_aast (pc' := 156) (kd := 18) (n := 8) (nv := 3) (jj := 2) (h2 := hh_154) dX4_init_155 (by decide +kernel) (by decide +kernel) (by decide) (by decide) rfl rfl ?_
  refine ex_iinc (pc' := 159) (v := 3) (ls' := [(1, .inl 3), (0, .inr (.inr (some 42)))]) dX4_init_156 rfl (by decide) (by decide) rfl rfl ?_
  refine ex_goto (pc' := 137) dX4_init_159 (by decide) ?_
  refine ex_iload_n (pc' := 138) dX4_init_137 rfl rfl ?_
  refine ex_bipush (v := 8) (pc' := 140) dX4_init_138 (by decide) rfl ?_
  refine ex_icmp_f (pc' := 143) dX4_init_140 (by decide) (by decide) rfl ?_
  refine ex_aload_n (pc' := 144) dX4_init_143 rfl rfl ?_
  refine ex_getR (pc' := 147) (n := 15) (r := 48) dX4_init_144 fl_4_38 (by decide +kernel) (by decide) (by decide +kernel) rfl ?_
  refine ex_iload_n (pc' := 148) dX4_init_147 rfl rfl ?_
  refine en_new (pc' := 151) (a := 77) (nf := 3) (h2 := hh_155) dX4_init_148 kl_4_36 (by decide +kernel) rfl rfl ?_
  refine ex_dup (pc' := 152) dX4_init_151 rfl rfl ?_
  refine en_calliV (pc' := 155) (a := 77) (n := 3) (h2 := hh_155) (vs := []) (rest := [.inr (.inr (some 77)), .inl 3, .inr (.inr (some 48))]) dX4_init_152 ml_4_45 (by decide) ⟨by decide, by decide⟩ rfl rfl (by decide +kernel) (by decide) (by decide) rfl (kc_65 _) ?_
  refine en_aast (pc' := 156) (kd := 18) (n := 8) (nv := 3) (jj := 3) (h2 := hh_156) dX4_init_155 (by decide +kernel) (by decide +kernel) (by decide) (by decide) rfl rfl ?_
  refine ex_iinc (pc' := 159) (v := 4) (ls' := [(1, .inl 4), (0, .inr (.inr (some 42)))]) dX4_init_156 rfl (by decide) (by decide) rfl rfl ?_
  refine ex_goto (pc' := 137) dX4_init_159 (by decide) ?_
  refine ex_iload_n (pc' := 138) dX4_init_137 rfl rfl ?_
  refine ex_bipush (v := 8) (pc' := 140) dX4_init_138 (by decide) rfl ?_
  refine ex_icmp_f (pc' := 143) dX4_init_140 (by decide) (by decide) rfl ?_
  refine ex_aload_n (pc' := 144) dX4_init_143 rfl rfl ?_
  refine ex_getR (pc' := 147) (n := 15) (r := 48) dX4_init_144 fl_4_38 (by decide +kernel) (by decide) (by decide +kernel) rfl ?_
  refine ex_iload_n (pc' := 148) dX4_init_147 rfl rfl ?_
  refine en_new (pc' := 151) (a := 78) (nf := 3) (h2 := hh_157) dX4_init_148 kl_4_36 (by decide +kernel) rfl rfl ?_
  refine ex_dup (pc' := 152) dX4_init_151 rfl rfl ?_
  refine en_calliV (pc' := 155) (a := 78) (n := 3) (h2 := hh_157) (vs := []) (rest := [.inr (.inr (some 78)), .inl 4, .inr (.inr (some 48))]) dX4_init_152 ml_4_45 (by decide) ⟨by decide, by decide⟩ rfl rfl (by decide +kernel) (by decide) (by decide) rfl (kc_66 _) ?_
  refine en_aast (pc' := 156) (kd := 18) (n := 8) (nv := 3) (jj := 4) (h2 := hh_158) dX4_init_155 (by decide +kernel) (by decide +kernel) (by decide) (by decide) rfl rfl ?_
  refine ex_iinc (pc' := 159) (v := 5) (ls' := [(1, .inl 5), (0, .inr (.inr (some 42)))]) dX4_init_156 rfl (by decide) (by decide) rfl rfl ?_
  refine ex_goto (pc' := 137) dX4_init_159 (by decide) ?_
  refine ex_iload_n (pc' := 138) dX4_init_137 rfl rfl ?_
  refine ex_bipush (v := 8) (pc' := 140) dX4_init_138 (by decide) rfl ?_
  refine ex_icmp_f (pc' := 143) dX4_init_140 (by decide) (by decide) rfl ?_
  refine ex_aload_n (pc' := 144) dX4_init_143 rfl rfl ?_
  refine ex_getR (pc' := 147) (n := 15) (r := 48) dX4_init_144 fl_4_38 (by decide +kernel) (by decide) (by decide +kernel) rfl ?_
  refine ex_iload_n (pc' := 148) dX4_init_147 rfl rfl ?_
  refine en_new (pc' := 151) (a := 79) (nf := 3) (h2 := hh_159) dX4_init_148 kl_4_36 (by decide +kernel) rfl rfl ?_
  refine ex_dup (pc' := 152) dX4_init_151 rfl rfl ?_
  refine en_calliV (pc' := 155) (a := 79) (n := 3) (h2 := hh_159) (vs := []) (rest := [.inr (.inr (some 79)), .inl 5, .inr (.inr (some 48))]) dX4_init_152 ml_4_45 (by decide) ⟨by decide, by decide⟩ rfl rfl (by decide +kernel) (by decide) (by decide) rfl (kc_67 _) ?_
  refine en_aast (pc' := 156) (kd := 18) (n := 8) (nv := 3) (jj := 5) (h2 := hh_160) dX4_init_155 (by decide +kernel) (by decide +kernel) (by decide) (by decide) rfl rfl ?_
  refine ex_iinc (pc' := 159) (v := 6) (ls' := [(1, .inl 6), (0, .inr (.inr (some 42)))]) dX4_init_156 rfl (by decide) (by decide) rfl rfl ?_
  refine ex_goto (pc' := 137) dX4_init_159 (by decide) ?_
  refine ex_iload_n (pc' := 138) dX4_init_137 rfl rfl ?_
  refine ex_bipush (v := 8) (pc' := 140) dX4_init_138 (by decide) rfl ?_
  refine ex_icmp_f (pc' := 143) dX4_init_140 (by decide) (by decide) rfl ?_
  refine ex_aload_n (pc' := 144) dX4_init_143 rfl rfl ?_
  refine ex_getR (pc' := 147) (n := 15) (r := 48) dX4_init_144 fl_4_38 (by decide +kernel) (by decide) (by decide +kernel) rfl ?_
  refine ex_iload_n (pc' := 148) dX4_init_147 rfl rfl ?_
  refine en_new (pc' := 151) (a := 80) (nf := 3) (h2 := hh_161) dX4_init_148 kl_4_36 (by decide +kernel) rfl rfl ?_
  refine ex_dup (pc' := 152) dX4_init_151 rfl rfl ?_
  refine en_calliV (pc' := 155) (a := 80) (n := 3) (h2 := hh_161) (vs := []) (rest := [.inr (.inr (some 80)), .inl 6, .inr (.inr (some 48))]) dX4_init_152 ml_4_45 (by decide) ⟨by decide, by decide⟩ rfl rfl (by decide +kernel) (by decide) (by decide) rfl (kc_68 _) ?_
  refine en_aast (pc' := 156) (kd := 18) (n := 8) (nv := 3) (jj := 6) (h2 := hh_162) dX4_init_155 (by decide +kernel) (by decide +kernel) (by decide) (by decide) rfl rfl ?_
  refine ex_iinc (pc' := 159) (v := 7) (ls' := [(1, .inl 7), (0, .inr (.inr (some 42)))]) dX4_init_156 rfl (by decide) (by decide) rfl rfl ?_
  refine ex_goto (pc' := 137) dX4_init_159 (by decide) ?_
  refine ex_iload_n (pc' := 138) dX4_init_137 rfl rfl ?_
  refine ex_bipush (v := 8) (pc' := 140) dX4_init_138 (by decide) rfl ?_
  refine ex_icmp_f (pc' := 143) dX4_init_140 (by decide) (by decide) rfl ?_
  refine ex_aload_n (pc' := 144) dX4_init_143 rfl rfl ?_
  refine ex_getR (pc' := 147) (n := 15) (r := 48) dX4_init_144 fl_4_38 (by decide +kernel) (by decide) (by decide +kernel) rfl ?_
  refine ex_iload_n (pc' := 148) dX4_init_147 rfl rfl ?_
  refine en_new (pc' := 151) (a := 81) (nf := 3) (h2 := hh_163) dX4_init_148 kl_4_36 (by decide +kernel) rfl rfl ?_
  refine ex_dup (pc' := 152) dX4_init_151 rfl rfl ?_
  refine en_calliV (pc' := 155) (a := 81) (n := 3) (h2 := hh_163) (vs := []) (rest := [.inr (.inr (some 81)), .inl 7, .inr (.inr (some 48))]) dX4_init_152 ml_4_45 (by decide) ⟨by decide, by decide⟩ rfl rfl (by decide +kernel) (by decide) (by decide) rfl (kc_69 _) ?_
  refine en_aast (pc' := 156) (kd := 18) (n := 8) (nv := 3) (jj := 7) (h2 := hh_164) dX4_init_155 (by decide +kernel) (by decide +kernel) (by decide) (by decide) rfl rfl ?_
  refine ex_iinc (pc' := 159) (v := 8) (ls' := [(1, .inl 8), (0, .inr (.inr (some 42)))]) dX4_init_156 rfl (by decide) (by decide) rfl rfl ?_
  refine ex_goto (pc' := 137) dX4_init_159 (by decide) ?_
  refine ex_iload_n (pc' := 138) dX4_init_137 rfl rfl ?_
  refine ex_bipush (v := 8) (pc' := 140) dX4_init_138 (by decide) rfl ?_
  refine ex_icmp_t (pc' := 162) dX4_init_140 (by decide) (by decide) ?_
  exact ex_vretV dX4_init_162 rfl rfl
set_option maxRecDepth 20000 in
theorem kc_70 (d : Nat) : zCv (d + 1) mX5_init [.inr (.inr (some 82)), .inr (.inr (some 1)), .inr (.inr (some 42))] hh_166 (fun h' => h' = hh_182) := by
  show zEx none (d + 1) mX5_init (0, [(0, .inr (.inr (some 82))), (1, .inr (.inr (some 1))), (2, .inr (.inr (some 42)))], [], hh_166) _
  refine ex_aload_n (pc' := 1) dX5_init_0 rfl rfl ?_
  refine ex_obj (pc' := 4) dX5_init_1 ml_5_3 (by decide) rfl ?_
  refine ex_aload_n (pc' := 5) dX5_init_4 rfl rfl ?_
  refine ex_iconst (v := 0) (pc' := 6) dX5_init_5 (by decide) rfl ?_
  refine en_putI (pc' := 9) (n := 13) (h2 := hh_167) dX5_init_6 fl_5_9 (by decide +kernel) (by decide) (by decide) rfl rfl ?_
  refine ex_aload_n (pc' := 10) dX5_init_9 rfl rfl ?_
  refine ex_iconst (v := 0) (pc' := 11) dX5_init_10 (by decide) rfl ?_
  refine en_putI (pc' := 14) (n := 13) (h2 := hh_168) dX5_init_11 fl_5_15 (by decide +kernel) (by decide) (by decide) rfl rfl ?_
  refine ex_aload_n (pc' := 15) dX5_init_14 rfl rfl ?_
  refine ex_iconst (v := 0) (pc' := 16) dX5_init_15 (by decide) rfl ?_
  refine en_putI (pc' := 19) (n := 13) (h2 := hh_169) dX5_init_16 fl_5_18 (by decide +kernel) (by decide) (by decide) rfl rfl ?_
  refine ex_aload_n (pc' := 20) dX5_init_19 rfl rfl ?_
  refine ex_iconst (v := 0) (pc' := 21) dX5_init_20 (by decide) rfl ?_
  refine en_putI (pc' := 24) (n := 13) (h2 := hh_170) dX5_init_21 fl_5_21 (by decide +kernel) (by decide) (by decide) rfl rfl ?_
  refine ex_aload_n (pc' := 25) dX5_init_24 rfl rfl ?_
  refine ex_iconst (v := 0) (pc' := 26) dX5_init_25 (by decide) rfl ?_
  refine en_putI (pc' := 29) (n := 13) (h2 := hh_171) dX5_init_26 fl_5_24 (by decide +kernel) (by decide) (by decide) rfl rfl ?_
  refine ex_aload_n (pc' := 30) dX5_init_29 rfl rfl ?_
  refine ex_bipush (v := 20) (pc' := 32) dX5_init_30 (by decide) rfl ?_
  refine en_narrL (pc' := 34) (a := 83) (nn := 20) (h2 := hh_172) dX5_init_32 (by decide +kernel) rfl rfl ?_
  refine en_putR (pc' := 37) (n := 13) (h2 := hh_173) dX5_init_34 fl_5_27 (by decide +kernel) (by decide) (by decide) rfl rfl ?_
  refine ex_aload_n (pc' := 38) dX5_init_37 rfl rfl ?_
  refine ex_bipush (v := 20) (pc' := 40) dX5_init_38 (by decide) rfl ?_
  refine en_narrI (pc' := 42) (a := 84) (nn := 20) (h2 := hh_174) dX5_init_40 (by decide +kernel) rfl rfl ?_
  refine en_putR (pc' := 45) (n := 13) (h2 := hh_175) dX5_init_42 fl_5_31 (by decide +kernel) (by decide) (by decide) rfl rfl ?_
  refine ex_aload_n (pc' := 46) dX5_init_45 rfl rfl ?_
  refine ex_bipush (v := 20) (pc' := 48) dX5_init_46 (by decide) rfl ?_
  refine en_narrI (pc' := 50) (a := 85) (nn := 20) (h2 := hh_176) dX5_init_48 (by decide +kernel) rfl rfl ?_
  refine en_putR (pc' := 53) (n := 13) (h2 := hh_177) dX5_init_50 fl_5_35 (by decide +kernel) (by decide) (by decide) rfl rfl ?_
  refine ex_aload_n (pc' := 54) dX5_init_53 rfl rfl ?_
  refine ex_iconst (v := 0) (pc' := 55) dX5_init_54 (by decide) rfl ?_
  refine en_putI (pc' := 58) (n := 13) (h2 := hh_178) dX5_init_55 fl_5_38 (by decide +kernel) (by decide) (by decide) rfl rfl ?_
  refine ex_aload_n (pc' := 59) dX5_init_58 rfl rfl ?_
  refine ex_iconst (v := 0) (pc' := 60) dX5_init_59 (by decide) rfl ?_
  refine en_putI (pc' := 63) (n := 13) (h2 := hh_179) dX5_init_60 fl_5_41 (by decide +kernel) (by decide) (by decide) rfl rfl ?_
  refine ex_aload_n (pc' := 64) dX5_init_63 rfl rfl ?_
  refine ex_iconst (v := (-1)) (pc' := 65) dX5_init_64 (by decide) rfl ?_
  refine en_putI (pc' := 68) (n := 13) (h2 := hh_180) dX5_init_65 fl_5_44 (by decide +kernel) (by decide) (by decide) rfl rfl ?_
  refine ex_aload_n (pc' := 69) dX5_init_68 rfl rfl ?_
  refine ex_aload_n (pc' := 70) dX5_init_69 rfl rfl ?_
  refine en_putR (pc' := 73) (n := 13) (h2 := hh_181) dX5_init_70 fl_5_47 (by decide +kernel) (by decide) (by decide) rfl rfl ?_
  refine ex_aload_n (pc' := 74) dX5_init_73 rfl rfl ?_
  refine ex_aload_n (pc' := 75) dX5_init_74 rfl rfl ?_
  refine en_putR (pc' := 78) (n := 13) (h2 := hh_182) dX5_init_75 fl_5_51 (by decide +kernel) (by decide) (by decide) rfl rfl ?_
  exact ex_vretV dX5_init_78 rfl rfl
set_option maxRecDepth 20000 in
theorem kc_71 (d : Nat) : zCv (d + 1) mX2_init [.inr (.inr (some 86))] hh_184 (fun h' => h' = hh_196) := by
  show zEx none (d + 1) mX2_init (0, [(0, .inr (.inr (some 86)))], [], hh_184) _
  refine ex_aload_n (pc' := 1) dX2_init_0 rfl rfl ?_
  refine ex_obj (pc' := 4) dX2_init_1 ml_2_3 (by decide) rfl ?_
  refine ex_aload_n (pc' := 5) dX2_init_4 rfl rfl ?_
  refine ex_iconst (v := 0) (pc' := 6) dX2_init_5 (by decide) rfl ?_
  refine en_putI (pc' := 9) (n := 7) (h2 := hh_185) dX2_init_6 fl_2_9 (by decide +kernel) (by decide) (by decide) rfl rfl ?_
  refine ex_aload_n (pc' := 10) dX2_init_9 rfl rfl ?_
  refine ex_iconst (v := 0) (pc' := 11) dX2_init_10 (by decide) rfl ?_
  refine en_putI (pc' := 14) (n := 7) (h2 := hh_186) dX2_init_11 fl_2_15 (by decide +kernel) (by decide) (by decide) rfl rfl ?_
  refine ex_aload_n (pc' := 15) dX2_init_14 rfl rfl ?_
  refine ex_iconst (v := 5) (pc' := 16) dX2_init_15 (by decide) rfl ?_
  refine en_narrI (pc' := 18) (a := 87) (nn := 5) (h2 := hh_187) dX2_init_16 (by decide +kernel) rfl rfl ?_
  refine en_putR (pc' := 21) (n := 7) (h2 := hh_188) dX2_init_18 fl_2_18 (by decide +kernel) (by decide) (by decide) rfl rfl ?_
  refine ex_aload_n (pc' := 22) dX2_init_21 rfl rfl ?_
  refine ex_iconst (v := 5) (pc' := 23) dX2_init_22 (by decide) rfl ?_
  refine en_narrI (pc' := 25) (a := 88) (nn := 5) (h2 := hh_189) dX2_init_23 (by decide +kernel) rfl rfl ?_
  refine en_putR (pc' := 28) (n := 7) (h2 := hh_190) dX2_init_25 fl_2_22 (by decide +kernel) (by decide) (by decide) rfl rfl ?_
  refine ex_aload_n (pc' := 29) dX2_init_28 rfl rfl ?_
  refine ex_bipush (v := 8) (pc' := 31) dX2_init_29 (by decide) rfl ?_
  refine en_narrI (pc' := 33) (a := 89) (nn := 8) (h2 := hh_191) dX2_init_31 (by decide +kernel) rfl rfl ?_
  refine en_putR (pc' := 36) (n := 7) (h2 := hh_192) dX2_init_33 fl_2_25 (by decide +kernel) (by decide) (by decide) rfl rfl ?_
  refine ex_aload_n (pc' := 37) dX2_init_36 rfl rfl ?_
  refine ex_bipush (v := 8) (pc' := 39) dX2_init_37 (by decide) rfl ?_
  refine en_narrI (pc' := 41) (a := 90) (nn := 8) (h2 := hh_193) dX2_init_39 (by decide +kernel) rfl rfl ?_
  refine en_putR (pc' := 44) (n := 7) (h2 := hh_194) dX2_init_41 fl_2_28 (by decide +kernel) (by decide) (by decide) rfl rfl ?_
  refine ex_aload_n (pc' := 45) dX2_init_44 rfl rfl ?_
  refine ex_bipush (v := 8) (pc' := 47) dX2_init_45 (by decide) rfl ?_
  refine en_narrI (pc' := 49) (a := 91) (nn := 8) (h2 := hh_195) dX2_init_47 (by decide +kernel) rfl rfl ?_
  refine en_putR (pc' := 52) (n := 7) (h2 := hh_196) dX2_init_49 fl_2_31 (by decide +kernel) (by decide) (by decide) rfl rfl ?_
  exact ex_vretV dX2_init_52 rfl rfl
set_option maxRecDepth 20000 in
theorem kc_72 (d : Nat) : zCv (d + 1) mX7_init [.inr (.inr (some 92)), .inr (.inr (some 2))] hh_198 (fun h' => h' = hh_205) := by
  show zEx none (d + 1) mX7_init (0, [(0, .inr (.inr (some 92))), (1, .inr (.inr (some 2)))], [], hh_198) _
  refine ex_aload_n (pc' := 1) dX7_init_0 rfl rfl ?_
  refine ex_obj (pc' := 4) dX7_init_1 ml_7_3 (by decide) rfl ?_
  refine ex_aload_n (pc' := 5) dX7_init_4 rfl rfl ?_
  refine ex_iconst (v := 0) (pc' := 6) dX7_init_5 (by decide) rfl ?_
  refine en_putI (pc' := 9) (n := 6) (h2 := hh_199) dX7_init_6 fl_7_9 (by decide +kernel) (by decide) (by decide) rfl rfl ?_
  refine ex_aload_n (pc' := 10) dX7_init_9 rfl rfl ?_
  refine ex_iconst (v := 0) (pc' := 11) dX7_init_10 (by decide) rfl ?_
  refine en_putI (pc' := 14) (n := 6) (h2 := hh_200) dX7_init_11 fl_7_15 (by decide +kernel) (by decide) (by decide) rfl rfl ?_
  refine ex_aload_n (pc' := 15) dX7_init_14 rfl rfl ?_
  refine ex_iconst (v := 0) (pc' := 16) dX7_init_15 (by decide) rfl ?_
  refine en_putI (pc' := 19) (n := 6) (h2 := hh_201) dX7_init_16 fl_7_18 (by decide +kernel) (by decide) (by decide) rfl rfl ?_
  refine ex_aload_n (pc' := 20) dX7_init_19 rfl rfl ?_
  refine ex_bipush (v := (-2)) (pc' := 22) dX7_init_20 (by decide) rfl ?_
  refine en_putI (pc' := 25) (n := 6) (h2 := hh_202) dX7_init_22 fl_7_21 (by decide +kernel) (by decide) (by decide) rfl rfl ?_
  refine ex_aload_n (pc' := 26) dX7_init_25 rfl rfl ?_
  refine ex_sipush (v := 1031) (pc' := 29) dX7_init_26 (by decide) rfl ?_
  refine en_narrI (pc' := 31) (a := 93) (nn := 1031) (h2 := hh_203) dX7_init_29 (by decide +kernel) rfl rfl ?_
  refine en_putR (pc' := 34) (n := 6) (h2 := hh_204) dX7_init_31 fl_7_24 (by decide +kernel) (by decide) (by decide) rfl rfl ?_
  refine ex_aload_n (pc' := 35) dX7_init_34 rfl rfl ?_
  refine ex_aload_n (pc' := 36) dX7_init_35 rfl rfl ?_
  refine en_putR (pc' := 39) (n := 6) (h2 := hh_205) dX7_init_36 fl_7_28 (by decide +kernel) (by decide) (by decide) rfl rfl ?_
  exact ex_vretV dX7_init_39 rfl rfl
set_option maxRecDepth 20000 in
theorem kc_73 (d : Nat) : zCv (d + 1) mX6_init [.inr (.inr (some 94)), .inr (.inr (some 2)), .inr (.inr (some 86)), .inr (.inr (some 92))] hh_207 (fun h' => h' = hh_215) := by
  show zEx none (d + 1) mX6_init (0, [(0, .inr (.inr (some 94))), (1, .inr (.inr (some 2))), (2, .inr (.inr (some 86))), (3, .inr (.inr (some 92)))], [], hh_207) _
  refine ex_aload_n (pc' := 1) dX6_init_0 rfl rfl ?_
  refine ex_obj (pc' := 4) dX6_init_1 ml_6_3 (by decide) rfl ?_
  refine ex_aload_n (pc' := 5) dX6_init_4 rfl rfl ?_
  refine ex_bipush (v := 7) (pc' := 7) dX6_init_5 (by decide) rfl ?_
  refine en_narrI (pc' := 9) (a := 95) (nn := 7) (h2 := hh_208) dX6_init_7 (by decide +kernel) rfl rfl ?_
  refine en_putR (pc' := 12) (n := 7) (h2 := hh_209) dX6_init_9 fl_6_9 (by decide +kernel) (by decide) (by decide) rfl rfl ?_
  refine ex_aload_n (pc' := 13) dX6_init_12 rfl rfl ?_
  refine ex_bipush (v := (-2)) (pc' := 15) dX6_init_13 (by decide) rfl ?_
  refine en_putI (pc' := 18) (n := 7) (h2 := hh_210) dX6_init_15 fl_6_15 (by decide +kernel) (by decide) (by decide) rfl rfl ?_
  refine ex_aload_n (pc' := 19) dX6_init_18 rfl rfl ?_
  refine ex_iconst (v := 0) (pc' := 20) dX6_init_19 (by decide) rfl ?_
  refine en_putI (pc' := 23) (n := 7) (h2 := hh_211) dX6_init_20 fl_6_19 (by decide +kernel) (by decide) (by decide) rfl rfl ?_
  refine ex_aload_n (pc' := 24) dX6_init_23 rfl rfl ?_
  refine ex_iconst (v := 0) (pc' := 25) dX6_init_24 (by decide) rfl ?_
  refine en_putI (pc' := 28) (n := 7) (h2 := hh_212) dX6_init_25 fl_6_22 (by decide +kernel) (by decide) (by decide) rfl rfl ?_
  refine ex_aload_n (pc' := 29) dX6_init_28 rfl rfl ?_
  refine ex_aload_n (pc' := 30) dX6_init_29 rfl rfl ?_
  refine en_putR (pc' := 33) (n := 7) (h2 := hh_213) dX6_init_30 fl_6_25 (by decide +kernel) (by decide) (by decide) rfl rfl ?_
  refine ex_aload_n (pc' := 34) dX6_init_33 rfl rfl ?_
  refine ex_aload_n (pc' := 35) dX6_init_34 rfl rfl ?_
  refine en_putR (pc' := 38) (n := 7) (h2 := hh_214) dX6_init_35 fl_6_29 (by decide +kernel) (by decide) (by decide) rfl rfl ?_
  refine ex_aload_n (pc' := 39) dX6_init_38 rfl rfl ?_
  refine ex_aload_n (pc' := 40) dX6_init_39 rfl rfl ?_
  refine en_putR (pc' := 43) (n := 7) (h2 := hh_215) dX6_init_40 fl_6_33 (by decide +kernel) (by decide) (by decide) rfl rfl ?_
  exact ex_vretV dX6_init_43 rfl rfl
set_option maxRecDepth 20000 in
theorem kc_74 (d : Nat) : zCv (d + 1) mX3_init [.inr (.inr (some 96)), .inr (.inr (some 2))] hh_217 (fun h' => h' = hh_224) := by
  show zEx none (d + 1) mX3_init (0, [(0, .inr (.inr (some 96))), (1, .inr (.inr (some 2)))], [], hh_217) _
  refine ex_aload_n (pc' := 1) dX3_init_0 rfl rfl ?_
  refine ex_obj (pc' := 4) dX3_init_1 ml_3_3 (by decide) rfl ?_
  refine ex_aload_n (pc' := 5) dX3_init_4 rfl rfl ?_
  refine ex_bipush (v := 7) (pc' := 7) dX3_init_5 (by decide) rfl ?_
  refine en_narrI (pc' := 9) (a := 97) (nn := 7) (h2 := hh_218) dX3_init_7 (by decide +kernel) rfl rfl ?_
  refine en_putR (pc' := 12) (n := 4) (h2 := hh_219) dX3_init_9 fl_3_9 (by decide +kernel) (by decide) (by decide) rfl rfl ?_
  refine ex_aload_n (pc' := 13) dX3_init_12 rfl rfl ?_
  refine ex_bipush (v := 49) (pc' := 15) dX3_init_13 (by decide) rfl ?_
  refine en_narrI (pc' := 17) (a := 98) (nn := 49) (h2 := hh_220) dX3_init_15 (by decide +kernel) rfl rfl ?_
  refine en_putR (pc' := 20) (n := 4) (h2 := hh_221) dX3_init_17 fl_3_15 (by decide +kernel) (by decide) (by decide) rfl rfl ?_
  refine ex_aload_n (pc' := 21) dX3_init_20 rfl rfl ?_
  refine ex_sipush (v := 896) (pc' := 24) dX3_init_21 (by decide) rfl ?_
  refine en_narrI (pc' := 26) (a := 99) (nn := 896) (h2 := hh_222) dX3_init_24 (by decide +kernel) rfl rfl ?_
  refine en_putR (pc' := 29) (n := 4) (h2 := hh_223) dX3_init_26 fl_3_18 (by decide +kernel) (by decide) (by decide) rfl rfl ?_
  refine ex_aload_n (pc' := 30) dX3_init_29 rfl rfl ?_
  refine ex_aload_n (pc' := 31) dX3_init_30 rfl rfl ?_
  refine en_putR (pc' := 34) (n := 4) (h2 := hh_224) dX3_init_31 fl_3_21 (by decide +kernel) (by decide) (by decide) rfl rfl ?_
  exact ex_vretV dX3_init_34 rfl rfl
set_option maxRecDepth 20000 in
theorem kc_75 (d : Nat) : zCv (d + 1) mX1_init [.inr (.inr (some 100))] hh_226 (fun h' => h' = hh_234) := by
  show zEx none (d + 1) mX1_init (0, [(0, .inr (.inr (some 100)))], [], hh_226) _
  refine ex_aload_n (pc' := 1) dX1_init_0 rfl rfl ?_
  refine ex_obj (pc' := 4) dX1_init_1 ml_1_3 (by decide) rfl ?_
  refine ex_aload_n (pc' := 5) dX1_init_4 rfl rfl ?_
  refine ex_bipush (v := 40) (pc' := 7) dX1_init_5 (by decide) rfl ?_
  refine en_narrI (pc' := 9) (a := 101) (nn := 40) (h2 := hh_227) dX1_init_7 (by decide +kernel) rfl rfl ?_
  refine en_putR (pc' := 12) (n := 5) (h2 := hh_228) dX1_init_9 fl_1_9 (by decide +kernel) (by decide) (by decide) rfl rfl ?_
  refine ex_aload_n (pc' := 13) dX1_init_12 rfl rfl ?_
  refine ex_bipush (v := 8) (pc' := 15) dX1_init_13 (by decide) rfl ?_
  refine en_narrI (pc' := 17) (a := 102) (nn := 8) (h2 := hh_229) dX1_init_15 (by decide +kernel) rfl rfl ?_
  refine en_putR (pc' := 20) (n := 5) (h2 := hh_230) dX1_init_17 fl_1_15 (by decide +kernel) (by decide) (by decide) rfl rfl ?_
  refine ex_aload_n (pc' := 21) dX1_init_20 rfl rfl ?_
  refine ex_iconst (v := 0) (pc' := 22) dX1_init_21 (by decide) rfl ?_
  refine en_putI (pc' := 25) (n := 5) (h2 := hh_231) dX1_init_22 fl_1_18 (by decide +kernel) (by decide) (by decide) rfl rfl ?_
  refine ex_aload_n (pc' := 26) dX1_init_25 rfl rfl ?_
  refine ex_iconst (v := 0) (pc' := 27) dX1_init_26 (by decide) rfl ?_
  refine en_putI (pc' := 30) (n := 5) (h2 := hh_232) dX1_init_27 fl_1_22 (by decide +kernel) (by decide) (by decide) rfl rfl ?_
  refine ex_aload_n (pc' := 31) dX1_init_30 rfl rfl ?_
  refine ex_sipush (v := 288) (pc' := 34) dX1_init_31 (by decide) rfl ?_
  refine en_narrI (pc' := 36) (a := 103) (nn := 288) (h2 := hh_233) dX1_init_34 (by decide +kernel) rfl rfl ?_
  refine en_putR (pc' := 39) (n := 5) (h2 := hh_234) dX1_init_36 fl_1_25 (by decide +kernel) (by decide) (by decide) rfl rfl ?_
  exact ex_vretV dX1_init_39 rfl rfl
set_option maxRecDepth 20000 in
theorem kc_76 (d : Nat) : zCv (d + 1) mX2_init [.inr (.inr (some 106))] hh_243 (fun h' => h' = hh_255) := by
  show zEx none (d + 1) mX2_init (0, [(0, .inr (.inr (some 106)))], [], hh_243) _
  refine ex_aload_n (pc' := 1) dX2_init_0 rfl rfl ?_
  refine ex_obj (pc' := 4) dX2_init_1 ml_2_3 (by decide) rfl ?_
  refine ex_aload_n (pc' := 5) dX2_init_4 rfl rfl ?_
  refine ex_iconst (v := 0) (pc' := 6) dX2_init_5 (by decide) rfl ?_
  refine en_putI (pc' := 9) (n := 7) (h2 := hh_244) dX2_init_6 fl_2_9 (by decide +kernel) (by decide) (by decide) rfl rfl ?_
  refine ex_aload_n (pc' := 10) dX2_init_9 rfl rfl ?_
  refine ex_iconst (v := 0) (pc' := 11) dX2_init_10 (by decide) rfl ?_
  refine en_putI (pc' := 14) (n := 7) (h2 := hh_245) dX2_init_11 fl_2_15 (by decide +kernel) (by decide) (by decide) rfl rfl ?_
  refine ex_aload_n (pc' := 15) dX2_init_14 rfl rfl ?_
  refine ex_iconst (v := 5) (pc' := 16) dX2_init_15 (by decide) rfl ?_
  refine en_narrI (pc' := 18) (a := 107) (nn := 5) (h2 := hh_246) dX2_init_16 (by decide +kernel) rfl rfl ?_
  refine en_putR (pc' := 21) (n := 7) (h2 := hh_247) dX2_init_18 fl_2_18 (by decide +kernel) (by decide) (by decide) rfl rfl ?_
  refine ex_aload_n (pc' := 22) dX2_init_21 rfl rfl ?_
  refine ex_iconst (v := 5) (pc' := 23) dX2_init_22 (by decide) rfl ?_
  refine en_narrI (pc' := 25) (a := 108) (nn := 5) (h2 := hh_248) dX2_init_23 (by decide +kernel) rfl rfl ?_
  refine en_putR (pc' := 28) (n := 7) (h2 := hh_249) dX2_init_25 fl_2_22 (by decide +kernel) (by decide) (by decide) rfl rfl ?_
  refine ex_aload_n (pc' := 29) dX2_init_28 rfl rfl ?_
  refine ex_bipush (v := 8) (pc' := 31) dX2_init_29 (by decide) rfl ?_
  refine en_narrI (pc' := 33) (a := 109) (nn := 8) (h2 := hh_250) dX2_init_31 (by decide +kernel) rfl rfl ?_
  refine en_putR (pc' := 36) (n := 7) (h2 := hh_251) dX2_init_33 fl_2_25 (by decide +kernel) (by decide) (by decide) rfl rfl ?_
  refine ex_aload_n (pc' := 37) dX2_init_36 rfl rfl ?_
  refine ex_bipush (v := 8) (pc' := 39) dX2_init_37 (by decide) rfl ?_
  refine en_narrI (pc' := 41) (a := 110) (nn := 8) (h2 := hh_252) dX2_init_39 (by decide +kernel) rfl rfl ?_
  refine en_putR (pc' := 44) (n := 7) (h2 := hh_253) dX2_init_41 fl_2_28 (by decide +kernel) (by decide) (by decide) rfl rfl ?_
  refine ex_aload_n (pc' := 45) dX2_init_44 rfl rfl ?_
  refine ex_bipush (v := 8) (pc' := 47) dX2_init_45 (by decide) rfl ?_
  refine en_narrI (pc' := 49) (a := 111) (nn := 8) (h2 := hh_254) dX2_init_47 (by decide +kernel) rfl rfl ?_
  refine en_putR (pc' := 52) (n := 7) (h2 := hh_255) dX2_init_49 fl_2_31 (by decide +kernel) (by decide) (by decide) rfl rfl ?_
  exact ex_vretV dX2_init_52 rfl rfl
set_option maxRecDepth 20000 in
theorem kc_77 (d : Nat) : zCv (d + 1) mX2_init [.inr (.inr (some 112))] hh_257 (fun h' => h' = hh_269) := by
  show zEx none (d + 1) mX2_init (0, [(0, .inr (.inr (some 112)))], [], hh_257) _
  refine ex_aload_n (pc' := 1) dX2_init_0 rfl rfl ?_
  refine ex_obj (pc' := 4) dX2_init_1 ml_2_3 (by decide) rfl ?_
  refine ex_aload_n (pc' := 5) dX2_init_4 rfl rfl ?_
  refine ex_iconst (v := 0) (pc' := 6) dX2_init_5 (by decide) rfl ?_
  refine en_putI (pc' := 9) (n := 7) (h2 := hh_258) dX2_init_6 fl_2_9 (by decide +kernel) (by decide) (by decide) rfl rfl ?_
  refine ex_aload_n (pc' := 10) dX2_init_9 rfl rfl ?_
  refine ex_iconst (v := 0) (pc' := 11) dX2_init_10 (by decide) rfl ?_
  refine en_putI (pc' := 14) (n := 7) (h2 := hh_259) dX2_init_11 fl_2_15 (by decide +kernel) (by decide) (by decide) rfl rfl ?_
  refine ex_aload_n (pc' := 15) dX2_init_14 rfl rfl ?_
  refine ex_iconst (v := 5) (pc' := 16) dX2_init_15 (by decide) rfl ?_
  refine en_narrI (pc' := 18) (a := 113) (nn := 5) (h2 := hh_260) dX2_init_16 (by decide +kernel) rfl rfl ?_
  refine en_putR (pc' := 21) (n := 7) (h2 := hh_261) dX2_init_18 fl_2_18 (by decide +kernel) (by decide) (by decide) rfl rfl ?_
  refine ex_aload_n (pc' := 22) dX2_init_21 rfl rfl ?_
  refine ex_iconst (v := 5) (pc' := 23) dX2_init_22 (by decide) rfl ?_
  refine en_narrI (pc' := 25) (a := 114) (nn := 5) (h2 := hh_262) dX2_init_23 (by decide +kernel) rfl rfl ?_
  refine en_putR (pc' := 28) (n := 7) (h2 := hh_263) dX2_init_25 fl_2_22 (by decide +kernel) (by decide) (by decide) rfl rfl ?_
  refine ex_aload_n (pc' := 29) dX2_init_28 rfl rfl ?_
  refine ex_bipush (v := 8) (pc' := 31) dX2_init_29 (by decide) rfl ?_
  refine en_narrI (pc' := 33) (a := 115) (nn := 8) (h2 := hh_264) dX2_init_31 (by decide +kernel) rfl rfl ?_
  refine en_putR (pc' := 36) (n := 7) (h2 := hh_265) dX2_init_33 fl_2_25 (by decide +kernel) (by decide) (by decide) rfl rfl ?_
  refine ex_aload_n (pc' := 37) dX2_init_36 rfl rfl ?_
  refine ex_bipush (v := 8) (pc' := 39) dX2_init_37 (by decide) rfl ?_
  refine en_narrI (pc' := 41) (a := 116) (nn := 8) (h2 := hh_266) dX2_init_39 (by decide +kernel) rfl rfl ?_
  refine en_putR (pc' := 44) (n := 7) (h2 := hh_267) dX2_init_41 fl_2_28 (by decide +kernel) (by decide) (by decide) rfl rfl ?_
  refine ex_aload_n (pc' := 45) dX2_init_44 rfl rfl ?_
  refine ex_bipush (v := 8) (pc' := 47) dX2_init_45 (by decide) rfl ?_
  refine en_narrI (pc' := 49) (a := 117) (nn := 8) (h2 := hh_268) dX2_init_47 (by decide +kernel) rfl rfl ?_
  refine en_putR (pc' := 52) (n := 7) (h2 := hh_269) dX2_init_49 fl_2_31 (by decide +kernel) (by decide) (by decide) rfl rfl ?_
  exact ex_vretV dX2_init_52 rfl rfl
set_option maxRecDepth 20000 in
theorem kc_78 (d : Nat) : zCv (d + 1) mX2_init [.inr (.inr (some 118))] hh_271 (fun h' => h' = hh_283) := by
  show zEx none (d + 1) mX2_init (0, [(0, .inr (.inr (some 118)))], [], hh_271) _
  refine ex_aload_n (pc' := 1) dX2_init_0 rfl rfl ?_
  refine ex_obj (pc' := 4) dX2_init_1 ml_2_3 (by decide) rfl ?_
  refine ex_aload_n (pc' := 5) dX2_init_4 rfl rfl ?_
  refine ex_iconst (v := 0) (pc' := 6) dX2_init_5 (by decide) rfl ?_
  refine en_putI (pc' := 9) (n := 7) (h2 := hh_272) dX2_init_6 fl_2_9 (by decide +kernel) (by decide) (by decide) rfl rfl ?_
  refine ex_aload_n (pc' := 10) dX2_init_9 rfl rfl ?_
  refine ex_iconst (v := 0) (pc' := 11) dX2_init_10 (by decide) rfl ?_
  refine en_putI (pc' := 14) (n := 7) (h2 := hh_273) dX2_init_11 fl_2_15 (by decide +kernel) (by decide) (by decide) rfl rfl ?_
  refine ex_aload_n (pc' := 15) dX2_init_14 rfl rfl ?_
  refine ex_iconst (v := 5) (pc' := 16) dX2_init_15 (by decide) rfl ?_
  refine en_narrI (pc' := 18) (a := 119) (nn := 5) (h2 := hh_274) dX2_init_16 (by decide +kernel) rfl rfl ?_
  refine en_putR (pc' := 21) (n := 7) (h2 := hh_275) dX2_init_18 fl_2_18 (by decide +kernel) (by decide) (by decide) rfl rfl ?_
  refine ex_aload_n (pc' := 22) dX2_init_21 rfl rfl ?_
  refine ex_iconst (v := 5) (pc' := 23) dX2_init_22 (by decide) rfl ?_
  refine en_narrI (pc' := 25) (a := 120) (nn := 5) (h2 := hh_276) dX2_init_23 (by decide +kernel) rfl rfl ?_
  refine en_putR (pc' := 28) (n := 7) (h2 := hh_277) dX2_init_25 fl_2_22 (by decide +kernel) (by decide) (by decide) rfl rfl ?_
  refine ex_aload_n (pc' := 29) dX2_init_28 rfl rfl ?_
  refine ex_bipush (v := 8) (pc' := 31) dX2_init_29 (by decide) rfl ?_
  refine en_narrI (pc' := 33) (a := 121) (nn := 8) (h2 := hh_278) dX2_init_31 (by decide +kernel) rfl rfl ?_
  refine en_putR (pc' := 36) (n := 7) (h2 := hh_279) dX2_init_33 fl_2_25 (by decide +kernel) (by decide) (by decide) rfl rfl ?_
  refine ex_aload_n (pc' := 37) dX2_init_36 rfl rfl ?_
  refine ex_bipush (v := 8) (pc' := 39) dX2_init_37 (by decide) rfl ?_
  refine en_narrI (pc' := 41) (a := 122) (nn := 8) (h2 := hh_280) dX2_init_39 (by decide +kernel) rfl rfl ?_
  refine en_putR (pc' := 44) (n := 7) (h2 := hh_281) dX2_init_41 fl_2_28 (by decide +kernel) (by decide) (by decide) rfl rfl ?_
  refine ex_aload_n (pc' := 45) dX2_init_44 rfl rfl ?_
  refine ex_bipush (v := 8) (pc' := 47) dX2_init_45 (by decide) rfl ?_
  refine en_narrI (pc' := 49) (a := 123) (nn := 8) (h2 := hh_282) dX2_init_47 (by decide +kernel) rfl rfl ?_
  refine en_putR (pc' := 52) (n := 7) (h2 := hh_283) dX2_init_49 fl_2_31 (by decide +kernel) (by decide) (by decide) rfl rfl ?_
  exact ex_vretV dX2_init_52 rfl rfl
set_option maxRecDepth 20000 in
theorem kc_79 (d : Nat) : zCv (d + 1) mX2_init [.inr (.inr (some 124))] hh_285 (fun h' => h' = hh_297) := by
  show zEx none (d + 1) mX2_init (0, [(0, .inr (.inr (some 124)))], [], hh_285) _
  refine ex_aload_n (pc' := 1) dX2_init_0 rfl rfl ?_
  refine ex_obj (pc' := 4) dX2_init_1 ml_2_3 (by decide) rfl ?_
  refine ex_aload_n (pc' := 5) dX2_init_4 rfl rfl ?_
  refine ex_iconst (v := 0) (pc' := 6) dX2_init_5 (by decide) rfl ?_
  refine en_putI (pc' := 9) (n := 7) (h2 := hh_286) dX2_init_6 fl_2_9 (by decide +kernel) (by decide) (by decide) rfl rfl ?_
  refine ex_aload_n (pc' := 10) dX2_init_9 rfl rfl ?_
  refine ex_iconst (v := 0) (pc' := 11) dX2_init_10 (by decide) rfl ?_
  refine en_putI (pc' := 14) (n := 7) (h2 := hh_287) dX2_init_11 fl_2_15 (by decide +kernel) (by decide) (by decide) rfl rfl ?_
  refine ex_aload_n (pc' := 15) dX2_init_14 rfl rfl ?_
  refine ex_iconst (v := 5) (pc' := 16) dX2_init_15 (by decide) rfl ?_
  refine en_narrI (pc' := 18) (a := 125) (nn := 5) (h2 := hh_288) dX2_init_16 (by decide +kernel) rfl rfl ?_
  refine en_putR (pc' := 21) (n := 7) (h2 := hh_289) dX2_init_18 fl_2_18 (by decide +kernel) (by decide) (by decide) rfl rfl ?_
  refine ex_aload_n (pc' := 22) dX2_init_21 rfl rfl ?_
  refine ex_iconst (v := 5) (pc' := 23) dX2_init_22 (by decide) rfl ?_
  refine en_narrI (pc' := 25) (a := 126) (nn := 5) (h2 := hh_290) dX2_init_23 (by decide +kernel) rfl rfl ?_
  refine en_putR (pc' := 28) (n := 7) (h2 := hh_291) dX2_init_25 fl_2_22 (by decide +kernel) (by decide) (by decide) rfl rfl ?_
  refine ex_aload_n (pc' := 29) dX2_init_28 rfl rfl ?_
  refine ex_bipush (v := 8) (pc' := 31) dX2_init_29 (by decide) rfl ?_
  refine en_narrI (pc' := 33) (a := 127) (nn := 8) (h2 := hh_292) dX2_init_31 (by decide +kernel) rfl rfl ?_
  refine en_putR (pc' := 36) (n := 7) (h2 := hh_293) dX2_init_33 fl_2_25 (by decide +kernel) (by decide) (by decide) rfl rfl ?_
  refine ex_aload_n (pc' := 37) dX2_init_36 rfl rfl ?_
  refine ex_bipush (v := 8) (pc' := 39) dX2_init_37 (by decide) rfl ?_
  refine en_narrI (pc' := 41) (a := 128) (nn := 8) (h2 := hh_294) dX2_init_39 (by decide +kernel) rfl rfl ?_
  refine en_putR (pc' := 44) (n := 7) (h2 := hh_295) dX2_init_41 fl_2_28 (by decide +kernel) (by decide) (by decide) rfl rfl ?_
  refine ex_aload_n (pc' := 45) dX2_init_44 rfl rfl ?_
  refine ex_bipush (v := 8) (pc' := 47) dX2_init_45 (by decide) rfl ?_
  refine en_narrI (pc' := 49) (a := 129) (nn := 8) (h2 := hh_296) dX2_init_47 (by decide +kernel) rfl rfl ?_
  refine en_putR (pc' := 52) (n := 7) (h2 := hh_297) dX2_init_49 fl_2_31 (by decide +kernel) (by decide) (by decide) rfl rfl ?_
  exact ex_vretV dX2_init_52 rfl rfl
set_option maxRecDepth 20000 in
theorem kc_80 (d : Nat) : zCv (d + 1) mX2_init [.inr (.inr (some 130))] hh_299 (fun h' => h' = hh_311) := by
  show zEx none (d + 1) mX2_init (0, [(0, .inr (.inr (some 130)))], [], hh_299) _
  refine ex_aload_n (pc' := 1) dX2_init_0 rfl rfl ?_
  refine ex_obj (pc' := 4) dX2_init_1 ml_2_3 (by decide) rfl ?_
  refine ex_aload_n (pc' := 5) dX2_init_4 rfl rfl ?_
  refine ex_iconst (v := 0) (pc' := 6) dX2_init_5 (by decide) rfl ?_
  refine en_putI (pc' := 9) (n := 7) (h2 := hh_300) dX2_init_6 fl_2_9 (by decide +kernel) (by decide) (by decide) rfl rfl ?_
  refine ex_aload_n (pc' := 10) dX2_init_9 rfl rfl ?_
  refine ex_iconst (v := 0) (pc' := 11) dX2_init_10 (by decide) rfl ?_
  refine en_putI (pc' := 14) (n := 7) (h2 := hh_301) dX2_init_11 fl_2_15 (by decide +kernel) (by decide) (by decide) rfl rfl ?_
  refine ex_aload_n (pc' := 15) dX2_init_14 rfl rfl ?_
  refine ex_iconst (v := 5) (pc' := 16) dX2_init_15 (by decide) rfl ?_
  refine en_narrI (pc' := 18) (a := 131) (nn := 5) (h2 := hh_302) dX2_init_16 (by decide +kernel) rfl rfl ?_
  refine en_putR (pc' := 21) (n := 7) (h2 := hh_303) dX2_init_18 fl_2_18 (by decide +kernel) (by decide) (by decide) rfl rfl ?_
  refine ex_aload_n (pc' := 22) dX2_init_21 rfl rfl ?_
  refine ex_iconst (v := 5) (pc' := 23) dX2_init_22 (by decide) rfl ?_
  refine en_narrI (pc' := 25) (a := 132) (nn := 5) (h2 := hh_304) dX2_init_23 (by decide +kernel) rfl rfl ?_
  refine en_putR (pc' := 28) (n := 7) (h2 := hh_305) dX2_init_25 fl_2_22 (by decide +kernel) (by decide) (by decide) rfl rfl ?_
  refine ex_aload_n (pc' := 29) dX2_init_28 rfl rfl ?_
  refine ex_bipush (v := 8) (pc' := 31) dX2_init_29 (by decide) rfl ?_
  refine en_narrI (pc' := 33) (a := 133) (nn := 8) (h2 := hh_306) dX2_init_31 (by decide +kernel) rfl rfl ?_
  refine en_putR (pc' := 36) (n := 7) (h2 := hh_307) dX2_init_33 fl_2_25 (by decide +kernel) (by decide) (by decide) rfl rfl ?_
  refine ex_aload_n (pc' := 37) dX2_init_36 rfl rfl ?_
  refine ex_bipush (v := 8) (pc' := 39) dX2_init_37 (by decide) rfl ?_
  refine en_narrI (pc' := 41) (a := 134) (nn := 8) (h2 := hh_308) dX2_init_39 (by decide +kernel) rfl rfl ?_
  refine en_putR (pc' := 44) (n := 7) (h2 := hh_309) dX2_init_41 fl_2_28 (by decide +kernel) (by decide) (by decide) rfl rfl ?_
  refine ex_aload_n (pc' := 45) dX2_init_44 rfl rfl ?_
  refine ex_bipush (v := 8) (pc' := 47) dX2_init_45 (by decide) rfl ?_
  refine en_narrI (pc' := 49) (a := 135) (nn := 8) (h2 := hh_310) dX2_init_47 (by decide +kernel) rfl rfl ?_
  refine en_putR (pc' := 52) (n := 7) (h2 := hh_311) dX2_init_49 fl_2_31 (by decide +kernel) (by decide) (by decide) rfl rfl ?_
  exact ex_vretV dX2_init_52 rfl rfl
set_option maxRecDepth 20000 in
theorem kc_81 (d : Nat) : zCv (d + 1) mX2_init [.inr (.inr (some 136))] hh_313 (fun h' => h' = hh_325) := by
  show zEx none (d + 1) mX2_init (0, [(0, .inr (.inr (some 136)))], [], hh_313) _
  refine ex_aload_n (pc' := 1) dX2_init_0 rfl rfl ?_
  refine ex_obj (pc' := 4) dX2_init_1 ml_2_3 (by decide) rfl ?_
  refine ex_aload_n (pc' := 5) dX2_init_4 rfl rfl ?_
  refine ex_iconst (v := 0) (pc' := 6) dX2_init_5 (by decide) rfl ?_
  refine en_putI (pc' := 9) (n := 7) (h2 := hh_314) dX2_init_6 fl_2_9 (by decide +kernel) (by decide) (by decide) rfl rfl ?_
  refine ex_aload_n (pc' := 10) dX2_init_9 rfl rfl ?_
  refine ex_iconst (v := 0) (pc' := 11) dX2_init_10 (by decide) rfl ?_
  refine en_putI (pc' := 14) (n := 7) (h2 := hh_315) dX2_init_11 fl_2_15 (by decide +kernel) (by decide) (by decide) rfl rfl ?_
  refine ex_aload_n (pc' := 15) dX2_init_14 rfl rfl ?_
  refine ex_iconst (v := 5) (pc' := 16) dX2_init_15 (by decide) rfl ?_
  refine en_narrI (pc' := 18) (a := 137) (nn := 5) (h2 := hh_316) dX2_init_16 (by decide +kernel) rfl rfl ?_
  refine en_putR (pc' := 21) (n := 7) (h2 := hh_317) dX2_init_18 fl_2_18 (by decide +kernel) (by decide) (by decide) rfl rfl ?_
  refine ex_aload_n (pc' := 22) dX2_init_21 rfl rfl ?_
  refine ex_iconst (v := 5) (pc' := 23) dX2_init_22 (by decide) rfl ?_
  refine en_narrI (pc' := 25) (a := 138) (nn := 5) (h2 := hh_318) dX2_init_23 (by decide +kernel) rfl rfl ?_
  refine en_putR (pc' := 28) (n := 7) (h2 := hh_319) dX2_init_25 fl_2_22 (by decide +kernel) (by decide) (by decide) rfl rfl ?_
  refine ex_aload_n (pc' := 29) dX2_init_28 rfl rfl ?_
  refine ex_bipush (v := 8) (pc' := 31) dX2_init_29 (by decide) rfl ?_
  refine en_narrI (pc' := 33) (a := 139) (nn := 8) (h2 := hh_320) dX2_init_31 (by decide +kernel) rfl rfl ?_
  refine en_putR (pc' := 36) (n := 7) (h2 := hh_321) dX2_init_33 fl_2_25 (by decide +kernel) (by decide) (by decide) rfl rfl ?_
  refine ex_aload_n (pc' := 37) dX2_init_36 rfl rfl ?_
  refine ex_bipush (v := 8) (pc' := 39) dX2_init_37 (by decide) rfl ?_
  refine en_narrI (pc' := 41) (a := 140) (nn := 8) (h2 := hh_322) dX2_init_39 (by decide +kernel) rfl rfl ?_
  refine en_putR (pc' := 44) (n := 7) (h2 := hh_323) dX2_init_41 fl_2_28 (by decide +kernel) (by decide) (by decide) rfl rfl ?_
  refine ex_aload_n (pc' := 45) dX2_init_44 rfl rfl ?_
  refine ex_bipush (v := 8) (pc' := 47) dX2_init_45 (by decide) rfl ?_
  refine en_narrI (pc' := 49) (a := 141) (nn := 8) (h2 := hh_324) dX2_init_47 (by decide +kernel) rfl rfl ?_
  refine en_putR (pc' := 52) (n := 7) (h2 := hh_325) dX2_init_49 fl_2_31 (by decide +kernel) (by decide) (by decide) rfl rfl ?_
  exact ex_vretV dX2_init_52 rfl rfl
set_option maxRecDepth 20000 in
theorem kc_82 (d : Nat) : zCv (d + 1) mX2_init [.inr (.inr (some 142))] hh_327 (fun h' => h' = hh_339) := by
  show zEx none (d + 1) mX2_init (0, [(0, .inr (.inr (some 142)))], [], hh_327) _
  refine ex_aload_n (pc' := 1) dX2_init_0 rfl rfl ?_
  refine ex_obj (pc' := 4) dX2_init_1 ml_2_3 (by decide) rfl ?_
  refine ex_aload_n (pc' := 5) dX2_init_4 rfl rfl ?_
  refine ex_iconst (v := 0) (pc' := 6) dX2_init_5 (by decide) rfl ?_
  refine en_putI (pc' := 9) (n := 7) (h2 := hh_328) dX2_init_6 fl_2_9 (by decide +kernel) (by decide) (by decide) rfl rfl ?_
  refine ex_aload_n (pc' := 10) dX2_init_9 rfl rfl ?_
  refine ex_iconst (v := 0) (pc' := 11) dX2_init_10 (by decide) rfl ?_
  refine en_putI (pc' := 14) (n := 7) (h2 := hh_329) dX2_init_11 fl_2_15 (by decide +kernel) (by decide) (by decide) rfl rfl ?_
  refine ex_aload_n (pc' := 15) dX2_init_14 rfl rfl ?_
  refine ex_iconst (v := 5) (pc' := 16) dX2_init_15 (by decide) rfl ?_
  refine en_narrI (pc' := 18) (a := 143) (nn := 5) (h2 := hh_330) dX2_init_16 (by decide +kernel) rfl rfl ?_
  refine en_putR (pc' := 21) (n := 7) (h2 := hh_331) dX2_init_18 fl_2_18 (by decide +kernel) (by decide) (by decide) rfl rfl ?_
  refine ex_aload_n (pc' := 22) dX2_init_21 rfl rfl ?_
  refine ex_iconst (v := 5) (pc' := 23) dX2_init_22 (by decide) rfl ?_
  refine en_narrI (pc' := 25) (a := 144) (nn := 5) (h2 := hh_332) dX2_init_23 (by decide +kernel) rfl rfl ?_
  refine en_putR (pc' := 28) (n := 7) (h2 := hh_333) dX2_init_25 fl_2_22 (by decide +kernel) (by decide) (by decide) rfl rfl ?_
  refine ex_aload_n (pc' := 29) dX2_init_28 rfl rfl ?_
  refine ex_bipush (v := 8) (pc' := 31) dX2_init_29 (by decide) rfl ?_
  refine en_narrI (pc' := 33) (a := 145) (nn := 8) (h2 := hh_334) dX2_init_31 (by decide +kernel) rfl rfl ?_
  refine en_putR (pc' := 36) (n := 7) (h2 := hh_335) dX2_init_33 fl_2_25 (by decide +kernel) (by decide) (by decide) rfl rfl ?_
  refine ex_aload_n (pc' := 37) dX2_init_36 rfl rfl ?_
  refine ex_bipush (v := 8) (pc' := 39) dX2_init_37 (by decide) rfl ?_
  refine en_narrI (pc' := 41) (a := 146) (nn := 8) (h2 := hh_336) dX2_init_39 (by decide +kernel) rfl rfl ?_
  refine en_putR (pc' := 44) (n := 7) (h2 := hh_337) dX2_init_41 fl_2_28 (by decide +kernel) (by decide) (by decide) rfl rfl ?_
  refine ex_aload_n (pc' := 45) dX2_init_44 rfl rfl ?_
  refine ex_bipush (v := 8) (pc' := 47) dX2_init_45 (by decide) rfl ?_
  refine en_narrI (pc' := 49) (a := 147) (nn := 8) (h2 := hh_338) dX2_init_47 (by decide +kernel) rfl rfl ?_
  refine en_putR (pc' := 52) (n := 7) (h2 := hh_339) dX2_init_49 fl_2_31 (by decide +kernel) (by decide) (by decide) rfl rfl ?_
  exact ex_vretV dX2_init_52 rfl rfl
set_option maxRecDepth 20000 in
theorem kc_83 (d : Nat) : zCv (d + 1) mX2_init [.inr (.inr (some 148))] hh_341 (fun h' => h' = hh_353) := by
  show zEx none (d + 1) mX2_init (0, [(0, .inr (.inr (some 148)))], [], hh_341) _
  refine ex_aload_n (pc' := 1) dX2_init_0 rfl rfl ?_
  refine ex_obj (pc' := 4) dX2_init_1 ml_2_3 (by decide) rfl ?_
  refine ex_aload_n (pc' := 5) dX2_init_4 rfl rfl ?_
  refine ex_iconst (v := 0) (pc' := 6) dX2_init_5 (by decide) rfl ?_
  refine en_putI (pc' := 9) (n := 7) (h2 := hh_342) dX2_init_6 fl_2_9 (by decide +kernel) (by decide) (by decide) rfl rfl ?_
  refine ex_aload_n (pc' := 10) dX2_init_9 rfl rfl ?_
  refine ex_iconst (v := 0) (pc' := 11) dX2_init_10 (by decide) rfl ?_
  refine en_putI (pc' := 14) (n := 7) (h2 := hh_343) dX2_init_11 fl_2_15 (by decide +kernel) (by decide) (by decide) rfl rfl ?_
  refine ex_aload_n (pc' := 15) dX2_init_14 rfl rfl ?_
  refine ex_iconst (v := 5) (pc' := 16) dX2_init_15 (by decide) rfl ?_
  refine en_narrI (pc' := 18) (a := 149) (nn := 5) (h2 := hh_344) dX2_init_16 (by decide +kernel) rfl rfl ?_
  refine en_putR (pc' := 21) (n := 7) (h2 := hh_345) dX2_init_18 fl_2_18 (by decide +kernel) (by decide) (by decide) rfl rfl ?_
  refine ex_aload_n (pc' := 22) dX2_init_21 rfl rfl ?_
  refine ex_iconst (v := 5) (pc' := 23) dX2_init_22 (by decide) rfl ?_
  refine en_narrI (pc' := 25) (a := 150) (nn := 5) (h2 := hh_346) dX2_init_23 (by decide +kernel) rfl rfl ?_
  refine en_putR (pc' := 28) (n := 7) (h2 := hh_347) dX2_init_25 fl_2_22 (by decide +kernel) (by decide) (by decide) rfl rfl ?_
  refine ex_aload_n (pc' := 29) dX2_init_28 rfl rfl ?_
  refine ex_bipush (v := 8) (pc' := 31) dX2_init_29 (by decide) rfl ?_
  refine en_narrI (pc' := 33) (a := 151) (nn := 8) (h2 := hh_348) dX2_init_31 (by decide +kernel) rfl rfl ?_
  refine en_putR (pc' := 36) (n := 7) (h2 := hh_349) dX2_init_33 fl_2_25 (by decide +kernel) (by decide) (by decide) rfl rfl ?_
  refine ex_aload_n (pc' := 37) dX2_init_36 rfl rfl ?_
  refine ex_bipush (v := 8) (pc' := 39) dX2_init_37 (by decide) rfl ?_
  refine en_narrI (pc' := 41) (a := 152) (nn := 8) (h2 := hh_350) dX2_init_39 (by decide +kernel) rfl rfl ?_
  refine en_putR (pc' := 44) (n := 7) (h2 := hh_351) dX2_init_41 fl_2_28 (by decide +kernel) (by decide) (by decide) rfl rfl ?_
  refine ex_aload_n (pc' := 45) dX2_init_44 rfl rfl ?_
  refine ex_bipush (v := 8) (pc' := 47) dX2_init_45 (by decide) rfl ?_
  refine en_narrI (pc' := 49) (a := 153) (nn := 8) (h2 := hh_352) dX2_init_47 (by decide +kernel) rfl rfl ?_
  refine en_putR (pc' := 52) (n := 7) (h2 := hh_353) dX2_init_49 fl_2_31 (by decide +kernel) (by decide) (by decide) rfl rfl ?_
  exact ex_vretV dX2_init_52 rfl rfl
set_option maxRecDepth 20000 in
theorem kc_84 (d : Nat) : zCv (d + 1) mX2_init [.inr (.inr (some 154))] hh_355 (fun h' => h' = hh_367) := by
  show zEx none (d + 1) mX2_init (0, [(0, .inr (.inr (some 154)))], [], hh_355) _
  refine ex_aload_n (pc' := 1) dX2_init_0 rfl rfl ?_
  refine ex_obj (pc' := 4) dX2_init_1 ml_2_3 (by decide) rfl ?_
  refine ex_aload_n (pc' := 5) dX2_init_4 rfl rfl ?_
  refine ex_iconst (v := 0) (pc' := 6) dX2_init_5 (by decide) rfl ?_
  refine en_putI (pc' := 9) (n := 7) (h2 := hh_356) dX2_init_6 fl_2_9 (by decide +kernel) (by decide) (by decide) rfl rfl ?_
  refine ex_aload_n (pc' := 10) dX2_init_9 rfl rfl ?_
  refine ex_iconst (v := 0) (pc' := 11) dX2_init_10 (by decide) rfl ?_
  refine en_putI (pc' := 14) (n := 7) (h2 := hh_357) dX2_init_11 fl_2_15 (by decide +kernel) (by decide) (by decide) rfl rfl ?_
  refine ex_aload_n (pc' := 15) dX2_init_14 rfl rfl ?_
  refine ex_iconst (v := 5) (pc' := 16) dX2_init_15 (by decide) rfl ?_
  refine en_narrI (pc' := 18) (a := 155) (nn := 5) (h2 := hh_358) dX2_init_16 (by decide +kernel) rfl rfl ?_
  refine en_putR (pc' := 21) (n := 7) (h2 := hh_359) dX2_init_18 fl_2_18 (by decide +kernel) (by decide) (by decide) rfl rfl ?_
  refine ex_aload_n (pc' := 22) dX2_init_21 rfl rfl ?_
  refine ex_iconst (v := 5) (pc' := 23) dX2_init_22 (by decide) rfl ?_
  refine en_narrI (pc' := 25) (a := 156) (nn := 5) (h2 := hh_360) dX2_init_23 (by decide +kernel) rfl rfl ?_
  refine en_putR (pc' := 28) (n := 7) (h2 := hh_361) dX2_init_25 fl_2_22 (by decide +kernel) (by decide) (by decide) rfl rfl ?_
  refine ex_aload_n (pc' := 29) dX2_init_28 rfl rfl ?_
  refine ex_bipush (v := 8) (pc' := 31) dX2_init_29 (by decide) rfl ?_
  refine en_narrI (pc' := 33) (a := 157) (nn := 8) (h2 := hh_362) dX2_init_31 (by decide +kernel) rfl rfl ?_
  refine en_putR (pc' := 36) (n := 7) (h2 := hh_363) dX2_init_33 fl_2_25 (by decide +kernel) (by decide) (by decide) rfl rfl ?_
  refine ex_aload_n (pc' := 37) dX2_init_36 rfl rfl ?_
  refine ex_bipush (v := 8) (pc' := 39) dX2_init_37 (by decide) rfl ?_
  refine en_narrI (pc' := 41) (a := 158) (nn := 8) (h2 := hh_364) dX2_init_39 (by decide +kernel) rfl rfl ?_
  refine en_putR (pc' := 44) (n := 7) (h2 := hh_365) dX2_init_41 fl_2_28 (by decide +kernel) (by decide) (by decide) rfl rfl ?_
  refine ex_aload_n (pc' := 45) dX2_init_44 rfl rfl ?_
  refine ex_bipush (v := 8) (pc' := 47) dX2_init_45 (by decide) rfl ?_
  refine en_narrI (pc' := 49) (a := 159) (nn := 8) (h2 := hh_366) dX2_init_47 (by decide +kernel) rfl rfl ?_
  refine en_putR (pc' := 52) (n := 7) (h2 := hh_367) dX2_init_49 fl_2_31 (by decide +kernel) (by decide) (by decide) rfl rfl ?_
  exact ex_vretV dX2_init_52 rfl rfl
set_option maxRecDepth 20000 in
theorem kc_85 (d : Nat) : zCv (d + 1) mX2_init [.inr (.inr (some 160))] hh_369 (fun h' => h' = hh_381) := by
  show zEx none (d + 1) mX2_init (0, [(0, .inr (.inr (some 160)))], [], hh_369) _
  refine ex_aload_n (pc' := 1) dX2_init_0 rfl rfl ?_
  refine ex_obj (pc' := 4) dX2_init_1 ml_2_3 (by decide) rfl ?_
  refine ex_aload_n (pc' := 5) dX2_init_4 rfl rfl ?_
  refine ex_iconst (v := 0) (pc' := 6) dX2_init_5 (by decide) rfl ?_
  refine en_putI (pc' := 9) (n := 7) (h2 := hh_370) dX2_init_6 fl_2_9 (by decide +kernel) (by decide) (by decide) rfl rfl ?_
  refine ex_aload_n (pc' := 10) dX2_init_9 rfl rfl ?_
  refine ex_iconst (v := 0) (pc' := 11) dX2_init_10 (by decide) rfl ?_
  refine en_putI (pc' := 14) (n := 7) (h2 := hh_371) dX2_init_11 fl_2_15 (by decide +kernel) (by decide) (by decide) rfl rfl ?_
  refine ex_aload_n (pc' := 15) dX2_init_14 rfl rfl ?_
  refine ex_iconst (v := 5) (pc' := 16) dX2_init_15 (by decide) rfl ?_
  refine en_narrI (pc' := 18) (a := 161) (nn := 5) (h2 := hh_372) dX2_init_16 (by decide +kernel) rfl rfl ?_
  refine en_putR (pc' := 21) (n := 7) (h2 := hh_373) dX2_init_18 fl_2_18 (by decide +kernel) (by decide) (by decide) rfl rfl ?_
  refine ex_aload_n (pc' := 22) dX2_init_21 rfl rfl ?_
  refine ex_iconst (v := 5) (pc' := 23) dX2_init_22 (by decide) rfl ?_
  refine en_narrI (pc' := 25) (a := 162) (nn := 5) (h2 := hh_374) dX2_init_23 (by decide +kernel) rfl rfl ?_
  refine en_putR (pc' := 28) (n := 7) (h2 := hh_375) dX2_init_25 fl_2_22 (by decide +kernel) (by decide) (by decide) rfl rfl ?_
  refine ex_aload_n (pc' := 29) dX2_init_28 rfl rfl ?_
  refine ex_bipush (v := 8) (pc' := 31) dX2_init_29 (by decide) rfl ?_
  refine en_narrI (pc' := 33) (a := 163) (nn := 8) (h2 := hh_376) dX2_init_31 (by decide +kernel) rfl rfl ?_
  refine en_putR (pc' := 36) (n := 7) (h2 := hh_377) dX2_init_33 fl_2_25 (by decide +kernel) (by decide) (by decide) rfl rfl ?_
  refine ex_aload_n (pc' := 37) dX2_init_36 rfl rfl ?_
  refine ex_bipush (v := 8) (pc' := 39) dX2_init_37 (by decide) rfl ?_
  refine en_narrI (pc' := 41) (a := 164) (nn := 8) (h2 := hh_378) dX2_init_39 (by decide +kernel) rfl rfl ?_
  refine en_putR (pc' := 44) (n := 7) (h2 := hh_379) dX2_init_41 fl_2_28 (by decide +kernel) (by decide) (by decide) rfl rfl ?_
  refine ex_aload_n (pc' := 45) dX2_init_44 rfl rfl ?_
  refine ex_bipush (v := 8) (pc' := 47) dX2_init_45 (by decide) rfl ?_
  refine en_narrI (pc' := 49) (a := 165) (nn := 8) (h2 := hh_380) dX2_init_47 (by decide +kernel) rfl rfl ?_
  refine en_putR (pc' := 52) (n := 7) (h2 := hh_381) dX2_init_49 fl_2_31 (by decide +kernel) (by decide) (by decide) rfl rfl ?_
  exact ex_vretV dX2_init_52 rfl rfl
set_option maxRecDepth 20000 in
theorem kc_86 (d : Nat) : zCv (d + 1) mX2_init [.inr (.inr (some 166))] hh_383 (fun h' => h' = hh_395) := by
  show zEx none (d + 1) mX2_init (0, [(0, .inr (.inr (some 166)))], [], hh_383) _
  refine ex_aload_n (pc' := 1) dX2_init_0 rfl rfl ?_
  refine ex_obj (pc' := 4) dX2_init_1 ml_2_3 (by decide) rfl ?_
  refine ex_aload_n (pc' := 5) dX2_init_4 rfl rfl ?_
  refine ex_iconst (v := 0) (pc' := 6) dX2_init_5 (by decide) rfl ?_
  refine en_putI (pc' := 9) (n := 7) (h2 := hh_384) dX2_init_6 fl_2_9 (by decide +kernel) (by decide) (by decide) rfl rfl ?_
  refine ex_aload_n (pc' := 10) dX2_init_9 rfl rfl ?_
  refine ex_iconst (v := 0) (pc' := 11) dX2_init_10 (by decide) rfl ?_
  refine en_putI (pc' := 14) (n := 7) (h2 := hh_385) dX2_init_11 fl_2_15 (by decide +kernel) (by decide) (by decide) rfl rfl ?_
  refine ex_aload_n (pc' := 15) dX2_init_14 rfl rfl ?_
  refine ex_iconst (v := 5) (pc' := 16) dX2_init_15 (by decide) rfl ?_
  refine en_narrI (pc' := 18) (a := 167) (nn := 5) (h2 := hh_386) dX2_init_16 (by decide +kernel) rfl rfl ?_
  refine en_putR (pc' := 21) (n := 7) (h2 := hh_387) dX2_init_18 fl_2_18 (by decide +kernel) (by decide) (by decide) rfl rfl ?_
  refine ex_aload_n (pc' := 22) dX2_init_21 rfl rfl ?_
  refine ex_iconst (v := 5) (pc' := 23) dX2_init_22 (by decide) rfl ?_
  refine en_narrI (pc' := 25) (a := 168) (nn := 5) (h2 := hh_388) dX2_init_23 (by decide +kernel) rfl rfl ?_
  refine en_putR (pc' := 28) (n := 7) (h2 := hh_389) dX2_init_25 fl_2_22 (by decide +kernel) (by decide) (by decide) rfl rfl ?_
  refine ex_aload_n (pc' := 29) dX2_init_28 rfl rfl ?_
  refine ex_bipush (v := 8) (pc' := 31) dX2_init_29 (by decide) rfl ?_
  refine en_narrI (pc' := 33) (a := 169) (nn := 8) (h2 := hh_390) dX2_init_31 (by decide +kernel) rfl rfl ?_
  refine en_putR (pc' := 36) (n := 7) (h2 := hh_391) dX2_init_33 fl_2_25 (by decide +kernel) (by decide) (by decide) rfl rfl ?_
  refine ex_aload_n (pc' := 37) dX2_init_36 rfl rfl ?_
  refine ex_bipush (v := 8) (pc' := 39) dX2_init_37 (by decide) rfl ?_
  refine en_narrI (pc' := 41) (a := 170) (nn := 8) (h2 := hh_392) dX2_init_39 (by decide +kernel) rfl rfl ?_
  refine en_putR (pc' := 44) (n := 7) (h2 := hh_393) dX2_init_41 fl_2_28 (by decide +kernel) (by decide) (by decide) rfl rfl ?_
  refine ex_aload_n (pc' := 45) dX2_init_44 rfl rfl ?_
  refine ex_bipush (v := 8) (pc' := 47) dX2_init_45 (by decide) rfl ?_
  refine en_narrI (pc' := 49) (a := 171) (nn := 8) (h2 := hh_394) dX2_init_47 (by decide +kernel) rfl rfl ?_
  refine en_putR (pc' := 52) (n := 7) (h2 := hh_395) dX2_init_49 fl_2_31 (by decide +kernel) (by decide) (by decide) rfl rfl ?_
  exact ex_vretV dX2_init_52 rfl rfl
set_option maxRecDepth 20000 in
theorem kc_87 (d : Nat) : zCv (d + 1) mX2_init [.inr (.inr (some 172))] hh_397 (fun h' => h' = hh_409) := by
  show zEx none (d + 1) mX2_init (0, [(0, .inr (.inr (some 172)))], [], hh_397) _
  refine ex_aload_n (pc' := 1) dX2_init_0 rfl rfl ?_
  refine ex_obj (pc' := 4) dX2_init_1 ml_2_3 (by decide) rfl ?_
  refine ex_aload_n (pc' := 5) dX2_init_4 rfl rfl ?_
  refine ex_iconst (v := 0) (pc' := 6) dX2_init_5 (by decide) rfl ?_
  refine en_putI (pc' := 9) (n := 7) (h2 := hh_398) dX2_init_6 fl_2_9 (by decide +kernel) (by decide) (by decide) rfl rfl ?_
  refine ex_aload_n (pc' := 10) dX2_init_9 rfl rfl ?_
  refine ex_iconst (v := 0) (pc' := 11) dX2_init_10 (by decide) rfl ?_
  refine en_putI (pc' := 14) (n := 7) (h2 := hh_399) dX2_init_11 fl_2_15 (by decide +kernel) (by decide) (by decide) rfl rfl ?_
  refine ex_aload_n (pc' := 15) dX2_init_14 rfl rfl ?_
  refine ex_iconst (v := 5) (pc' := 16) dX2_init_15 (by decide) rfl ?_
  refine en_narrI (pc' := 18) (a := 173) (nn := 5) (h2 := hh_400) dX2_init_16 (by decide +kernel) rfl rfl ?_
  refine en_putR (pc' := 21) (n := 7) (h2 := hh_401) dX2_init_18 fl_2_18 (by decide +kernel) (by decide) (by decide) rfl rfl ?_
  refine ex_aload_n (pc' := 22) dX2_init_21 rfl rfl ?_
  refine ex_iconst (v := 5) (pc' := 23) dX2_init_22 (by decide) rfl ?_
  refine en_narrI (pc' := 25) (a := 174) (nn := 5) (h2 := hh_402) dX2_init_23 (by decide +kernel) rfl rfl ?_
  refine en_putR (pc' := 28) (n := 7) (h2 := hh_403) dX2_init_25 fl_2_22 (by decide +kernel) (by decide) (by decide) rfl rfl ?_
  refine ex_aload_n (pc' := 29) dX2_init_28 rfl rfl ?_
  refine ex_bipush (v := 8) (pc' := 31) dX2_init_29 (by decide) rfl ?_
  refine en_narrI (pc' := 33) (a := 175) (nn := 8) (h2 := hh_404) dX2_init_31 (by decide +kernel) rfl rfl ?_
  refine en_putR (pc' := 36) (n := 7) (h2 := hh_405) dX2_init_33 fl_2_25 (by decide +kernel) (by decide) (by decide) rfl rfl ?_
  refine ex_aload_n (pc' := 37) dX2_init_36 rfl rfl ?_
  refine ex_bipush (v := 8) (pc' := 39) dX2_init_37 (by decide) rfl ?_
  refine en_narrI (pc' := 41) (a := 176) (nn := 8) (h2 := hh_406) dX2_init_39 (by decide +kernel) rfl rfl ?_
  refine en_putR (pc' := 44) (n := 7) (h2 := hh_407) dX2_init_41 fl_2_28 (by decide +kernel) (by decide) (by decide) rfl rfl ?_
  refine ex_aload_n (pc' := 45) dX2_init_44 rfl rfl ?_
  refine ex_bipush (v := 8) (pc' := 47) dX2_init_45 (by decide) rfl ?_
  refine en_narrI (pc' := 49) (a := 177) (nn := 8) (h2 := hh_408) dX2_init_47 (by decide +kernel) rfl rfl ?_
  refine en_putR (pc' := 52) (n := 7) (h2 := hh_409) dX2_init_49 fl_2_31 (by decide +kernel) (by decide) (by decide) rfl rfl ?_
  exact ex_vretV dX2_init_52 rfl rfl
set_option maxRecDepth 20000 in
theorem kc_88 (d : Nat) : zCv (d + 1) mX2_init [.inr (.inr (some 178))] hh_411 (fun h' => h' = hh_423) := by
  show zEx none (d + 1) mX2_init (0, [(0, .inr (.inr (some 178)))], [], hh_411) _
  refine ex_aload_n (pc' := 1) dX2_init_0 rfl rfl ?_
  refine ex_obj (pc' := 4) dX2_init_1 ml_2_3 (by decide) rfl ?_
  refine ex_aload_n (pc' := 5) dX2_init_4 rfl rfl ?_
  refine ex_iconst (v := 0) (pc' := 6) dX2_init_5 (by decide) rfl ?_
  refine en_putI (pc' := 9) (n := 7) (h2 := hh_412) dX2_init_6 fl_2_9 (by decide +kernel) (by decide) (by decide) rfl rfl ?_
  refine ex_aload_n (pc' := 10) dX2_init_9 rfl rfl ?_
  refine ex_iconst (v := 0) (pc' := 11) dX2_init_10 (by decide) rfl ?_
  refine en_putI (pc' := 14) (n := 7) (h2 := hh_413) dX2_init_11 fl_2_15 (by decide +kernel) (by decide) (by decide) rfl rfl ?_
  refine ex_aload_n (pc' := 15) dX2_init_14 rfl rfl ?_
  refine ex_iconst (v := 5) (pc' := 16) dX2_init_15 (by decide) rfl ?_
  refine en_narrI (pc' := 18) (a := 179) (nn := 5) (h2 := hh_414) dX2_init_16 (by decide +kernel) rfl rfl ?_
  refine en_putR (pc' := 21) (n := 7) (h2 := hh_415) dX2_init_18 fl_2_18 (by decide +kernel) (by decide) (by decide) rfl rfl ?_
  refine ex_aload_n (pc' := 22) dX2_init_21 rfl rfl ?_
  refine ex_iconst (v := 5) (pc' := 23) dX2_init_22 (by decide) rfl ?_
  refine en_narrI (pc' := 25) (a := 180) (nn := 5) (h2 := hh_416) dX2_init_23 (by decide +kernel) rfl rfl ?_
  refine en_putR (pc' := 28) (n := 7) (h2 := hh_417) dX2_init_25 fl_2_22 (by decide +kernel) (by decide) (by decide) rfl rfl ?_
  refine ex_aload_n (pc' := 29) dX2_init_28 rfl rfl ?_
  refine ex_bipush (v := 8) (pc' := 31) dX2_init_29 (by decide) rfl ?_
  refine en_narrI (pc' := 33) (a := 181) (nn := 8) (h2 := hh_418) dX2_init_31 (by decide +kernel) rfl rfl ?_
  refine en_putR (pc' := 36) (n := 7) (h2 := hh_419) dX2_init_33 fl_2_25 (by decide +kernel) (by decide) (by decide) rfl rfl ?_
  refine ex_aload_n (pc' := 37) dX2_init_36 rfl rfl ?_
  refine ex_bipush (v := 8) (pc' := 39) dX2_init_37 (by decide) rfl ?_
  refine en_narrI (pc' := 41) (a := 182) (nn := 8) (h2 := hh_420) dX2_init_39 (by decide +kernel) rfl rfl ?_
  refine en_putR (pc' := 44) (n := 7) (h2 := hh_421) dX2_init_41 fl_2_28 (by decide +kernel) (by decide) (by decide) rfl rfl ?_
  refine ex_aload_n (pc' := 45) dX2_init_44 rfl rfl ?_
  refine ex_bipush (v := 8) (pc' := 47) dX2_init_45 (by decide) rfl ?_
  refine en_narrI (pc' := 49) (a := 183) (nn := 8) (h2 := hh_422) dX2_init_47 (by decide +kernel) rfl rfl ?_
  refine en_putR (pc' := 52) (n := 7) (h2 := hh_423) dX2_init_49 fl_2_31 (by decide +kernel) (by decide) (by decide) rfl rfl ?_
  exact ex_vretV dX2_init_52 rfl rfl
set_option maxRecDepth 20000 in
theorem kc_89 (d : Nat) : zCv (d + 1) mX2_init [.inr (.inr (some 184))] hh_425 (fun h' => h' = hh_437) := by
  show zEx none (d + 1) mX2_init (0, [(0, .inr (.inr (some 184)))], [], hh_425) _
  refine ex_aload_n (pc' := 1) dX2_init_0 rfl rfl ?_
  refine ex_obj (pc' := 4) dX2_init_1 ml_2_3 (by decide) rfl ?_
  refine ex_aload_n (pc' := 5) dX2_init_4 rfl rfl ?_
  refine ex_iconst (v := 0) (pc' := 6) dX2_init_5 (by decide) rfl ?_
  refine en_putI (pc' := 9) (n := 7) (h2 := hh_426) dX2_init_6 fl_2_9 (by decide +kernel) (by decide) (by decide) rfl rfl ?_
  refine ex_aload_n (pc' := 10) dX2_init_9 rfl rfl ?_
  refine ex_iconst (v := 0) (pc' := 11) dX2_init_10 (by decide) rfl ?_
  refine en_putI (pc' := 14) (n := 7) (h2 := hh_427) dX2_init_11 fl_2_15 (by decide +kernel) (by decide) (by decide) rfl rfl ?_
  refine ex_aload_n (pc' := 15) dX2_init_14 rfl rfl ?_
  refine ex_iconst (v := 5) (pc' := 16) dX2_init_15 (by decide) rfl ?_
  refine en_narrI (pc' := 18) (a := 185) (nn := 5) (h2 := hh_428) dX2_init_16 (by decide +kernel) rfl rfl ?_
  refine en_putR (pc' := 21) (n := 7) (h2 := hh_429) dX2_init_18 fl_2_18 (by decide +kernel) (by decide) (by decide) rfl rfl ?_
  refine ex_aload_n (pc' := 22) dX2_init_21 rfl rfl ?_
  refine ex_iconst (v := 5) (pc' := 23) dX2_init_22 (by decide) rfl ?_
  refine en_narrI (pc' := 25) (a := 186) (nn := 5) (h2 := hh_430) dX2_init_23 (by decide +kernel) rfl rfl ?_
  refine en_putR (pc' := 28) (n := 7) (h2 := hh_431) dX2_init_25 fl_2_22 (by decide +kernel) (by decide) (by decide) rfl rfl ?_
  refine ex_aload_n (pc' := 29) dX2_init_28 rfl rfl ?_
  refine ex_bipush (v := 8) (pc' := 31) dX2_init_29 (by decide) rfl ?_
  refine en_narrI (pc' := 33) (a := 187) (nn := 8) (h2 := hh_432) dX2_init_31 (by decide +kernel) rfl rfl ?_
  refine en_putR (pc' := 36) (n := 7) (h2 := hh_433) dX2_init_33 fl_2_25 (by decide +kernel) (by decide) (by decide) rfl rfl ?_
  refine ex_aload_n (pc' := 37) dX2_init_36 rfl rfl ?_
  refine ex_bipush (v := 8) (pc' := 39) dX2_init_37 (by decide) rfl ?_
  refine en_narrI (pc' := 41) (a := 188) (nn := 8) (h2 := hh_434) dX2_init_39 (by decide +kernel) rfl rfl ?_
  refine en_putR (pc' := 44) (n := 7) (h2 := hh_435) dX2_init_41 fl_2_28 (by decide +kernel) (by decide) (by decide) rfl rfl ?_
  refine ex_aload_n (pc' := 45) dX2_init_44 rfl rfl ?_
  refine ex_bipush (v := 8) (pc' := 47) dX2_init_45 (by decide) rfl ?_
  refine en_narrI (pc' := 49) (a := 189) (nn := 8) (h2 := hh_436) dX2_init_47 (by decide +kernel) rfl rfl ?_
  refine en_putR (pc' := 52) (n := 7) (h2 := hh_437) dX2_init_49 fl_2_31 (by decide +kernel) (by decide) (by decide) rfl rfl ?_
  exact ex_vretV dX2_init_52 rfl rfl
set_option maxRecDepth 20000 in
theorem kc_90 (d : Nat) : zCv (d + 1) mX2_init [.inr (.inr (some 190))] hh_439 (fun h' => h' = hh_451) := by
  show zEx none (d + 1) mX2_init (0, [(0, .inr (.inr (some 190)))], [], hh_439) _
  refine ex_aload_n (pc' := 1) dX2_init_0 rfl rfl ?_
  refine ex_obj (pc' := 4) dX2_init_1 ml_2_3 (by decide) rfl ?_
  refine ex_aload_n (pc' := 5) dX2_init_4 rfl rfl ?_
  refine ex_iconst (v := 0) (pc' := 6) dX2_init_5 (by decide) rfl ?_
  refine en_putI (pc' := 9) (n := 7) (h2 := hh_440) dX2_init_6 fl_2_9 (by decide +kernel) (by decide) (by decide) rfl rfl ?_
  refine ex_aload_n (pc' := 10) dX2_init_9 rfl rfl ?_
  refine ex_iconst (v := 0) (pc' := 11) dX2_init_10 (by decide) rfl ?_
  refine en_putI (pc' := 14) (n := 7) (h2 := hh_441) dX2_init_11 fl_2_15 (by decide +kernel) (by decide) (by decide) rfl rfl ?_
  refine ex_aload_n (pc' := 15) dX2_init_14 rfl rfl ?_
  refine ex_iconst (v := 5) (pc' := 16) dX2_init_15 (by decide) rfl ?_
  refine en_narrI (pc' := 18) (a := 191) (nn := 5) (h2 := hh_442) dX2_init_16 (by decide +kernel) rfl rfl ?_
  refine en_putR (pc' := 21) (n := 7) (h2 := hh_443) dX2_init_18 fl_2_18 (by decide +kernel) (by decide) (by decide) rfl rfl ?_
  refine ex_aload_n (pc' := 22) dX2_init_21 rfl rfl ?_
  refine ex_iconst (v := 5) (pc' := 23) dX2_init_22 (by decide) rfl ?_
  refine en_narrI (pc' := 25) (a := 192) (nn := 5) (h2 := hh_444) dX2_init_23 (by decide +kernel) rfl rfl ?_
  refine en_putR (pc' := 28) (n := 7) (h2 := hh_445) dX2_init_25 fl_2_22 (by decide +kernel) (by decide) (by decide) rfl rfl ?_
  refine ex_aload_n (pc' := 29) dX2_init_28 rfl rfl ?_
  refine ex_bipush (v := 8) (pc' := 31) dX2_init_29 (by decide) rfl ?_
  refine en_narrI (pc' := 33) (a := 193) (nn := 8) (h2 := hh_446) dX2_init_31 (by decide +kernel) rfl rfl ?_
  refine en_putR (pc' := 36) (n := 7) (h2 := hh_447) dX2_init_33 fl_2_25 (by decide +kernel) (by decide) (by decide) rfl rfl ?_
  refine ex_aload_n (pc' := 37) dX2_init_36 rfl rfl ?_
  refine ex_bipush (v := 8) (pc' := 39) dX2_init_37 (by decide) rfl ?_
  refine en_narrI (pc' := 41) (a := 194) (nn := 8) (h2 := hh_448) dX2_init_39 (by decide +kernel) rfl rfl ?_
  refine en_putR (pc' := 44) (n := 7) (h2 := hh_449) dX2_init_41 fl_2_28 (by decide +kernel) (by decide) (by decide) rfl rfl ?_
  refine ex_aload_n (pc' := 45) dX2_init_44 rfl rfl ?_
  refine ex_bipush (v := 8) (pc' := 47) dX2_init_45 (by decide) rfl ?_
  refine en_narrI (pc' := 49) (a := 195) (nn := 8) (h2 := hh_450) dX2_init_47 (by decide +kernel) rfl rfl ?_
  refine en_putR (pc' := 52) (n := 7) (h2 := hh_451) dX2_init_49 fl_2_31 (by decide +kernel) (by decide) (by decide) rfl rfl ?_
  exact ex_vretV dX2_init_52 rfl rfl
set_option maxRecDepth 20000 in
theorem kc_1 (d : Nat) : zCv (d + 3) mX11_init [.inr (.inr (some 0))] hh_1 (fun h' => h' = hh_452) := by
  show zEx none (d + 3) mX11_init (0, [(0, .inr (.inr (some 0)))], [], hh_1) _
  refine ex_aload_n (pc' := 1) dX11_init_0 rfl rfl ?_
  refine ex_obj (pc' := 4) dX11_init_1 ml_11_1 (by decide) rfl ?_
  refine ex_aload_n (pc' := 5) dX11_init_4 rfl rfl ?_
  refine ex_sipush (v := 1000) (pc' := 8) dX11_init_5 (by decide) rfl ?_
  refine en_narrB (pc' := 10) (a := 1) (nn := 1000) (h2 := hh_2) dX11_init_8 (by decide +kernel) rfl rfl ?_
  refine en_putR (pc' := 13) (n := 16) (h2 := hh_3) dX11_init_10 fl_11_9 (by decide +kernel) (by decide) (by decide) rfl rfl ?_
  refine ex_aload_n (pc' := 14) dX11_init_13 rfl rfl ?_
  refine ex_iconst (v := 0) (pc' := 15) dX11_init_14 (by decide) rfl ?_
  refine en_putI (pc' := 18) (n := 16) (h2 := hh_4) dX11_init_15 fl_11_13 (by decide +kernel) (by decide) (by decide) rfl rfl ?_
  refine ex_aload_n (pc' := 19) dX11_init_18 rfl rfl ?_
  refine ex_iconst (v := 0) (pc' := 20) dX11_init_19 (by decide) rfl ?_
  refine en_putI (pc' := 23) (n := 16) (h2 := hh_5) dX11_init_20 fl_11_17 (by decide +kernel) (by decide) (by decide) rfl rfl ?_
  refine ex_aload_n (pc' := 24) dX11_init_23 rfl rfl ?_
  refine en_new (pc' := 27) (a := 2) (nf := 15) (h2 := hh_6) dX11_init_24 kl_11_20 (by decide +kernel) rfl rfl ?_
  refine ex_dup (pc' := 28) dX11_init_27 rfl rfl ?_
  refine en_calliV (pc' := 31) (a := 2) (n := 15) (h2 := hh_84) (vs := []) (rest := [.inr (.inr (some 2)), .inr (.inr (some 0))]) dX11_init_28 ml_11_22 (by decide) ⟨by decide, by decide⟩ rfl rfl (by decide +kernel) (by decide) (by decide) rfl (kc_2 _) ?_
  refine en_putR (pc' := 34) (n := 16) (h2 := hh_85) dX11_init_31 fl_11_23 (by decide +kernel) (by decide) (by decide) rfl rfl ?_
  refine ex_aload_n (pc' := 35) dX11_init_34 rfl rfl ?_
  refine en_new (pc' := 38) (a := 42) (nf := 15) (h2 := hh_86) dX11_init_35 kl_11_20 (by decide +kernel) rfl rfl ?_
  refine ex_dup (pc' := 39) dX11_init_38 rfl rfl ?_
  refine en_calliV (pc' := 42) (a := 42) (n := 15) (h2 := hh_164) (vs := []) (rest := [.inr (.inr (some 42)), .inr (.inr (some 0))]) dX11_init_39 ml_11_22 (by decide) ⟨by decide, by decide⟩ rfl rfl (by decide +kernel) (by decide) (by decide) rfl (kc_36 _) ?_
  refine en_putR (pc' := 45) (n := 16) (h2 := hh_165) dX11_init_42 fl_11_27 (by decide +kernel) (by decide) (by decide) rfl rfl ?_
  refine ex_aload_n (pc' := 46) dX11_init_45 rfl rfl ?_
  refine en_new (pc' := 49) (a := 82) (nf := 13) (h2 := hh_166) dX11_init_46 kl_11_30 (by decide +kernel) rfl rfl ?_
  refine ex_dup (pc' := 50) dX11_init_49 rfl rfl ?_
  refine ex_aload_n (pc' := 51) dX11_init_50 rfl rfl ?_
  refine ex_getR (pc' := 54) (n := 16) (r := 1) dX11_init_51 fl_11_9 (by decide +kernel) (by decide) (by decide +kernel) rfl ?_
  refine ex_aload_n (pc' := 55) dX11_init_54 rfl rfl ?_
  refine ex_getR (pc' := 58) (n := 16) (r := 42) dX11_init_55 fl_11_27 (by decide +kernel) (by decide) (by decide +kernel) rfl ?_
  refine en_calliV (pc' := 61) (a := 82) (n := 13) (h2 := hh_182) (vs := [.inr (.inr (some 1)), .inr (.inr (some 42))]) (rest := [.inr (.inr (some 82)), .inr (.inr (some 0))]) dX11_init_58 ml_11_32 (by decide) ⟨by decide, by decide⟩ rfl rfl (by decide +kernel) (by decide) (by decide) rfl (kc_70 _) ?_
  refine en_putR (pc' := 64) (n := 16) (h2 := hh_183) dX11_init_61 fl_11_35 (by decide +kernel) (by decide) (by decide) rfl rfl ?_
  refine ex_aload_n (pc' := 65) dX11_init_64 rfl rfl ?_
  refine en_new (pc' := 68) (a := 86) (nf := 7) (h2 := hh_184) dX11_init_65 kl_11_39 (by decide +kernel) rfl rfl ?_
  refine ex_dup (pc' := 69) dX11_init_68 rfl rfl ?_
  refine en_calliV (pc' := 72) (a := 86) (n := 7) (h2 := hh_196) (vs := []) (rest := [.inr (.inr (some 86)), .inr (.inr (some 0))]) dX11_init_69 ml_11_41 (by decide) ⟨by decide, by decide⟩ rfl rfl (by decide +kernel) (by decide) (by decide) rfl (kc_71 _) ?_
  refine en_putR (pc' := 75) (n := 16) (h2 := hh_197) dX11_init_72 fl_11_42 (by decide +kernel) (by decide) (by decide) rfl rfl ?_
  refine ex_aload_n (pc' := 76) dX11_init_75 rfl rfl ?_
  refine en_new (pc' := 79) (a := 92) (nf := 6) (h2 := hh_198) dX11_init_76 kl_11_46 (by decide +kernel) rfl rfl ?_
  refine ex_dup (pc' := 80) dX11_init_79 rfl rfl ?_
  refine ex_aload_n (pc' := 81) dX11_init_80 rfl rfl ?_
  refine ex_getR (pc' := 84) (n := 16) (r := 2) dX11_init_81 fl_11_23 (by decide +kernel) (by decide) (by decide +kernel) rfl ?_
  refine en_calliV (pc' := 87) (a := 92) (n := 6) (h2 := hh_205) (vs := [.inr (.inr (some 2))]) (rest := [.inr (.inr (some 92)), .inr (.inr (some 0))]) dX11_init_84 ml_11_48 (by decide) ⟨by decide, by decide⟩ rfl rfl (by decide +kernel) (by decide) (by decide) rfl (kc_72 _) ?_
  refine en_putR (pc' := 90) (n := 16) (h2 := hh_206) dX11_init_87 fl_11_51 (by decide +kernel) (by decide) (by decide) rfl rfl ?_
  refine ex_aload_n (pc' := 91) dX11_init_90 rfl rfl ?_
  refine en_new (pc' := 94) (a := 94) (nf := 7) (h2 := hh_207) dX11_init_91 kl_11_55 (by decide +kernel) rfl rfl ?_
  refine ex_dup (pc' := 95) dX11_init_94 rfl rfl ?_
  refine ex_aload_n (pc' := 96) dX11_init_95 rfl rfl ?_
  refine ex_getR (pc' := 99) (n := 16) (r := 2) dX11_init_96 fl_11_23 (by decide +kernel) (by decide) (by decide +kernel) rfl ?_
  refine ex_aload_n (pc' := 100) dX11_init_99 rfl rfl ?_
  refine ex_getR (pc' := 103) (n := 16) (r := 86) dX11_init_100 fl_11_42 (by decide +kernel) (by decide) (by decide +kernel) rfl ?_
  refine ex_aload_n (pc' := 104) dX11_init_103 rfl rfl ?_
  refine ex_getR (pc' := 107) (n := 16) (r := 92) dX11_init_104 fl_11_51 (by decide +kernel) (by decide) (by decide +kernel) rfl ?_
  refine en_calliV (pc' := 110) (a := 94) (n := 7) (h2 := hh_215) (vs := [.inr (.inr (some 2)), .inr (.inr (some 86)), .inr (.inr (some 92))]) (rest := [.inr (.inr (some 94)), .inr (.inr (some 0))]) dX11_init_107 ml_11_57 (by decide) ⟨by decide, by decide⟩ rfl rfl (by decide +kernel) (by decide) (by decide) rfl (kc_73 _) ?_
  refine en_putR (pc' := 113) (n := 16) (h2 := hh_216) dX11_init_110 fl_11_60 (by decide +kernel) (by decide) (by decide) rfl rfl ?_
  refine ex_aload_n (pc' := 114) dX11_init_113 rfl rfl ?_
  refine en_new (pc' := 117) (a := 96) (nf := 4) (h2 := hh_217) dX11_init_114 kl_11_64 (by decide +kernel) rfl rfl ?_
  refine ex_dup (pc' := 118) dX11_init_117 rfl rfl ?_
  refine ex_aload_n (pc' := 119) dX11_init_118 rfl rfl ?_
  refine ex_getR (pc' := 122) (n := 16) (r := 2) dX11_init_119 fl_11_23 (by decide +kernel) (by decide) (by decide +kernel) rfl ?_
  refine en_calliV (pc' := 125) (a := 96) (n := 4) (h2 := hh_224) (vs := [.inr (.inr (some 2))]) (rest := [.inr (.inr (some 96)), .inr (.inr (some 0))]) dX11_init_122 ml_11_66 (by decide) ⟨by decide, by decide⟩ rfl rfl (by decide +kernel) (by decide) (by decide) rfl (kc_74 _) ?_
  refine en_putR (pc' := 128) (n := 16) (h2 := hh_225) dX11_init_125 fl_11_67 (by decide +kernel) (by decide) (by decide) rfl rfl ?_
  refine ex_aload_n (pc' := 129) dX11_init_128 rfl rfl ?_
  refine en_new (pc' := 132) (a := 100) (nf := 5) (h2 := hh_226) dX11_init_129 kl_11_71 (by decide +kernel) rfl rfl ?_
  refine ex_dup (pc' := 133) dX11_init_132 rfl rfl ?_
  refine en_calliV (pc' := 136) (a := 100) (n := 5) (h2 := hh_234) (vs := []) (rest := [.inr (.inr (some 100)), .inr (.inr (some 0))]) dX11_init_133 ml_11_73 (by decide) ⟨by decide, by decide⟩ rfl rfl (by decide +kernel) (by decide) (by decide) rfl (kc_75 _) ?_
  refine en_putR (pc' := 139) (n := 16) (h2 := hh_235) dX11_init_136 fl_11_74 (by decide +kernel) (by decide) (by decide) rfl rfl ?_
  refine ex_aload_n (pc' := 140) dX11_init_139 rfl rfl ?_
  refine ex_bipush (v := 12) (pc' := 142) dX11_init_140 (by decide) rfl ?_
  refine en_anarr (pc' := 145) (a := 104) (nn := 12) (ak := 17) (h2 := hh_236) dX11_init_142 kl_11_39 (by decide +kernel) rfl rfl ?_
  refine en_putR (pc' := 148) (n := 16) (h2 := hh_237) dX11_init_145 fl_11_78 (by decide +kernel) (by decide) (by decide) rfl rfl ?_
  refine ex_aload_n (pc' := 149) dX11_init_148 rfl rfl ?_
  refine ex_iconst (v := 0) (pc' := 150) dX11_init_149 (by decide) rfl ?_
  refine en_putI (pc' := 153) (n := 16) (h2 := hh_238) dX11_init_150 fl_11_82 (by decide +kernel) (by decide) (by decide) rfl rfl ?_
  refine ex_aload_n (pc' := 154) dX11_init_153 rfl rfl ?_
  refine ex_iconst (v := 0) (pc' := 155) dX11_init_154 (by decide) rfl ?_
  refine en_putI (pc' := 158) (n := 16) (h2 := hh_239) dX11_init_155 fl_11_85 (by decide +kernel) (by decide) (by decide) rfl rfl ?_
  refine ex_aload_n (pc' := 159) dX11_init_158 rfl rfl ?_
  refine ex_iconst (v := 3) (pc' := 160) dX11_init_159 (by decide) rfl ?_
  refine en_anarr (pc' := 163) (a := 105) (nn := 3) (ak := 17) (h2 := hh_240) dX11_init_160 kl_11_39 (by decide +kernel) rfl rfl ?_
  refine en_putR (pc' := 166) (n := 16) (h2 := hh_241) dX11_init_163 fl_11_88 (by decide +kernel) (by decide) (by decide) rfl rfl ?_
  refine ex_aload_n (pc' := 167) dX11_init_166 rfl rfl ?_
  refine ex_iconst (v := 0) (pc' := 168) dX11_init_167 (by decide) rfl ?_
  refine en_putI (pc' := 171) (n := 16) (h2 := hh_242) dX11_init_168 fl_11_91 (by decide +kernel) (by decide) (by decide) rfl rfl ?_
  refine ex_iconst (v := 0) (pc' := 172) dX11_init_171 (by decide) rfl ?_
  refine ex_istore_n (pc' := 173) (ls' := [(1, .inl 0), (0, .inr (.inr (some 0)))]) dX11_init_172 (by decide) rfl rfl ?_
  refine ex_iload_n (pc' := 174) dX11_init_173 rfl rfl ?_
  refine ex_bipush (v := 12) (pc' := 176) dX11_init_174 (by decide) rfl ?_
  refine ex_icmp_f (pc' := 179) dX11_init_176 (by decide) (by decide) rfl ?_
  refine ex_aload_n (pc' := 180) dX11_init_179 rfl rfl ?_
  refine ex_getR (pc' := 183) (n := 16) (r := 104) dX11_init_180 fl_11_78 (by decide +kernel) (by decide) (by decide +kernel) rfl ?_
  refine ex_iload_n (pc' := 184) dX11_init_183 rfl rfl ?_
  refine en_new (pc' := 187) (a := 106) (nf := 7) (h2 := hh_243) dX11_init_184 kl_11_39 (by decide +kernel) rfl rfl ?_
  refine ex_dup (pc' := 188) dX11_init_187 rfl rfl ?_
  refine en_calliV (pc' := 191) (a := 106) (n := 7) (h2 := hh_255) (vs := []) (rest := [.inr (.inr (some 106)), .inl 0, .inr (.inr (some 104))]) dX11_init_188 ml_11_41 (by decide) ⟨by decide, by decide⟩ rfl rfl (by decide +kernel) (by decide) (by decide) rfl (kc_76 _) ?_
  refine en_aast (pc' := 192) (kd := 17) (n := 12) (nv := 7) (jj := 0) (h2 := hh_256) dX11_init_191 (by decide +kernel) (by decide +kernel) (by decide) (by decide) rfl rfl ?_
  refine ex_iinc (pc' := 195) (v := 1) (ls' := [(1, .inl 1), (0, .inr (.inr (some 0)))]) dX11_init_192 rfl (by decide) (by decide) rfl rfl ?_
  refine ex_goto (pc' := 173) dX11_init_195 (by decide) ?_
  refine ex_iload_n (pc' := 174) dX11_init_173 rfl rfl ?_
  refine ex_bipush (v := 12) (pc' := 176) dX11_init_174 (by decide) rfl ?_
  refine ex_icmp_f (pc' := 179) dX11_init_176 (by decide) (by decide) rfl ?_
  refine ex_aload_n (pc' := 180) dX11_init_179 rfl rfl ?_
  refine ex_getR (pc' := 183) (n := 16) (r := 104) dX11_init_180 fl_11_78 (by decide +kernel) (by decide) (by decide +kernel) rfl ?_
  refine ex_iload_n (pc' := 184) dX11_init_183 rfl rfl ?_
  refine en_new (pc' := 187) (a := 112) (nf := 7) (h2 := hh_257) dX11_init_184 kl_11_39 (by decide +kernel) rfl rfl ?_
  refine ex_dup (pc' := 188) dX11_init_187 rfl rfl ?_
  refine en_calliV (pc' := 191) (a := 112) (n := 7) (h2 := hh_269) (vs := []) (rest := [.inr (.inr (some 112)), .inl 1, .inr (.inr (some 104))]) dX11_init_188 ml_11_41 (by decide) ⟨by decide, by decide⟩ rfl rfl (by decide +kernel) (by decide) (by decide) rfl (kc_77 _) ?_
  refine en_aast (pc' := 192) (kd := 17) (n := 12) (nv := 7) (jj := 1) (h2 := hh_270) dX11_init_191 (by decide +kernel) (by decide +kernel) (by decide) (by decide) rfl rfl ?_
  refine ex_iinc (pc' := 195) (v := 2) (ls' := [(1, .inl 2), (0, .inr (.inr (some 0)))]) dX11_init_192 rfl (by decide) (by decide) rfl rfl ?_
  refine ex_goto (pc' := 173) dX11_init_195 (by decide) ?_
  refine ex_iload_n (pc' := 174) dX11_init_173 rfl rfl ?_
  refine ex_bipush (v := 12) (pc' := 176) dX11_init_174 (by decide) rfl ?_
  refine ex_icmp_f (pc' := 179) dX11_init_176 (by decide) (by decide) rfl ?_
  refine ex_aload_n (pc' := 180) dX11_init_179 rfl rfl ?_
  refine ex_getR (pc' := 183) (n := 16) (r := 104) dX11_init_180 fl_11_78 (by decide +kernel) (by decide) (by decide +kernel) rfl ?_
  refine ex_iload_n (pc' := 184) dX11_init_183 rfl rfl ?_
  refine en_new (pc' := 187) (a := 118) (nf := 7) (h2 := hh_271) dX11_init_184 kl_11_39 (by decide +kernel) rfl rfl ?_
  refine ex_dup (pc' := 188) dX11_init_187 rfl rfl ?_
  refine en_calliV (pc' := 191) (a := 118) (n := 7) (h2 := hh_283) (vs := []) (rest := [.inr (.inr (some 118)), .inl 2, .inr (.inr (some 104))]) dX11_init_188 ml_11_41 (by decide) ⟨by decide, by decide⟩ rfl rfl (by decide +kernel) (by decide) (by decide) rfl (kc_78 _) ?_
  refine en_aast (pc' := 192) (kd := 17) (n := 12) (nv := 7) (jj := 2) (h2 := hh_284) dX11_init_191 (by decide +kernel) (by decide +kernel) (by decide) (by decide) rfl rfl ?_
  refine ex_iinc (pc' := 195) (v := 3) (ls' := [(1, .inl 3), (0, .inr (.inr (some 0)))]) dX11_init_192 rfl (by decide) (by decide) rfl rfl ?_
  refine ex_goto (pc' := 173) dX11_init_195 (by decide) ?_
  refine ex_iload_n (pc' := 174) dX11_init_173 rfl rfl ?_
  refine ex_bipush (v := 12) (pc' := 176) dX11_init_174 (by decide) rfl ?_
  refine ex_icmp_f (pc' := 179) dX11_init_176 (by decide) (by decide) rfl ?_
  refine ex_aload_n (pc' := 180) dX11_init_179 rfl rfl ?_
  refine ex_getR (pc' := 183) (n := 16) (r := 104) dX11_init_180 fl_11_78 (by decide +kernel) (by decide) (by decide +kernel) rfl ?_
  refine ex_iload_n (pc' := 184) dX11_init_183 rfl rfl ?_
  refine en_new (pc' := 187) (a := 124) (nf := 7) (h2 := hh_285) dX11_init_184 kl_11_39 (by decide +kernel) rfl rfl ?_
  refine ex_dup (pc' := 188) dX11_init_187 rfl rfl ?_
  refine en_calliV (pc' := 191) (a := 124) (n := 7) (h2 := hh_297) (vs := []) (rest := [.inr (.inr (some 124)), .inl 3, .inr (.inr (some 104))]) dX11_init_188 ml_11_41 (by decide) ⟨by decide, by decide⟩ rfl rfl (by decide +kernel) (by decide) (by decide) rfl (kc_79 _) ?_
  refine en_aast (pc' := 192) (kd := 17) (n := 12) (nv := 7) (jj := 3) (h2 := hh_298) dX11_init_191 (by decide +kernel) (by decide +kernel) (by decide) (by decide) rfl rfl ?_
  refine ex_iinc (pc' := 195) (v := 4) (ls' := [(1, .inl 4), (0, .inr (.inr (some 0)))]) dX11_init_192 rfl (by decide) (by decide) rfl rfl ?_
  refine ex_goto (pc' := 173) dX11_init_195 (by decide) ?_
  refine ex_iload_n (pc' := 174) dX11_init_173 rfl rfl ?_
  refine ex_bipush (v := 12) (pc' := 176) dX11_init_174 (by decide) rfl ?_
  refine ex_icmp_f (pc' := 179) dX11_init_176 (by decide) (by decide) rfl ?_
  refine ex_aload_n (pc' := 180) dX11_init_179 rfl rfl ?_
  refine ex_getR (pc' := 183) (n := 16) (r := 104) dX11_init_180 fl_11_78 (by decide +kernel) (by decide) (by decide +kernel) rfl ?_
  refine ex_iload_n (pc' := 184) dX11_init_183 rfl rfl ?_
  refine en_new (pc' := 187) (a := 130) (nf := 7) (h2 := hh_299) dX11_init_184 kl_11_39 (by decide +kernel) rfl rfl ?_
  refine ex_dup (pc' := 188) dX11_init_187 rfl rfl ?_
  refine en_calliV (pc' := 191) (a := 130) (n := 7) (h2 := hh_311) (vs := []) (rest := [.inr (.inr (some 130)), .inl 4, .inr (.inr (some 104))]) dX11_init_188 ml_11_41 (by decide) ⟨by decide, by decide⟩ rfl rfl (by decide +kernel) (by decide) (by decide) rfl (kc_80 _) ?_
  refine en_aast (pc' := 192) (kd := 17) (n := 12) (nv := 7) (jj := 4) (h2 := hh_312) dX11_init_191 (by decide +kernel) (by decide +kernel) (by decide) (by decide) rfl rfl ?_
  refine ex_iinc (pc' := 195) (v := 5) (ls' := [(1, .inl 5), (0, .inr (.inr (some 0)))]) dX11_init_192 rfl (by decide) (by decide) rfl rfl ?_
  refine ex_goto (pc' := 173) dX11_init_195 (by decide) ?_
  refine ex_iload_n (pc' := 174) dX11_init_173 rfl rfl ?_
  refine ex_bipush (v := 12) (pc' := 176) dX11_init_174 (by decide) rfl ?_
  refine ex_icmp_f (pc' := 179) dX11_init_176 (by decide) (by decide) rfl ?_
  refine ex_aload_n (pc' := 180) dX11_init_179 rfl rfl ?_
  refine ex_getR (pc' := 183) (n := 16) (r := 104) dX11_init_180 fl_11_78 (by decide +kernel) (by decide) (by decide +kernel) rfl ?_
  refine ex_iload_n (pc' := 184) dX11_init_183 rfl rfl ?_
  refine en_new (pc' := 187) (a := 136) (nf := 7) (h2 := hh_313) dX11_init_184 kl_11_39 (by decide +kernel) rfl rfl ?_
  refine ex_dup (pc' := 188) dX11_init_187 rfl rfl ?_
  refine en_calliV (pc' := 191) (a := 136) (n := 7) (h2 := hh_325) (vs := []) (rest := [.inr (.inr (some 136)), .inl 5, .inr (.inr (some 104))]) dX11_init_188 ml_11_41 (by decide) ⟨by decide, by decide⟩ rfl rfl (by decide +kernel) (by decide) (by decide) rfl (kc_81 _) ?_
  refine en_aast (pc' := 192) (kd := 17) (n := 12) (nv := 7) (jj := 5) (h2 := hh_326) dX11_init_191 (by decide +kernel) (by decide +kernel) (by decide) (by decide) rfl rfl ?_
  refine ex_iinc (pc' := 195) (v := 6) (ls' := [(1, .inl 6), (0, .inr (.inr (some 0)))]) dX11_init_192 rfl (by decide) (by decide) rfl rfl ?_
  refine ex_goto (pc' := 173) dX11_init_195 (by decide) ?_
  refine ex_iload_n (pc' := 174) dX11_init_173 rfl rfl ?_
  refine ex_bipush (v := 12) (pc' := 176) dX11_init_174 (by decide) rfl ?_
  refine ex_icmp_f (pc' := 179) dX11_init_176 (by decide) (by decide) rfl ?_
  refine ex_aload_n (pc' := 180) dX11_init_179 rfl rfl ?_
  refine ex_getR (pc' := 183) (n := 16) (r := 104) dX11_init_180 fl_11_78 (by decide +kernel) (by decide) (by decide +kernel) rfl ?_
  refine ex_iload_n (pc' := 184) dX11_init_183 rfl rfl ?_
  refine en_new (pc' := 187) (a := 142) (nf := 7) (h2 := hh_327) dX11_init_184 kl_11_39 (by decide +kernel) rfl rfl ?_
  refine ex_dup (pc' := 188) dX11_init_187 rfl rfl ?_
  refine en_calliV (pc' := 191) (a := 142) (n := 7) (h2 := hh_339) (vs := []) (rest := [.inr (.inr (some 142)), .inl 6, .inr (.inr (some 104))]) dX11_init_188 ml_11_41 (by decide) ⟨by decide, by decide⟩ rfl rfl (by decide +kernel) (by decide) (by decide) rfl (kc_82 _) ?_
  refine en_aast (pc' := 192) (kd := 17) (n := 12) (nv := 7) (jj := 6) (h2 := hh_340) dX11_init_191 (by decide +kernel) (by decide +kernel) (by decide) (by decide) rfl rfl ?_
  refine ex_iinc (pc' := 195) (v := 7) (ls' := [(1, .inl 7), (0, .inr (.inr (some 0)))]) dX11_init_192 rfl (by decide) (by decide) rfl rfl ?_
  refine ex_goto (pc' := 173) dX11_init_195 (by decide) ?_
  refine ex_iload_n (pc' := 174) dX11_init_173 rfl rfl ?_
  refine ex_bipush (v := 12) (pc' := 176) dX11_init_174 (by decide) rfl ?_
  refine ex_icmp_f (pc' := 179) dX11_init_176 (by decide) (by decide) rfl ?_
  refine ex_aload_n (pc' := 180) dX11_init_179 rfl rfl ?_
  refine ex_getR (pc' := 183) (n := 16) (r := 104) dX11_init_180 fl_11_78 (by decide +kernel) (by decide) (by decide +kernel) rfl ?_
  refine ex_iload_n (pc' := 184) dX11_init_183 rfl rfl ?_
  refine en_new (pc' := 187) (a := 148) (nf := 7) (h2 := hh_341) dX11_init_184 kl_11_39 (by decide +kernel) rfl rfl ?_
  refine ex_dup (pc' := 188) dX11_init_187 rfl rfl ?_
  refine en_calliV (pc' := 191) (a := 148) (n := 7) (h2 := hh_353) (vs := []) (rest := [.inr (.inr (some 148)), .inl 7, .inr (.inr (some 104))]) dX11_init_188 ml_11_41 (by decide) ⟨by decide, by decide⟩ rfl rfl (by decide +kernel) (by decide) (by decide) rfl (kc_83 _) ?_
  refine en_aast (pc' := 192) (kd := 17) (n := 12) (nv := 7) (jj := 7) (h2 := hh_354) dX11_init_191 (by decide +kernel) (by decide +kernel) (by decide) (by decide) rfl rfl ?_
  refine ex_iinc (pc' := 195) (v := 8) (ls' := [(1, .inl 8), (0, .inr (.inr (some 0)))]) dX11_init_192 rfl (by decide) (by decide) rfl rfl ?_
  refine ex_goto (pc' := 173) dX11_init_195 (by decide) ?_
  refine ex_iload_n (pc' := 174) dX11_init_173 rfl rfl ?_
  refine ex_bipush (v := 12) (pc' := 176) dX11_init_174 (by decide) rfl ?_
  refine ex_icmp_f (pc' := 179) dX11_init_176 (by decide) (by decide) rfl ?_
  refine ex_aload_n (pc' := 180) dX11_init_179 rfl rfl ?_
  refine ex_getR (pc' := 183) (n := 16) (r := 104) dX11_init_180 fl_11_78 (by decide +kernel) (by decide) (by decide +kernel) rfl ?_
  refine ex_iload_n (pc' := 184) dX11_init_183 rfl rfl ?_
  refine en_new (pc' := 187) (a := 154) (nf := 7) (h2 := hh_355) dX11_init_184 kl_11_39 (by decide +kernel) rfl rfl ?_
  refine ex_dup (pc' := 188) dX11_init_187 rfl rfl ?_
  refine en_calliV (pc' := 191) (a := 154) (n := 7) (h2 := hh_367) (vs := []) (rest := [.inr (.inr (some 154)), .inl 8, .inr (.inr (some 104))]) dX11_init_188 ml_11_41 (by decide) ⟨by decide, by decide⟩ rfl rfl (by decide +kernel) (by decide) (by decide) rfl (kc_84 _) ?_
  refine en_aast (pc' := 192) (kd := 17) (n := 12) (nv := 7) (jj := 8) (h2 := hh_368) dX11_init_191 (by decide +kernel) (by decide +kernel) (by decide) (by decide) rfl rfl ?_
  refine ex_iinc (pc' := 195) (v := 9) (ls' := [(1, .inl 9), (0, .inr (.inr (some 0)))]) dX11_init_192 rfl (by decide) (by decide) rfl rfl ?_
  refine ex_goto (pc' := 173) dX11_init_195 (by decide) ?_
  refine ex_iload_n (pc' := 174) dX11_init_173 rfl rfl ?_
  refine ex_bipush (v := 12) (pc' := 176) dX11_init_174 (by decide) rfl ?_
  refine ex_icmp_f (pc' := 179) dX11_init_176 (by decide) (by decide) rfl ?_
  refine ex_aload_n (pc' := 180) dX11_init_179 rfl rfl ?_
  refine ex_getR (pc' := 183) (n := 16) (r := 104) dX11_init_180 fl_11_78 (by decide +kernel) (by decide) (by decide +kernel) rfl ?_
  refine ex_iload_n (pc' := 184) dX11_init_183 rfl rfl ?_
  refine en_new (pc' := 187) (a := 160) (nf := 7) (h2 := hh_369) dX11_init_184 kl_11_39 (by decide +kernel) rfl rfl ?_
  refine ex_dup (pc' := 188) dX11_init_187 rfl rfl ?_
  refine en_calliV (pc' := 191) (a := 160) (n := 7) (h2 := hh_381) (vs := []) (rest := [.inr (.inr (some 160)), .inl 9, .inr (.inr (some 104))]) dX11_init_188 ml_11_41 (by decide) ⟨by decide, by decide⟩ rfl rfl (by decide +kernel) (by decide) (by decide) rfl (kc_85 _) ?_
  refine en_aast (pc' := 192) (kd := 17) (n := 12) (nv := 7) (jj := 9) (h2 := hh_382) dX11_init_191 (by decide +kernel) (by decide +kernel) (by decide) (by decide) rfl rfl ?_
  refine ex_iinc (pc' := 195) (v := 10) (ls' := [(1, .inl 10), (0, .inr (.inr (some 0)))]) dX11_init_192 rfl (by decide) (by decide) rfl rfl ?_
  refine ex_goto (pc' := 173) dX11_init_195 (by decide) ?_
  refine ex_iload_n (pc' := 174) dX11_init_173 rfl rfl ?_
  refine ex_bipush (v := 12) (pc' := 176) dX11_init_174 (by decide) rfl ?_
  refine ex_icmp_f (pc' := 179) dX11_init_176 (by decide) (by decide) rfl ?_
  refine ex_aload_n (pc' := 180) dX11_init_179 rfl rfl ?_
  refine ex_getR (pc' := 183) (n := 16) (r := 104) dX11_init_180 fl_11_78 (by decide +kernel) (by decide) (by decide +kernel) rfl ?_
  refine ex_iload_n (pc' := 184) dX11_init_183 rfl rfl ?_
  refine en_new (pc' := 187) (a := 166) (nf := 7) (h2 := hh_383) dX11_init_184 kl_11_39 (by decide +kernel) rfl rfl ?_
  refine ex_dup (pc' := 188) dX11_init_187 rfl rfl ?_
  refine en_calliV (pc' := 191) (a := 166) (n := 7) (h2 := hh_395) (vs := []) (rest := [.inr (.inr (some 166)), .inl 10, .inr (.inr (some 104))]) dX11_init_188 ml_11_41 (by decide) ⟨by decide, by decide⟩ rfl rfl (by decide +kernel) (by decide) (by decide) rfl (kc_86 _) ?_
  refine en_aast (pc' := 192) (kd := 17) (n := 12) (nv := 7) (jj := 10) (h2 := hh_396) dX11_init_191 (by decide +kernel) (by decide +kernel) (by decide) (by decide) rfl rfl ?_
  refine ex_iinc (pc' := 195) (v := 11) (ls' := [(1, .inl 11), (0, .inr (.inr (some 0)))]) dX11_init_192 rfl (by decide) (by decide) rfl rfl ?_
  refine ex_goto (pc' := 173) dX11_init_195 (by decide) ?_
  refine ex_iload_n (pc' := 174) dX11_init_173 rfl rfl ?_
  refine ex_bipush (v := 12) (pc' := 176) dX11_init_174 (by decide) rfl ?_
  refine ex_icmp_f (pc' := 179) dX11_init_176 (by decide) (by decide) rfl ?_
  refine ex_aload_n (pc' := 180) dX11_init_179 rfl rfl ?_
  refine ex_getR (pc' := 183) (n := 16) (r := 104) dX11_init_180 fl_11_78 (by decide +kernel) (by decide) (by decide +kernel) rfl ?_
  refine ex_iload_n (pc' := 184) dX11_init_183 rfl rfl ?_
  refine en_new (pc' := 187) (a := 172) (nf := 7) (h2 := hh_397) dX11_init_184 kl_11_39 (by decide +kernel) rfl rfl ?_
  refine ex_dup (pc' := 188) dX11_init_187 rfl rfl ?_
  refine en_calliV (pc' := 191) (a := 172) (n := 7) (h2 := hh_409) (vs := []) (rest := [.inr (.inr (some 172)), .inl 11, .inr (.inr (some 104))]) dX11_init_188 ml_11_41 (by decide) ⟨by decide, by decide⟩ rfl rfl (by decide +kernel) (by decide) (by decide) rfl (kc_87 _) ?_
  refine en_aast (pc' := 192) (kd := 17) (n := 12) (nv := 7) (jj := 11) (h2 := hh_410) dX11_init_191 (by decide +kernel) (by decide +kernel) (by decide) (by decide) rfl rfl ?_
  refine ex_iinc (pc' := 195) (v := 12) (ls' := [(1, .inl 12), (0, .inr (.inr (some 0)))]) dX11_init_192 rfl (by decide) (by decide) rfl rfl ?_
  refine ex_goto (pc' := 173) dX11_init_195 (by decide) ?_
  refine ex_iload_n (pc' := 174) dX11_init_173 rfl rfl ?_
  refine ex_bipush (v := 12) (pc' := 176) dX11_init_174 (by decide) rfl ?_
  refine ex_icmp_t (pc' := 198) dX11_init_176 (by decide) (by decide) ?_
  refine ex_iconst (v := 0) (pc' := 199) dX11_init_198 (by decide) rfl ?_
  refine ex_istore_n (pc' := 200) (ls' := [(1, .inl 0), (0, .inr (.inr (some 0)))]) dX11_init_199 (by decide) rfl rfl ?_
  refine ex_iload_n (pc' := 201) dX11_init_200 rfl rfl ?_
  refine ex_iconst (v := 3) (pc' := 202) dX11_init_201 (by decide) rfl ?_
  refine ex_icmp_f (pc' := 205) dX11_init_202 (by decide) (by decide) rfl ?_
  refine ex_aload_n (pc' := 206) dX11_init_205 rfl rfl ?_
  refine ex_getR (pc' := 209) (n := 16) (r := 105) dX11_init_206 fl_11_88 (by decide +kernel) (by decide) (by decide +kernel) rfl ?_
  refine ex_iload_n (pc' := 210) dX11_init_209 rfl rfl ?_
  refine en_new (pc' := 213) (a := 178) (nf := 7) (h2 := hh_411) dX11_init_210 kl_11_39 (by decide +kernel) rfl rfl ?_
  refine ex_dup (pc' := 214) dX11_init_213 rfl rfl ?_
  refine en_calliV (pc' := 217) (a := 178) (n := 7) (h2 := hh_423) (vs := []) (rest := [.inr (.inr (some 178)), .inl 0, .inr (.inr (some 105))]) dX11_init_214 ml_11_41 (by decide) ⟨by decide, by decide⟩ rfl rfl (by decide +kernel) (by decide) (by decide) rfl (kc_88 _) ?_
  refine en_aast (pc' := 218) (kd := 17) (n := 3) (nv := 7) (jj := 0) (h2 := hh_424) dX11_init_217 (by decide +kernel) (by decide +kernel) (by decide) (by decide) rfl rfl ?_
  refine ex_iinc (pc' := 221) (v := 1) (ls' := [(1, .inl 1), (0, .inr (.inr (some 0)))]) dX11_init_218 rfl (by decide) (by decide) rfl rfl ?_
  refine ex_goto (pc' := 200) dX11_init_221 (by decide) ?_
  refine ex_iload_n (pc' := 201) dX11_init_200 rfl rfl ?_
  refine ex_iconst (v := 3) (pc' := 202) dX11_init_201 (by decide) rfl ?_
  refine ex_icmp_f (pc' := 205) dX11_init_202 (by decide) (by decide) rfl ?_
  refine ex_aload_n (pc' := 206) dX11_init_205 rfl rfl ?_
  refine ex_getR (pc' := 209) (n := 16) (r := 105) dX11_init_206 fl_11_88 (by decide +kernel) (by decide) (by decide +kernel) rfl ?_
  refine ex_iload_n (pc' := 210) dX11_init_209 rfl rfl ?_
  refine en_new (pc' := 213) (a := 184) (nf := 7) (h2 := hh_425) dX11_init_210 kl_11_39 (by decide +kernel) rfl rfl ?_
  refine ex_dup (pc' := 214) dX11_init_213 rfl rfl ?_
  refine en_calliV (pc' := 217) (a := 184) (n := 7) (h2 := hh_437) (vs := []) (rest := [.inr (.inr (some 184)), .inl 1, .inr (.inr (some 105))]) dX11_init_214 ml_11_41 (by decide) ⟨by decide, by decide⟩ rfl rfl (by decide +kernel) (by decide) (by decide) rfl (kc_89 _) ?_
  refine en_aast (pc' := 218) (kd := 17) (n := 3) (nv := 7) (jj := 1) (h2 := hh_438) dX11_init_217 (by decide +kernel) (by decide +kernel) (by decide) (by decide) rfl rfl ?_
  refine ex_iinc (pc' := 221) (v := 2) (ls' := [(1, .inl 2), (0, .inr (.inr (some 0)))]) dX11_init_218 rfl (by decide) (by decide) rfl rfl ?_
  refine ex_goto (pc' := 200) dX11_init_221 (by decide) ?_
  refine ex_iload_n (pc' := 201) dX11_init_200 rfl rfl ?_
  refine ex_iconst (v := 3) (pc' := 202) dX11_init_201 (by decide) rfl ?_
  refine ex_icmp_f (pc' := 205) dX11_init_202 (by decide) (by decide) rfl ?_
  refine ex_aload_n (pc' := 206) dX11_init_205 rfl rfl ?_
  refine ex_getR (pc' := 209) (n := 16) (r := 105) dX11_init_206 fl_11_88 (by decide +kernel) (by decide) (by decide +kernel) rfl ?_
  refine ex_iload_n (pc' := 210) dX11_init_209 rfl rfl ?_
  refine en_new (pc' := 213) (a := 190) (nf := 7) (h2 := hh_439) dX11_init_210 kl_11_39 (by decide +kernel) rfl rfl ?_
  refine ex_dup (pc' := 214) dX11_init_213 rfl rfl ?_
  refine en_calliV (pc' := 217) (a := 190) (n := 7) (h2 := hh_451) (vs := []) (rest := [.inr (.inr (some 190)), .inl 2, .inr (.inr (some 105))]) dX11_init_214 ml_11_41 (by decide) ⟨by decide, by decide⟩ rfl rfl (by decide +kernel) (by decide) (by decide) rfl (kc_90 _) ?_
  refine en_aast (pc' := 218) (kd := 17) (n := 3) (nv := 7) (jj := 2) (h2 := hh_452) dX11_init_217 (by decide +kernel) (by decide +kernel) (by decide) (by decide) rfl rfl ?_
  refine ex_iinc (pc' := 221) (v := 3) (ls' := [(1, .inl 3), (0, .inr (.inr (some 0)))]) dX11_init_218 rfl (by decide) (by decide) rfl rfl ?_
  refine ex_goto (pc' := 200) dX11_init_221 (by decide) ?_
  refine ex_iload_n (pc' := 201) dX11_init_200 rfl rfl ?_
  refine ex_iconst (v := 3) (pc' := 202) dX11_init_201 (by decide) rfl ?_
  refine ex_icmp_t (pc' := 224) dX11_init_202 (by decide) (by decide) ?_
  exact ex_vretV dX11_init_224 rfl rfl
set_option maxRecDepth 20000 in
theorem kc_91 (d : Nat) : zCv (d + 1) mX12_init [.inr (.inr (some 196))] hh_453 (fun h' => h' = hh_486) := by
  show zEx none (d + 1) mX12_init (0, [(0, .inr (.inr (some 196)))], [], hh_453) _
  refine ex_aload_n (pc' := 1) dX12_init_0 rfl rfl ?_
  refine ex_obj (pc' := 4) dX12_init_1 ml_12_1 (by decide) rfl ?_
  refine ex_aload_n (pc' := 5) dX12_init_4 rfl rfl ?_
  refine ex_sipush (v := 1000) (pc' := 8) dX12_init_5 (by decide) rfl ?_
  refine en_narrI (pc' := 10) (a := 197) (nn := 1000) (h2 := hh_454) dX12_init_8 (by decide +kernel) rfl rfl ?_
  refine en_putR (pc' := 13) (n := 39) (h2 := hh_455) dX12_init_10 fl_12_7 (by decide +kernel) (by decide) (by decide) rfl rfl ?_
  refine ex_aload_n (pc' := 14) dX12_init_13 rfl rfl ?_
  refine ex_iconst (v := (-1)) (pc' := 15) dX12_init_14 (by decide) rfl ?_
  refine en_putI (pc' := 18) (n := 39) (h2 := hh_456) dX12_init_15 fl_12_13 (by decide +kernel) (by decide) (by decide) rfl rfl ?_
  refine ex_aload_n (pc' := 19) dX12_init_18 rfl rfl ?_
  refine ex_bipush (v := 8) (pc' := 21) dX12_init_19 (by decide) rfl ?_
  refine en_narrI (pc' := 23) (a := 198) (nn := 8) (h2 := hh_457) dX12_init_21 (by decide +kernel) rfl rfl ?_
  refine en_putR (pc' := 26) (n := 39) (h2 := hh_458) dX12_init_23 fl_12_17 (by decide +kernel) (by decide) (by decide) rfl rfl ?_
  refine ex_aload_n (pc' := 27) dX12_init_26 rfl rfl ?_
  refine ex_sipush (v := 363) (pc' := 30) dX12_init_27 (by decide) rfl ?_
  refine en_narrI (pc' := 32) (a := 199) (nn := 363) (h2 := hh_459) dX12_init_30 (by decide +kernel) rfl rfl ?_
  refine en_putR (pc' := 35) (n := 39) (h2 := hh_460) dX12_init_32 fl_12_20 (by decide +kernel) (by decide) (by decide) rfl rfl ?_
  refine ex_aload_n (pc' := 36) dX12_init_35 rfl rfl ?_
  refine ex_sipush (v := 363) (pc' := 39) dX12_init_36 (by decide) rfl ?_
  refine en_narrI (pc' := 41) (a := 200) (nn := 363) (h2 := hh_461) dX12_init_39 (by decide +kernel) rfl rfl ?_
  refine en_putR (pc' := 44) (n := 39) (h2 := hh_462) dX12_init_41 fl_12_23 (by decide +kernel) (by decide) (by decide) rfl rfl ?_
  refine ex_aload_n (pc' := 45) dX12_init_44 rfl rfl ?_
  refine ex_bipush (v := 76) (pc' := 47) dX12_init_45 (by decide) rfl ?_
  refine en_narrI (pc' := 49) (a := 201) (nn := 76) (h2 := hh_463) dX12_init_47 (by decide +kernel) rfl rfl ?_
  refine en_putR (pc' := 52) (n := 39) (h2 := hh_464) dX12_init_49 fl_12_26 (by decide +kernel) (by decide) (by decide) rfl rfl ?_
  refine ex_aload_n (pc' := 53) dX12_init_52 rfl rfl ?_
  refine ex_sipush (v := 912) (pc' := 56) dX12_init_53 (by decide) rfl ?_
  refine en_narrI (pc' := 58) (a := 202) (nn := 912) (h2 := hh_465) dX12_init_56 (by decide +kernel) rfl rfl ?_
  refine en_putR (pc' := 61) (n := 39) (h2 := hh_466) dX12_init_58 fl_12_29 (by decide +kernel) (by decide) (by decide) rfl rfl ?_
  refine ex_aload_n (pc' := 62) dX12_init_61 rfl rfl ?_
  refine ex_sipush (v := 228) (pc' := 65) dX12_init_62 (by decide) rfl ?_
  refine en_narrI (pc' := 67) (a := 203) (nn := 228) (h2 := hh_467) dX12_init_65 (by decide +kernel) rfl rfl ?_
  refine en_putR (pc' := 70) (n := 39) (h2 := hh_468) dX12_init_67 fl_12_32 (by decide +kernel) (by decide) (by decide) rfl rfl ?_
  refine ex_aload_n (pc' := 71) dX12_init_70 rfl rfl ?_
  refine ex_sipush (v := 3200) (pc' := 74) dX12_init_71 (by decide) rfl ?_
  refine en_narrI (pc' := 76) (a := 204) (nn := 3200) (h2 := hh_469) dX12_init_74 (by decide +kernel) rfl rfl ?_
  refine en_putR (pc' := 79) (n := 39) (h2 := hh_470) dX12_init_76 fl_12_35 (by decide +kernel) (by decide) (by decide) rfl rfl ?_
  refine ex_aload_n (pc' := 80) dX12_init_79 rfl rfl ?_
  refine ex_bipush (v := 7) (pc' := 82) dX12_init_80 (by decide) rfl ?_
  refine en_narrI (pc' := 84) (a := 205) (nn := 7) (h2 := hh_471) dX12_init_82 (by decide +kernel) rfl rfl ?_
  refine en_putR (pc' := 87) (n := 39) (h2 := hh_472) dX12_init_84 fl_12_38 (by decide +kernel) (by decide) (by decide) rfl rfl ?_
  refine ex_aload_n (pc' := 88) dX12_init_87 rfl rfl ?_
  refine ex_bipush (v := 7) (pc' := 90) dX12_init_88 (by decide) rfl ?_
  refine en_narrI (pc' := 92) (a := 206) (nn := 7) (h2 := hh_473) dX12_init_90 (by decide +kernel) rfl rfl ?_
  refine en_putR (pc' := 95) (n := 39) (h2 := hh_474) dX12_init_92 fl_12_41 (by decide +kernel) (by decide) (by decide) rfl rfl ?_
  refine ex_aload_n (pc' := 96) dX12_init_95 rfl rfl ?_
  refine ex_bipush (v := 8) (pc' := 98) dX12_init_96 (by decide) rfl ?_
  refine en_narrI (pc' := 100) (a := 207) (nn := 8) (h2 := hh_475) dX12_init_98 (by decide +kernel) rfl rfl ?_
  refine en_putR (pc' := 103) (n := 39) (h2 := hh_476) dX12_init_100 fl_12_44 (by decide +kernel) (by decide) (by decide) rfl rfl ?_
  refine ex_aload_n (pc' := 104) dX12_init_103 rfl rfl ?_
  refine ex_bipush (v := 8) (pc' := 106) dX12_init_104 (by decide) rfl ?_
  refine en_narrI (pc' := 108) (a := 208) (nn := 8) (h2 := hh_477) dX12_init_106 (by decide +kernel) rfl rfl ?_
  refine en_putR (pc' := 111) (n := 39) (h2 := hh_478) dX12_init_108 fl_12_47 (by decide +kernel) (by decide) (by decide) rfl rfl ?_
  refine ex_aload_n (pc' := 112) dX12_init_111 rfl rfl ?_
  refine ex_bipush (v := 40) (pc' := 114) dX12_init_112 (by decide) rfl ?_
  refine en_narrI (pc' := 116) (a := 209) (nn := 40) (h2 := hh_479) dX12_init_114 (by decide +kernel) rfl rfl ?_
  refine en_putR (pc' := 119) (n := 39) (h2 := hh_480) dX12_init_116 fl_12_50 (by decide +kernel) (by decide) (by decide) rfl rfl ?_
  refine ex_aload_n (pc' := 120) dX12_init_119 rfl rfl ?_
  refine ex_bipush (v := 49) (pc' := 122) dX12_init_120 (by decide) rfl ?_
  refine en_narrI (pc' := 124) (a := 210) (nn := 49) (h2 := hh_481) dX12_init_122 (by decide +kernel) rfl rfl ?_
  refine en_putR (pc' := 127) (n := 39) (h2 := hh_482) dX12_init_124 fl_12_53 (by decide +kernel) (by decide) (by decide) rfl rfl ?_
  refine ex_aload_n (pc' := 128) dX12_init_127 rfl rfl ?_
  refine ex_bipush (v := 7) (pc' := 130) dX12_init_128 (by decide) rfl ?_
  refine en_narrI (pc' := 132) (a := 211) (nn := 7) (h2 := hh_483) dX12_init_130 (by decide +kernel) rfl rfl ?_
  refine en_putR (pc' := 135) (n := 39) (h2 := hh_484) dX12_init_132 fl_12_56 (by decide +kernel) (by decide) (by decide) rfl rfl ?_
  refine ex_aload_n (pc' := 136) dX12_init_135 rfl rfl ?_
  refine ex_bipush (v := 7) (pc' := 138) dX12_init_136 (by decide) rfl ?_
  refine en_narrI (pc' := 140) (a := 212) (nn := 7) (h2 := hh_485) dX12_init_138 (by decide +kernel) rfl rfl ?_
  refine en_putR (pc' := 143) (n := 39) (h2 := hh_486) dX12_init_140 fl_12_59 (by decide +kernel) (by decide) (by decide) rfl rfl ?_
  exact ex_vretV dX12_init_143 rfl rfl
