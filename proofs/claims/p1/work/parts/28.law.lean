/-! the law on the small machine, for scripts of at most six -/
theorem zk_ext {x : Int32} {n : Int} {c : Int32} (h : x.toInt = n) (hc : c.toInt = n) : x = c := Int32.toInt_inj.mp (h.trans hc.symm)
theorem kl_all_1 (d : Nat) (xs : Nat → Int32) : zEx (some (6, xs)) (d + 5) mL_law (329, [(4, .inl 0), (3, .inr (.inr (some 213))), (2, .inr (.inr (some 196))), (1, .inr (.inr (some 0))), (0, .inr (.inr (some 1000000)))], [], hh_487) zQL := by
  have k0 : (0 : Int32).toInt = 0 := by decide
  by_cases c1 : (xs 1).toInt < 0
  · exact kl_op_1_lt (d + 1) xs (zj_lt (by omega))
  · by_cases c2 : 0 < (xs 1).toInt
    · exact kl_op_1_gt (d + 1) xs (zj_nlt (by omega)) (zj_gt (by omega))
    · exact kl_op_1_0 d xs (zk_ext (n := 0) (by omega) (by decide))
theorem kl_all_46 (d : Nat) (xs : Nat → Int32) : zEx (some (6, xs)) (d + 5) mL_law (1715, [(4, .inl 0), (3, .inr (.inr (some 213))), (2, .inr (.inr (some 196))), (1, .inr (.inr (some 0))), (0, .inr (.inr (some 1000000)))], [], hh_487) zQL := by
  have k0 : (0 : Int32).toInt = 0 := by decide
  have k1 : (-1 : Int32).toInt = -1 := by decide
  by_cases c1 : (xs 1).toInt < 0
  · exact kl_op_46_lt (d + 1) xs (zj_lt (by omega))
  · exact kl_op_46_ge (d + 1) xs (zj_nlt (by omega)) (zj_gt (by omega))
theorem kl_all_48 (d : Nat) (xs : Nat → Int32) : zEx (some (6, xs)) (d + 5) mL_law (1796, [(4, .inl 0), (3, .inr (.inr (some 213))), (2, .inr (.inr (some 196))), (1, .inr (.inr (some 0))), (0, .inr (.inr (some 1000000)))], [], hh_487) zQL := by
  have k0 : (0 : Int32).toInt = 0 := by decide
  have k1 : (11 : Int32).toInt = 11 := by decide
  have k2 : (12 : Int32).toInt = 12 := by decide
  by_cases c1 : (xs 1).toInt < 0
  · exact kl_op_48_lt (d + 1) xs (zj_lt (by omega)) (zj_ne (by omega))
  · by_cases c2 : 12 < (xs 1).toInt
    · exact kl_op_48_gt (d + 1) xs (zj_nlt (by omega)) (zj_gt (by omega)) (zj_ne (by omega)) (zj_gt (by omega))
    · have c3 : (xs 1).toInt = 0 ∨ (xs 1).toInt = 1 ∨ (xs 1).toInt = 2 ∨ (xs 1).toInt = 3 ∨ (xs 1).toInt = 4 ∨ (xs 1).toInt = 5 ∨ (xs 1).toInt = 6 ∨ (xs 1).toInt = 7 ∨ (xs 1).toInt = 8 ∨ (xs 1).toInt = 9 ∨ (xs 1).toInt = 10 ∨ (xs 1).toInt = 11 ∨ (xs 1).toInt = 12 := by omega
      rcases c3 with e | e | e | e | e | e | e | e | e | e | e | e | e
      · exact kl_op_48_0 (d + 1) xs (zk_ext e (by decide))
      · exact kl_op_48_1 (d + 1) xs (zk_ext e (by decide))
      · exact kl_op_48_2 (d + 1) xs (zk_ext e (by decide))
      · exact kl_op_48_3 (d + 1) xs (zk_ext e (by decide))
      · exact kl_op_48_4 (d + 1) xs (zk_ext e (by decide))
      · exact kl_op_48_5 (d + 1) xs (zk_ext e (by decide))
      · exact kl_op_48_6 (d + 1) xs (zk_ext e (by decide))
      · exact kl_op_48_7 (d + 1) xs (zk_ext e (by decide))
      · exact kl_op_48_8 (d + 1) xs (zk_ext e (by decide))
      · exact kl_op_48_9 (d + 1) xs (zk_ext e (by decide))
      · exact kl_op_48_10 (d + 1) xs (zk_ext e (by decide))
      · exact kl_op_48_11 (d + 1) xs (zk_ext e (by decide))
      · exact kl_op_48_12 (d + 1) xs (zk_ext e (by decide))
theorem kl_at (d : Nat) (xs : Nat → Int32) : ∀ j : Nat, j < 50 → ∃ off : Int, (#[216, 289, 314, 327, 340, 377, 414, 439, 476, 513, 538, 575, 600, 649, 674, 711, 724, 737, 774, 811, 836, 861, 898, 923, 984, 1021, 1046, 1071, 1108, 1162, 1175, 1188, 1213, 1274, 1287, 1324, 1349, 1386, 1411, 1448, 1485, 1522, 1571, 1596, 1649, 1662, 1675, 1700, 1756, 1781] : Array Int)[j]? = some off ∧ ∃ pc : Nat, (40 : Int) + off = (pc : Int) ∧ zEx (some (6, xs)) (d + 5) mL_law (pc, [(4, .inl 0), (3, .inr (.inr (some 213))), (2, .inr (.inr (some 196))), (1, .inr (.inr (some 0))), (0, .inr (.inr (some 1000000)))], [], hh_487) zQL := by
  intro j hj
  match j, hj with
  | 0, _ => exact ⟨216, rfl, 256, rfl, kl_op_0 (d + 1) xs⟩
  | 1, _ => exact ⟨289, rfl, 329, rfl, kl_all_1 d xs⟩
  | 2, _ => exact ⟨314, rfl, 354, rfl, kl_op_2 (d + 1) xs⟩
  | 3, _ => exact ⟨327, rfl, 367, rfl, kl_op_3 (d + 1) xs⟩
  | 4, _ => exact ⟨340, rfl, 380, rfl, kl_op_4 (d + 1) xs⟩
  | 5, _ => exact ⟨377, rfl, 417, rfl, kl_op_5 (d + 1) xs⟩
  | 6, _ => exact ⟨414, rfl, 454, rfl, kl_op_6 (d + 1) xs⟩
  | 7, _ => exact ⟨439, rfl, 479, rfl, kl_op_7 (d + 1) xs⟩
  | 8, _ => exact ⟨476, rfl, 516, rfl, kl_op_8 (d + 1) xs⟩
  | 9, _ => exact ⟨513, rfl, 553, rfl, kl_op_9 (d + 1) xs⟩
  | 10, _ => exact ⟨538, rfl, 578, rfl, kl_op_10 (d + 1) xs⟩
  | 11, _ => exact ⟨575, rfl, 615, rfl, kl_op_11 (d + 1) xs⟩
  | 12, _ => exact ⟨600, rfl, 640, rfl, kl_op_12 (d + 1) xs⟩
  | 13, _ => exact ⟨649, rfl, 689, rfl, kl_op_13 (d + 1) xs⟩
  | 14, _ => exact ⟨674, rfl, 714, rfl, kl_op_14 (d + 1) xs⟩
  | 15, _ => exact ⟨711, rfl, 751, rfl, kl_op_15 (d + 1) xs⟩
  | 16, _ => exact ⟨724, rfl, 764, rfl, kl_op_16 (d + 1) xs⟩
  | 17, _ => exact ⟨737, rfl, 777, rfl, kl_op_17 (d + 1) xs⟩
  | 18, _ => exact ⟨774, rfl, 814, rfl, kl_op_18 (d + 1) xs⟩
  | 19, _ => exact ⟨811, rfl, 851, rfl, kl_op_19 (d + 1) xs⟩
  | 20, _ => exact ⟨836, rfl, 876, rfl, kl_op_20 (d + 1) xs⟩
  | 21, _ => exact ⟨861, rfl, 901, rfl, kl_op_21 (d + 1) xs⟩
  | 22, _ => exact ⟨898, rfl, 938, rfl, kl_op_22 (d + 1) xs⟩
  | 23, _ => exact ⟨923, rfl, 963, rfl, kl_op_23 (d + 1) xs⟩
  | 24, _ => exact ⟨984, rfl, 1024, rfl, kl_op_24 (d + 1) xs⟩
  | 25, _ => exact ⟨1021, rfl, 1061, rfl, kl_op_25 (d + 1) xs⟩
  | 26, _ => exact ⟨1046, rfl, 1086, rfl, kl_op_26 (d + 1) xs⟩
  | 27, _ => exact ⟨1071, rfl, 1111, rfl, kl_op_27 (d + 1) xs⟩
  | 28, _ => exact ⟨1108, rfl, 1148, rfl, kl_op_28 (d + 1) xs⟩
  | 29, _ => exact ⟨1162, rfl, 1202, rfl, kl_op_29 (d + 1) xs⟩
  | 30, _ => exact ⟨1175, rfl, 1215, rfl, kl_op_30 (d + 1) xs⟩
  | 31, _ => exact ⟨1188, rfl, 1228, rfl, kl_op_31 (d + 1) xs⟩
  | 32, _ => exact ⟨1213, rfl, 1253, rfl, kl_op_32 (d + 1) xs⟩
  | 33, _ => exact ⟨1274, rfl, 1314, rfl, kl_op_33 (d + 1) xs⟩
  | 34, _ => exact ⟨1287, rfl, 1327, rfl, kl_op_34 (d + 1) xs⟩
  | 35, _ => exact ⟨1324, rfl, 1364, rfl, kl_op_35 (d + 1) xs⟩
  | 36, _ => exact ⟨1349, rfl, 1389, rfl, kl_op_36 (d + 1) xs⟩
  | 37, _ => exact ⟨1386, rfl, 1426, rfl, kl_op_37 (d + 1) xs⟩
  | 38, _ => exact ⟨1411, rfl, 1451, rfl, kl_op_38 (d + 1) xs⟩
  | 39, _ => exact ⟨1448, rfl, 1488, rfl, kl_op_39 (d + 1) xs⟩
  | 40, _ => exact ⟨1485, rfl, 1525, rfl, kl_op_40 (d + 1) xs⟩
  | 41, _ => exact ⟨1522, rfl, 1562, rfl, kl_op_41 (d + 1) xs⟩
  | 42, _ => exact ⟨1571, rfl, 1611, rfl, kl_op_42 (d + 1) xs⟩
  | 43, _ => exact ⟨1596, rfl, 1636, rfl, kl_op_43 (d + 1) xs⟩
  | 44, _ => exact ⟨1649, rfl, 1689, rfl, kl_op_44 (d + 1) xs⟩
  | 45, _ => exact ⟨1662, rfl, 1702, rfl, kl_op_45 (d + 1) xs⟩
  | 46, _ => exact ⟨1675, rfl, 1715, rfl, kl_all_46 d xs⟩
  | 47, _ => exact ⟨1700, rfl, 1740, rfl, kl_op_47 (d + 1) xs⟩
  | 48, _ => exact ⟨1756, rfl, 1796, rfl, kl_all_48 d xs⟩
  | 49, _ => exact ⟨1781, rfl, 1821, rfl, kl_op_49 (d + 1) xs⟩
  | n + 50, hj => omega
set_option maxRecDepth 10000 in
theorem kl_six (d : Nat) (xs : Nat → Int32) : zEx (some (6, xs)) (d + 5) mL_law (20, [(3, .inr (.inr (some 213))), (2, .inr (.inr (some 196))), (1, .inr (.inr (some 0))), (0, .inr (.inr (some 1000000)))], [], hh_487) zQL := by
  have hs : zsh hh_487 1000000 = none := by decide +kernel
  refine ex_iconst (v := 0) (pc' := 21) dL_law_20 (by decide) rfl ?_
  refine ex_istore (pc' := 23) (ls' := [(4, .inl 0), (3, .inr (.inr (some 213))), (2, .inr (.inr (some 196))), (1, .inr (.inr (some 0))), (0, .inr (.inr (some 1000000)))]) dL_law_21 (by decide) rfl rfl ?_
  refine ex_iload (pc' := 25) dL_law_23 rfl rfl ?_
  refine ex_aload_n (pc' := 26) dL_law_25 rfl rfl ?_
  refine ex_slen (pc' := 27) (n := 6) (xs := xs) (v := 6) dL_law_26 hs rfl (by decide) rfl ?_
  refine ex_bipush (v := 6) (pc' := 29) dL_law_27 (by decide) rfl ?_
  refine ex_isub (pc' := 30) (v := 0) dL_law_29 (by decide) rfl ?_
  refine ex_icmp_f (pc' := 33) dL_law_30 (by decide) (by decide) rfl ?_
  refine ex_aload_n (pc' := 34) dL_law_33 rfl rfl ?_
  refine ex_iload (pc' := 36) dL_law_34 rfl rfl ?_
  refine ex_sald (pc' := 37) (n := 6) (xs := xs) (v := xs 0) dL_law_36 hs rfl (by decide) rfl rfl ?_
  refine ex_bipush (v := 63) (pc' := 39) dL_law_37 (by decide) rfl ?_
  refine ex_iand (pc' := 40) (v := xs 0 &&& 63) dL_law_39 rfl rfl ?_
  by_cases hb : (xs 0 &&& 63).toInt < 0 ∨ 49 < (xs 0 &&& 63).toInt
  · exact ex_switch (pc' := 1834) dL_law_40 (fun _ => by decide) (fun q => absurd hb q) (kl_op_x (d + 1) xs)
  · obtain ⟨off, e1, pc, e2, k⟩ := kl_at d xs ((xs 0 &&& 63).toInt - 0).toNat (by omega)
    exact ex_switch (pc' := pc) dL_law_40 (fun q => absurd q hb) (fun _ => ⟨off, e1, e2⟩) k
set_option maxRecDepth 10000 in
theorem kl_few (d L : Nat) (xs : Nat → Int32) (hL : L < 6) : zEx (some (L, xs)) (d + 5) mL_law (20, [(3, .inr (.inr (some 213))), (2, .inr (.inr (some 196))), (1, .inr (.inr (some 0))), (0, .inr (.inr (some 1000000)))], [], hh_487) zQL := by
  have hs : zsh hh_487 1000000 = none := by decide +kernel
  have hc : zcond .gt 0 (Int32.ofNat L - 6) = true := by
    have : ∀ L : Fin 6, zcond .gt 0 (Int32.ofNat L.val - 6) = true := by decide
    exact this ⟨L, hL⟩
  refine ex_iconst (v := 0) (pc' := 21) dL_law_20 (by decide) rfl ?_
  refine ex_istore (pc' := 23) (ls' := [(4, .inl 0), (3, .inr (.inr (some 213))), (2, .inr (.inr (some 196))), (1, .inr (.inr (some 0))), (0, .inr (.inr (some 1000000)))]) dL_law_21 (by decide) rfl rfl ?_
  refine ex_iload (pc' := 25) dL_law_23 rfl rfl ?_
  refine ex_aload_n (pc' := 26) dL_law_25 rfl rfl ?_
  refine ex_slen (pc' := 27) (n := L) (xs := xs) (v := Int32.ofNat L) dL_law_26 hs rfl rfl rfl ?_
  refine ex_bipush (v := 6) (pc' := 29) dL_law_27 (by decide) rfl ?_
  refine ex_isub (pc' := 30) (v := Int32.ofNat L - 6) dL_law_29 rfl rfl ?_
  refine ex_icmp_t (pc' := 1840) dL_law_30 hc (by decide) ?_
  refine ex_iconst (v := 1) (pc' := 1841) dL_law_1840 (by decide) rfl ?_
  exact ex_iret dL_law_1841 rfl (by decide) ⟨rfl, zble rfl, zble rfl, zble rfl⟩
/-- the law says true of every script of at most six -/
theorem kl_law (d L : Nat) (xs : Nat → Int32) (hL : L ≤ 6) : zEx (some (L, xs)) (d + 5) mL_law (0, [(0, .inr (.inr (some 1000000)))], [], hh_0) zQL := by
  refine k_law0 (d + 1) ?_
  rcases Nat.lt_or_ge L 6 with h | h
  · exact kl_few d L xs h
  · have e : L = 6 := by omega
    subst e
    exact kl_six d xs
