/-! the methods on the fresh heap, by program -/
set_option maxRecDepth 10000 in
theorem kX11_fault_1 (d : Nat) (h : zH) (s0 : zsh h 0 = some (11, 16)) (s82 : zsh h 82 = some (5, 13)) (i82_11 : h.2.1 82 11 = 0) (r0_5 : h.2.2.2.1 0 5 = some 82) : zCi (d + 0) mX11_fault [.inr (.inr (some 0))] h (fun x h' => x = 0 ∧ h' = h) := by
  show zEx none (d + 0) mX11_fault (0, [(0, .inr (.inr (some 0)))], [], h) _
  refine ex_aload_n (pc' := 1) dX11_fault_0 rfl rfl ?_
  refine ex_getR (pc' := 4) (r := 82) dX11_fault_1 fl_11_35 s0 (by decide) r0_5 rfl ?_
  refine ex_getI (pc' := 7) (v := 0) dX11_fault_4 fl_11_115 s82 (by decide) i82_11 rfl ?_
  exact ex_iretI dX11_fault_7 rfl rfl ⟨rfl, rfl⟩
set_option maxRecDepth 10000 in
theorem kX12_fault_1 (d : Nat) (h : zH) (s196 : zsh h 196 = some (12, 39)) (i196_9 : h.2.1 196 9 = 0) : zCi (d + 0) mX12_fault [.inr (.inr (some 196))] h (fun x h' => x = 0 ∧ h' = zsI (h) 196 0 0) := by
  show zEx none (d + 0) mX12_fault (0, [(0, .inr (.inr (some 196)))], [], h) _
  refine ex_aload_n (pc' := 1) dX12_fault_0 rfl rfl ?_
  refine ex_iconst (v := 0) (pc' := 2) dX12_fault_1 (by decide) rfl ?_
  refine ex_putI (pc' := 5) dX12_fault_2 fl_12_62 s196 (Or.inl rfl) (Or.inl rfl) rfl ?_
  refine ex_aload_n (pc' := 6) dX12_fault_5 rfl rfl ?_
  refine ex_getI (pc' := 9) (v := 0) dX12_fault_6 fl_12_104 (zsiI s196) (by decide) i196_9 rfl ?_
  exact ex_iretI dX12_fault_9 rfl rfl ⟨rfl, rfl⟩
set_option maxRecDepth 10000 in
theorem kX11_where_1 (d : Nat) (h : zH) (s0 : zsh h 0 = some (11, 16)) (i0_2 : h.2.1 0 2 = 0) : zCi (d + 0) mX11_where [.inr (.inr (some 0))] h (fun x h' => x = (-1) ∧ h' = h) := by
  show zEx none (d + 0) mX11_where (0, [(0, .inr (.inr (some 0)))], [], h) _
  refine ex_aload_n (pc' := 1) dX11_where_0 rfl rfl ?_
  refine ex_getI (pc' := 4) (v := 0) dX11_where_1 fl_11_17 s0 (by decide) i0_2 rfl ?_
  refine ex_iconst (v := 4) (pc' := 5) dX11_where_4 (by decide) rfl ?_
  refine ex_icmp_t (pc' := 18) dX11_where_5 (by decide) (by decide) ?_
  refine ex_iconst (v := (-1)) (pc' := 19) dX11_where_18 (by decide) rfl ?_
  exact ex_iretI dX11_where_19 rfl rfl ⟨rfl, rfl⟩
set_option maxRecDepth 10000 in
theorem kX12_where_1 (d : Nat) (h : zH) (s196 : zsh h 196 = some (12, 39)) (i196_11 : h.2.1 196 11 = 0) : zCi (d + 0) mX12_where [.inr (.inr (some 196))] h (fun x h' => x = (-1) ∧ h' = zsI (h) 196 0 0) := by
  show zEx none (d + 0) mX12_where (0, [(0, .inr (.inr (some 196)))], [], h) _
  refine ex_aload_n (pc' := 1) dX12_where_0 rfl rfl ?_
  refine ex_iconst (v := 0) (pc' := 2) dX12_where_1 (by decide) rfl ?_
  refine ex_putI (pc' := 5) dX12_where_2 fl_12_62 s196 (Or.inl rfl) (Or.inl rfl) rfl ?_
  refine ex_aload_n (pc' := 6) dX12_where_5 rfl rfl ?_
  refine ex_getI (pc' := 9) (v := 0) dX12_where_6 fl_12_65 (zsiI s196) (by decide) i196_11 rfl ?_
  refine ex_iconst (v := 4) (pc' := 10) dX12_where_9 (by decide) rfl ?_
  refine ex_icmp_t (pc' := 20) dX12_where_10 (by decide) (by decide) ?_
  refine ex_iconst (v := (-1)) (pc' := 21) dX12_where_20 (by decide) rfl ?_
  exact ex_iretI dX12_where_21 rfl rfl ⟨rfl, rfl⟩
set_option maxRecDepth 10000 in
theorem kX11_isWhale_1 (d : Nat) (h : zH) (p1 : Int32) (s0 : zsh h 0 = some (11, 16)) (s2 : zsh h 2 = some (4, 15)) (i2_6 : h.2.1 2 6 = 0) (r0_3 : h.2.2.2.1 0 3 = some 2) : zCi (d + 0) mX11_isWhale [.inr (.inr (some 0)), .inl p1] h (fun x h' => x = 0 ∧ h' = h) := by
  show zEx none (d + 0) mX11_isWhale (0, [(0, .inr (.inr (some 0))), (1, .inl p1)], [], h) _
  refine ex_iload_n (pc' := 1) dX11_isWhale_0 rfl rfl ?_
  refine ex_if (pc' := 19) (pc2 := 4) dX11_isWhale_1 (by decide) rfl (fun c16 => ?_) (fun c16 => ?_)
  · refine ex_iconst (v := 0) (pc' := 20) dX11_isWhale_19 (by decide) rfl ?_
    exact ex_iretI dX11_isWhale_20 rfl (by decide) ⟨rfl, rfl⟩
  · refine ex_iload_n (pc' := 5) dX11_isWhale_4 rfl rfl ?_
    refine ex_aload_n (pc' := 6) dX11_isWhale_5 rfl rfl ?_
    refine ex_getR (pc' := 9) (r := 2) dX11_isWhale_6 fl_11_23 s0 (by decide) r0_3 rfl ?_
    refine ex_getI (pc' := 12) (v := 0) dX11_isWhale_9 fl_11_382 s2 (by decide) i2_6 rfl ?_
    refine ex_icmp_t (pc' := 19) dX11_isWhale_12 (zk_lt_ge c16) (by decide) ?_
    refine ex_iconst (v := 0) (pc' := 20) dX11_isWhale_19 (by decide) rfl ?_
    exact ex_iretI dX11_isWhale_20 rfl (by decide) ⟨rfl, rfl⟩
set_option maxRecDepth 10000 in
theorem kX11_refused_1 (d : Nat) (h : zH) (s0 : zsh h 0 = some (11, 16)) : zCi (d + 0) mX11_refused [.inr (.inr (some 0)), .inl 1] h (fun x h' => x = (-1) ∧ h' = zsI (h) 0 2 1) := by
  show zEx none (d + 0) mX11_refused (0, [(0, .inr (.inr (some 0))), (1, .inl 1)], [], h) _
  refine ex_aload_n (pc' := 1) dX11_refused_0 rfl rfl ?_
  refine ex_iload_n (pc' := 2) dX11_refused_1 rfl rfl ?_
  refine ex_putI (pc' := 5) dX11_refused_2 fl_11_17 s0 (Or.inl rfl) (Or.inl rfl) rfl ?_
  refine ex_iconst (v := (-1)) (pc' := 6) dX11_refused_5 (by decide) rfl ?_
  exact ex_iretI dX11_refused_6 rfl rfl ⟨rfl, rfl⟩
set_option maxRecDepth 10000 in
theorem kX11_whale_1 (d : Nat) (h : zH) (p1 p2 : Int32) (s0 : zsh h 0 = some (11, 16)) (s2 : zsh h 2 = some (4, 15)) (i2_6 : h.2.1 2 6 = 0) (r0_3 : h.2.2.2.1 0 3 = some 2) : zCi (d + 1) mX11_whale [.inr (.inr (some 0)), .inl p1, .inl p2] h (fun x h' => x = (-1) ∧ h' = zsI (h) 0 2 1) := by
  show zEx none (d + 1) mX11_whale (0, [(0, .inr (.inr (some 0))), (1, .inl p1), (2, .inl p2)], [], h) _
  refine ex_aload_n (pc' := 1) dX11_whale_0 rfl rfl ?_
  refine ex_iload_n (pc' := 2) dX11_whale_1 rfl rfl ?_
  refine en_callvI (pc' := 5) (vs := [.inl p1]) (rest := []) (h2 := h) (v := 0) dX11_whale_2 ml_11_121 ⟨zble rfl, zble rfl⟩ rfl rfl s0 (zblt rfl) (zble rfl) rfl (kX11_isWhale_1 _ h p1 s0 s2 i2_6 r0_3) ?_
  refine ex_if_f (pc' := 8) dX11_whale_5 (by decide) (by decide) rfl ?_
  refine ex_aload_n (pc' := 9) dX11_whale_8 rfl rfl ?_
  refine ex_iconst (v := 1) (pc' := 10) dX11_whale_9 (by decide) rfl ?_
  refine en_callvI (pc' := 13) (vs := [.inl 1]) (rest := []) (h2 := zsI (h) 0 2 1) (v := (-1)) dX11_whale_10 ml_11_98 ⟨zble rfl, zble rfl⟩ rfl rfl s0 (zblt rfl) (zble rfl) rfl (kX11_refused_1 _ h s0) ?_
  exact ex_iretI dX11_whale_13 rfl rfl ⟨rfl, rfl⟩
set_option maxRecDepth 10000 in
theorem kX12_good_1 (d : Nat) (h : zH) (s196 : zsh h 196 = some (12, 39)) : zCv (d + 0) mX12_good [.inr (.inr (some 196))] h (fun h' => h' = zsI (zsI (h) 196 0 0) 196 11 0) := by
  show zEx none (d + 0) mX12_good (0, [(0, .inr (.inr (some 196)))], [], h) _
  refine ex_aload_n (pc' := 1) dX12_good_0 rfl rfl ?_
  refine ex_iconst (v := 0) (pc' := 2) dX12_good_1 (by decide) rfl ?_
  refine ex_putI (pc' := 5) dX12_good_2 fl_12_62 s196 (Or.inl rfl) (Or.inl rfl) rfl ?_
  refine ex_aload_n (pc' := 6) dX12_good_5 rfl rfl ?_
  refine ex_iconst (v := 0) (pc' := 7) dX12_good_6 (by decide) rfl ?_
  refine ex_putI (pc' := 10) dX12_good_7 fl_12_65 (zsiI s196) (Or.inl rfl) (Or.inl rfl) rfl ?_
  exact ex_vretV dX12_good_10 rfl rfl
set_option maxRecDepth 10000 in
theorem kX12_isWhale_1 (d : Nat) (h : zH) (p1 : Int32) (s196 : zsh h 196 = some (12, 39)) (i196_14 : h.2.1 196 14 = 0) : zCi (d + 0) mX12_isWhale [.inr (.inr (some 196)), .inl p1] h (fun x h' => x = 0 ∧ h' = h) := by
  show zEx none (d + 0) mX12_isWhale (0, [(0, .inr (.inr (some 196))), (1, .inl p1)], [], h) _
  refine ex_aload_n (pc' := 1) dX12_isWhale_0 rfl rfl ?_
  refine ex_getI (pc' := 4) (v := 0) dX12_isWhale_1 fl_12_180 s196 (by decide) i196_14 rfl ?_
  refine ex_if_t (pc' := 28) dX12_isWhale_4 (by decide) (by decide) ?_
  refine ex_iconst (v := 0) (pc' := 29) dX12_isWhale_28 (by decide) rfl ?_
  exact ex_iretI dX12_isWhale_29 rfl (by decide) ⟨rfl, rfl⟩
set_option maxRecDepth 10000 in
theorem kX12_no_1 (d : Nat) (h : zH) (s196 : zsh h 196 = some (12, 39)) : zCi (d + 0) mX12_no [.inr (.inr (some 196)), .inl 1] h (fun x h' => x = (-1) ∧ h' = zsI (h) 196 11 1) := by
  show zEx none (d + 0) mX12_no (0, [(0, .inr (.inr (some 196))), (1, .inl 1)], [], h) _
  refine ex_aload_n (pc' := 1) dX12_no_0 rfl rfl ?_
  refine ex_iload_n (pc' := 2) dX12_no_1 rfl rfl ?_
  refine ex_putI (pc' := 5) dX12_no_2 fl_12_65 s196 (Or.inl rfl) (Or.inl rfl) rfl ?_
  refine ex_iconst (v := (-1)) (pc' := 6) dX12_no_5 (by decide) rfl ?_
  exact ex_iretI dX12_no_6 rfl rfl ⟨rfl, rfl⟩
set_option maxRecDepth 10000 in
theorem kX12_whale_1 (d : Nat) (h : zH) (p1 p2 : Int32) (s196 : zsh h 196 = some (12, 39)) (i196_14 : h.2.1 196 14 = 0) : zCi (d + 1) mX12_whale [.inr (.inr (some 196)), .inl p1, .inl p2] h (fun x h' => x = (-1) ∧ h' = zsI (zsI (zsI (h) 196 0 0) 196 11 0) 196 11 1) := by
  show zEx none (d + 1) mX12_whale (0, [(0, .inr (.inr (some 196))), (1, .inl p1), (2, .inl p2)], [], h) _
  refine ex_aload_n (pc' := 1) dX12_whale_0 rfl rfl ?_
  refine en_callvV (pc' := 4) (vs := []) (rest := []) (h2 := zsI (zsI (h) 196 0 0) 196 11 0) dX12_whale_1 ml_12_167 ⟨zble rfl, zble rfl⟩ rfl rfl s196 (zblt rfl) (zble rfl) rfl (kX12_good_1 _ h s196) ?_
  refine ex_aload_n (pc' := 5) dX12_whale_4 rfl rfl ?_
  refine ex_iload_n (pc' := 6) dX12_whale_5 rfl rfl ?_
  refine en_callvI (pc' := 9) (vs := [.inl p1]) (rest := []) (h2 := zsI (zsI (h) 196 0 0) 196 11 0) (v := 0) dX12_whale_6 ml_12_268 ⟨zble rfl, zble rfl⟩ rfl rfl (zsiI (zsiI s196)) (zblt rfl) (zble rfl) rfl (kX12_isWhale_1 _ (zsI (zsI (h) 196 0 0) 196 11 0) p1 (zsiI (zsiI s196)) i196_14) ?_
  refine ex_if_t (pc' := 21) dX12_whale_9 (by decide) (by decide) ?_
  refine ex_aload_n (pc' := 22) dX12_whale_21 rfl rfl ?_
  refine ex_iconst (v := 1) (pc' := 23) dX12_whale_22 (by decide) rfl ?_
  refine en_callvI (pc' := 26) (vs := [.inl 1]) (rest := []) (h2 := zsI (zsI (zsI (h) 196 0 0) 196 11 0) 196 11 1) (v := (-1)) dX12_whale_23 ml_12_170 ⟨zble rfl, zble rfl⟩ rfl rfl (zsiI (zsiI s196)) (zblt rfl) (zble rfl) rfl (kX12_no_1 _ (zsI (zsI (h) 196 0 0) 196 11 0) (zsiI (zsiI s196))) ?_
  exact ex_iretI dX12_whale_26 rfl rfl ⟨rfl, rfl⟩
set_option maxRecDepth 10000 in
theorem kX11_isBox_1 (d : Nat) (h : zH) (p1 : Int32) (s0 : zsh h 0 = some (11, 16)) (s2 : zsh h 2 = some (4, 15)) (i2_7 : h.2.1 2 7 = 0) (r0_3 : h.2.2.2.1 0 3 = some 2) : zCi (d + 0) mX11_isBox [.inr (.inr (some 0)), .inl p1] h (fun x h' => x = 0 ∧ h' = h) := by
  show zEx none (d + 0) mX11_isBox (0, [(0, .inr (.inr (some 0))), (1, .inl p1)], [], h) _
  refine ex_iload_n (pc' := 1) dX11_isBox_0 rfl rfl ?_
  refine ex_if (pc' := 19) (pc2 := 4) dX11_isBox_1 (by decide) rfl (fun c32 => ?_) (fun c32 => ?_)
  · refine ex_iconst (v := 0) (pc' := 20) dX11_isBox_19 (by decide) rfl ?_
    exact ex_iretI dX11_isBox_20 rfl (by decide) ⟨rfl, rfl⟩
  · refine ex_iload_n (pc' := 5) dX11_isBox_4 rfl rfl ?_
    refine ex_aload_n (pc' := 6) dX11_isBox_5 rfl rfl ?_
    refine ex_getR (pc' := 9) (r := 2) dX11_isBox_6 fl_11_23 s0 (by decide) r0_3 rfl ?_
    refine ex_getI (pc' := 12) (v := 0) dX11_isBox_9 fl_11_239 s2 (by decide) i2_7 rfl ?_
    refine ex_icmp_t (pc' := 19) dX11_isBox_12 (zk_lt_ge c32) (by decide) ?_
    refine ex_iconst (v := 0) (pc' := 20) dX11_isBox_19 (by decide) rfl ?_
    exact ex_iretI dX11_isBox_20 rfl (by decide) ⟨rfl, rfl⟩
set_option maxRecDepth 10000 in
theorem kX11_box_1 (d : Nat) (h : zH) (p1 p2 : Int32) (s0 : zsh h 0 = some (11, 16)) (s2 : zsh h 2 = some (4, 15)) (i2_7 : h.2.1 2 7 = 0) (r0_3 : h.2.2.2.1 0 3 = some 2) : zCi (d + 1) mX11_box [.inr (.inr (some 0)), .inl p1, .inl p2] h (fun x h' => x = (-1) ∧ h' = zsI (h) 0 2 1) := by
  show zEx none (d + 1) mX11_box (0, [(0, .inr (.inr (some 0))), (1, .inl p1), (2, .inl p2)], [], h) _
  refine ex_aload_n (pc' := 1) dX11_box_0 rfl rfl ?_
  refine ex_iload_n (pc' := 2) dX11_box_1 rfl rfl ?_
  refine en_callvI (pc' := 5) (vs := [.inl p1]) (rest := []) (h2 := h) (v := 0) dX11_box_2 ml_11_147 ⟨zble rfl, zble rfl⟩ rfl rfl s0 (zblt rfl) (zble rfl) rfl (kX11_isBox_1 _ h p1 s0 s2 i2_7 r0_3) ?_
  refine ex_if_f (pc' := 8) dX11_box_5 (by decide) (by decide) rfl ?_
  refine ex_aload_n (pc' := 9) dX11_box_8 rfl rfl ?_
  refine ex_iconst (v := 1) (pc' := 10) dX11_box_9 (by decide) rfl ?_
  refine en_callvI (pc' := 13) (vs := [.inl 1]) (rest := []) (h2 := zsI (h) 0 2 1) (v := (-1)) dX11_box_10 ml_11_98 ⟨zble rfl, zble rfl⟩ rfl rfl s0 (zblt rfl) (zble rfl) rfl (kX11_refused_1 _ h s0) ?_
  exact ex_iretI dX11_box_13 rfl rfl ⟨rfl, rfl⟩
set_option maxRecDepth 10000 in
theorem kX12_isBox_1 (d : Nat) (h : zH) (p1 : Int32) (s196 : zsh h 196 = some (12, 39)) (i196_14 : h.2.1 196 14 = 0) : zCi (d + 0) mX12_isBox [.inr (.inr (some 196)), .inl p1] h (fun x h' => x = 0 ∧ h' = h) := by
  show zEx none (d + 0) mX12_isBox (0, [(0, .inr (.inr (some 196))), (1, .inl p1)], [], h) _
  refine ex_aload_n (pc' := 1) dX12_isBox_0 rfl rfl ?_
  refine ex_getI (pc' := 4) (v := 0) dX12_isBox_1 fl_12_180 s196 (by decide) i196_14 rfl ?_
  refine ex_if_t (pc' := 28) dX12_isBox_4 (by decide) (by decide) ?_
  refine ex_iconst (v := 0) (pc' := 29) dX12_isBox_28 (by decide) rfl ?_
  exact ex_iretI dX12_isBox_29 rfl (by decide) ⟨rfl, rfl⟩
set_option maxRecDepth 10000 in
theorem kX12_box_1 (d : Nat) (h : zH) (p1 p2 : Int32) (s196 : zsh h 196 = some (12, 39)) (i196_14 : h.2.1 196 14 = 0) : zCi (d + 1) mX12_box [.inr (.inr (some 196)), .inl p1, .inl p2] h (fun x h' => x = (-1) ∧ h' = zsI (zsI (zsI (h) 196 0 0) 196 11 0) 196 11 1) := by
  show zEx none (d + 1) mX12_box (0, [(0, .inr (.inr (some 196))), (1, .inl p1), (2, .inl p2)], [], h) _
  refine ex_aload_n (pc' := 1) dX12_box_0 rfl rfl ?_
  refine en_callvV (pc' := 4) (vs := []) (rest := []) (h2 := zsI (zsI (h) 196 0 0) 196 11 0) dX12_box_1 ml_12_167 ⟨zble rfl, zble rfl⟩ rfl rfl s196 (zblt rfl) (zble rfl) rfl (kX12_good_1 _ h s196) ?_
  refine ex_aload_n (pc' := 5) dX12_box_4 rfl rfl ?_
  refine ex_iload_n (pc' := 6) dX12_box_5 rfl rfl ?_
  refine en_callvI (pc' := 9) (vs := [.inl p1]) (rest := []) (h2 := zsI (zsI (h) 196 0 0) 196 11 0) (v := 0) dX12_box_6 ml_12_274 ⟨zble rfl, zble rfl⟩ rfl rfl (zsiI (zsiI s196)) (zblt rfl) (zble rfl) rfl (kX12_isBox_1 _ (zsI (zsI (h) 196 0 0) 196 11 0) p1 (zsiI (zsiI s196)) i196_14) ?_
  refine ex_if_t (pc' := 21) dX12_box_9 (by decide) (by decide) ?_
  refine ex_aload_n (pc' := 22) dX12_box_21 rfl rfl ?_
  refine ex_iconst (v := 1) (pc' := 23) dX12_box_22 (by decide) rfl ?_
  refine en_callvI (pc' := 26) (vs := [.inl 1]) (rest := []) (h2 := zsI (zsI (zsI (h) 196 0 0) 196 11 0) 196 11 1) (v := (-1)) dX12_box_23 ml_12_170 ⟨zble rfl, zble rfl⟩ rfl rfl (zsiI (zsiI s196)) (zblt rfl) (zble rfl) rfl (kX12_no_1 _ (zsI (zsI (h) 196 0 0) 196 11 0) (zsiI (zsiI s196))) ?_
  exact ex_iretI dX12_box_26 rfl rfl ⟨rfl, rfl⟩
set_option maxRecDepth 10000 in
theorem kX11_isIsland_1 (d : Nat) (h : zH) (p1 : Int32) (s0 : zsh h 0 = some (11, 16)) (s2 : zsh h 2 = some (4, 15)) (i2_4 : h.2.1 2 4 = 0) (r0_3 : h.2.2.2.1 0 3 = some 2) : zCi (d + 0) mX11_isIsland [.inr (.inr (some 0)), .inl p1] h (fun x h' => x = 0 ∧ h' = h) := by
  show zEx none (d + 0) mX11_isIsland (0, [(0, .inr (.inr (some 0))), (1, .inl p1)], [], h) _
  refine ex_iload_n (pc' := 1) dX11_isIsland_0 rfl rfl ?_
  refine ex_if (pc' := 19) (pc2 := 4) dX11_isIsland_1 (by decide) rfl (fun c48 => ?_) (fun c48 => ?_)
  · refine ex_iconst (v := 0) (pc' := 20) dX11_isIsland_19 (by decide) rfl ?_
    exact ex_iretI dX11_isIsland_20 rfl (by decide) ⟨rfl, rfl⟩
  · refine ex_iload_n (pc' := 5) dX11_isIsland_4 rfl rfl ?_
    refine ex_aload_n (pc' := 6) dX11_isIsland_5 rfl rfl ?_
    refine ex_getR (pc' := 9) (r := 2) dX11_isIsland_6 fl_11_23 s0 (by decide) r0_3 rfl ?_
    refine ex_getI (pc' := 12) (v := 0) dX11_isIsland_9 fl_11_109 s2 (by decide) i2_4 rfl ?_
    refine ex_icmp_t (pc' := 19) dX11_isIsland_12 (zk_lt_ge c48) (by decide) ?_
    refine ex_iconst (v := 0) (pc' := 20) dX11_isIsland_19 (by decide) rfl ?_
    exact ex_iretI dX11_isIsland_20 rfl (by decide) ⟨rfl, rfl⟩
set_option maxRecDepth 10000 in
theorem kX11_length_1 (d : Nat) (h : zH) (p1 : Int32) (s0 : zsh h 0 = some (11, 16)) (s2 : zsh h 2 = some (4, 15)) (i2_4 : h.2.1 2 4 = 0) (r0_3 : h.2.2.2.1 0 3 = some 2) : zCi (d + 1) mX11_length [.inr (.inr (some 0)), .inl p1] h (fun x h' => x = (-1) ∧ h' = zsI (h) 0 2 1) := by
  show zEx none (d + 1) mX11_length (0, [(0, .inr (.inr (some 0))), (1, .inl p1)], [], h) _
  refine ex_aload_n (pc' := 1) dX11_length_0 rfl rfl ?_
  refine ex_iload_n (pc' := 2) dX11_length_1 rfl rfl ?_
  refine en_callvI (pc' := 5) (vs := [.inl p1]) (rest := []) (h2 := h) (v := 0) dX11_length_2 ml_11_174 ⟨zble rfl, zble rfl⟩ rfl rfl s0 (zblt rfl) (zble rfl) rfl (kX11_isIsland_1 _ h p1 s0 s2 i2_4 r0_3) ?_
  refine ex_if_t (pc' := 24) dX11_length_5 (by decide) (by decide) ?_
  refine ex_aload_n (pc' := 25) dX11_length_24 rfl rfl ?_
  refine ex_iconst (v := 1) (pc' := 26) dX11_length_25 (by decide) rfl ?_
  refine en_callvI (pc' := 29) (vs := [.inl 1]) (rest := []) (h2 := zsI (h) 0 2 1) (v := (-1)) dX11_length_26 ml_11_98 ⟨zble rfl, zble rfl⟩ rfl rfl s0 (zblt rfl) (zble rfl) rfl (kX11_refused_1 _ h s0) ?_
  exact ex_iretI dX11_length_29 rfl rfl ⟨rfl, rfl⟩
set_option maxRecDepth 10000 in
theorem kX12_isIsland_1 (d : Nat) (h : zH) (p1 : Int32) (s196 : zsh h 196 = some (12, 39)) (i196_14 : h.2.1 196 14 = 0) : zCi (d + 0) mX12_isIsland [.inr (.inr (some 196)), .inl p1] h (fun x h' => x = 0 ∧ h' = h) := by
  show zEx none (d + 0) mX12_isIsland (0, [(0, .inr (.inr (some 196))), (1, .inl p1)], [], h) _
  refine ex_aload_n (pc' := 1) dX12_isIsland_0 rfl rfl ?_
  refine ex_getI (pc' := 4) (v := 0) dX12_isIsland_1 fl_12_180 s196 (by decide) i196_14 rfl ?_
  refine ex_if_t (pc' := 27) dX12_isIsland_4 (by decide) (by decide) ?_
  refine ex_iconst (v := 0) (pc' := 28) dX12_isIsland_27 (by decide) rfl ?_
  exact ex_iretI dX12_isIsland_28 rfl (by decide) ⟨rfl, rfl⟩
set_option maxRecDepth 10000 in
theorem kX12_length_1 (d : Nat) (h : zH) (p1 : Int32) (s196 : zsh h 196 = some (12, 39)) (i196_14 : h.2.1 196 14 = 0) : zCi (d + 1) mX12_length [.inr (.inr (some 196)), .inl p1] h (fun x h' => x = (-1) ∧ h' = zsI (zsI (zsI (h) 196 0 0) 196 11 0) 196 11 1) := by
  show zEx none (d + 1) mX12_length (0, [(0, .inr (.inr (some 196))), (1, .inl p1)], [], h) _
  refine ex_aload_n (pc' := 1) dX12_length_0 rfl rfl ?_
  refine en_callvV (pc' := 4) (vs := []) (rest := []) (h2 := zsI (zsI (h) 196 0 0) 196 11 0) dX12_length_1 ml_12_167 ⟨zble rfl, zble rfl⟩ rfl rfl s196 (zblt rfl) (zble rfl) rfl (kX12_good_1 _ h s196) ?_
  refine ex_aload_n (pc' := 5) dX12_length_4 rfl rfl ?_
  refine ex_iload_n (pc' := 6) dX12_length_5 rfl rfl ?_
  refine en_callvI (pc' := 9) (vs := [.inl p1]) (rest := []) (h2 := zsI (zsI (h) 196 0 0) 196 11 0) (v := 0) dX12_length_6 ml_12_277 ⟨zble rfl, zble rfl⟩ rfl rfl (zsiI (zsiI s196)) (zblt rfl) (zble rfl) rfl (kX12_isIsland_1 _ (zsI (zsI (h) 196 0 0) 196 11 0) p1 (zsiI (zsiI s196)) i196_14) ?_
  refine ex_if_t (pc' := 20) dX12_length_9 (by decide) (by decide) ?_
  refine ex_aload_n (pc' := 21) dX12_length_20 rfl rfl ?_
  refine ex_iconst (v := 1) (pc' := 22) dX12_length_21 (by decide) rfl ?_
  refine en_callvI (pc' := 25) (vs := [.inl 1]) (rest := []) (h2 := zsI (zsI (zsI (h) 196 0 0) 196 11 0) 196 11 1) (v := (-1)) dX12_length_22 ml_12_170 ⟨zble rfl, zble rfl⟩ rfl rfl (zsiI (zsiI s196)) (zblt rfl) (zble rfl) rfl (kX12_no_1 _ (zsI (zsI (h) 196 0 0) 196 11 0) (zsiI (zsiI s196))) ?_
  exact ex_iretI dX12_length_25 rfl rfl ⟨rfl, rfl⟩
set_option maxRecDepth 10000 in
theorem kX11_note_1 (d : Nat) (h : zH) (p1 p2 : Int32) (s0 : zsh h 0 = some (11, 16)) (s2 : zsh h 2 = some (4, 15)) (i2_4 : h.2.1 2 4 = 0) (r0_3 : h.2.2.2.1 0 3 = some 2) : zCi (d + 1) mX11_note [.inr (.inr (some 0)), .inl p1, .inl p2] h (fun x h' => x = (-1) ∧ h' = zsI (h) 0 2 1) := by
  show zEx none (d + 1) mX11_note (0, [(0, .inr (.inr (some 0))), (1, .inl p1), (2, .inl p2)], [], h) _
  refine ex_aload_n (pc' := 1) dX11_note_0 rfl rfl ?_
  refine ex_iload_n (pc' := 2) dX11_note_1 rfl rfl ?_
  refine en_callvI (pc' := 5) (vs := [.inl p1]) (rest := []) (h2 := h) (v := 0) dX11_note_2 ml_11_174 ⟨zble rfl, zble rfl⟩ rfl rfl s0 (zblt rfl) (zble rfl) rfl (kX11_isIsland_1 _ h p1 s0 s2 i2_4 r0_3) ?_
  refine ex_if_t (pc' := 25) dX11_note_5 (by decide) (by decide) ?_
  refine ex_aload_n (pc' := 26) dX11_note_25 rfl rfl ?_
  refine ex_iconst (v := 1) (pc' := 27) dX11_note_26 (by decide) rfl ?_
  refine en_callvI (pc' := 30) (vs := [.inl 1]) (rest := []) (h2 := zsI (h) 0 2 1) (v := (-1)) dX11_note_27 ml_11_98 ⟨zble rfl, zble rfl⟩ rfl rfl s0 (zblt rfl) (zble rfl) rfl (kX11_refused_1 _ h s0) ?_
  exact ex_iretI dX11_note_30 rfl rfl ⟨rfl, rfl⟩
set_option maxRecDepth 10000 in
theorem kX12_note_1 (d : Nat) (h : zH) (p1 p2 : Int32) (s196 : zsh h 196 = some (12, 39)) (i196_14 : h.2.1 196 14 = 0) : zCi (d + 1) mX12_note [.inr (.inr (some 196)), .inl p1, .inl p2] h (fun x h' => x = (-1) ∧ h' = zsI (zsI (zsI (h) 196 0 0) 196 11 0) 196 11 1) := by
  show zEx none (d + 1) mX12_note (0, [(0, .inr (.inr (some 196))), (1, .inl p1), (2, .inl p2)], [], h) _
  refine ex_aload_n (pc' := 1) dX12_note_0 rfl rfl ?_
  refine en_callvV (pc' := 4) (vs := []) (rest := []) (h2 := zsI (zsI (h) 196 0 0) 196 11 0) dX12_note_1 ml_12_167 ⟨zble rfl, zble rfl⟩ rfl rfl s196 (zblt rfl) (zble rfl) rfl (kX12_good_1 _ h s196) ?_
  refine ex_aload_n (pc' := 5) dX12_note_4 rfl rfl ?_
  refine ex_iload_n (pc' := 6) dX12_note_5 rfl rfl ?_
  refine en_callvI (pc' := 9) (vs := [.inl p1]) (rest := []) (h2 := zsI (zsI (h) 196 0 0) 196 11 0) (v := 0) dX12_note_6 ml_12_277 ⟨zble rfl, zble rfl⟩ rfl rfl (zsiI (zsiI s196)) (zblt rfl) (zble rfl) rfl (kX12_isIsland_1 _ (zsI (zsI (h) 196 0 0) 196 11 0) p1 (zsiI (zsiI s196)) i196_14) ?_
  refine ex_if_t (pc' := 42) dX12_note_9 (by decide) (by decide) ?_
  refine ex_aload_n (pc' := 43) dX12_note_42 rfl rfl ?_
  refine ex_iconst (v := 1) (pc' := 44) dX12_note_43 (by decide) rfl ?_
  refine en_callvI (pc' := 47) (vs := [.inl 1]) (rest := []) (h2 := zsI (zsI (zsI (h) 196 0 0) 196 11 0) 196 11 1) (v := (-1)) dX12_note_44 ml_12_170 ⟨zble rfl, zble rfl⟩ rfl rfl (zsiI (zsiI s196)) (zblt rfl) (zble rfl) rfl (kX12_no_1 _ (zsI (zsI (h) 196 0 0) 196 11 0) (zsiI (zsiI s196))) ?_
  exact ex_iretI dX12_note_47 rfl rfl ⟨rfl, rfl⟩
set_option maxRecDepth 10000 in
theorem kX11_isNoteOfBox_1 (d : Nat) (h : zH) (p1 p2 : Int32) (s0 : zsh h 0 = some (11, 16)) (s2 : zsh h 2 = some (4, 15)) (i2_7 : h.2.1 2 7 = 0) (r0_3 : h.2.2.2.1 0 3 = some 2) : zCi (d + 1) mX11_isNoteOfBox [.inr (.inr (some 0)), .inl p1, .inl p2] h (fun x h' => x = 0 ∧ h' = h) := by
  show zEx none (d + 1) mX11_isNoteOfBox (0, [(0, .inr (.inr (some 0))), (1, .inl p1), (2, .inl p2)], [], h) _
  refine ex_aload_n (pc' := 1) dX11_isNoteOfBox_0 rfl rfl ?_
  refine ex_iload_n (pc' := 2) dX11_isNoteOfBox_1 rfl rfl ?_
  refine en_callvI (pc' := 5) (vs := [.inl p1]) (rest := []) (h2 := h) (v := 0) dX11_isNoteOfBox_2 ml_11_147 ⟨zble rfl, zble rfl⟩ rfl rfl s0 (zblt rfl) (zble rfl) rfl (kX11_isBox_1 _ h p1 s0 s2 i2_7 r0_3) ?_
  refine ex_if_t (pc' := 28) dX11_isNoteOfBox_5 (by decide) (by decide) ?_
  refine ex_iconst (v := 0) (pc' := 29) dX11_isNoteOfBox_28 (by decide) rfl ?_
  exact ex_iretI dX11_isNoteOfBox_29 rfl (by decide) ⟨rfl, rfl⟩
set_option maxRecDepth 10000 in
theorem kX11_sung_1 (d : Nat) (h : zH) (p1 p2 : Int32) (s0 : zsh h 0 = some (11, 16)) (s2 : zsh h 2 = some (4, 15)) (i2_7 : h.2.1 2 7 = 0) (r0_3 : h.2.2.2.1 0 3 = some 2) : zCi (d + 2) mX11_sung [.inr (.inr (some 0)), .inl p1, .inl p2] h (fun x h' => x = (-1) ∧ h' = zsI (h) 0 2 1) := by
  show zEx none (d + 2) mX11_sung (0, [(0, .inr (.inr (some 0))), (1, .inl p1), (2, .inl p2)], [], h) _
  refine ex_aload_n (pc' := 1) dX11_sung_0 rfl rfl ?_
  refine ex_iload_n (pc' := 2) dX11_sung_1 rfl rfl ?_
  refine ex_iload_n (pc' := 3) dX11_sung_2 rfl rfl ?_
  refine en_callvI (pc' := 6) (vs := [.inl p1, .inl p2]) (rest := []) (h2 := h) (v := 0) dX11_sung_3 ml_11_191 ⟨zble rfl, zble rfl⟩ rfl rfl s0 (zblt rfl) (zble rfl) rfl (kX11_isNoteOfBox_1 _ h p1 p2 s0 s2 i2_7 r0_3) ?_
  refine ex_if_f (pc' := 9) dX11_sung_6 (by decide) (by decide) rfl ?_
  refine ex_aload_n (pc' := 10) dX11_sung_9 rfl rfl ?_
  refine ex_iconst (v := 1) (pc' := 11) dX11_sung_10 (by decide) rfl ?_
  refine en_callvI (pc' := 14) (vs := [.inl 1]) (rest := []) (h2 := zsI (h) 0 2 1) (v := (-1)) dX11_sung_11 ml_11_98 ⟨zble rfl, zble rfl⟩ rfl rfl s0 (zblt rfl) (zble rfl) rfl (kX11_refused_1 _ h s0) ?_
  exact ex_iretI dX11_sung_14 rfl rfl ⟨rfl, rfl⟩
set_option maxRecDepth 10000 in
theorem kX12_sung_1 (d : Nat) (h : zH) (p1 p2 : Int32) (s196 : zsh h 196 = some (12, 39)) (i196_14 : h.2.1 196 14 = 0) : zCi (d + 1) mX12_sung [.inr (.inr (some 196)), .inl p1, .inl p2] h (fun x h' => x = (-1) ∧ h' = zsI (zsI (zsI (h) 196 0 0) 196 11 0) 196 11 1) := by
  show zEx none (d + 1) mX12_sung (0, [(0, .inr (.inr (some 196))), (1, .inl p1), (2, .inl p2)], [], h) _
  refine ex_aload_n (pc' := 1) dX12_sung_0 rfl rfl ?_
  refine en_callvV (pc' := 4) (vs := []) (rest := []) (h2 := zsI (zsI (h) 196 0 0) 196 11 0) dX12_sung_1 ml_12_167 ⟨zble rfl, zble rfl⟩ rfl rfl s196 (zblt rfl) (zble rfl) rfl (kX12_good_1 _ h s196) ?_
  refine ex_aload_n (pc' := 5) dX12_sung_4 rfl rfl ?_
  refine ex_iload_n (pc' := 6) dX12_sung_5 rfl rfl ?_
  refine en_callvI (pc' := 9) (vs := [.inl p1]) (rest := []) (h2 := zsI (zsI (h) 196 0 0) 196 11 0) (v := 0) dX12_sung_6 ml_12_274 ⟨zble rfl, zble rfl⟩ rfl rfl (zsiI (zsiI s196)) (zblt rfl) (zble rfl) rfl (kX12_isBox_1 _ (zsI (zsI (h) 196 0 0) 196 11 0) p1 (zsiI (zsiI s196)) i196_14) ?_
  refine ex_if_t (pc' := 44) dX12_sung_9 (by decide) (by decide) ?_
  refine ex_aload_n (pc' := 45) dX12_sung_44 rfl rfl ?_
  refine ex_iconst (v := 1) (pc' := 46) dX12_sung_45 (by decide) rfl ?_
  refine en_callvI (pc' := 49) (vs := [.inl 1]) (rest := []) (h2 := zsI (zsI (zsI (h) 196 0 0) 196 11 0) 196 11 1) (v := (-1)) dX12_sung_46 ml_12_170 ⟨zble rfl, zble rfl⟩ rfl rfl (zsiI (zsiI s196)) (zblt rfl) (zble rfl) rfl (kX12_no_1 _ (zsI (zsI (h) 196 0 0) 196 11 0) (zsiI (zsiI s196))) ?_
  exact ex_iretI dX12_sung_49 rfl rfl ⟨rfl, rfl⟩
set_option maxRecDepth 10000 in
theorem kX11_heard_1 (d : Nat) (h : zH) (p1 : Int32) (s0 : zsh h 0 = some (11, 16)) (s2 : zsh h 2 = some (4, 15)) (i2_7 : h.2.1 2 7 = 0) (r0_3 : h.2.2.2.1 0 3 = some 2) : zCi (d + 1) mX11_heard [.inr (.inr (some 0)), .inl p1] h (fun x h' => x = (-1) ∧ h' = zsI (h) 0 2 1) := by
  show zEx none (d + 1) mX11_heard (0, [(0, .inr (.inr (some 0))), (1, .inl p1)], [], h) _
  refine ex_aload_n (pc' := 1) dX11_heard_0 rfl rfl ?_
  refine ex_iload_n (pc' := 2) dX11_heard_1 rfl rfl ?_
  refine en_callvI (pc' := 5) (vs := [.inl p1]) (rest := []) (h2 := h) (v := 0) dX11_heard_2 ml_11_147 ⟨zble rfl, zble rfl⟩ rfl rfl s0 (zblt rfl) (zble rfl) rfl (kX11_isBox_1 _ h p1 s0 s2 i2_7 r0_3) ?_
  refine ex_if_t (pc' := 27) dX11_heard_5 (by decide) (by decide) ?_
  refine ex_aload_n (pc' := 28) dX11_heard_27 rfl rfl ?_
  refine ex_iconst (v := 1) (pc' := 29) dX11_heard_28 (by decide) rfl ?_
  refine en_callvI (pc' := 32) (vs := [.inl 1]) (rest := []) (h2 := zsI (h) 0 2 1) (v := (-1)) dX11_heard_29 ml_11_98 ⟨zble rfl, zble rfl⟩ rfl rfl s0 (zblt rfl) (zble rfl) rfl (kX11_refused_1 _ h s0) ?_
  exact ex_iretI dX11_heard_32 rfl rfl ⟨rfl, rfl⟩
set_option maxRecDepth 10000 in
theorem kX12_heard_1 (d : Nat) (h : zH) (p1 : Int32) (s196 : zsh h 196 = some (12, 39)) (i196_14 : h.2.1 196 14 = 0) : zCi (d + 1) mX12_heard [.inr (.inr (some 196)), .inl p1] h (fun x h' => x = (-1) ∧ h' = zsI (zsI (zsI (h) 196 0 0) 196 11 0) 196 11 1) := by
  show zEx none (d + 1) mX12_heard (0, [(0, .inr (.inr (some 196))), (1, .inl p1)], [], h) _
  refine ex_aload_n (pc' := 1) dX12_heard_0 rfl rfl ?_
  refine en_callvV (pc' := 4) (vs := []) (rest := []) (h2 := zsI (zsI (h) 196 0 0) 196 11 0) dX12_heard_1 ml_12_167 ⟨zble rfl, zble rfl⟩ rfl rfl s196 (zblt rfl) (zble rfl) rfl (kX12_good_1 _ h s196) ?_
  refine ex_aload_n (pc' := 5) dX12_heard_4 rfl rfl ?_
  refine ex_iload_n (pc' := 6) dX12_heard_5 rfl rfl ?_
  refine en_callvI (pc' := 9) (vs := [.inl p1]) (rest := []) (h2 := zsI (zsI (h) 196 0 0) 196 11 0) (v := 0) dX12_heard_6 ml_12_274 ⟨zble rfl, zble rfl⟩ rfl rfl (zsiI (zsiI s196)) (zblt rfl) (zble rfl) rfl (kX12_isBox_1 _ (zsI (zsI (h) 196 0 0) 196 11 0) p1 (zsiI (zsiI s196)) i196_14) ?_
  refine ex_if_t (pc' := 20) dX12_heard_9 (by decide) (by decide) ?_
  refine ex_aload_n (pc' := 21) dX12_heard_20 rfl rfl ?_
  refine ex_iconst (v := 1) (pc' := 22) dX12_heard_21 (by decide) rfl ?_
  refine en_callvI (pc' := 25) (vs := [.inl 1]) (rest := []) (h2 := zsI (zsI (zsI (h) 196 0 0) 196 11 0) 196 11 1) (v := (-1)) dX12_heard_22 ml_12_170 ⟨zble rfl, zble rfl⟩ rfl rfl (zsiI (zsiI s196)) (zblt rfl) (zble rfl) rfl (kX12_no_1 _ (zsI (zsI (h) 196 0 0) 196 11 0) (zsiI (zsiI s196))) ?_
  exact ex_iretI dX12_heard_25 rfl rfl ⟨rfl, rfl⟩
set_option maxRecDepth 10000 in
theorem kX11_areTwoIslands_1 (d : Nat) (h : zH) (p1 p2 : Int32) (s0 : zsh h 0 = some (11, 16)) (s2 : zsh h 2 = some (4, 15)) (i2_4 : h.2.1 2 4 = 0) (r0_3 : h.2.2.2.1 0 3 = some 2) : zCi (d + 1) mX11_areTwoIslands [.inr (.inr (some 0)), .inl p1, .inl p2] h (fun x h' => x = 0 ∧ h' = h) := by
  show zEx none (d + 1) mX11_areTwoIslands (0, [(0, .inr (.inr (some 0))), (1, .inl p1), (2, .inl p2)], [], h) _
  refine ex_aload_n (pc' := 1) dX11_areTwoIslands_0 rfl rfl ?_
  refine ex_iload_n (pc' := 2) dX11_areTwoIslands_1 rfl rfl ?_
  refine en_callvI (pc' := 5) (vs := [.inl p1]) (rest := []) (h2 := h) (v := 0) dX11_areTwoIslands_2 ml_11_174 ⟨zble rfl, zble rfl⟩ rfl rfl s0 (zblt rfl) (zble rfl) rfl (kX11_isIsland_1 _ h p1 s0 s2 i2_4 r0_3) ?_
  refine ex_if_t (pc' := 25) dX11_areTwoIslands_5 (by decide) (by decide) ?_
  refine ex_iconst (v := 0) (pc' := 26) dX11_areTwoIslands_25 (by decide) rfl ?_
  exact ex_iretI dX11_areTwoIslands_26 rfl (by decide) ⟨rfl, rfl⟩
set_option maxRecDepth 10000 in
theorem kX11_way_1 (d : Nat) (h : zH) (p1 p2 : Int32) (s0 : zsh h 0 = some (11, 16)) (s2 : zsh h 2 = some (4, 15)) (i2_4 : h.2.1 2 4 = 0) (r0_3 : h.2.2.2.1 0 3 = some 2) : zCi (d + 2) mX11_way [.inr (.inr (some 0)), .inl p1, .inl p2] h (fun x h' => x = (-1) ∧ h' = zsI (h) 0 2 1) := by
  show zEx none (d + 2) mX11_way (0, [(0, .inr (.inr (some 0))), (1, .inl p1), (2, .inl p2)], [], h) _
  refine ex_aload_n (pc' := 1) dX11_way_0 rfl rfl ?_
  refine ex_iload_n (pc' := 2) dX11_way_1 rfl rfl ?_
  refine ex_iload_n (pc' := 3) dX11_way_2 rfl rfl ?_
  refine en_callvI (pc' := 6) (vs := [.inl p1, .inl p2]) (rest := []) (h2 := h) (v := 0) dX11_way_3 ml_11_204 ⟨zble rfl, zble rfl⟩ rfl rfl s0 (zblt rfl) (zble rfl) rfl (kX11_areTwoIslands_1 _ h p1 p2 s0 s2 i2_4 r0_3) ?_
  refine ex_if_f (pc' := 9) dX11_way_6 (by decide) (by decide) rfl ?_
  refine ex_aload_n (pc' := 10) dX11_way_9 rfl rfl ?_
  refine ex_iconst (v := 1) (pc' := 11) dX11_way_10 (by decide) rfl ?_
  refine en_callvI (pc' := 14) (vs := [.inl 1]) (rest := []) (h2 := zsI (h) 0 2 1) (v := (-1)) dX11_way_11 ml_11_98 ⟨zble rfl, zble rfl⟩ rfl rfl s0 (zblt rfl) (zble rfl) rfl (kX11_refused_1 _ h s0) ?_
  exact ex_iretI dX11_way_14 rfl rfl ⟨rfl, rfl⟩
set_option maxRecDepth 10000 in
theorem kX12_way_1 (d : Nat) (h : zH) (p1 p2 : Int32) (s196 : zsh h 196 = some (12, 39)) (i196_14 : h.2.1 196 14 = 0) : zCi (d + 1) mX12_way [.inr (.inr (some 196)), .inl p1, .inl p2] h (fun x h' => x = (-1) ∧ h' = zsI (zsI (zsI (h) 196 0 0) 196 11 0) 196 11 1) := by
  show zEx none (d + 1) mX12_way (0, [(0, .inr (.inr (some 196))), (1, .inl p1), (2, .inl p2)], [], h) _
  refine ex_aload_n (pc' := 1) dX12_way_0 rfl rfl ?_
  refine en_callvV (pc' := 4) (vs := []) (rest := []) (h2 := zsI (zsI (h) 196 0 0) 196 11 0) dX12_way_1 ml_12_167 ⟨zble rfl, zble rfl⟩ rfl rfl s196 (zblt rfl) (zble rfl) rfl (kX12_good_1 _ h s196) ?_
  refine ex_aload_n (pc' := 5) dX12_way_4 rfl rfl ?_
  refine ex_iload_n (pc' := 6) dX12_way_5 rfl rfl ?_
  refine en_callvI (pc' := 9) (vs := [.inl p1]) (rest := []) (h2 := zsI (zsI (h) 196 0 0) 196 11 0) (v := 0) dX12_way_6 ml_12_277 ⟨zble rfl, zble rfl⟩ rfl rfl (zsiI (zsiI s196)) (zblt rfl) (zble rfl) rfl (kX12_isIsland_1 _ (zsI (zsI (h) 196 0 0) 196 11 0) p1 (zsiI (zsiI s196)) i196_14) ?_
  refine ex_if_t (pc' := 25) dX12_way_9 (by decide) (by decide) ?_
  refine ex_aload_n (pc' := 26) dX12_way_25 rfl rfl ?_
  refine ex_iconst (v := 1) (pc' := 27) dX12_way_26 (by decide) rfl ?_
  refine en_callvI (pc' := 30) (vs := [.inl 1]) (rest := []) (h2 := zsI (zsI (zsI (h) 196 0 0) 196 11 0) 196 11 1) (v := (-1)) dX12_way_27 ml_12_170 ⟨zble rfl, zble rfl⟩ rfl rfl (zsiI (zsiI s196)) (zblt rfl) (zble rfl) rfl (kX12_no_1 _ (zsI (zsI (h) 196 0 0) 196 11 0) (zsiI (zsiI s196))) ?_
  exact ex_iretI dX12_way_30 rfl rfl ⟨rfl, rfl⟩
set_option maxRecDepth 10000 in
theorem kX11_hasPost_1 (d : Nat) (h : zH) (s0 : zsh h 0 = some (11, 16)) (s2 : zsh h 2 = some (4, 15)) (i2_4 : h.2.1 2 4 = 0) (r0_3 : h.2.2.2.1 0 3 = some 2) : zCi (d + 0) mX11_hasPost [.inr (.inr (some 0))] h (fun x h' => x = 0 ∧ h' = h) := by
  show zEx none (d + 0) mX11_hasPost (0, [(0, .inr (.inr (some 0)))], [], h) _
  refine ex_aload_n (pc' := 1) dX11_hasPost_0 rfl rfl ?_
  refine ex_getR (pc' := 4) (r := 2) dX11_hasPost_1 fl_11_23 s0 (by decide) r0_3 rfl ?_
  refine ex_getI (pc' := 7) (v := 0) dX11_hasPost_4 fl_11_109 s2 (by decide) i2_4 rfl ?_
  refine ex_if_t (pc' := 14) dX11_hasPost_7 (by decide) (by decide) ?_
  refine ex_iconst (v := 0) (pc' := 15) dX11_hasPost_14 (by decide) rfl ?_
  exact ex_iretI dX11_hasPost_15 rfl (by decide) ⟨rfl, rfl⟩
set_option maxRecDepth 10000 in
theorem kX11_season_1 (d : Nat) (h : zH) (p1 : Int32) (s0 : zsh h 0 = some (11, 16)) (s2 : zsh h 2 = some (4, 15)) (i2_4 : h.2.1 2 4 = 0) (r0_3 : h.2.2.2.1 0 3 = some 2) : zCi (d + 1) mX11_season [.inr (.inr (some 0)), .inl p1] h (fun x h' => x = (-1) ∧ h' = zsI (h) 0 2 1) := by
  show zEx none (d + 1) mX11_season (0, [(0, .inr (.inr (some 0))), (1, .inl p1)], [], h) _
  refine ex_aload_n (pc' := 1) dX11_season_0 rfl rfl ?_
  refine en_callvI (pc' := 4) (vs := []) (rest := []) (h2 := h) (v := 0) dX11_season_1 ml_11_222 ⟨zble rfl, zble rfl⟩ rfl rfl s0 (zblt rfl) (zble rfl) rfl (kX11_hasPost_1 _ h s0 s2 i2_4 r0_3) ?_
  refine ex_if_f (pc' := 7) dX11_season_4 (by decide) (by decide) rfl ?_
  refine ex_aload_n (pc' := 8) dX11_season_7 rfl rfl ?_
  refine ex_iconst (v := 1) (pc' := 9) dX11_season_8 (by decide) rfl ?_
  refine en_callvI (pc' := 12) (vs := [.inl 1]) (rest := []) (h2 := zsI (h) 0 2 1) (v := (-1)) dX11_season_9 ml_11_98 ⟨zble rfl, zble rfl⟩ rfl rfl s0 (zblt rfl) (zble rfl) rfl (kX11_refused_1 _ h s0) ?_
  exact ex_iretI dX11_season_12 rfl rfl ⟨rfl, rfl⟩
set_option maxRecDepth 10000 in
theorem kX12_season_1 (d : Nat) (h : zH) (p1 : Int32) (s196 : zsh h 196 = some (12, 39)) (i196_14 : h.2.1 196 14 = 0) : zCi (d + 1) mX12_season [.inr (.inr (some 196)), .inl p1] h (fun x h' => x = (-1) ∧ h' = zsI (zsI (zsI (h) 196 0 0) 196 11 0) 196 11 1) := by
  show zEx none (d + 1) mX12_season (0, [(0, .inr (.inr (some 196))), (1, .inl p1)], [], h) _
  refine ex_aload_n (pc' := 1) dX12_season_0 rfl rfl ?_
  refine en_callvV (pc' := 4) (vs := []) (rest := []) (h2 := zsI (zsI (h) 196 0 0) 196 11 0) dX12_season_1 ml_12_167 ⟨zble rfl, zble rfl⟩ rfl rfl s196 (zblt rfl) (zble rfl) rfl (kX12_good_1 _ h s196) ?_
  refine ex_aload_n (pc' := 5) dX12_season_4 rfl rfl ?_
  refine ex_getI (pc' := 8) (v := 0) dX12_season_5 fl_12_180 (zsiI (zsiI s196)) (by decide) i196_14 rfl ?_
  refine ex_if_f (pc' := 11) dX12_season_8 (by decide) (by decide) rfl ?_
  refine ex_aload_n (pc' := 12) dX12_season_11 rfl rfl ?_
  refine ex_iconst (v := 1) (pc' := 13) dX12_season_12 (by decide) rfl ?_
  refine en_callvI (pc' := 16) (vs := [.inl 1]) (rest := []) (h2 := zsI (zsI (zsI (h) 196 0 0) 196 11 0) 196 11 1) (v := (-1)) dX12_season_13 ml_12_170 ⟨zble rfl, zble rfl⟩ rfl rfl (zsiI (zsiI s196)) (zblt rfl) (zble rfl) rfl (kX12_no_1 _ (zsI (zsI (h) 196 0 0) 196 11 0) (zsiI (zsiI s196))) ?_
  exact ex_iretI dX12_season_16 rfl rfl ⟨rfl, rfl⟩
set_option maxRecDepth 10000 in
theorem kX11_sets_1 (d : Nat) (h : zH) (p1 p2 p3 : Int32) (s0 : zsh h 0 = some (11, 16)) (s2 : zsh h 2 = some (4, 15)) (i2_6 : h.2.1 2 6 = 0) (r0_3 : h.2.2.2.1 0 3 = some 2) : zCi (d + 1) mX11_sets [.inr (.inr (some 0)), .inl p1, .inl p2, .inl p3] h (fun x h' => x = (-1) ∧ h' = zsI (h) 0 2 1) := by
  show zEx none (d + 1) mX11_sets (0, [(0, .inr (.inr (some 0))), (1, .inl p1), (2, .inl p2), (3, .inl p3)], [], h) _
  refine ex_aload_n (pc' := 1) dX11_sets_0 rfl rfl ?_
  refine ex_iload_n (pc' := 2) dX11_sets_1 rfl rfl ?_
  refine en_callvI (pc' := 5) (vs := [.inl p1]) (rest := []) (h2 := h) (v := 0) dX11_sets_2 ml_11_121 ⟨zble rfl, zble rfl⟩ rfl rfl s0 (zblt rfl) (zble rfl) rfl (kX11_isWhale_1 _ h p1 s0 s2 i2_6 r0_3) ?_
  refine ex_if_t (pc' := 16) dX11_sets_5 (by decide) (by decide) ?_
  refine ex_aload_n (pc' := 17) dX11_sets_16 rfl rfl ?_
  refine ex_iconst (v := 1) (pc' := 18) dX11_sets_17 (by decide) rfl ?_
  refine en_callvI (pc' := 21) (vs := [.inl 1]) (rest := []) (h2 := zsI (h) 0 2 1) (v := (-1)) dX11_sets_18 ml_11_98 ⟨zble rfl, zble rfl⟩ rfl rfl s0 (zblt rfl) (zble rfl) rfl (kX11_refused_1 _ h s0) ?_
  exact ex_iretI dX11_sets_21 rfl rfl ⟨rfl, rfl⟩
set_option maxRecDepth 10000 in
theorem kX12_sets_1 (d : Nat) (h : zH) (p1 p2 p3 : Int32) (s196 : zsh h 196 = some (12, 39)) (i196_14 : h.2.1 196 14 = 0) : zCi (d + 1) mX12_sets [.inr (.inr (some 196)), .inl p1, .inl p2, .inl p3] h (fun x h' => x = (-1) ∧ h' = zsI (zsI (zsI (h) 196 0 0) 196 11 0) 196 11 1) := by
  show zEx none (d + 1) mX12_sets (0, [(0, .inr (.inr (some 196))), (1, .inl p1), (2, .inl p2), (3, .inl p3)], [], h) _
  refine ex_aload_n (pc' := 1) dX12_sets_0 rfl rfl ?_
  refine en_callvV (pc' := 4) (vs := []) (rest := []) (h2 := zsI (zsI (h) 196 0 0) 196 11 0) dX12_sets_1 ml_12_167 ⟨zble rfl, zble rfl⟩ rfl rfl s196 (zblt rfl) (zble rfl) rfl (kX12_good_1 _ h s196) ?_
  refine ex_aload_n (pc' := 5) dX12_sets_4 rfl rfl ?_
  refine ex_iload_n (pc' := 6) dX12_sets_5 rfl rfl ?_
  refine en_callvI (pc' := 9) (vs := [.inl p1]) (rest := []) (h2 := zsI (zsI (h) 196 0 0) 196 11 0) (v := 0) dX12_sets_6 ml_12_268 ⟨zble rfl, zble rfl⟩ rfl rfl (zsiI (zsiI s196)) (zblt rfl) (zble rfl) rfl (kX12_isWhale_1 _ (zsI (zsI (h) 196 0 0) 196 11 0) p1 (zsiI (zsiI s196)) i196_14) ?_
  refine ex_if_t (pc' := 28) dX12_sets_9 (by decide) (by decide) ?_
  refine ex_aload_n (pc' := 29) dX12_sets_28 rfl rfl ?_
  refine ex_iconst (v := 1) (pc' := 30) dX12_sets_29 (by decide) rfl ?_
  refine en_callvI (pc' := 33) (vs := [.inl 1]) (rest := []) (h2 := zsI (zsI (zsI (h) 196 0 0) 196 11 0) 196 11 1) (v := (-1)) dX12_sets_30 ml_12_170 ⟨zble rfl, zble rfl⟩ rfl rfl (zsiI (zsiI s196)) (zblt rfl) (zble rfl) rfl (kX12_no_1 _ (zsI (zsI (h) 196 0 0) 196 11 0) (zsiI (zsiI s196))) ?_
  exact ex_iretI dX12_sets_33 rfl rfl ⟨rfl, rfl⟩
set_option maxRecDepth 10000 in
theorem kX11_sent_1 (d : Nat) (h : zH) (p1 : Int32) (s0 : zsh h 0 = some (11, 16)) (s2 : zsh h 2 = some (4, 15)) (i2_4 : h.2.1 2 4 = 0) (r0_3 : h.2.2.2.1 0 3 = some 2) : zCi (d + 1) mX11_sent [.inr (.inr (some 0)), .inl p1] h (fun x h' => x = (-1) ∧ h' = zsI (h) 0 2 1) := by
  show zEx none (d + 1) mX11_sent (0, [(0, .inr (.inr (some 0))), (1, .inl p1)], [], h) _
  refine ex_aload_n (pc' := 1) dX11_sent_0 rfl rfl ?_
  refine en_callvI (pc' := 4) (vs := []) (rest := []) (h2 := h) (v := 0) dX11_sent_1 ml_11_222 ⟨zble rfl, zble rfl⟩ rfl rfl s0 (zblt rfl) (zble rfl) rfl (kX11_hasPost_1 _ h s0 s2 i2_4 r0_3) ?_
  refine ex_if_t (pc' := 16) dX11_sent_4 (by decide) (by decide) ?_
  refine ex_aload_n (pc' := 17) dX11_sent_16 rfl rfl ?_
  refine ex_iconst (v := 1) (pc' := 18) dX11_sent_17 (by decide) rfl ?_
  refine en_callvI (pc' := 21) (vs := [.inl 1]) (rest := []) (h2 := zsI (h) 0 2 1) (v := (-1)) dX11_sent_18 ml_11_98 ⟨zble rfl, zble rfl⟩ rfl rfl s0 (zblt rfl) (zble rfl) rfl (kX11_refused_1 _ h s0) ?_
  exact ex_iretI dX11_sent_21 rfl rfl ⟨rfl, rfl⟩
set_option maxRecDepth 10000 in
theorem kX12_sent_1 (d : Nat) (h : zH) (p1 : Int32) (s196 : zsh h 196 = some (12, 39)) (i196_14 : h.2.1 196 14 = 0) : zCi (d + 1) mX12_sent [.inr (.inr (some 196)), .inl p1] h (fun x h' => x = (-1) ∧ h' = zsI (zsI (zsI (h) 196 0 0) 196 11 0) 196 11 1) := by
  show zEx none (d + 1) mX12_sent (0, [(0, .inr (.inr (some 196))), (1, .inl p1)], [], h) _
  refine ex_aload_n (pc' := 1) dX12_sent_0 rfl rfl ?_
  refine en_callvV (pc' := 4) (vs := []) (rest := []) (h2 := zsI (zsI (h) 196 0 0) 196 11 0) dX12_sent_1 ml_12_167 ⟨zble rfl, zble rfl⟩ rfl rfl s196 (zblt rfl) (zble rfl) rfl (kX12_good_1 _ h s196) ?_
  refine ex_aload_n (pc' := 5) dX12_sent_4 rfl rfl ?_
  refine ex_getI (pc' := 8) (v := 0) dX12_sent_5 fl_12_180 (zsiI (zsiI s196)) (by decide) i196_14 rfl ?_
  refine ex_if_t (pc' := 20) dX12_sent_8 (by decide) (by decide) ?_
  refine ex_aload_n (pc' := 21) dX12_sent_20 rfl rfl ?_
  refine ex_iconst (v := 1) (pc' := 22) dX12_sent_21 (by decide) rfl ?_
  refine en_callvI (pc' := 25) (vs := [.inl 1]) (rest := []) (h2 := zsI (zsI (zsI (h) 196 0 0) 196 11 0) 196 11 1) (v := (-1)) dX12_sent_22 ml_12_170 ⟨zble rfl, zble rfl⟩ rfl rfl (zsiI (zsiI s196)) (zblt rfl) (zble rfl) rfl (kX12_no_1 _ (zsI (zsI (h) 196 0 0) 196 11 0) (zsiI (zsiI s196))) ?_
  exact ex_iretI dX12_sent_25 rfl rfl ⟨rfl, rfl⟩
set_option maxRecDepth 10000 in
theorem kX11_apart_1 (d : Nat) (h : zH) (p1 p2 : Int32) (s0 : zsh h 0 = some (11, 16)) (s2 : zsh h 2 = some (4, 15)) (i2_4 : h.2.1 2 4 = 0) (r0_3 : h.2.2.2.1 0 3 = some 2) : zCi (d + 1) mX11_apart [.inr (.inr (some 0)), .inl p1, .inl p2] h (fun x h' => x = (-1) ∧ h' = zsI (h) 0 2 1) := by
  show zEx none (d + 1) mX11_apart (0, [(0, .inr (.inr (some 0))), (1, .inl p1), (2, .inl p2)], [], h) _
  refine ex_aload_n (pc' := 1) dX11_apart_0 rfl rfl ?_
  refine ex_iload_n (pc' := 2) dX11_apart_1 rfl rfl ?_
  refine en_callvI (pc' := 5) (vs := [.inl p1]) (rest := []) (h2 := h) (v := 0) dX11_apart_2 ml_11_174 ⟨zble rfl, zble rfl⟩ rfl rfl s0 (zblt rfl) (zble rfl) rfl (kX11_isIsland_1 _ h p1 s0 s2 i2_4 r0_3) ?_
  refine ex_if_t (pc' := 32) dX11_apart_5 (by decide) (by decide) ?_
  refine ex_aload_n (pc' := 33) dX11_apart_32 rfl rfl ?_
  refine ex_iconst (v := 1) (pc' := 34) dX11_apart_33 (by decide) rfl ?_
  refine en_callvI (pc' := 37) (vs := [.inl 1]) (rest := []) (h2 := zsI (h) 0 2 1) (v := (-1)) dX11_apart_34 ml_11_98 ⟨zble rfl, zble rfl⟩ rfl rfl s0 (zblt rfl) (zble rfl) rfl (kX11_refused_1 _ h s0) ?_
  exact ex_iretI dX11_apart_37 rfl rfl ⟨rfl, rfl⟩
set_option maxRecDepth 10000 in
theorem kX12_apart_1 (d : Nat) (h : zH) (p1 p2 : Int32) (s196 : zsh h 196 = some (12, 39)) (i196_14 : h.2.1 196 14 = 0) : zCi (d + 1) mX12_apart [.inr (.inr (some 196)), .inl p1, .inl p2] h (fun x h' => x = (-1) ∧ h' = zsI (zsI (zsI (h) 196 0 0) 196 11 0) 196 11 1) := by
  show zEx none (d + 1) mX12_apart (0, [(0, .inr (.inr (some 196))), (1, .inl p1), (2, .inl p2)], [], h) _
  refine ex_aload_n (pc' := 1) dX12_apart_0 rfl rfl ?_
  refine en_callvV (pc' := 4) (vs := []) (rest := []) (h2 := zsI (zsI (h) 196 0 0) 196 11 0) dX12_apart_1 ml_12_167 ⟨zble rfl, zble rfl⟩ rfl rfl s196 (zblt rfl) (zble rfl) rfl (kX12_good_1 _ h s196) ?_
  refine ex_aload_n (pc' := 5) dX12_apart_4 rfl rfl ?_
  refine ex_iload_n (pc' := 6) dX12_apart_5 rfl rfl ?_
  refine en_callvI (pc' := 9) (vs := [.inl p1]) (rest := []) (h2 := zsI (zsI (h) 196 0 0) 196 11 0) (v := 0) dX12_apart_6 ml_12_277 ⟨zble rfl, zble rfl⟩ rfl rfl (zsiI (zsiI s196)) (zblt rfl) (zble rfl) rfl (kX12_isIsland_1 _ (zsI (zsI (h) 196 0 0) 196 11 0) p1 (zsiI (zsiI s196)) i196_14) ?_
  refine ex_if_t (pc' := 29) dX12_apart_9 (by decide) (by decide) ?_
  refine ex_aload_n (pc' := 30) dX12_apart_29 rfl rfl ?_
  refine ex_iconst (v := 1) (pc' := 31) dX12_apart_30 (by decide) rfl ?_
  refine en_callvI (pc' := 34) (vs := [.inl 1]) (rest := []) (h2 := zsI (zsI (zsI (h) 196 0 0) 196 11 0) 196 11 1) (v := (-1)) dX12_apart_31 ml_12_170 ⟨zble rfl, zble rfl⟩ rfl rfl (zsiI (zsiI s196)) (zblt rfl) (zble rfl) rfl (kX12_no_1 _ (zsI (zsI (h) 196 0 0) 196 11 0) (zsiI (zsiI s196))) ?_
  exact ex_iretI dX12_apart_34 rfl rfl ⟨rfl, rfl⟩
set_option maxRecDepth 10000 in
theorem kX11_bear_1 (d : Nat) (h : zH) (s0 : zsh h 0 = some (11, 16)) (s2 : zsh h 2 = some (4, 15)) (i2_4 : h.2.1 2 4 = 0) (r0_3 : h.2.2.2.1 0 3 = some 2) : zCi (d + 1) mX11_bear [.inr (.inr (some 0))] h (fun x h' => x = (-1) ∧ h' = zsI (h) 0 2 1) := by
  show zEx none (d + 1) mX11_bear (0, [(0, .inr (.inr (some 0)))], [], h) _
  refine ex_aload_n (pc' := 1) dX11_bear_0 rfl rfl ?_
  refine en_callvI (pc' := 4) (vs := []) (rest := []) (h2 := h) (v := 0) dX11_bear_1 ml_11_222 ⟨zble rfl, zble rfl⟩ rfl rfl s0 (zblt rfl) (zble rfl) rfl (kX11_hasPost_1 _ h s0 s2 i2_4 r0_3) ?_
  refine ex_if_t (pc' := 21) dX11_bear_4 (by decide) (by decide) ?_
  refine ex_aload_n (pc' := 22) dX11_bear_21 rfl rfl ?_
  refine ex_iconst (v := 1) (pc' := 23) dX11_bear_22 (by decide) rfl ?_
  refine en_callvI (pc' := 26) (vs := [.inl 1]) (rest := []) (h2 := zsI (h) 0 2 1) (v := (-1)) dX11_bear_23 ml_11_98 ⟨zble rfl, zble rfl⟩ rfl rfl s0 (zblt rfl) (zble rfl) rfl (kX11_refused_1 _ h s0) ?_
  exact ex_iretI dX11_bear_26 rfl rfl ⟨rfl, rfl⟩
set_option maxRecDepth 10000 in
theorem kX12_bear_1 (d : Nat) (h : zH) (s196 : zsh h 196 = some (12, 39)) (i196_14 : h.2.1 196 14 = 0) : zCi (d + 1) mX12_bear [.inr (.inr (some 196))] h (fun x h' => x = (-1) ∧ h' = zsI (zsI (zsI (h) 196 0 0) 196 11 0) 196 11 1) := by
  show zEx none (d + 1) mX12_bear (0, [(0, .inr (.inr (some 196)))], [], h) _
  refine ex_aload_n (pc' := 1) dX12_bear_0 rfl rfl ?_
  refine en_callvV (pc' := 4) (vs := []) (rest := []) (h2 := zsI (zsI (h) 196 0 0) 196 11 0) dX12_bear_1 ml_12_167 ⟨zble rfl, zble rfl⟩ rfl rfl s196 (zblt rfl) (zble rfl) rfl (kX12_good_1 _ h s196) ?_
  refine ex_aload_n (pc' := 5) dX12_bear_4 rfl rfl ?_
  refine ex_getI (pc' := 8) (v := 0) dX12_bear_5 fl_12_180 (zsiI (zsiI s196)) (by decide) i196_14 rfl ?_
  refine ex_if_f (pc' := 11) dX12_bear_8 (by decide) (by decide) rfl ?_
  refine ex_aload_n (pc' := 12) dX12_bear_11 rfl rfl ?_
  refine ex_iconst (v := 1) (pc' := 13) dX12_bear_12 (by decide) rfl ?_
  refine en_callvI (pc' := 16) (vs := [.inl 1]) (rest := []) (h2 := zsI (zsI (zsI (h) 196 0 0) 196 11 0) 196 11 1) (v := (-1)) dX12_bear_13 ml_12_170 ⟨zble rfl, zble rfl⟩ rfl rfl (zsiI (zsiI s196)) (zblt rfl) (zble rfl) rfl (kX12_no_1 _ (zsI (zsI (h) 196 0 0) 196 11 0) (zsiI (zsiI s196))) ?_
  exact ex_iretI dX12_bear_16 rfl rfl ⟨rfl, rfl⟩
set_option maxRecDepth 10000 in
theorem kX11_mixed_1 (d : Nat) (h : zH) (s0 : zsh h 0 = some (11, 16)) (s2 : zsh h 2 = some (4, 15)) (i2_4 : h.2.1 2 4 = 0) (r0_3 : h.2.2.2.1 0 3 = some 2) : zCi (d + 1) mX11_mixed [.inr (.inr (some 0))] h (fun x h' => x = (-1) ∧ h' = zsI (h) 0 2 1) := by
  show zEx none (d + 1) mX11_mixed (0, [(0, .inr (.inr (some 0)))], [], h) _
  refine ex_aload_n (pc' := 1) dX11_mixed_0 rfl rfl ?_
  refine en_callvI (pc' := 4) (vs := []) (rest := []) (h2 := h) (v := 0) dX11_mixed_1 ml_11_222 ⟨zble rfl, zble rfl⟩ rfl rfl s0 (zblt rfl) (zble rfl) rfl (kX11_hasPost_1 _ h s0 s2 i2_4 r0_3) ?_
  refine ex_if_t (pc' := 21) dX11_mixed_4 (by decide) (by decide) ?_
  refine ex_aload_n (pc' := 22) dX11_mixed_21 rfl rfl ?_
  refine ex_iconst (v := 1) (pc' := 23) dX11_mixed_22 (by decide) rfl ?_
  refine en_callvI (pc' := 26) (vs := [.inl 1]) (rest := []) (h2 := zsI (h) 0 2 1) (v := (-1)) dX11_mixed_23 ml_11_98 ⟨zble rfl, zble rfl⟩ rfl rfl s0 (zblt rfl) (zble rfl) rfl (kX11_refused_1 _ h s0) ?_
  exact ex_iretI dX11_mixed_26 rfl rfl ⟨rfl, rfl⟩
set_option maxRecDepth 10000 in
theorem kX12_mixed_1 (d : Nat) (h : zH) (s196 : zsh h 196 = some (12, 39)) (i196_14 : h.2.1 196 14 = 0) : zCi (d + 1) mX12_mixed [.inr (.inr (some 196))] h (fun x h' => x = (-1) ∧ h' = zsI (zsI (zsI (h) 196 0 0) 196 11 0) 196 11 1) := by
  show zEx none (d + 1) mX12_mixed (0, [(0, .inr (.inr (some 196)))], [], h) _
  refine ex_aload_n (pc' := 1) dX12_mixed_0 rfl rfl ?_
  refine en_callvV (pc' := 4) (vs := []) (rest := []) (h2 := zsI (zsI (h) 196 0 0) 196 11 0) dX12_mixed_1 ml_12_167 ⟨zble rfl, zble rfl⟩ rfl rfl s196 (zblt rfl) (zble rfl) rfl (kX12_good_1 _ h s196) ?_
  refine ex_aload_n (pc' := 5) dX12_mixed_4 rfl rfl ?_
  refine ex_getI (pc' := 8) (v := 0) dX12_mixed_5 fl_12_180 (zsiI (zsiI s196)) (by decide) i196_14 rfl ?_
  refine ex_if_f (pc' := 11) dX12_mixed_8 (by decide) (by decide) rfl ?_
  refine ex_aload_n (pc' := 12) dX12_mixed_11 rfl rfl ?_
  refine ex_iconst (v := 1) (pc' := 13) dX12_mixed_12 (by decide) rfl ?_
  refine en_callvI (pc' := 16) (vs := [.inl 1]) (rest := []) (h2 := zsI (zsI (zsI (h) 196 0 0) 196 11 0) 196 11 1) (v := (-1)) dX12_mixed_13 ml_12_170 ⟨zble rfl, zble rfl⟩ rfl rfl (zsiI (zsiI s196)) (zblt rfl) (zble rfl) rfl (kX12_no_1 _ (zsI (zsI (h) 196 0 0) 196 11 0) (zsiI (zsiI s196))) ?_
  exact ex_iretI dX12_mixed_16 rfl rfl ⟨rfl, rfl⟩
set_option maxRecDepth 10000 in
theorem kX11_refusalOfNewSong_1 (d : Nat) (h : zH) (p1 p2 : Int32) (s0 : zsh h 0 = some (11, 16)) (s2 : zsh h 2 = some (4, 15)) (i2_4 : h.2.1 2 4 = 0) (r0_3 : h.2.2.2.1 0 3 = some 2) : zCi (d + 1) mX11_refusalOfNewSong [.inr (.inr (some 0)), .inl p1, .inl p2] h (fun x h' => x = 1 ∧ h' = h) := by
  show zEx none (d + 1) mX11_refusalOfNewSong (0, [(0, .inr (.inr (some 0))), (1, .inl p1), (2, .inl p2)], [], h) _
  refine ex_aload_n (pc' := 1) dX11_refusalOfNewSong_0 rfl rfl ?_
  refine en_callvI (pc' := 4) (vs := []) (rest := []) (h2 := h) (v := 0) dX11_refusalOfNewSong_1 ml_11_222 ⟨zble rfl, zble rfl⟩ rfl rfl s0 (zblt rfl) (zble rfl) rfl (kX11_hasPost_1 _ h s0 s2 i2_4 r0_3) ?_
  refine ex_if_f (pc' := 7) dX11_refusalOfNewSong_4 (by decide) (by decide) rfl ?_
  refine ex_iconst (v := 1) (pc' := 8) dX11_refusalOfNewSong_7 (by decide) rfl ?_
  exact ex_iretI dX11_refusalOfNewSong_8 rfl rfl ⟨rfl, rfl⟩
set_option maxRecDepth 10000 in
theorem kX11_fresh_1 (d : Nat) (h : zH) (p1 p2 : Int32) (s0 : zsh h 0 = some (11, 16)) (s2 : zsh h 2 = some (4, 15)) (i2_4 : h.2.1 2 4 = 0) (r0_3 : h.2.2.2.1 0 3 = some 2) : zCi (d + 2) mX11_fresh [.inr (.inr (some 0)), .inl p1, .inl p2] h (fun x h' => x = (-1) ∧ h' = zsI (h) 0 2 1) := by
  show zEx none (d + 2) mX11_fresh (0, [(0, .inr (.inr (some 0))), (1, .inl p1), (2, .inl p2)], [], h) _
  refine ex_aload_n (pc' := 1) dX11_fresh_0 rfl rfl ?_
  refine ex_iload_n (pc' := 2) dX11_fresh_1 rfl rfl ?_
  refine ex_iload_n (pc' := 3) dX11_fresh_2 rfl rfl ?_
  refine en_callvI (pc' := 6) (vs := [.inl p1, .inl p2]) (rest := []) (h2 := h) (v := 1) dX11_fresh_3 ml_11_258 ⟨zble rfl, zble rfl⟩ rfl rfl s0 (zblt rfl) (zble rfl) rfl (kX11_refusalOfNewSong_1 _ h p1 p2 s0 s2 i2_4 r0_3) ?_
  refine ex_istore_n (pc' := 7) (ls' := [(3, .inl 1), (0, .inr (.inr (some 0))), (1, .inl p1), (2, .inl p2)]) dX11_fresh_6 (by decide) rfl rfl ?_
  refine ex_iload_n (pc' := 8) dX11_fresh_7 rfl rfl ?_
  refine ex_if_f (pc' := 11) dX11_fresh_8 (by decide) (by decide) rfl ?_
  refine ex_aload_n (pc' := 12) dX11_fresh_11 rfl rfl ?_
  refine ex_iload_n (pc' := 13) dX11_fresh_12 rfl rfl ?_
  refine en_callvI (pc' := 16) (vs := [.inl 1]) (rest := []) (h2 := zsI (h) 0 2 1) (v := (-1)) dX11_fresh_13 ml_11_98 ⟨zble rfl, zble rfl⟩ rfl rfl s0 (zblt rfl) (zble rfl) rfl (kX11_refused_1 _ h s0) ?_
  exact ex_iretI dX11_fresh_16 rfl rfl ⟨rfl, rfl⟩
set_option maxRecDepth 10000 in
theorem kX12_songWhy_1 (d : Nat) (h : zH) (p1 p2 : Int32) (s196 : zsh h 196 = some (12, 39)) (i196_14 : h.2.1 196 14 = 0) : zCi (d + 0) mX12_songWhy [.inr (.inr (some 196)), .inl p1, .inl p2] h (fun x h' => x = 1 ∧ h' = h) := by
  show zEx none (d + 0) mX12_songWhy (0, [(0, .inr (.inr (some 196))), (1, .inl p1), (2, .inl p2)], [], h) _
  refine ex_aload_n (pc' := 1) dX12_songWhy_0 rfl rfl ?_
  refine ex_getI (pc' := 4) (v := 0) dX12_songWhy_1 fl_12_180 s196 (by decide) i196_14 rfl ?_
  refine ex_if_f (pc' := 7) dX12_songWhy_4 (by decide) (by decide) rfl ?_
  refine ex_iconst (v := 1) (pc' := 8) dX12_songWhy_7 (by decide) rfl ?_
  refine ex_goto (pc' := 34) dX12_songWhy_8 (by decide) ?_
  exact ex_iretI dX12_songWhy_34 rfl rfl ⟨rfl, rfl⟩
set_option maxRecDepth 10000 in
theorem kX12_fresh_1 (d : Nat) (h : zH) (p1 p2 : Int32) (s196 : zsh h 196 = some (12, 39)) (i196_14 : h.2.1 196 14 = 0) : zCi (d + 1) mX12_fresh [.inr (.inr (some 196)), .inl p1, .inl p2] h (fun x h' => x = (-1) ∧ h' = zsI (zsI (zsI (h) 196 0 0) 196 11 0) 196 11 1) := by
  show zEx none (d + 1) mX12_fresh (0, [(0, .inr (.inr (some 196))), (1, .inl p1), (2, .inl p2)], [], h) _
  refine ex_aload_n (pc' := 1) dX12_fresh_0 rfl rfl ?_
  refine en_callvV (pc' := 4) (vs := []) (rest := []) (h2 := zsI (zsI (h) 196 0 0) 196 11 0) dX12_fresh_1 ml_12_167 ⟨zble rfl, zble rfl⟩ rfl rfl s196 (zblt rfl) (zble rfl) rfl (kX12_good_1 _ h s196) ?_
  refine ex_aload_n (pc' := 5) dX12_fresh_4 rfl rfl ?_
  refine ex_iload_n (pc' := 6) dX12_fresh_5 rfl rfl ?_
  refine ex_iload_n (pc' := 7) dX12_fresh_6 rfl rfl ?_
  refine en_callvI (pc' := 10) (vs := [.inl p1, .inl p2]) (rest := []) (h2 := zsI (zsI (h) 196 0 0) 196 11 0) (v := 1) dX12_fresh_7 ml_12_324 ⟨zble rfl, zble rfl⟩ rfl rfl (zsiI (zsiI s196)) (zblt rfl) (zble rfl) rfl (kX12_songWhy_1 _ (zsI (zsI (h) 196 0 0) 196 11 0) p1 p2 (zsiI (zsiI s196)) i196_14) ?_
  refine ex_istore_n (pc' := 11) (ls' := [(3, .inl 1), (0, .inr (.inr (some 196))), (1, .inl p1), (2, .inl p2)]) dX12_fresh_10 (by decide) rfl rfl ?_
  refine ex_iload_n (pc' := 12) dX12_fresh_11 rfl rfl ?_
  refine ex_if_f (pc' := 15) dX12_fresh_12 (by decide) (by decide) rfl ?_
  refine ex_aload_n (pc' := 16) dX12_fresh_15 rfl rfl ?_
  refine ex_iload_n (pc' := 17) dX12_fresh_16 rfl rfl ?_
  refine en_callvI (pc' := 20) (vs := [.inl 1]) (rest := []) (h2 := zsI (zsI (zsI (h) 196 0 0) 196 11 0) 196 11 1) (v := (-1)) dX12_fresh_17 ml_12_170 ⟨zble rfl, zble rfl⟩ rfl rfl (zsiI (zsiI s196)) (zblt rfl) (zble rfl) rfl (kX12_no_1 _ (zsI (zsI (h) 196 0 0) 196 11 0) (zsiI (zsiI s196))) ?_
  refine ex_goto (pc' := 30) dX12_fresh_20 (by decide) ?_
  exact ex_iretI dX12_fresh_30 rfl rfl ⟨rfl, rfl⟩
set_option maxRecDepth 10000 in
theorem kX11_byTurns_1 (d : Nat) (h : zH) (p1 p2 : Int32) (s0 : zsh h 0 = some (11, 16)) (s2 : zsh h 2 = some (4, 15)) (i2_4 : h.2.1 2 4 = 0) (r0_3 : h.2.2.2.1 0 3 = some 2) : zCi (d + 2) mX11_byTurns [.inr (.inr (some 0)), .inl p1, .inl p2] h (fun x h' => x = (-1) ∧ h' = zsI (h) 0 2 1) := by
  show zEx none (d + 2) mX11_byTurns (0, [(0, .inr (.inr (some 0))), (1, .inl p1), (2, .inl p2)], [], h) _
  refine ex_aload_n (pc' := 1) dX11_byTurns_0 rfl rfl ?_
  refine ex_iload_n (pc' := 2) dX11_byTurns_1 rfl rfl ?_
  refine ex_iload_n (pc' := 3) dX11_byTurns_2 rfl rfl ?_
  refine en_callvI (pc' := 6) (vs := [.inl p1, .inl p2]) (rest := []) (h2 := h) (v := 1) dX11_byTurns_3 ml_11_258 ⟨zble rfl, zble rfl⟩ rfl rfl s0 (zblt rfl) (zble rfl) rfl (kX11_refusalOfNewSong_1 _ h p1 p2 s0 s2 i2_4 r0_3) ?_
  refine ex_istore_n (pc' := 7) (ls' := [(3, .inl 1), (0, .inr (.inr (some 0))), (1, .inl p1), (2, .inl p2)]) dX11_byTurns_6 (by decide) rfl rfl ?_
  refine ex_iload_n (pc' := 8) dX11_byTurns_7 rfl rfl ?_
  refine ex_if_f (pc' := 11) dX11_byTurns_8 (by decide) (by decide) rfl ?_
  refine ex_aload_n (pc' := 12) dX11_byTurns_11 rfl rfl ?_
  refine ex_iload_n (pc' := 13) dX11_byTurns_12 rfl rfl ?_
  refine en_callvI (pc' := 16) (vs := [.inl 1]) (rest := []) (h2 := zsI (h) 0 2 1) (v := (-1)) dX11_byTurns_13 ml_11_98 ⟨zble rfl, zble rfl⟩ rfl rfl s0 (zblt rfl) (zble rfl) rfl (kX11_refused_1 _ h s0) ?_
  exact ex_iretI dX11_byTurns_16 rfl rfl ⟨rfl, rfl⟩
set_option maxRecDepth 10000 in
theorem kX12_byTurns_1 (d : Nat) (h : zH) (p1 p2 : Int32) (s196 : zsh h 196 = some (12, 39)) (i196_14 : h.2.1 196 14 = 0) : zCi (d + 1) mX12_byTurns [.inr (.inr (some 196)), .inl p1, .inl p2] h (fun x h' => x = (-1) ∧ h' = zsI (zsI (zsI (h) 196 0 0) 196 11 0) 196 11 1) := by
  show zEx none (d + 1) mX12_byTurns (0, [(0, .inr (.inr (some 196))), (1, .inl p1), (2, .inl p2)], [], h) _
  refine ex_aload_n (pc' := 1) dX12_byTurns_0 rfl rfl ?_
  refine en_callvV (pc' := 4) (vs := []) (rest := []) (h2 := zsI (zsI (h) 196 0 0) 196 11 0) dX12_byTurns_1 ml_12_167 ⟨zble rfl, zble rfl⟩ rfl rfl s196 (zblt rfl) (zble rfl) rfl (kX12_good_1 _ h s196) ?_
  refine ex_aload_n (pc' := 5) dX12_byTurns_4 rfl rfl ?_
  refine ex_iload_n (pc' := 6) dX12_byTurns_5 rfl rfl ?_
  refine ex_iload_n (pc' := 7) dX12_byTurns_6 rfl rfl ?_
  refine en_callvI (pc' := 10) (vs := [.inl p1, .inl p2]) (rest := []) (h2 := zsI (zsI (h) 196 0 0) 196 11 0) (v := 1) dX12_byTurns_7 ml_12_324 ⟨zble rfl, zble rfl⟩ rfl rfl (zsiI (zsiI s196)) (zblt rfl) (zble rfl) rfl (kX12_songWhy_1 _ (zsI (zsI (h) 196 0 0) 196 11 0) p1 p2 (zsiI (zsiI s196)) i196_14) ?_
  refine ex_istore_n (pc' := 11) (ls' := [(3, .inl 1), (0, .inr (.inr (some 196))), (1, .inl p1), (2, .inl p2)]) dX12_byTurns_10 (by decide) rfl rfl ?_
  refine ex_iload_n (pc' := 12) dX12_byTurns_11 rfl rfl ?_
  refine ex_if_f (pc' := 15) dX12_byTurns_12 (by decide) (by decide) rfl ?_
  refine ex_aload_n (pc' := 16) dX12_byTurns_15 rfl rfl ?_
  refine ex_iload_n (pc' := 17) dX12_byTurns_16 rfl rfl ?_
  refine en_callvI (pc' := 20) (vs := [.inl 1]) (rest := []) (h2 := zsI (zsI (zsI (h) 196 0 0) 196 11 0) 196 11 1) (v := (-1)) dX12_byTurns_17 ml_12_170 ⟨zble rfl, zble rfl⟩ rfl rfl (zsiI (zsiI s196)) (zblt rfl) (zble rfl) rfl (kX12_no_1 _ (zsI (zsI (h) 196 0 0) 196 11 0) (zsiI (zsiI s196))) ?_
  refine ex_goto (pc' := 30) dX12_byTurns_20 (by decide) ?_
  exact ex_iretI dX12_byTurns_30 rfl rfl ⟨rfl, rfl⟩
set_option maxRecDepth 10000 in
theorem kX11_near_1 (d : Nat) (h : zH) (p1 : Int32) (s0 : zsh h 0 = some (11, 16)) (s2 : zsh h 2 = some (4, 15)) (i2_7 : h.2.1 2 7 = 0) (r0_3 : h.2.2.2.1 0 3 = some 2) : zCi (d + 1) mX11_near [.inr (.inr (some 0)), .inl p1] h (fun x h' => x = (-1) ∧ h' = zsI (h) 0 2 1) := by
  show zEx none (d + 1) mX11_near (0, [(0, .inr (.inr (some 0))), (1, .inl p1)], [], h) _
  refine ex_aload_n (pc' := 1) dX11_near_0 rfl rfl ?_
  refine ex_iload_n (pc' := 2) dX11_near_1 rfl rfl ?_
  refine en_callvI (pc' := 5) (vs := [.inl p1]) (rest := []) (h2 := h) (v := 0) dX11_near_2 ml_11_147 ⟨zble rfl, zble rfl⟩ rfl rfl s0 (zblt rfl) (zble rfl) rfl (kX11_isBox_1 _ h p1 s0 s2 i2_7 r0_3) ?_
  refine ex_if_f (pc' := 8) dX11_near_5 (by decide) (by decide) rfl ?_
  refine ex_aload_n (pc' := 9) dX11_near_8 rfl rfl ?_
  refine ex_iconst (v := 1) (pc' := 10) dX11_near_9 (by decide) rfl ?_
  refine en_callvI (pc' := 13) (vs := [.inl 1]) (rest := []) (h2 := zsI (h) 0 2 1) (v := (-1)) dX11_near_10 ml_11_98 ⟨zble rfl, zble rfl⟩ rfl rfl s0 (zblt rfl) (zble rfl) rfl (kX11_refused_1 _ h s0) ?_
  exact ex_iretI dX11_near_13 rfl rfl ⟨rfl, rfl⟩
set_option maxRecDepth 10000 in
theorem kX12_near_1 (d : Nat) (h : zH) (p1 : Int32) (s196 : zsh h 196 = some (12, 39)) (i196_14 : h.2.1 196 14 = 0) : zCi (d + 1) mX12_near [.inr (.inr (some 196)), .inl p1] h (fun x h' => x = (-1) ∧ h' = zsI (zsI (zsI (h) 196 0 0) 196 11 0) 196 11 1) := by
  show zEx none (d + 1) mX12_near (0, [(0, .inr (.inr (some 196))), (1, .inl p1)], [], h) _
  refine ex_aload_n (pc' := 1) dX12_near_0 rfl rfl ?_
  refine en_callvV (pc' := 4) (vs := []) (rest := []) (h2 := zsI (zsI (h) 196 0 0) 196 11 0) dX12_near_1 ml_12_167 ⟨zble rfl, zble rfl⟩ rfl rfl s196 (zblt rfl) (zble rfl) rfl (kX12_good_1 _ h s196) ?_
  refine ex_aload_n (pc' := 5) dX12_near_4 rfl rfl ?_
  refine ex_iload_n (pc' := 6) dX12_near_5 rfl rfl ?_
  refine en_callvI (pc' := 9) (vs := [.inl p1]) (rest := []) (h2 := zsI (zsI (h) 196 0 0) 196 11 0) (v := 0) dX12_near_6 ml_12_274 ⟨zble rfl, zble rfl⟩ rfl rfl (zsiI (zsiI s196)) (zblt rfl) (zble rfl) rfl (kX12_isBox_1 _ (zsI (zsI (h) 196 0 0) 196 11 0) p1 (zsiI (zsiI s196)) i196_14) ?_
  refine ex_if_t (pc' := 21) dX12_near_9 (by decide) (by decide) ?_
  refine ex_aload_n (pc' := 22) dX12_near_21 rfl rfl ?_
  refine ex_iconst (v := 1) (pc' := 23) dX12_near_22 (by decide) rfl ?_
  refine en_callvI (pc' := 26) (vs := [.inl 1]) (rest := []) (h2 := zsI (zsI (zsI (h) 196 0 0) 196 11 0) 196 11 1) (v := (-1)) dX12_near_23 ml_12_170 ⟨zble rfl, zble rfl⟩ rfl rfl (zsiI (zsiI s196)) (zblt rfl) (zble rfl) rfl (kX12_no_1 _ (zsI (zsI (h) 196 0 0) 196 11 0) (zsiI (zsiI s196))) ?_
  exact ex_iretI dX12_near_26 rfl rfl ⟨rfl, rfl⟩
set_option maxRecDepth 10000 in
theorem kX11_asNear_1 (d : Nat) (h : zH) (p1 : Int32) (s0 : zsh h 0 = some (11, 16)) (s2 : zsh h 2 = some (4, 15)) (i2_7 : h.2.1 2 7 = 0) (r0_3 : h.2.2.2.1 0 3 = some 2) : zCi (d + 1) mX11_asNear [.inr (.inr (some 0)), .inl p1] h (fun x h' => x = (-1) ∧ h' = zsI (h) 0 2 1) := by
  show zEx none (d + 1) mX11_asNear (0, [(0, .inr (.inr (some 0))), (1, .inl p1)], [], h) _
  refine ex_aload_n (pc' := 1) dX11_asNear_0 rfl rfl ?_
  refine ex_iload_n (pc' := 2) dX11_asNear_1 rfl rfl ?_
  refine en_callvI (pc' := 5) (vs := [.inl p1]) (rest := []) (h2 := h) (v := 0) dX11_asNear_2 ml_11_147 ⟨zble rfl, zble rfl⟩ rfl rfl s0 (zblt rfl) (zble rfl) rfl (kX11_isBox_1 _ h p1 s0 s2 i2_7 r0_3) ?_
  refine ex_if_f (pc' := 8) dX11_asNear_5 (by decide) (by decide) rfl ?_
  refine ex_aload_n (pc' := 9) dX11_asNear_8 rfl rfl ?_
  refine ex_iconst (v := 1) (pc' := 10) dX11_asNear_9 (by decide) rfl ?_
  refine en_callvI (pc' := 13) (vs := [.inl 1]) (rest := []) (h2 := zsI (h) 0 2 1) (v := (-1)) dX11_asNear_10 ml_11_98 ⟨zble rfl, zble rfl⟩ rfl rfl s0 (zblt rfl) (zble rfl) rfl (kX11_refused_1 _ h s0) ?_
  exact ex_iretI dX11_asNear_13 rfl rfl ⟨rfl, rfl⟩
set_option maxRecDepth 10000 in
theorem kX12_asNear_1 (d : Nat) (h : zH) (p1 : Int32) (s196 : zsh h 196 = some (12, 39)) (i196_14 : h.2.1 196 14 = 0) : zCi (d + 1) mX12_asNear [.inr (.inr (some 196)), .inl p1] h (fun x h' => x = (-1) ∧ h' = zsI (zsI (zsI (h) 196 0 0) 196 11 0) 196 11 1) := by
  show zEx none (d + 1) mX12_asNear (0, [(0, .inr (.inr (some 196))), (1, .inl p1)], [], h) _
  refine ex_aload_n (pc' := 1) dX12_asNear_0 rfl rfl ?_
  refine en_callvV (pc' := 4) (vs := []) (rest := []) (h2 := zsI (zsI (h) 196 0 0) 196 11 0) dX12_asNear_1 ml_12_167 ⟨zble rfl, zble rfl⟩ rfl rfl s196 (zblt rfl) (zble rfl) rfl (kX12_good_1 _ h s196) ?_
  refine ex_aload_n (pc' := 5) dX12_asNear_4 rfl rfl ?_
  refine ex_iload_n (pc' := 6) dX12_asNear_5 rfl rfl ?_
  refine en_callvI (pc' := 9) (vs := [.inl p1]) (rest := []) (h2 := zsI (zsI (h) 196 0 0) 196 11 0) (v := 0) dX12_asNear_6 ml_12_274 ⟨zble rfl, zble rfl⟩ rfl rfl (zsiI (zsiI s196)) (zblt rfl) (zble rfl) rfl (kX12_isBox_1 _ (zsI (zsI (h) 196 0 0) 196 11 0) p1 (zsiI (zsiI s196)) i196_14) ?_
  refine ex_if_t (pc' := 21) dX12_asNear_9 (by decide) (by decide) ?_
  refine ex_aload_n (pc' := 22) dX12_asNear_21 rfl rfl ?_
  refine ex_iconst (v := 1) (pc' := 23) dX12_asNear_22 (by decide) rfl ?_
  refine en_callvI (pc' := 26) (vs := [.inl 1]) (rest := []) (h2 := zsI (zsI (zsI (h) 196 0 0) 196 11 0) 196 11 1) (v := (-1)) dX12_asNear_23 ml_12_170 ⟨zble rfl, zble rfl⟩ rfl rfl (zsiI (zsiI s196)) (zblt rfl) (zble rfl) rfl (kX12_no_1 _ (zsI (zsI (h) 196 0 0) 196 11 0) (zsiI (zsiI s196))) ?_
  exact ex_iretI dX12_asNear_26 rfl rfl ⟨rfl, rfl⟩
set_option maxRecDepth 10000 in
theorem kX11_heardIn_1 (d : Nat) (h : zH) (p1 p2 : Int32) (s0 : zsh h 0 = some (11, 16)) (s2 : zsh h 2 = some (4, 15)) (i2_7 : h.2.1 2 7 = 0) (r0_3 : h.2.2.2.1 0 3 = some 2) : zCi (d + 1) mX11_heardIn [.inr (.inr (some 0)), .inl p1, .inl p2] h (fun x h' => x = (-1) ∧ h' = zsI (h) 0 2 1) := by
  show zEx none (d + 1) mX11_heardIn (0, [(0, .inr (.inr (some 0))), (1, .inl p1), (2, .inl p2)], [], h) _
  refine ex_aload_n (pc' := 1) dX11_heardIn_0 rfl rfl ?_
  refine ex_iload_n (pc' := 2) dX11_heardIn_1 rfl rfl ?_
  refine en_callvI (pc' := 5) (vs := [.inl p1]) (rest := []) (h2 := h) (v := 0) dX11_heardIn_2 ml_11_147 ⟨zble rfl, zble rfl⟩ rfl rfl s0 (zblt rfl) (zble rfl) rfl (kX11_isBox_1 _ h p1 s0 s2 i2_7 r0_3) ?_
  refine ex_if_f (pc' := 8) dX11_heardIn_5 (by decide) (by decide) rfl ?_
  refine ex_aload_n (pc' := 9) dX11_heardIn_8 rfl rfl ?_
  refine ex_iconst (v := 1) (pc' := 10) dX11_heardIn_9 (by decide) rfl ?_
  refine en_callvI (pc' := 13) (vs := [.inl 1]) (rest := []) (h2 := zsI (h) 0 2 1) (v := (-1)) dX11_heardIn_10 ml_11_98 ⟨zble rfl, zble rfl⟩ rfl rfl s0 (zblt rfl) (zble rfl) rfl (kX11_refused_1 _ h s0) ?_
  exact ex_iretI dX11_heardIn_13 rfl rfl ⟨rfl, rfl⟩
set_option maxRecDepth 10000 in
theorem kX12_heardIn_1 (d : Nat) (h : zH) (p1 p2 : Int32) (s196 : zsh h 196 = some (12, 39)) (i196_14 : h.2.1 196 14 = 0) : zCi (d + 1) mX12_heardIn [.inr (.inr (some 196)), .inl p1, .inl p2] h (fun x h' => x = (-1) ∧ h' = zsI (zsI (zsI (h) 196 0 0) 196 11 0) 196 11 1) := by
  show zEx none (d + 1) mX12_heardIn (0, [(0, .inr (.inr (some 196))), (1, .inl p1), (2, .inl p2)], [], h) _
  refine ex_aload_n (pc' := 1) dX12_heardIn_0 rfl rfl ?_
  refine en_callvV (pc' := 4) (vs := []) (rest := []) (h2 := zsI (zsI (h) 196 0 0) 196 11 0) dX12_heardIn_1 ml_12_167 ⟨zble rfl, zble rfl⟩ rfl rfl s196 (zblt rfl) (zble rfl) rfl (kX12_good_1 _ h s196) ?_
  refine ex_aload_n (pc' := 5) dX12_heardIn_4 rfl rfl ?_
  refine ex_iload_n (pc' := 6) dX12_heardIn_5 rfl rfl ?_
  refine en_callvI (pc' := 9) (vs := [.inl p1]) (rest := []) (h2 := zsI (zsI (h) 196 0 0) 196 11 0) (v := 0) dX12_heardIn_6 ml_12_274 ⟨zble rfl, zble rfl⟩ rfl rfl (zsiI (zsiI s196)) (zblt rfl) (zble rfl) rfl (kX12_isBox_1 _ (zsI (zsI (h) 196 0 0) 196 11 0) p1 (zsiI (zsiI s196)) i196_14) ?_
  refine ex_if_f (pc' := 12) dX12_heardIn_9 (by decide) (by decide) rfl ?_
  refine ex_aload_n (pc' := 13) dX12_heardIn_12 rfl rfl ?_
  refine ex_iconst (v := 1) (pc' := 14) dX12_heardIn_13 (by decide) rfl ?_
  refine en_callvI (pc' := 17) (vs := [.inl 1]) (rest := []) (h2 := zsI (zsI (zsI (h) 196 0 0) 196 11 0) 196 11 1) (v := (-1)) dX12_heardIn_14 ml_12_170 ⟨zble rfl, zble rfl⟩ rfl rfl (zsiI (zsiI s196)) (zblt rfl) (zble rfl) rfl (kX12_no_1 _ (zsI (zsI (h) 196 0 0) 196 11 0) (zsiI (zsiI s196))) ?_
  exact ex_iretI dX12_heardIn_17 rfl rfl ⟨rfl, rfl⟩
set_option maxRecDepth 10000 in
theorem kX11_strange_1 (d : Nat) (h : zH) (p1 : Int32) (s0 : zsh h 0 = some (11, 16)) (s2 : zsh h 2 = some (4, 15)) (i2_4 : h.2.1 2 4 = 0) (r0_3 : h.2.2.2.1 0 3 = some 2) : zCi (d + 1) mX11_strange [.inr (.inr (some 0)), .inl p1] h (fun x h' => x = (-1) ∧ h' = zsI (h) 0 2 1) := by
  show zEx none (d + 1) mX11_strange (0, [(0, .inr (.inr (some 0))), (1, .inl p1)], [], h) _
  refine ex_aload_n (pc' := 1) dX11_strange_0 rfl rfl ?_
  refine ex_iload_n (pc' := 2) dX11_strange_1 rfl rfl ?_
  refine en_callvI (pc' := 5) (vs := [.inl p1]) (rest := []) (h2 := h) (v := 0) dX11_strange_2 ml_11_174 ⟨zble rfl, zble rfl⟩ rfl rfl s0 (zblt rfl) (zble rfl) rfl (kX11_isIsland_1 _ h p1 s0 s2 i2_4 r0_3) ?_
  refine ex_if_f (pc' := 8) dX11_strange_5 (by decide) (by decide) rfl ?_
  refine ex_aload_n (pc' := 9) dX11_strange_8 rfl rfl ?_
  refine ex_iconst (v := 1) (pc' := 10) dX11_strange_9 (by decide) rfl ?_
  refine en_callvI (pc' := 13) (vs := [.inl 1]) (rest := []) (h2 := zsI (h) 0 2 1) (v := (-1)) dX11_strange_10 ml_11_98 ⟨zble rfl, zble rfl⟩ rfl rfl s0 (zblt rfl) (zble rfl) rfl (kX11_refused_1 _ h s0) ?_
  exact ex_iretI dX11_strange_13 rfl rfl ⟨rfl, rfl⟩
set_option maxRecDepth 10000 in
theorem kX12_strange_1 (d : Nat) (h : zH) (p1 : Int32) (s196 : zsh h 196 = some (12, 39)) (i196_14 : h.2.1 196 14 = 0) : zCi (d + 1) mX12_strange [.inr (.inr (some 196)), .inl p1] h (fun x h' => x = (-1) ∧ h' = zsI (zsI (zsI (h) 196 0 0) 196 11 0) 196 11 1) := by
  show zEx none (d + 1) mX12_strange (0, [(0, .inr (.inr (some 196))), (1, .inl p1)], [], h) _
  refine ex_aload_n (pc' := 1) dX12_strange_0 rfl rfl ?_
  refine en_callvV (pc' := 4) (vs := []) (rest := []) (h2 := zsI (zsI (h) 196 0 0) 196 11 0) dX12_strange_1 ml_12_167 ⟨zble rfl, zble rfl⟩ rfl rfl s196 (zblt rfl) (zble rfl) rfl (kX12_good_1 _ h s196) ?_
  refine ex_aload_n (pc' := 5) dX12_strange_4 rfl rfl ?_
  refine ex_iload_n (pc' := 6) dX12_strange_5 rfl rfl ?_
  refine en_callvI (pc' := 9) (vs := [.inl p1]) (rest := []) (h2 := zsI (zsI (h) 196 0 0) 196 11 0) (v := 0) dX12_strange_6 ml_12_277 ⟨zble rfl, zble rfl⟩ rfl rfl (zsiI (zsiI s196)) (zblt rfl) (zble rfl) rfl (kX12_isIsland_1 _ (zsI (zsI (h) 196 0 0) 196 11 0) p1 (zsiI (zsiI s196)) i196_14) ?_
  refine ex_if_f (pc' := 12) dX12_strange_9 (by decide) (by decide) rfl ?_
  refine ex_aload_n (pc' := 13) dX12_strange_12 rfl rfl ?_
  refine ex_iconst (v := 1) (pc' := 14) dX12_strange_13 (by decide) rfl ?_
  refine en_callvI (pc' := 17) (vs := [.inl 1]) (rest := []) (h2 := zsI (zsI (zsI (h) 196 0 0) 196 11 0) 196 11 1) (v := (-1)) dX12_strange_14 ml_12_170 ⟨zble rfl, zble rfl⟩ rfl rfl (zsiI (zsiI s196)) (zblt rfl) (zble rfl) rfl (kX12_no_1 _ (zsI (zsI (h) 196 0 0) 196 11 0) (zsiI (zsiI s196))) ?_
  exact ex_iretI dX12_strange_17 rfl rfl ⟨rfl, rfl⟩
set_option maxRecDepth 10000 in
theorem kX11_arrival_1 (d : Nat) (h : zH) (p1 p2 p3 p4 : Int32) (s0 : zsh h 0 = some (11, 16)) (s2 : zsh h 2 = some (4, 15)) (i2_6 : h.2.1 2 6 = 0) (r0_3 : h.2.2.2.1 0 3 = some 2) : zCi (d + 1) mX11_arrival [.inr (.inr (some 0)), .inl p1, .inl p2, .inl p3, .inl p4] h (fun x h' => x = (-1) ∧ h' = zsI (h) 0 2 1) := by
  show zEx none (d + 1) mX11_arrival (0, [(0, .inr (.inr (some 0))), (1, .inl p1), (2, .inl p2), (3, .inl p3), (4, .inl p4)], [], h) _
  refine ex_aload_n (pc' := 1) dX11_arrival_0 rfl rfl ?_
  refine ex_iload_n (pc' := 2) dX11_arrival_1 rfl rfl ?_
  refine en_callvI (pc' := 5) (vs := [.inl p1]) (rest := []) (h2 := h) (v := 0) dX11_arrival_2 ml_11_121 ⟨zble rfl, zble rfl⟩ rfl rfl s0 (zblt rfl) (zble rfl) rfl (kX11_isWhale_1 _ h p1 s0 s2 i2_6 r0_3) ?_
  refine ex_if_t (pc' := 24) dX11_arrival_5 (by decide) (by decide) ?_
  refine ex_aload_n (pc' := 25) dX11_arrival_24 rfl rfl ?_
  refine ex_iconst (v := 1) (pc' := 26) dX11_arrival_25 (by decide) rfl ?_
  refine en_callvI (pc' := 29) (vs := [.inl 1]) (rest := []) (h2 := zsI (h) 0 2 1) (v := (-1)) dX11_arrival_26 ml_11_98 ⟨zble rfl, zble rfl⟩ rfl rfl s0 (zblt rfl) (zble rfl) rfl (kX11_refused_1 _ h s0) ?_
  exact ex_iretI dX11_arrival_29 rfl rfl ⟨rfl, rfl⟩
set_option maxRecDepth 10000 in
theorem kX12_arrival_1 (d : Nat) (h : zH) (p1 p2 p3 p4 : Int32) (s196 : zsh h 196 = some (12, 39)) (i196_14 : h.2.1 196 14 = 0) : zCi (d + 1) mX12_arrival [.inr (.inr (some 196)), .inl p1, .inl p2, .inl p3, .inl p4] h (fun x h' => x = (-1) ∧ h' = zsI (zsI (zsI (h) 196 0 0) 196 11 0) 196 11 1) := by
  show zEx none (d + 1) mX12_arrival (0, [(0, .inr (.inr (some 196))), (1, .inl p1), (2, .inl p2), (3, .inl p3), (4, .inl p4)], [], h) _
  refine ex_aload_n (pc' := 1) dX12_arrival_0 rfl rfl ?_
  refine en_callvV (pc' := 4) (vs := []) (rest := []) (h2 := zsI (zsI (h) 196 0 0) 196 11 0) dX12_arrival_1 ml_12_167 ⟨zble rfl, zble rfl⟩ rfl rfl s196 (zblt rfl) (zble rfl) rfl (kX12_good_1 _ h s196) ?_
  refine ex_aload_n (pc' := 5) dX12_arrival_4 rfl rfl ?_
  refine ex_iload_n (pc' := 6) dX12_arrival_5 rfl rfl ?_
  refine en_callvI (pc' := 9) (vs := [.inl p1]) (rest := []) (h2 := zsI (zsI (h) 196 0 0) 196 11 0) (v := 0) dX12_arrival_6 ml_12_268 ⟨zble rfl, zble rfl⟩ rfl rfl (zsiI (zsiI s196)) (zblt rfl) (zble rfl) rfl (kX12_isWhale_1 _ (zsI (zsI (h) 196 0 0) 196 11 0) p1 (zsiI (zsiI s196)) i196_14) ?_
  refine ex_if_t (pc' := 28) dX12_arrival_9 (by decide) (by decide) ?_
  refine ex_aload_n (pc' := 29) dX12_arrival_28 rfl rfl ?_
  refine ex_iconst (v := 1) (pc' := 30) dX12_arrival_29 (by decide) rfl ?_
  refine en_callvI (pc' := 33) (vs := [.inl 1]) (rest := []) (h2 := zsI (zsI (zsI (h) 196 0 0) 196 11 0) 196 11 1) (v := (-1)) dX12_arrival_30 ml_12_170 ⟨zble rfl, zble rfl⟩ rfl rfl (zsiI (zsiI s196)) (zblt rfl) (zble rfl) rfl (kX12_no_1 _ (zsI (zsI (h) 196 0 0) 196 11 0) (zsiI (zsiI s196))) ?_
  exact ex_iretI dX12_arrival_33 rfl rfl ⟨rfl, rfl⟩
set_option maxRecDepth 10000 in
theorem kX11_brings_1 (d : Nat) (h : zH) (p1 p2 : Int32) (s0 : zsh h 0 = some (11, 16)) (s2 : zsh h 2 = some (4, 15)) (i2_6 : h.2.1 2 6 = 0) (r0_3 : h.2.2.2.1 0 3 = some 2) : zCi (d + 1) mX11_brings [.inr (.inr (some 0)), .inl p1, .inl p2] h (fun x h' => x = (-1) ∧ h' = zsI (h) 0 2 1) := by
  show zEx none (d + 1) mX11_brings (0, [(0, .inr (.inr (some 0))), (1, .inl p1), (2, .inl p2)], [], h) _
  refine ex_aload_n (pc' := 1) dX11_brings_0 rfl rfl ?_
  refine ex_iload_n (pc' := 2) dX11_brings_1 rfl rfl ?_
  refine en_callvI (pc' := 5) (vs := [.inl p1]) (rest := []) (h2 := h) (v := 0) dX11_brings_2 ml_11_121 ⟨zble rfl, zble rfl⟩ rfl rfl s0 (zblt rfl) (zble rfl) rfl (kX11_isWhale_1 _ h p1 s0 s2 i2_6 r0_3) ?_
  refine ex_if_t (pc' := 32) dX11_brings_5 (by decide) (by decide) ?_
  refine ex_aload_n (pc' := 33) dX11_brings_32 rfl rfl ?_
  refine ex_iconst (v := 1) (pc' := 34) dX11_brings_33 (by decide) rfl ?_
  refine en_callvI (pc' := 37) (vs := [.inl 1]) (rest := []) (h2 := zsI (h) 0 2 1) (v := (-1)) dX11_brings_34 ml_11_98 ⟨zble rfl, zble rfl⟩ rfl rfl s0 (zblt rfl) (zble rfl) rfl (kX11_refused_1 _ h s0) ?_
  exact ex_iretI dX11_brings_37 rfl rfl ⟨rfl, rfl⟩
set_option maxRecDepth 10000 in
theorem kX12_brings_1 (d : Nat) (h : zH) (p1 p2 : Int32) (s196 : zsh h 196 = some (12, 39)) (i196_14 : h.2.1 196 14 = 0) : zCi (d + 1) mX12_brings [.inr (.inr (some 196)), .inl p1, .inl p2] h (fun x h' => x = (-1) ∧ h' = zsI (zsI (zsI (h) 196 0 0) 196 11 0) 196 11 1) := by
  show zEx none (d + 1) mX12_brings (0, [(0, .inr (.inr (some 196))), (1, .inl p1), (2, .inl p2)], [], h) _
  refine ex_aload_n (pc' := 1) dX12_brings_0 rfl rfl ?_
  refine en_callvV (pc' := 4) (vs := []) (rest := []) (h2 := zsI (zsI (h) 196 0 0) 196 11 0) dX12_brings_1 ml_12_167 ⟨zble rfl, zble rfl⟩ rfl rfl s196 (zblt rfl) (zble rfl) rfl (kX12_good_1 _ h s196) ?_
  refine ex_aload_n (pc' := 5) dX12_brings_4 rfl rfl ?_
  refine ex_iload_n (pc' := 6) dX12_brings_5 rfl rfl ?_
  refine en_callvI (pc' := 9) (vs := [.inl p1]) (rest := []) (h2 := zsI (zsI (h) 196 0 0) 196 11 0) (v := 0) dX12_brings_6 ml_12_268 ⟨zble rfl, zble rfl⟩ rfl rfl (zsiI (zsiI s196)) (zblt rfl) (zble rfl) rfl (kX12_isWhale_1 _ (zsI (zsI (h) 196 0 0) 196 11 0) p1 (zsiI (zsiI s196)) i196_14) ?_
  refine ex_if_t (pc' := 29) dX12_brings_9 (by decide) (by decide) ?_
  refine ex_aload_n (pc' := 30) dX12_brings_29 rfl rfl ?_
  refine ex_iconst (v := 1) (pc' := 31) dX12_brings_30 (by decide) rfl ?_
  refine en_callvI (pc' := 34) (vs := [.inl 1]) (rest := []) (h2 := zsI (zsI (zsI (h) 196 0 0) 196 11 0) 196 11 1) (v := (-1)) dX12_brings_31 ml_12_170 ⟨zble rfl, zble rfl⟩ rfl rfl (zsiI (zsiI s196)) (zblt rfl) (zble rfl) rfl (kX12_no_1 _ (zsI (zsI (h) 196 0 0) 196 11 0) (zsiI (zsiI s196))) ?_
  exact ex_iretI dX12_brings_34 rfl rfl ⟨rfl, rfl⟩
set_option maxRecDepth 10000 in
theorem kX11_soonest_1 (d : Nat) (h : zH) (p1 : Int32) (s0 : zsh h 0 = some (11, 16)) (s2 : zsh h 2 = some (4, 15)) (i2_7 : h.2.1 2 7 = 0) (r0_3 : h.2.2.2.1 0 3 = some 2) : zCi (d + 1) mX11_soonest [.inr (.inr (some 0)), .inl p1] h (fun x h' => x = (-1) ∧ h' = zsI (h) 0 2 1) := by
  show zEx none (d + 1) mX11_soonest (0, [(0, .inr (.inr (some 0))), (1, .inl p1)], [], h) _
  refine ex_aload_n (pc' := 1) dX11_soonest_0 rfl rfl ?_
  refine ex_iload_n (pc' := 2) dX11_soonest_1 rfl rfl ?_
  refine en_callvI (pc' := 5) (vs := [.inl p1]) (rest := []) (h2 := h) (v := 0) dX11_soonest_2 ml_11_147 ⟨zble rfl, zble rfl⟩ rfl rfl s0 (zblt rfl) (zble rfl) rfl (kX11_isBox_1 _ h p1 s0 s2 i2_7 r0_3) ?_
  refine ex_if_t (pc' := 23) dX11_soonest_5 (by decide) (by decide) ?_
  refine ex_aload_n (pc' := 24) dX11_soonest_23 rfl rfl ?_
  refine ex_iconst (v := 1) (pc' := 25) dX11_soonest_24 (by decide) rfl ?_
  refine en_callvI (pc' := 28) (vs := [.inl 1]) (rest := []) (h2 := zsI (h) 0 2 1) (v := (-1)) dX11_soonest_25 ml_11_98 ⟨zble rfl, zble rfl⟩ rfl rfl s0 (zblt rfl) (zble rfl) rfl (kX11_refused_1 _ h s0) ?_
  exact ex_iretI dX11_soonest_28 rfl rfl ⟨rfl, rfl⟩
set_option maxRecDepth 10000 in
theorem kX12_soonest_1 (d : Nat) (h : zH) (p1 : Int32) (s196 : zsh h 196 = some (12, 39)) (i196_14 : h.2.1 196 14 = 0) : zCi (d + 1) mX12_soonest [.inr (.inr (some 196)), .inl p1] h (fun x h' => x = (-1) ∧ h' = zsI (zsI (zsI (h) 196 0 0) 196 11 0) 196 11 1) := by
  show zEx none (d + 1) mX12_soonest (0, [(0, .inr (.inr (some 196))), (1, .inl p1)], [], h) _
  refine ex_aload_n (pc' := 1) dX12_soonest_0 rfl rfl ?_
  refine en_callvV (pc' := 4) (vs := []) (rest := []) (h2 := zsI (zsI (h) 196 0 0) 196 11 0) dX12_soonest_1 ml_12_167 ⟨zble rfl, zble rfl⟩ rfl rfl s196 (zblt rfl) (zble rfl) rfl (kX12_good_1 _ h s196) ?_
  refine ex_aload_n (pc' := 5) dX12_soonest_4 rfl rfl ?_
  refine ex_iload_n (pc' := 6) dX12_soonest_5 rfl rfl ?_
  refine en_callvI (pc' := 9) (vs := [.inl p1]) (rest := []) (h2 := zsI (zsI (h) 196 0 0) 196 11 0) (v := 0) dX12_soonest_6 ml_12_274 ⟨zble rfl, zble rfl⟩ rfl rfl (zsiI (zsiI s196)) (zblt rfl) (zble rfl) rfl (kX12_isBox_1 _ (zsI (zsI (h) 196 0 0) 196 11 0) p1 (zsiI (zsiI s196)) i196_14) ?_
  refine ex_if_f (pc' := 12) dX12_soonest_9 (by decide) (by decide) rfl ?_
  refine ex_aload_n (pc' := 13) dX12_soonest_12 rfl rfl ?_
  refine ex_iconst (v := 1) (pc' := 14) dX12_soonest_13 (by decide) rfl ?_
  refine en_callvI (pc' := 17) (vs := [.inl 1]) (rest := []) (h2 := zsI (zsI (zsI (h) 196 0 0) 196 11 0) 196 11 1) (v := (-1)) dX12_soonest_14 ml_12_170 ⟨zble rfl, zble rfl⟩ rfl rfl (zsiI (zsiI s196)) (zblt rfl) (zble rfl) rfl (kX12_no_1 _ (zsI (zsI (h) 196 0 0) 196 11 0) (zsiI (zsiI s196))) ?_
  exact ex_iretI dX12_soonest_17 rfl rfl ⟨rfl, rfl⟩
set_option maxRecDepth 10000 in
theorem kX11_surest_1 (d : Nat) (h : zH) (p1 : Int32) (s0 : zsh h 0 = some (11, 16)) (s2 : zsh h 2 = some (4, 15)) (i2_7 : h.2.1 2 7 = 0) (r0_3 : h.2.2.2.1 0 3 = some 2) : zCi (d + 1) mX11_surest [.inr (.inr (some 0)), .inl p1] h (fun x h' => x = (-1) ∧ h' = zsI (h) 0 2 1) := by
  show zEx none (d + 1) mX11_surest (0, [(0, .inr (.inr (some 0))), (1, .inl p1)], [], h) _
  refine ex_aload_n (pc' := 1) dX11_surest_0 rfl rfl ?_
  refine ex_iload_n (pc' := 2) dX11_surest_1 rfl rfl ?_
  refine en_callvI (pc' := 5) (vs := [.inl p1]) (rest := []) (h2 := h) (v := 0) dX11_surest_2 ml_11_147 ⟨zble rfl, zble rfl⟩ rfl rfl s0 (zblt rfl) (zble rfl) rfl (kX11_isBox_1 _ h p1 s0 s2 i2_7 r0_3) ?_
  refine ex_if_t (pc' := 25) dX11_surest_5 (by decide) (by decide) ?_
  refine ex_aload_n (pc' := 26) dX11_surest_25 rfl rfl ?_
  refine ex_iconst (v := 1) (pc' := 27) dX11_surest_26 (by decide) rfl ?_
  refine en_callvI (pc' := 30) (vs := [.inl 1]) (rest := []) (h2 := zsI (h) 0 2 1) (v := (-1)) dX11_surest_27 ml_11_98 ⟨zble rfl, zble rfl⟩ rfl rfl s0 (zblt rfl) (zble rfl) rfl (kX11_refused_1 _ h s0) ?_
  exact ex_iretI dX11_surest_30 rfl rfl ⟨rfl, rfl⟩
set_option maxRecDepth 10000 in
theorem kX12_surest_1 (d : Nat) (h : zH) (p1 : Int32) (s196 : zsh h 196 = some (12, 39)) (i196_14 : h.2.1 196 14 = 0) : zCi (d + 1) mX12_surest [.inr (.inr (some 196)), .inl p1] h (fun x h' => x = (-1) ∧ h' = zsI (zsI (zsI (h) 196 0 0) 196 11 0) 196 11 1) := by
  show zEx none (d + 1) mX12_surest (0, [(0, .inr (.inr (some 196))), (1, .inl p1)], [], h) _
  refine ex_aload_n (pc' := 1) dX12_surest_0 rfl rfl ?_
  refine en_callvV (pc' := 4) (vs := []) (rest := []) (h2 := zsI (zsI (h) 196 0 0) 196 11 0) dX12_surest_1 ml_12_167 ⟨zble rfl, zble rfl⟩ rfl rfl s196 (zblt rfl) (zble rfl) rfl (kX12_good_1 _ h s196) ?_
  refine ex_aload_n (pc' := 5) dX12_surest_4 rfl rfl ?_
  refine ex_iload_n (pc' := 6) dX12_surest_5 rfl rfl ?_
  refine en_callvI (pc' := 9) (vs := [.inl p1]) (rest := []) (h2 := zsI (zsI (h) 196 0 0) 196 11 0) (v := 0) dX12_surest_6 ml_12_274 ⟨zble rfl, zble rfl⟩ rfl rfl (zsiI (zsiI s196)) (zblt rfl) (zble rfl) rfl (kX12_isBox_1 _ (zsI (zsI (h) 196 0 0) 196 11 0) p1 (zsiI (zsiI s196)) i196_14) ?_
  refine ex_if_t (pc' := 21) dX12_surest_9 (by decide) (by decide) ?_
  refine ex_aload_n (pc' := 22) dX12_surest_21 rfl rfl ?_
  refine ex_iconst (v := 1) (pc' := 23) dX12_surest_22 (by decide) rfl ?_
  refine en_callvI (pc' := 26) (vs := [.inl 1]) (rest := []) (h2 := zsI (zsI (zsI (h) 196 0 0) 196 11 0) 196 11 1) (v := (-1)) dX12_surest_23 ml_12_170 ⟨zble rfl, zble rfl⟩ rfl rfl (zsiI (zsiI s196)) (zblt rfl) (zble rfl) rfl (kX12_no_1 _ (zsI (zsI (h) 196 0 0) 196 11 0) (zsiI (zsiI s196))) ?_
  exact ex_iretI dX12_surest_26 rfl rfl ⟨rfl, rfl⟩
set_option maxRecDepth 10000 in
theorem kX11_by_1 (d : Nat) (h : zH) (p1 p2 : Int32) (s0 : zsh h 0 = some (11, 16)) (s2 : zsh h 2 = some (4, 15)) (i2_7 : h.2.1 2 7 = 0) (r0_3 : h.2.2.2.1 0 3 = some 2) : zCi (d + 1) mX11_by [.inr (.inr (some 0)), .inl p1, .inl p2] h (fun x h' => x = (-1) ∧ h' = zsI (h) 0 2 1) := by
  show zEx none (d + 1) mX11_by (0, [(0, .inr (.inr (some 0))), (1, .inl p1), (2, .inl p2)], [], h) _
  refine ex_aload_n (pc' := 1) dX11_by_0 rfl rfl ?_
  refine ex_iload_n (pc' := 2) dX11_by_1 rfl rfl ?_
  refine en_callvI (pc' := 5) (vs := [.inl p1]) (rest := []) (h2 := h) (v := 0) dX11_by_2 ml_11_147 ⟨zble rfl, zble rfl⟩ rfl rfl s0 (zblt rfl) (zble rfl) rfl (kX11_isBox_1 _ h p1 s0 s2 i2_7 r0_3) ?_
  refine ex_if_f (pc' := 8) dX11_by_5 (by decide) (by decide) rfl ?_
  refine ex_aload_n (pc' := 9) dX11_by_8 rfl rfl ?_
  refine ex_iconst (v := 1) (pc' := 10) dX11_by_9 (by decide) rfl ?_
  refine en_callvI (pc' := 13) (vs := [.inl 1]) (rest := []) (h2 := zsI (h) 0 2 1) (v := (-1)) dX11_by_10 ml_11_98 ⟨zble rfl, zble rfl⟩ rfl rfl s0 (zblt rfl) (zble rfl) rfl (kX11_refused_1 _ h s0) ?_
  exact ex_iretI dX11_by_13 rfl rfl ⟨rfl, rfl⟩
set_option maxRecDepth 10000 in
theorem kX12_by_1 (d : Nat) (h : zH) (p1 p2 : Int32) (s196 : zsh h 196 = some (12, 39)) (i196_14 : h.2.1 196 14 = 0) : zCi (d + 1) mX12_by [.inr (.inr (some 196)), .inl p1, .inl p2] h (fun x h' => x = (-1) ∧ h' = zsI (zsI (zsI (h) 196 0 0) 196 11 0) 196 11 1) := by
  show zEx none (d + 1) mX12_by (0, [(0, .inr (.inr (some 196))), (1, .inl p1), (2, .inl p2)], [], h) _
  refine ex_aload_n (pc' := 1) dX12_by_0 rfl rfl ?_
  refine en_callvV (pc' := 4) (vs := []) (rest := []) (h2 := zsI (zsI (h) 196 0 0) 196 11 0) dX12_by_1 ml_12_167 ⟨zble rfl, zble rfl⟩ rfl rfl s196 (zblt rfl) (zble rfl) rfl (kX12_good_1 _ h s196) ?_
  refine ex_aload_n (pc' := 5) dX12_by_4 rfl rfl ?_
  refine ex_iload_n (pc' := 6) dX12_by_5 rfl rfl ?_
  refine en_callvI (pc' := 9) (vs := [.inl p1]) (rest := []) (h2 := zsI (zsI (h) 196 0 0) 196 11 0) (v := 0) dX12_by_6 ml_12_274 ⟨zble rfl, zble rfl⟩ rfl rfl (zsiI (zsiI s196)) (zblt rfl) (zble rfl) rfl (kX12_isBox_1 _ (zsI (zsI (h) 196 0 0) 196 11 0) p1 (zsiI (zsiI s196)) i196_14) ?_
  refine ex_if_f (pc' := 12) dX12_by_9 (by decide) (by decide) rfl ?_
  refine ex_aload_n (pc' := 13) dX12_by_12 rfl rfl ?_
  refine ex_iconst (v := 1) (pc' := 14) dX12_by_13 (by decide) rfl ?_
  refine en_callvI (pc' := 17) (vs := [.inl 1]) (rest := []) (h2 := zsI (zsI (zsI (h) 196 0 0) 196 11 0) 196 11 1) (v := (-1)) dX12_by_14 ml_12_170 ⟨zble rfl, zble rfl⟩ rfl rfl (zsiI (zsiI s196)) (zblt rfl) (zble rfl) rfl (kX12_no_1 _ (zsI (zsI (h) 196 0 0) 196 11 0) (zsiI (zsiI s196))) ?_
  exact ex_iretI dX12_by_17 rfl rfl ⟨rfl, rfl⟩
set_option maxRecDepth 10000 in
theorem kX11_registered_1 (d : Nat) (h : zH) (p1 p2 : Int32) (s0 : zsh h 0 = some (11, 16)) (s2 : zsh h 2 = some (4, 15)) (i2_7 : h.2.1 2 7 = 0) (r0_3 : h.2.2.2.1 0 3 = some 2) : zCl (d + 1) mX11_registered [.inr (.inr (some 0)), .inl p1, .inl p2] h (fun x h' => x = (-1) ∧ h' = zsI (h) 0 2 1) := by
  show zEx none (d + 1) mX11_registered (0, [(0, .inr (.inr (some 0))), (1, .inl p1), (2, .inl p2)], [], h) _
  refine ex_aload_n (pc' := 1) dX11_registered_0 rfl rfl ?_
  refine ex_iload_n (pc' := 2) dX11_registered_1 rfl rfl ?_
  refine en_callvI (pc' := 5) (vs := [.inl p1]) (rest := []) (h2 := h) (v := 0) dX11_registered_2 ml_11_147 ⟨zble rfl, zble rfl⟩ rfl rfl s0 (zblt rfl) (zble rfl) rfl (kX11_isBox_1 _ h p1 s0 s2 i2_7 r0_3) ?_
  refine ex_if_f (pc' := 8) dX11_registered_5 (by decide) (by decide) rfl ?_
  refine ex_aload_n (pc' := 9) dX11_registered_8 rfl rfl ?_
  refine ex_iconst (v := 1) (pc' := 10) dX11_registered_9 (by decide) rfl ?_
  refine en_callvI (pc' := 13) (vs := [.inl 1]) (rest := []) (h2 := zsI (h) 0 2 1) (v := (-1)) dX11_registered_10 ml_11_98 ⟨zble rfl, zble rfl⟩ rfl rfl s0 (zblt rfl) (zble rfl) rfl (kX11_refused_1 _ h s0) ?_
  refine ex_i2l (pc' := 14) (v := (-1)) dX11_registered_13 (by decide) rfl ?_
  exact ex_lretL dX11_registered_14 rfl ⟨rfl, rfl⟩
set_option maxRecDepth 10000 in
theorem kX12_registered_1 (d : Nat) (h : zH) (p1 p2 : Int32) (s196 : zsh h 196 = some (12, 39)) (i196_14 : h.2.1 196 14 = 0) : zCl (d + 1) mX12_registered [.inr (.inr (some 196)), .inl p1, .inl p2] h (fun x h' => x = (-1) ∧ h' = zsI (zsI (zsI (h) 196 0 0) 196 11 0) 196 11 1) := by
  show zEx none (d + 1) mX12_registered (0, [(0, .inr (.inr (some 196))), (1, .inl p1), (2, .inl p2)], [], h) _
  refine ex_aload_n (pc' := 1) dX12_registered_0 rfl rfl ?_
  refine en_callvV (pc' := 4) (vs := []) (rest := []) (h2 := zsI (zsI (h) 196 0 0) 196 11 0) dX12_registered_1 ml_12_167 ⟨zble rfl, zble rfl⟩ rfl rfl s196 (zblt rfl) (zble rfl) rfl (kX12_good_1 _ h s196) ?_
  refine ex_aload_n (pc' := 5) dX12_registered_4 rfl rfl ?_
  refine ex_iload_n (pc' := 6) dX12_registered_5 rfl rfl ?_
  refine en_callvI (pc' := 9) (vs := [.inl p1]) (rest := []) (h2 := zsI (zsI (h) 196 0 0) 196 11 0) (v := 0) dX12_registered_6 ml_12_274 ⟨zble rfl, zble rfl⟩ rfl rfl (zsiI (zsiI s196)) (zblt rfl) (zble rfl) rfl (kX12_isBox_1 _ (zsI (zsI (h) 196 0 0) 196 11 0) p1 (zsiI (zsiI s196)) i196_14) ?_
  refine ex_if_f (pc' := 12) dX12_registered_9 (by decide) (by decide) rfl ?_
  refine ex_aload_n (pc' := 13) dX12_registered_12 rfl rfl ?_
  refine ex_iconst (v := 1) (pc' := 14) dX12_registered_13 (by decide) rfl ?_
  refine en_callvI (pc' := 17) (vs := [.inl 1]) (rest := []) (h2 := zsI (zsI (zsI (h) 196 0 0) 196 11 0) 196 11 1) (v := (-1)) dX12_registered_14 ml_12_170 ⟨zble rfl, zble rfl⟩ rfl rfl (zsiI (zsiI s196)) (zblt rfl) (zble rfl) rfl (kX12_no_1 _ (zsI (zsI (h) 196 0 0) 196 11 0) (zsiI (zsiI s196))) ?_
  refine ex_i2l (pc' := 18) (v := (-1)) dX12_registered_17 (by decide) rfl ?_
  exact ex_lretL dX12_registered_18 rfl ⟨rfl, rfl⟩
set_option maxRecDepth 10000 in
theorem kX11_match_1 (d : Nat) (h : zH) (s0 : zsh h 0 = some (11, 16)) (s2 : zsh h 2 = some (4, 15)) (i2_4 : h.2.1 2 4 = 0) (r0_3 : h.2.2.2.1 0 3 = some 2) : zCi (d + 1) mX11_match [.inr (.inr (some 0))] h (fun x h' => x = (-1) ∧ h' = zsI (h) 0 2 1) := by
  show zEx none (d + 1) mX11_match (0, [(0, .inr (.inr (some 0)))], [], h) _
  refine ex_aload_n (pc' := 1) dX11_match_0 rfl rfl ?_
  refine en_callvI (pc' := 4) (vs := []) (rest := []) (h2 := h) (v := 0) dX11_match_1 ml_11_222 ⟨zble rfl, zble rfl⟩ rfl rfl s0 (zblt rfl) (zble rfl) rfl (kX11_hasPost_1 _ h s0 s2 i2_4 r0_3) ?_
  refine ex_if_f (pc' := 7) dX11_match_4 (by decide) (by decide) rfl ?_
  refine ex_aload_n (pc' := 8) dX11_match_7 rfl rfl ?_
  refine ex_iconst (v := 1) (pc' := 9) dX11_match_8 (by decide) rfl ?_
  refine en_callvI (pc' := 12) (vs := [.inl 1]) (rest := []) (h2 := zsI (h) 0 2 1) (v := (-1)) dX11_match_9 ml_11_98 ⟨zble rfl, zble rfl⟩ rfl rfl s0 (zblt rfl) (zble rfl) rfl (kX11_refused_1 _ h s0) ?_
  exact ex_iretI dX11_match_12 rfl rfl ⟨rfl, rfl⟩
set_option maxRecDepth 10000 in
theorem kX12_match_1 (d : Nat) (h : zH) (s196 : zsh h 196 = some (12, 39)) (i196_14 : h.2.1 196 14 = 0) : zCi (d + 1) mX12_match [.inr (.inr (some 196))] h (fun x h' => x = (-1) ∧ h' = zsI (zsI (zsI (h) 196 0 0) 196 11 0) 196 11 1) := by
  show zEx none (d + 1) mX12_match (0, [(0, .inr (.inr (some 196)))], [], h) _
  refine ex_aload_n (pc' := 1) dX12_match_0 rfl rfl ?_
  refine en_callvV (pc' := 4) (vs := []) (rest := []) (h2 := zsI (zsI (h) 196 0 0) 196 11 0) dX12_match_1 ml_12_167 ⟨zble rfl, zble rfl⟩ rfl rfl s196 (zblt rfl) (zble rfl) rfl (kX12_good_1 _ h s196) ?_
  refine ex_aload_n (pc' := 5) dX12_match_4 rfl rfl ?_
  refine ex_getI (pc' := 8) (v := 0) dX12_match_5 fl_12_180 (zsiI (zsiI s196)) (by decide) i196_14 rfl ?_
  refine ex_if_f (pc' := 11) dX12_match_8 (by decide) (by decide) rfl ?_
  refine ex_aload_n (pc' := 12) dX12_match_11 rfl rfl ?_
  refine ex_iconst (v := 1) (pc' := 13) dX12_match_12 (by decide) rfl ?_
  refine en_callvI (pc' := 16) (vs := [.inl 1]) (rest := []) (h2 := zsI (zsI (zsI (h) 196 0 0) 196 11 0) 196 11 1) (v := (-1)) dX12_match_13 ml_12_170 ⟨zble rfl, zble rfl⟩ rfl rfl (zsiI (zsiI s196)) (zblt rfl) (zble rfl) rfl (kX12_no_1 _ (zsI (zsI (h) 196 0 0) 196 11 0) (zsiI (zsiI s196))) ?_
  exact ex_iretI dX12_match_16 rfl rfl ⟨rfl, rfl⟩
set_option maxRecDepth 10000 in
theorem kX11_matchDays_1 (d : Nat) (h : zH) (s0 : zsh h 0 = some (11, 16)) (s2 : zsh h 2 = some (4, 15)) (i2_4 : h.2.1 2 4 = 0) (r0_3 : h.2.2.2.1 0 3 = some 2) : zCi (d + 1) mX11_matchDays [.inr (.inr (some 0))] h (fun x h' => x = (-1) ∧ h' = zsI (h) 0 2 1) := by
  show zEx none (d + 1) mX11_matchDays (0, [(0, .inr (.inr (some 0)))], [], h) _
  refine ex_aload_n (pc' := 1) dX11_matchDays_0 rfl rfl ?_
  refine en_callvI (pc' := 4) (vs := []) (rest := []) (h2 := h) (v := 0) dX11_matchDays_1 ml_11_222 ⟨zble rfl, zble rfl⟩ rfl rfl s0 (zblt rfl) (zble rfl) rfl (kX11_hasPost_1 _ h s0 s2 i2_4 r0_3) ?_
  refine ex_if_f (pc' := 7) dX11_matchDays_4 (by decide) (by decide) rfl ?_
  refine ex_aload_n (pc' := 8) dX11_matchDays_7 rfl rfl ?_
  refine ex_iconst (v := 1) (pc' := 9) dX11_matchDays_8 (by decide) rfl ?_
  refine en_callvI (pc' := 12) (vs := [.inl 1]) (rest := []) (h2 := zsI (h) 0 2 1) (v := (-1)) dX11_matchDays_9 ml_11_98 ⟨zble rfl, zble rfl⟩ rfl rfl s0 (zblt rfl) (zble rfl) rfl (kX11_refused_1 _ h s0) ?_
  exact ex_iretI dX11_matchDays_12 rfl rfl ⟨rfl, rfl⟩
set_option maxRecDepth 10000 in
theorem kX12_matchDays_1 (d : Nat) (h : zH) (s196 : zsh h 196 = some (12, 39)) (i196_14 : h.2.1 196 14 = 0) : zCi (d + 1) mX12_matchDays [.inr (.inr (some 196))] h (fun x h' => x = (-1) ∧ h' = zsI (zsI (zsI (h) 196 0 0) 196 11 0) 196 11 1) := by
  show zEx none (d + 1) mX12_matchDays (0, [(0, .inr (.inr (some 196)))], [], h) _
  refine ex_aload_n (pc' := 1) dX12_matchDays_0 rfl rfl ?_
  refine en_callvV (pc' := 4) (vs := []) (rest := []) (h2 := zsI (zsI (h) 196 0 0) 196 11 0) dX12_matchDays_1 ml_12_167 ⟨zble rfl, zble rfl⟩ rfl rfl s196 (zblt rfl) (zble rfl) rfl (kX12_good_1 _ h s196) ?_
  refine ex_aload_n (pc' := 5) dX12_matchDays_4 rfl rfl ?_
  refine ex_getI (pc' := 8) (v := 0) dX12_matchDays_5 fl_12_180 (zsiI (zsiI s196)) (by decide) i196_14 rfl ?_
  refine ex_if_f (pc' := 11) dX12_matchDays_8 (by decide) (by decide) rfl ?_
  refine ex_aload_n (pc' := 12) dX12_matchDays_11 rfl rfl ?_
  refine ex_iconst (v := 1) (pc' := 13) dX12_matchDays_12 (by decide) rfl ?_
  refine en_callvI (pc' := 16) (vs := [.inl 1]) (rest := []) (h2 := zsI (zsI (zsI (h) 196 0 0) 196 11 0) 196 11 1) (v := (-1)) dX12_matchDays_13 ml_12_170 ⟨zble rfl, zble rfl⟩ rfl rfl (zsiI (zsiI s196)) (zblt rfl) (zble rfl) rfl (kX12_no_1 _ (zsI (zsI (h) 196 0 0) 196 11 0) (zsiI (zsiI s196))) ?_
  exact ex_iretI dX12_matchDays_16 rfl rfl ⟨rfl, rfl⟩
set_option maxRecDepth 10000 in
theorem kX11_matchOf_1 (d : Nat) (h : zH) (p1 : Int32) (s0 : zsh h 0 = some (11, 16)) (s2 : zsh h 2 = some (4, 15)) (i2_7 : h.2.1 2 7 = 0) (r0_3 : h.2.2.2.1 0 3 = some 2) : zCi (d + 1) mX11_matchOf [.inr (.inr (some 0)), .inl p1] h (fun x h' => x = (-1) ∧ h' = zsI (h) 0 2 1) := by
  show zEx none (d + 1) mX11_matchOf (0, [(0, .inr (.inr (some 0))), (1, .inl p1)], [], h) _
  refine ex_aload_n (pc' := 1) dX11_matchOf_0 rfl rfl ?_
  refine ex_iload_n (pc' := 2) dX11_matchOf_1 rfl rfl ?_
  refine en_callvI (pc' := 5) (vs := [.inl p1]) (rest := []) (h2 := h) (v := 0) dX11_matchOf_2 ml_11_147 ⟨zble rfl, zble rfl⟩ rfl rfl s0 (zblt rfl) (zble rfl) rfl (kX11_isBox_1 _ h p1 s0 s2 i2_7 r0_3) ?_
  refine ex_if_f (pc' := 8) dX11_matchOf_5 (by decide) (by decide) rfl ?_
  refine ex_aload_n (pc' := 9) dX11_matchOf_8 rfl rfl ?_
  refine ex_iconst (v := 1) (pc' := 10) dX11_matchOf_9 (by decide) rfl ?_
  refine en_callvI (pc' := 13) (vs := [.inl 1]) (rest := []) (h2 := zsI (h) 0 2 1) (v := (-1)) dX11_matchOf_10 ml_11_98 ⟨zble rfl, zble rfl⟩ rfl rfl s0 (zblt rfl) (zble rfl) rfl (kX11_refused_1 _ h s0) ?_
  exact ex_iretI dX11_matchOf_13 rfl rfl ⟨rfl, rfl⟩
set_option maxRecDepth 10000 in
theorem kX12_matchOf_1 (d : Nat) (h : zH) (p1 : Int32) (s196 : zsh h 196 = some (12, 39)) (i196_14 : h.2.1 196 14 = 0) : zCi (d + 1) mX12_matchOf [.inr (.inr (some 196)), .inl p1] h (fun x h' => x = (-1) ∧ h' = zsI (zsI (zsI (h) 196 0 0) 196 11 0) 196 11 1) := by
  show zEx none (d + 1) mX12_matchOf (0, [(0, .inr (.inr (some 196))), (1, .inl p1)], [], h) _
  refine ex_aload_n (pc' := 1) dX12_matchOf_0 rfl rfl ?_
  refine en_callvV (pc' := 4) (vs := []) (rest := []) (h2 := zsI (zsI (h) 196 0 0) 196 11 0) dX12_matchOf_1 ml_12_167 ⟨zble rfl, zble rfl⟩ rfl rfl s196 (zblt rfl) (zble rfl) rfl (kX12_good_1 _ h s196) ?_
  refine ex_aload_n (pc' := 5) dX12_matchOf_4 rfl rfl ?_
  refine ex_iload_n (pc' := 6) dX12_matchOf_5 rfl rfl ?_
  refine en_callvI (pc' := 9) (vs := [.inl p1]) (rest := []) (h2 := zsI (zsI (h) 196 0 0) 196 11 0) (v := 0) dX12_matchOf_6 ml_12_274 ⟨zble rfl, zble rfl⟩ rfl rfl (zsiI (zsiI s196)) (zblt rfl) (zble rfl) rfl (kX12_isBox_1 _ (zsI (zsI (h) 196 0 0) 196 11 0) p1 (zsiI (zsiI s196)) i196_14) ?_
  refine ex_if_f (pc' := 12) dX12_matchOf_9 (by decide) (by decide) rfl ?_
  refine ex_aload_n (pc' := 13) dX12_matchOf_12 rfl rfl ?_
  refine ex_iconst (v := 1) (pc' := 14) dX12_matchOf_13 (by decide) rfl ?_
  refine en_callvI (pc' := 17) (vs := [.inl 1]) (rest := []) (h2 := zsI (zsI (zsI (h) 196 0 0) 196 11 0) 196 11 1) (v := (-1)) dX12_matchOf_14 ml_12_170 ⟨zble rfl, zble rfl⟩ rfl rfl (zsiI (zsiI s196)) (zblt rfl) (zble rfl) rfl (kX12_no_1 _ (zsI (zsI (h) 196 0 0) 196 11 0) (zsiI (zsiI s196))) ?_
  exact ex_iretI dX12_matchOf_17 rfl rfl ⟨rfl, rfl⟩
set_option maxRecDepth 10000 in
theorem kX11_meet_1 (d : Nat) (h : zH) (p1 p2 p3 p4 : Int32) (s0 : zsh h 0 = some (11, 16)) (s2 : zsh h 2 = some (4, 15)) (i2_7 : h.2.1 2 7 = 0) (r0_3 : h.2.2.2.1 0 3 = some 2) : zCi (d + 1) mX11_meet [.inr (.inr (some 0)), .inl p1, .inl p2, .inl p3, .inl p4] h (fun x h' => x = (-1) ∧ h' = zsI (h) 0 2 1) := by
  show zEx none (d + 1) mX11_meet (0, [(0, .inr (.inr (some 0))), (1, .inl p1), (2, .inl p2), (3, .inl p3), (4, .inl p4)], [], h) _
  refine ex_aload_n (pc' := 1) dX11_meet_0 rfl rfl ?_
  refine ex_iload_n (pc' := 2) dX11_meet_1 rfl rfl ?_
  refine en_callvI (pc' := 5) (vs := [.inl p1]) (rest := []) (h2 := h) (v := 0) dX11_meet_2 ml_11_147 ⟨zble rfl, zble rfl⟩ rfl rfl s0 (zblt rfl) (zble rfl) rfl (kX11_isBox_1 _ h p1 s0 s2 i2_7 r0_3) ?_
  refine ex_if_t (pc' := 44) dX11_meet_5 (by decide) (by decide) ?_
  refine ex_aload_n (pc' := 45) dX11_meet_44 rfl rfl ?_
  refine ex_iconst (v := 1) (pc' := 46) dX11_meet_45 (by decide) rfl ?_
  refine en_callvI (pc' := 49) (vs := [.inl 1]) (rest := []) (h2 := zsI (h) 0 2 1) (v := (-1)) dX11_meet_46 ml_11_98 ⟨zble rfl, zble rfl⟩ rfl rfl s0 (zblt rfl) (zble rfl) rfl (kX11_refused_1 _ h s0) ?_
  exact ex_iretI dX11_meet_49 rfl rfl ⟨rfl, rfl⟩
set_option maxRecDepth 10000 in
theorem kX12_meet_1 (d : Nat) (h : zH) (p1 p2 p3 p4 : Int32) (s196 : zsh h 196 = some (12, 39)) (i196_14 : h.2.1 196 14 = 0) : zCi (d + 1) mX12_meet [.inr (.inr (some 196)), .inl p1, .inl p2, .inl p3, .inl p4] h (fun x h' => x = (-1) ∧ h' = zsI (zsI (zsI (h) 196 0 0) 196 11 0) 196 11 1) := by
  show zEx none (d + 1) mX12_meet (0, [(0, .inr (.inr (some 196))), (1, .inl p1), (2, .inl p2), (3, .inl p3), (4, .inl p4)], [], h) _
  refine ex_aload_n (pc' := 1) dX12_meet_0 rfl rfl ?_
  refine en_callvV (pc' := 4) (vs := []) (rest := []) (h2 := zsI (zsI (h) 196 0 0) 196 11 0) dX12_meet_1 ml_12_167 ⟨zble rfl, zble rfl⟩ rfl rfl s196 (zblt rfl) (zble rfl) rfl (kX12_good_1 _ h s196) ?_
  refine ex_aload_n (pc' := 5) dX12_meet_4 rfl rfl ?_
  refine ex_iload_n (pc' := 6) dX12_meet_5 rfl rfl ?_
  refine en_callvI (pc' := 9) (vs := [.inl p1]) (rest := []) (h2 := zsI (zsI (h) 196 0 0) 196 11 0) (v := 0) dX12_meet_6 ml_12_274 ⟨zble rfl, zble rfl⟩ rfl rfl (zsiI (zsiI s196)) (zblt rfl) (zble rfl) rfl (kX12_isBox_1 _ (zsI (zsI (h) 196 0 0) 196 11 0) p1 (zsiI (zsiI s196)) i196_14) ?_
  refine ex_if_t (pc' := 48) dX12_meet_9 (by decide) (by decide) ?_
  refine ex_aload_n (pc' := 49) dX12_meet_48 rfl rfl ?_
  refine ex_iconst (v := 1) (pc' := 50) dX12_meet_49 (by decide) rfl ?_
  refine en_callvI (pc' := 53) (vs := [.inl 1]) (rest := []) (h2 := zsI (zsI (zsI (h) 196 0 0) 196 11 0) 196 11 1) (v := (-1)) dX12_meet_50 ml_12_170 ⟨zble rfl, zble rfl⟩ rfl rfl (zsiI (zsiI s196)) (zblt rfl) (zble rfl) rfl (kX12_no_1 _ (zsI (zsI (h) 196 0 0) 196 11 0) (zsiI (zsiI s196))) ?_
  exact ex_iretI dX12_meet_53 rfl rfl ⟨rfl, rfl⟩
set_option maxRecDepth 10000 in
theorem kX11_fits_1 (d : Nat) (h : zH) (s0 : zsh h 0 = some (11, 16)) (s2 : zsh h 2 = some (4, 15)) (i2_4 : h.2.1 2 4 = 0) (r0_3 : h.2.2.2.1 0 3 = some 2) : zCi (d + 1) mX11_fits [.inr (.inr (some 0))] h (fun x h' => x = (-1) ∧ h' = zsI (h) 0 2 1) := by
  show zEx none (d + 1) mX11_fits (0, [(0, .inr (.inr (some 0)))], [], h) _
  refine ex_aload_n (pc' := 1) dX11_fits_0 rfl rfl ?_
  refine en_callvI (pc' := 4) (vs := []) (rest := []) (h2 := h) (v := 0) dX11_fits_1 ml_11_222 ⟨zble rfl, zble rfl⟩ rfl rfl s0 (zblt rfl) (zble rfl) rfl (kX11_hasPost_1 _ h s0 s2 i2_4 r0_3) ?_
  refine ex_if_t (pc' := 21) dX11_fits_4 (by decide) (by decide) ?_
  refine ex_aload_n (pc' := 22) dX11_fits_21 rfl rfl ?_
  refine ex_iconst (v := 1) (pc' := 23) dX11_fits_22 (by decide) rfl ?_
  refine en_callvI (pc' := 26) (vs := [.inl 1]) (rest := []) (h2 := zsI (h) 0 2 1) (v := (-1)) dX11_fits_23 ml_11_98 ⟨zble rfl, zble rfl⟩ rfl rfl s0 (zblt rfl) (zble rfl) rfl (kX11_refused_1 _ h s0) ?_
  exact ex_iretI dX11_fits_26 rfl rfl ⟨rfl, rfl⟩
set_option maxRecDepth 10000 in
theorem kX12_fits_1 (d : Nat) (h : zH) (s196 : zsh h 196 = some (12, 39)) (i196_14 : h.2.1 196 14 = 0) : zCi (d + 1) mX12_fits [.inr (.inr (some 196))] h (fun x h' => x = (-1) ∧ h' = zsI (zsI (zsI (h) 196 0 0) 196 11 0) 196 11 1) := by
  show zEx none (d + 1) mX12_fits (0, [(0, .inr (.inr (some 196)))], [], h) _
  refine ex_aload_n (pc' := 1) dX12_fits_0 rfl rfl ?_
  refine en_callvV (pc' := 4) (vs := []) (rest := []) (h2 := zsI (zsI (h) 196 0 0) 196 11 0) dX12_fits_1 ml_12_167 ⟨zble rfl, zble rfl⟩ rfl rfl s196 (zblt rfl) (zble rfl) rfl (kX12_good_1 _ h s196) ?_
  refine ex_aload_n (pc' := 5) dX12_fits_4 rfl rfl ?_
  refine ex_getI (pc' := 8) (v := 0) dX12_fits_5 fl_12_180 (zsiI (zsiI s196)) (by decide) i196_14 rfl ?_
  refine ex_if_f (pc' := 11) dX12_fits_8 (by decide) (by decide) rfl ?_
  refine ex_aload_n (pc' := 12) dX12_fits_11 rfl rfl ?_
  refine ex_iconst (v := 1) (pc' := 13) dX12_fits_12 (by decide) rfl ?_
  refine en_callvI (pc' := 16) (vs := [.inl 1]) (rest := []) (h2 := zsI (zsI (zsI (h) 196 0 0) 196 11 0) 196 11 1) (v := (-1)) dX12_fits_13 ml_12_170 ⟨zble rfl, zble rfl⟩ rfl rfl (zsiI (zsiI s196)) (zblt rfl) (zble rfl) rfl (kX12_no_1 _ (zsI (zsI (h) 196 0 0) 196 11 0) (zsiI (zsiI s196))) ?_
  exact ex_iretI dX12_fits_16 rfl rfl ⟨rfl, rfl⟩
set_option maxRecDepth 10000 in
theorem kX11_reach_1 (d : Nat) (h : zH) (p1 p2 : Int32) (s0 : zsh h 0 = some (11, 16)) (s2 : zsh h 2 = some (4, 15)) (i2_6 : h.2.1 2 6 = 0) (r0_3 : h.2.2.2.1 0 3 = some 2) : zCi (d + 1) mX11_reach [.inr (.inr (some 0)), .inl p1, .inl p2] h (fun x h' => x = (-1) ∧ h' = zsI (h) 0 2 1) := by
  show zEx none (d + 1) mX11_reach (0, [(0, .inr (.inr (some 0))), (1, .inl p1), (2, .inl p2)], [], h) _
  refine ex_aload_n (pc' := 1) dX11_reach_0 rfl rfl ?_
  refine ex_iload_n (pc' := 2) dX11_reach_1 rfl rfl ?_
  refine en_callvI (pc' := 5) (vs := [.inl p1]) (rest := []) (h2 := h) (v := 0) dX11_reach_2 ml_11_121 ⟨zble rfl, zble rfl⟩ rfl rfl s0 (zblt rfl) (zble rfl) rfl (kX11_isWhale_1 _ h p1 s0 s2 i2_6 r0_3) ?_
  refine ex_if_f (pc' := 8) dX11_reach_5 (by decide) (by decide) rfl ?_
  refine ex_aload_n (pc' := 9) dX11_reach_8 rfl rfl ?_
  refine ex_iconst (v := 1) (pc' := 10) dX11_reach_9 (by decide) rfl ?_
  refine en_callvI (pc' := 13) (vs := [.inl 1]) (rest := []) (h2 := zsI (h) 0 2 1) (v := (-1)) dX11_reach_10 ml_11_98 ⟨zble rfl, zble rfl⟩ rfl rfl s0 (zblt rfl) (zble rfl) rfl (kX11_refused_1 _ h s0) ?_
  exact ex_iretI dX11_reach_13 rfl rfl ⟨rfl, rfl⟩
set_option maxRecDepth 10000 in
theorem kX12_reach_1 (d : Nat) (h : zH) (p1 p2 : Int32) (s196 : zsh h 196 = some (12, 39)) (i196_14 : h.2.1 196 14 = 0) : zCi (d + 1) mX12_reach [.inr (.inr (some 196)), .inl p1, .inl p2] h (fun x h' => x = (-1) ∧ h' = zsI (zsI (zsI (h) 196 0 0) 196 11 0) 196 11 1) := by
  show zEx none (d + 1) mX12_reach (0, [(0, .inr (.inr (some 196))), (1, .inl p1), (2, .inl p2)], [], h) _
  refine ex_aload_n (pc' := 1) dX12_reach_0 rfl rfl ?_
  refine en_callvV (pc' := 4) (vs := []) (rest := []) (h2 := zsI (zsI (h) 196 0 0) 196 11 0) dX12_reach_1 ml_12_167 ⟨zble rfl, zble rfl⟩ rfl rfl s196 (zblt rfl) (zble rfl) rfl (kX12_good_1 _ h s196) ?_
  refine ex_aload_n (pc' := 5) dX12_reach_4 rfl rfl ?_
  refine ex_iload_n (pc' := 6) dX12_reach_5 rfl rfl ?_
  refine en_callvI (pc' := 9) (vs := [.inl p1]) (rest := []) (h2 := zsI (zsI (h) 196 0 0) 196 11 0) (v := 0) dX12_reach_6 ml_12_268 ⟨zble rfl, zble rfl⟩ rfl rfl (zsiI (zsiI s196)) (zblt rfl) (zble rfl) rfl (kX12_isWhale_1 _ (zsI (zsI (h) 196 0 0) 196 11 0) p1 (zsiI (zsiI s196)) i196_14) ?_
  refine ex_if_f (pc' := 12) dX12_reach_9 (by decide) (by decide) rfl ?_
  refine ex_aload_n (pc' := 13) dX12_reach_12 rfl rfl ?_
  refine ex_iconst (v := 1) (pc' := 14) dX12_reach_13 (by decide) rfl ?_
  refine en_callvI (pc' := 17) (vs := [.inl 1]) (rest := []) (h2 := zsI (zsI (zsI (h) 196 0 0) 196 11 0) 196 11 1) (v := (-1)) dX12_reach_14 ml_12_170 ⟨zble rfl, zble rfl⟩ rfl rfl (zsiI (zsiI s196)) (zblt rfl) (zble rfl) rfl (kX12_no_1 _ (zsI (zsI (h) 196 0 0) 196 11 0) (zsiI (zsiI s196))) ?_
  exact ex_iretI dX12_reach_17 rfl rfl ⟨rfl, rfl⟩
set_option maxRecDepth 10000 in
theorem kX11_pier_1 (d : Nat) (h : zH) (p1 : Int32) (s0 : zsh h 0 = some (11, 16)) (s2 : zsh h 2 = some (4, 15)) (i2_4 : h.2.1 2 4 = 0) (r0_3 : h.2.2.2.1 0 3 = some 2) : zCi (d + 1) mX11_pier [.inr (.inr (some 0)), .inl p1] h (fun x h' => x = (-1) ∧ h' = zsI (h) 0 2 1) := by
  show zEx none (d + 1) mX11_pier (0, [(0, .inr (.inr (some 0))), (1, .inl p1)], [], h) _
  refine ex_aload_n (pc' := 1) dX11_pier_0 rfl rfl ?_
  refine en_callvI (pc' := 4) (vs := []) (rest := []) (h2 := h) (v := 0) dX11_pier_1 ml_11_222 ⟨zble rfl, zble rfl⟩ rfl rfl s0 (zblt rfl) (zble rfl) rfl (kX11_hasPost_1 _ h s0 s2 i2_4 r0_3) ?_
  refine ex_if_f (pc' := 7) dX11_pier_4 (by decide) (by decide) rfl ?_
  refine ex_aload_n (pc' := 8) dX11_pier_7 rfl rfl ?_
  refine ex_iconst (v := 1) (pc' := 9) dX11_pier_8 (by decide) rfl ?_
  refine en_callvI (pc' := 12) (vs := [.inl 1]) (rest := []) (h2 := zsI (h) 0 2 1) (v := (-1)) dX11_pier_9 ml_11_98 ⟨zble rfl, zble rfl⟩ rfl rfl s0 (zblt rfl) (zble rfl) rfl (kX11_refused_1 _ h s0) ?_
  exact ex_iretI dX11_pier_12 rfl rfl ⟨rfl, rfl⟩
set_option maxRecDepth 10000 in
theorem kX12_pier_1 (d : Nat) (h : zH) (p1 : Int32) (s196 : zsh h 196 = some (12, 39)) (i196_14 : h.2.1 196 14 = 0) : zCi (d + 1) mX12_pier [.inr (.inr (some 196)), .inl p1] h (fun x h' => x = (-1) ∧ h' = zsI (zsI (zsI (h) 196 0 0) 196 11 0) 196 11 1) := by
  show zEx none (d + 1) mX12_pier (0, [(0, .inr (.inr (some 196))), (1, .inl p1)], [], h) _
  refine ex_aload_n (pc' := 1) dX12_pier_0 rfl rfl ?_
  refine en_callvV (pc' := 4) (vs := []) (rest := []) (h2 := zsI (zsI (h) 196 0 0) 196 11 0) dX12_pier_1 ml_12_167 ⟨zble rfl, zble rfl⟩ rfl rfl s196 (zblt rfl) (zble rfl) rfl (kX12_good_1 _ h s196) ?_
  refine ex_aload_n (pc' := 5) dX12_pier_4 rfl rfl ?_
  refine ex_getI (pc' := 8) (v := 0) dX12_pier_5 fl_12_180 (zsiI (zsiI s196)) (by decide) i196_14 rfl ?_
  refine ex_if_f (pc' := 11) dX12_pier_8 (by decide) (by decide) rfl ?_
  refine ex_aload_n (pc' := 12) dX12_pier_11 rfl rfl ?_
  refine ex_iconst (v := 1) (pc' := 13) dX12_pier_12 (by decide) rfl ?_
  refine en_callvI (pc' := 16) (vs := [.inl 1]) (rest := []) (h2 := zsI (zsI (zsI (h) 196 0 0) 196 11 0) 196 11 1) (v := (-1)) dX12_pier_13 ml_12_170 ⟨zble rfl, zble rfl⟩ rfl rfl (zsiI (zsiI s196)) (zblt rfl) (zble rfl) rfl (kX12_no_1 _ (zsI (zsI (h) 196 0 0) 196 11 0) (zsiI (zsiI s196))) ?_
  exact ex_iretI dX12_pier_16 rfl rfl ⟨rfl, rfl⟩
set_option maxRecDepth 10000 in
theorem kX11_watch_1 (d : Nat) (h : zH) (p1 p2 : Int32) (s0 : zsh h 0 = some (11, 16)) (s2 : zsh h 2 = some (4, 15)) (i2_4 : h.2.1 2 4 = 0) (r0_3 : h.2.2.2.1 0 3 = some 2) : zCi (d + 2) mX11_watch [.inr (.inr (some 0)), .inl p1, .inl p2] h (fun x h' => x = (-1) ∧ h' = zsI (h) 0 2 1) := by
  show zEx none (d + 2) mX11_watch (0, [(0, .inr (.inr (some 0))), (1, .inl p1), (2, .inl p2)], [], h) _
  refine ex_aload_n (pc' := 1) dX11_watch_0 rfl rfl ?_
  refine ex_iload_n (pc' := 2) dX11_watch_1 rfl rfl ?_
  refine ex_iload_n (pc' := 3) dX11_watch_2 rfl rfl ?_
  refine en_callvI (pc' := 6) (vs := [.inl p1, .inl p2]) (rest := []) (h2 := h) (v := 0) dX11_watch_3 ml_11_204 ⟨zble rfl, zble rfl⟩ rfl rfl s0 (zblt rfl) (zble rfl) rfl (kX11_areTwoIslands_1 _ h p1 p2 s0 s2 i2_4 r0_3) ?_
  refine ex_if_t (pc' := 32) dX11_watch_6 (by decide) (by decide) ?_
  refine ex_aload_n (pc' := 33) dX11_watch_32 rfl rfl ?_
  refine ex_iconst (v := 1) (pc' := 34) dX11_watch_33 (by decide) rfl ?_
  refine en_callvI (pc' := 37) (vs := [.inl 1]) (rest := []) (h2 := zsI (h) 0 2 1) (v := (-1)) dX11_watch_34 ml_11_98 ⟨zble rfl, zble rfl⟩ rfl rfl s0 (zblt rfl) (zble rfl) rfl (kX11_refused_1 _ h s0) ?_
  exact ex_iretI dX11_watch_37 rfl rfl ⟨rfl, rfl⟩
set_option maxRecDepth 10000 in
theorem kX12_watch_1 (d : Nat) (h : zH) (p1 p2 : Int32) (s196 : zsh h 196 = some (12, 39)) (i196_14 : h.2.1 196 14 = 0) : zCi (d + 1) mX12_watch [.inr (.inr (some 196)), .inl p1, .inl p2] h (fun x h' => x = (-1) ∧ h' = zsI (zsI (zsI (h) 196 0 0) 196 11 0) 196 11 1) := by
  show zEx none (d + 1) mX12_watch (0, [(0, .inr (.inr (some 196))), (1, .inl p1), (2, .inl p2)], [], h) _
  refine ex_aload_n (pc' := 1) dX12_watch_0 rfl rfl ?_
  refine en_callvV (pc' := 4) (vs := []) (rest := []) (h2 := zsI (zsI (h) 196 0 0) 196 11 0) dX12_watch_1 ml_12_167 ⟨zble rfl, zble rfl⟩ rfl rfl s196 (zblt rfl) (zble rfl) rfl (kX12_good_1 _ h s196) ?_
  refine ex_aload_n (pc' := 5) dX12_watch_4 rfl rfl ?_
  refine ex_iload_n (pc' := 6) dX12_watch_5 rfl rfl ?_
  refine en_callvI (pc' := 9) (vs := [.inl p1]) (rest := []) (h2 := zsI (zsI (h) 196 0 0) 196 11 0) (v := 0) dX12_watch_6 ml_12_277 ⟨zble rfl, zble rfl⟩ rfl rfl (zsiI (zsiI s196)) (zblt rfl) (zble rfl) rfl (kX12_isIsland_1 _ (zsI (zsI (h) 196 0 0) 196 11 0) p1 (zsiI (zsiI s196)) i196_14) ?_
  refine ex_if_t (pc' := 25) dX12_watch_9 (by decide) (by decide) ?_
  refine ex_aload_n (pc' := 26) dX12_watch_25 rfl rfl ?_
  refine ex_iconst (v := 1) (pc' := 27) dX12_watch_26 (by decide) rfl ?_
  refine en_callvI (pc' := 30) (vs := [.inl 1]) (rest := []) (h2 := zsI (zsI (zsI (h) 196 0 0) 196 11 0) 196 11 1) (v := (-1)) dX12_watch_27 ml_12_170 ⟨zble rfl, zble rfl⟩ rfl rfl (zsiI (zsiI s196)) (zblt rfl) (zble rfl) rfl (kX12_no_1 _ (zsI (zsI (h) 196 0 0) 196 11 0) (zsiI (zsiI s196))) ?_
  exact ex_iretI dX12_watch_30 rfl rfl ⟨rfl, rfl⟩
set_option maxRecDepth 10000 in
theorem kX11_round_1 (d : Nat) (h : zH) (p1 : Int32) (s0 : zsh h 0 = some (11, 16)) (s2 : zsh h 2 = some (4, 15)) (i2_4 : h.2.1 2 4 = 0) (r0_3 : h.2.2.2.1 0 3 = some 2) : zCi (d + 1) mX11_round [.inr (.inr (some 0)), .inl p1] h (fun x h' => x = (-1) ∧ h' = zsI (h) 0 2 1) := by
  show zEx none (d + 1) mX11_round (0, [(0, .inr (.inr (some 0))), (1, .inl p1)], [], h) _
  refine ex_aload_n (pc' := 1) dX11_round_0 rfl rfl ?_
  refine ex_iload_n (pc' := 2) dX11_round_1 rfl rfl ?_
  refine en_callvI (pc' := 5) (vs := [.inl p1]) (rest := []) (h2 := h) (v := 0) dX11_round_2 ml_11_174 ⟨zble rfl, zble rfl⟩ rfl rfl s0 (zblt rfl) (zble rfl) rfl (kX11_isIsland_1 _ h p1 s0 s2 i2_4 r0_3) ?_
  refine ex_if_t (pc' := 30) dX11_round_5 (by decide) (by decide) ?_
  refine ex_aload_n (pc' := 31) dX11_round_30 rfl rfl ?_
  refine ex_iconst (v := 1) (pc' := 32) dX11_round_31 (by decide) rfl ?_
  refine en_callvI (pc' := 35) (vs := [.inl 1]) (rest := []) (h2 := zsI (h) 0 2 1) (v := (-1)) dX11_round_32 ml_11_98 ⟨zble rfl, zble rfl⟩ rfl rfl s0 (zblt rfl) (zble rfl) rfl (kX11_refused_1 _ h s0) ?_
  exact ex_iretI dX11_round_35 rfl rfl ⟨rfl, rfl⟩
set_option maxRecDepth 10000 in
theorem kX12_round_1 (d : Nat) (h : zH) (p1 : Int32) (s196 : zsh h 196 = some (12, 39)) (i196_14 : h.2.1 196 14 = 0) : zCi (d + 1) mX12_round [.inr (.inr (some 196)), .inl p1] h (fun x h' => x = (-1) ∧ h' = zsI (zsI (zsI (h) 196 0 0) 196 11 0) 196 11 1) := by
  show zEx none (d + 1) mX12_round (0, [(0, .inr (.inr (some 196))), (1, .inl p1)], [], h) _
  refine ex_aload_n (pc' := 1) dX12_round_0 rfl rfl ?_
  refine en_callvV (pc' := 4) (vs := []) (rest := []) (h2 := zsI (zsI (h) 196 0 0) 196 11 0) dX12_round_1 ml_12_167 ⟨zble rfl, zble rfl⟩ rfl rfl s196 (zblt rfl) (zble rfl) rfl (kX12_good_1 _ h s196) ?_
  refine ex_aload_n (pc' := 5) dX12_round_4 rfl rfl ?_
  refine ex_iload_n (pc' := 6) dX12_round_5 rfl rfl ?_
  refine en_callvI (pc' := 9) (vs := [.inl p1]) (rest := []) (h2 := zsI (zsI (h) 196 0 0) 196 11 0) (v := 0) dX12_round_6 ml_12_277 ⟨zble rfl, zble rfl⟩ rfl rfl (zsiI (zsiI s196)) (zblt rfl) (zble rfl) rfl (kX12_isIsland_1 _ (zsI (zsI (h) 196 0 0) 196 11 0) p1 (zsiI (zsiI s196)) i196_14) ?_
  refine ex_if_t (pc' := 20) dX12_round_9 (by decide) (by decide) ?_
  refine ex_aload_n (pc' := 21) dX12_round_20 rfl rfl ?_
  refine ex_iconst (v := 1) (pc' := 22) dX12_round_21 (by decide) rfl ?_
  refine en_callvI (pc' := 25) (vs := [.inl 1]) (rest := []) (h2 := zsI (zsI (zsI (h) 196 0 0) 196 11 0) 196 11 1) (v := (-1)) dX12_round_22 ml_12_170 ⟨zble rfl, zble rfl⟩ rfl rfl (zsiI (zsiI s196)) (zblt rfl) (zble rfl) rfl (kX12_no_1 _ (zsI (zsI (h) 196 0 0) 196 11 0) (zsiI (zsiI s196))) ?_
  exact ex_iretI dX12_round_25 rfl rfl ⟨rfl, rfl⟩
set_option maxRecDepth 10000 in
theorem kX11_roundAt_1 (d : Nat) (h : zH) (p1 p2 : Int32) (s0 : zsh h 0 = some (11, 16)) (s2 : zsh h 2 = some (4, 15)) (i2_4 : h.2.1 2 4 = 0) (r0_3 : h.2.2.2.1 0 3 = some 2) : zCi (d + 1) mX11_roundAt [.inr (.inr (some 0)), .inl p1, .inl p2] h (fun x h' => x = (-1) ∧ h' = zsI (h) 0 2 1) := by
  show zEx none (d + 1) mX11_roundAt (0, [(0, .inr (.inr (some 0))), (1, .inl p1), (2, .inl p2)], [], h) _
  refine ex_aload_n (pc' := 1) dX11_roundAt_0 rfl rfl ?_
  refine ex_iload_n (pc' := 2) dX11_roundAt_1 rfl rfl ?_
  refine en_callvI (pc' := 5) (vs := [.inl p1]) (rest := []) (h2 := h) (v := 0) dX11_roundAt_2 ml_11_174 ⟨zble rfl, zble rfl⟩ rfl rfl s0 (zblt rfl) (zble rfl) rfl (kX11_isIsland_1 _ h p1 s0 s2 i2_4 r0_3) ?_
  refine ex_if_t (pc' := 16) dX11_roundAt_5 (by decide) (by decide) ?_
  refine ex_aload_n (pc' := 17) dX11_roundAt_16 rfl rfl ?_
  refine ex_iconst (v := 1) (pc' := 18) dX11_roundAt_17 (by decide) rfl ?_
  refine en_callvI (pc' := 21) (vs := [.inl 1]) (rest := []) (h2 := zsI (h) 0 2 1) (v := (-1)) dX11_roundAt_18 ml_11_98 ⟨zble rfl, zble rfl⟩ rfl rfl s0 (zblt rfl) (zble rfl) rfl (kX11_refused_1 _ h s0) ?_
  exact ex_iretI dX11_roundAt_21 rfl rfl ⟨rfl, rfl⟩
set_option maxRecDepth 10000 in
theorem kX12_roundAt_1 (d : Nat) (h : zH) (p1 p2 : Int32) (s196 : zsh h 196 = some (12, 39)) (i196_14 : h.2.1 196 14 = 0) : zCi (d + 1) mX12_roundAt [.inr (.inr (some 196)), .inl p1, .inl p2] h (fun x h' => x = (-1) ∧ h' = zsI (zsI (zsI (h) 196 0 0) 196 11 0) 196 11 1) := by
  show zEx none (d + 1) mX12_roundAt (0, [(0, .inr (.inr (some 196))), (1, .inl p1), (2, .inl p2)], [], h) _
  refine ex_aload_n (pc' := 1) dX12_roundAt_0 rfl rfl ?_
  refine en_callvV (pc' := 4) (vs := []) (rest := []) (h2 := zsI (zsI (h) 196 0 0) 196 11 0) dX12_roundAt_1 ml_12_167 ⟨zble rfl, zble rfl⟩ rfl rfl s196 (zblt rfl) (zble rfl) rfl (kX12_good_1 _ h s196) ?_
  refine ex_aload_n (pc' := 5) dX12_roundAt_4 rfl rfl ?_
  refine ex_iload_n (pc' := 6) dX12_roundAt_5 rfl rfl ?_
  refine en_callvI (pc' := 9) (vs := [.inl p1]) (rest := []) (h2 := zsI (zsI (h) 196 0 0) 196 11 0) (v := 0) dX12_roundAt_6 ml_12_277 ⟨zble rfl, zble rfl⟩ rfl rfl (zsiI (zsiI s196)) (zblt rfl) (zble rfl) rfl (kX12_isIsland_1 _ (zsI (zsI (h) 196 0 0) 196 11 0) p1 (zsiI (zsiI s196)) i196_14) ?_
  refine ex_if_t (pc' := 28) dX12_roundAt_9 (by decide) (by decide) ?_
  refine ex_aload_n (pc' := 29) dX12_roundAt_28 rfl rfl ?_
  refine ex_iconst (v := 1) (pc' := 30) dX12_roundAt_29 (by decide) rfl ?_
  refine en_callvI (pc' := 33) (vs := [.inl 1]) (rest := []) (h2 := zsI (zsI (zsI (h) 196 0 0) 196 11 0) 196 11 1) (v := (-1)) dX12_roundAt_30 ml_12_170 ⟨zble rfl, zble rfl⟩ rfl rfl (zsiI (zsiI s196)) (zblt rfl) (zble rfl) rfl (kX12_no_1 _ (zsI (zsI (h) 196 0 0) 196 11 0) (zsiI (zsiI s196))) ?_
  exact ex_iretI dX12_roundAt_33 rfl rfl ⟨rfl, rfl⟩
set_option maxRecDepth 10000 in
theorem kX11_decade_1 (d : Nat) (h : zH) (p1 p2 : Int32) (s0 : zsh h 0 = some (11, 16)) (s2 : zsh h 2 = some (4, 15)) (i2_4 : h.2.1 2 4 = 0) (r0_3 : h.2.2.2.1 0 3 = some 2) : zCi (d + 1) mX11_decade [.inr (.inr (some 0)), .inl p1, .inl p2] h (fun x h' => x = (-1) ∧ h' = zsI (h) 0 2 1) := by
  show zEx none (d + 1) mX11_decade (0, [(0, .inr (.inr (some 0))), (1, .inl p1), (2, .inl p2)], [], h) _
  refine ex_aload_n (pc' := 1) dX11_decade_0 rfl rfl ?_
  refine en_callvI (pc' := 4) (vs := []) (rest := []) (h2 := h) (v := 0) dX11_decade_1 ml_11_222 ⟨zble rfl, zble rfl⟩ rfl rfl s0 (zblt rfl) (zble rfl) rfl (kX11_hasPost_1 _ h s0 s2 i2_4 r0_3) ?_
  refine ex_if_f (pc' := 7) dX11_decade_4 (by decide) (by decide) rfl ?_
  refine ex_aload_n (pc' := 8) dX11_decade_7 rfl rfl ?_
  refine ex_iconst (v := 1) (pc' := 9) dX11_decade_8 (by decide) rfl ?_
  refine en_callvI (pc' := 12) (vs := [.inl 1]) (rest := []) (h2 := zsI (h) 0 2 1) (v := (-1)) dX11_decade_9 ml_11_98 ⟨zble rfl, zble rfl⟩ rfl rfl s0 (zblt rfl) (zble rfl) rfl (kX11_refused_1 _ h s0) ?_
  exact ex_iretI dX11_decade_12 rfl rfl ⟨rfl, rfl⟩
set_option maxRecDepth 10000 in
theorem kX12_decade_1 (d : Nat) (h : zH) (p1 p2 : Int32) (s196 : zsh h 196 = some (12, 39)) (i196_14 : h.2.1 196 14 = 0) : zCi (d + 1) mX12_decade [.inr (.inr (some 196)), .inl p1, .inl p2] h (fun x h' => x = (-1) ∧ h' = zsI (zsI (zsI (h) 196 0 0) 196 11 0) 196 11 1) := by
  show zEx none (d + 1) mX12_decade (0, [(0, .inr (.inr (some 196))), (1, .inl p1), (2, .inl p2)], [], h) _
  refine ex_aload_n (pc' := 1) dX12_decade_0 rfl rfl ?_
  refine en_callvV (pc' := 4) (vs := []) (rest := []) (h2 := zsI (zsI (h) 196 0 0) 196 11 0) dX12_decade_1 ml_12_167 ⟨zble rfl, zble rfl⟩ rfl rfl s196 (zblt rfl) (zble rfl) rfl (kX12_good_1 _ h s196) ?_
  refine ex_aload_n (pc' := 5) dX12_decade_4 rfl rfl ?_
  refine ex_getI (pc' := 8) (v := 0) dX12_decade_5 fl_12_180 (zsiI (zsiI s196)) (by decide) i196_14 rfl ?_
  refine ex_if_f (pc' := 11) dX12_decade_8 (by decide) (by decide) rfl ?_
  refine ex_aload_n (pc' := 12) dX12_decade_11 rfl rfl ?_
  refine ex_iconst (v := 1) (pc' := 13) dX12_decade_12 (by decide) rfl ?_
  refine en_callvI (pc' := 16) (vs := [.inl 1]) (rest := []) (h2 := zsI (zsI (zsI (h) 196 0 0) 196 11 0) 196 11 1) (v := (-1)) dX12_decade_13 ml_12_170 ⟨zble rfl, zble rfl⟩ rfl rfl (zsiI (zsiI s196)) (zblt rfl) (zble rfl) rfl (kX12_no_1 _ (zsI (zsI (h) 196 0 0) 196 11 0) (zsiI (zsiI s196))) ?_
  exact ex_iretI dX12_decade_16 rfl rfl ⟨rfl, rfl⟩
set_option maxRecDepth 10000 in
theorem kX11_send_1 (d : Nat) (h : zH) (p1 p2 : Int32) (s0 : zsh h 0 = some (11, 16)) (s2 : zsh h 2 = some (4, 15)) (i2_6 : h.2.1 2 6 = 0) (r0_3 : h.2.2.2.1 0 3 = some 2) : zCi (d + 1) mX11_send [.inr (.inr (some 0)), .inl p1, .inl p2] h (fun x h' => x = (-1) ∧ h' = zsI (h) 0 2 1) := by
  show zEx none (d + 1) mX11_send (0, [(0, .inr (.inr (some 0))), (1, .inl p1), (2, .inl p2)], [], h) _
  refine ex_aload_n (pc' := 1) dX11_send_0 rfl rfl ?_
  refine ex_iload_n (pc' := 2) dX11_send_1 rfl rfl ?_
  refine en_callvI (pc' := 5) (vs := [.inl p1]) (rest := []) (h2 := h) (v := 0) dX11_send_2 ml_11_121 ⟨zble rfl, zble rfl⟩ rfl rfl s0 (zblt rfl) (zble rfl) rfl (kX11_isWhale_1 _ h p1 s0 s2 i2_6 r0_3) ?_
  refine ex_if_t (pc' := 16) dX11_send_5 (by decide) (by decide) ?_
  refine ex_aload_n (pc' := 17) dX11_send_16 rfl rfl ?_
  refine ex_iconst (v := 1) (pc' := 18) dX11_send_17 (by decide) rfl ?_
  refine en_callvI (pc' := 21) (vs := [.inl 1]) (rest := []) (h2 := zsI (h) 0 2 1) (v := (-1)) dX11_send_18 ml_11_98 ⟨zble rfl, zble rfl⟩ rfl rfl s0 (zblt rfl) (zble rfl) rfl (kX11_refused_1 _ h s0) ?_
  exact ex_iretI dX11_send_21 rfl rfl ⟨rfl, rfl⟩
set_option maxRecDepth 10000 in
theorem kX12_send_1 (d : Nat) (h : zH) (p1 p2 : Int32) (s196 : zsh h 196 = some (12, 39)) (i196_14 : h.2.1 196 14 = 0) : zCi (d + 1) mX12_send [.inr (.inr (some 196)), .inl p1, .inl p2] h (fun x h' => x = (-1) ∧ h' = zsI (zsI (zsI (h) 196 0 0) 196 11 0) 196 11 1) := by
  show zEx none (d + 1) mX12_send (0, [(0, .inr (.inr (some 196))), (1, .inl p1), (2, .inl p2)], [], h) _
  refine ex_aload_n (pc' := 1) dX12_send_0 rfl rfl ?_
  refine en_callvV (pc' := 4) (vs := []) (rest := []) (h2 := zsI (zsI (h) 196 0 0) 196 11 0) dX12_send_1 ml_12_167 ⟨zble rfl, zble rfl⟩ rfl rfl s196 (zblt rfl) (zble rfl) rfl (kX12_good_1 _ h s196) ?_
  refine ex_aload_n (pc' := 5) dX12_send_4 rfl rfl ?_
  refine ex_iload_n (pc' := 6) dX12_send_5 rfl rfl ?_
  refine en_callvI (pc' := 9) (vs := [.inl p1]) (rest := []) (h2 := zsI (zsI (h) 196 0 0) 196 11 0) (v := 0) dX12_send_6 ml_12_268 ⟨zble rfl, zble rfl⟩ rfl rfl (zsiI (zsiI s196)) (zblt rfl) (zble rfl) rfl (kX12_isWhale_1 _ (zsI (zsI (h) 196 0 0) 196 11 0) p1 (zsiI (zsiI s196)) i196_14) ?_
  refine ex_if_t (pc' := 20) dX12_send_9 (by decide) (by decide) ?_
  refine ex_aload_n (pc' := 21) dX12_send_20 rfl rfl ?_
  refine ex_iconst (v := 1) (pc' := 22) dX12_send_21 (by decide) rfl ?_
  refine en_callvI (pc' := 25) (vs := [.inl 1]) (rest := []) (h2 := zsI (zsI (zsI (h) 196 0 0) 196 11 0) 196 11 1) (v := (-1)) dX12_send_22 ml_12_170 ⟨zble rfl, zble rfl⟩ rfl rfl (zsiI (zsiI s196)) (zblt rfl) (zble rfl) rfl (kX12_no_1 _ (zsI (zsI (h) 196 0 0) 196 11 0) (zsiI (zsiI s196))) ?_
  exact ex_iretI dX12_send_25 rfl rfl ⟨rfl, rfl⟩
set_option maxRecDepth 10000 in
theorem kX11_hasRefused_1 (d : Nat) (h : zH) (s0 : zsh h 0 = some (11, 16)) : zCi (d + 0) mX11_hasRefused [.inr (.inr (some 0)), .inl 1] h (fun x h' => x = 0 ∧ h' = zsI (h) 0 2 1) := by
  show zEx none (d + 0) mX11_hasRefused (0, [(0, .inr (.inr (some 0))), (1, .inl 1)], [], h) _
  refine ex_aload_n (pc' := 1) dX11_hasRefused_0 rfl rfl ?_
  refine ex_iload_n (pc' := 2) dX11_hasRefused_1 rfl rfl ?_
  refine ex_putI (pc' := 5) dX11_hasRefused_2 fl_11_17 s0 (Or.inl rfl) (Or.inl rfl) rfl ?_
  refine ex_iconst (v := 0) (pc' := 6) dX11_hasRefused_5 (by decide) rfl ?_
  exact ex_iretI dX11_hasRefused_6 rfl (by decide) ⟨rfl, rfl⟩
set_option maxRecDepth 10000 in
theorem kX11_tune_1 (d : Nat) (h : zH) (p1 p2 p3 : Int32) (s0 : zsh h 0 = some (11, 16)) (s2 : zsh h 2 = some (4, 15)) (i2_7 : h.2.1 2 7 = 0) (r0_3 : h.2.2.2.1 0 3 = some 2) : zCi (d + 2) mX11_tune [.inr (.inr (some 0)), .inl p1, .inl p2, .inl p3] h (fun x h' => x = 0 ∧ h' = zsI (h) 0 2 1) := by
  show zEx none (d + 2) mX11_tune (0, [(0, .inr (.inr (some 0))), (1, .inl p1), (2, .inl p2), (3, .inl p3)], [], h) _
  refine ex_aload_n (pc' := 1) dX11_tune_0 rfl rfl ?_
  refine ex_iload_n (pc' := 2) dX11_tune_1 rfl rfl ?_
  refine ex_iload_n (pc' := 3) dX11_tune_2 rfl rfl ?_
  refine en_callvI (pc' := 6) (vs := [.inl p1, .inl p2]) (rest := []) (h2 := h) (v := 0) dX11_tune_3 ml_11_191 ⟨zble rfl, zble rfl⟩ rfl rfl s0 (zblt rfl) (zble rfl) rfl (kX11_isNoteOfBox_1 _ h p1 p2 s0 s2 i2_7 r0_3) ?_
  refine ex_if_f (pc' := 9) dX11_tune_6 (by decide) (by decide) rfl ?_
  refine ex_aload_n (pc' := 10) dX11_tune_9 rfl rfl ?_
  refine ex_iconst (v := 1) (pc' := 11) dX11_tune_10 (by decide) rfl ?_
  refine en_callvI (pc' := 14) (vs := [.inl 1]) (rest := []) (h2 := zsI (h) 0 2 1) (v := 0) dX11_tune_11 ml_11_347 ⟨zble rfl, zble rfl⟩ rfl rfl s0 (zblt rfl) (zble rfl) rfl (kX11_hasRefused_1 _ h s0) ?_
  exact ex_iretI dX11_tune_14 rfl (by decide) ⟨rfl, rfl⟩
set_option maxRecDepth 10000 in
theorem kX12_isNot_1 (d : Nat) (h : zH) (s196 : zsh h 196 = some (12, 39)) : zCi (d + 0) mX12_isNot [.inr (.inr (some 196)), .inl 1] h (fun x h' => x = 0 ∧ h' = zsI (h) 196 11 1) := by
  show zEx none (d + 0) mX12_isNot (0, [(0, .inr (.inr (some 196))), (1, .inl 1)], [], h) _
  refine ex_aload_n (pc' := 1) dX12_isNot_0 rfl rfl ?_
  refine ex_iload_n (pc' := 2) dX12_isNot_1 rfl rfl ?_
  refine ex_putI (pc' := 5) dX12_isNot_2 fl_12_65 s196 (Or.inl rfl) (Or.inl rfl) rfl ?_
  refine ex_iconst (v := 0) (pc' := 6) dX12_isNot_5 (by decide) rfl ?_
  exact ex_iretI dX12_isNot_6 rfl (by decide) ⟨rfl, rfl⟩
set_option maxRecDepth 10000 in
theorem kX12_tune_1 (d : Nat) (h : zH) (p1 p2 p3 : Int32) (s196 : zsh h 196 = some (12, 39)) (i196_14 : h.2.1 196 14 = 0) : zCi (d + 1) mX12_tune [.inr (.inr (some 196)), .inl p1, .inl p2, .inl p3] h (fun x h' => x = 0 ∧ h' = zsI (zsI (zsI (h) 196 0 0) 196 11 0) 196 11 1) := by
  show zEx none (d + 1) mX12_tune (0, [(0, .inr (.inr (some 196))), (1, .inl p1), (2, .inl p2), (3, .inl p3)], [], h) _
  refine ex_aload_n (pc' := 1) dX12_tune_0 rfl rfl ?_
  refine en_callvV (pc' := 4) (vs := []) (rest := []) (h2 := zsI (zsI (h) 196 0 0) 196 11 0) dX12_tune_1 ml_12_167 ⟨zble rfl, zble rfl⟩ rfl rfl s196 (zblt rfl) (zble rfl) rfl (kX12_good_1 _ h s196) ?_
  refine ex_aload_n (pc' := 5) dX12_tune_4 rfl rfl ?_
  refine ex_iload_n (pc' := 6) dX12_tune_5 rfl rfl ?_
  refine en_callvI (pc' := 9) (vs := [.inl p1]) (rest := []) (h2 := zsI (zsI (h) 196 0 0) 196 11 0) (v := 0) dX12_tune_6 ml_12_274 ⟨zble rfl, zble rfl⟩ rfl rfl (zsiI (zsiI s196)) (zblt rfl) (zble rfl) rfl (kX12_isBox_1 _ (zsI (zsI (h) 196 0 0) 196 11 0) p1 (zsiI (zsiI s196)) i196_14) ?_
  refine ex_if_t (pc' := 27) dX12_tune_9 (by decide) (by decide) ?_
  refine ex_aload_n (pc' := 28) dX12_tune_27 rfl rfl ?_
  refine ex_iconst (v := 1) (pc' := 29) dX12_tune_28 (by decide) rfl ?_
  refine en_callvI (pc' := 32) (vs := [.inl 1]) (rest := []) (h2 := zsI (zsI (zsI (h) 196 0 0) 196 11 0) 196 11 1) (v := 0) dX12_tune_29 ml_12_427 ⟨zble rfl, zble rfl⟩ rfl rfl (zsiI (zsiI s196)) (zblt rfl) (zble rfl) rfl (kX12_isNot_1 _ (zsI (zsI (h) 196 0 0) 196 11 0) (zsiI (zsiI s196))) ?_
  exact ex_iretI dX12_tune_32 rfl (by decide) ⟨rfl, rfl⟩
set_option maxRecDepth 10000 in
theorem kX11_years_1 (d : Nat) (h : zH) (p1 : Int32) (s0 : zsh h 0 = some (11, 16)) (s2 : zsh h 2 = some (4, 15)) (i2_4 : h.2.1 2 4 = 0) (r0_3 : h.2.2.2.1 0 3 = some 2) : zCi (d + 1) mX11_years [.inr (.inr (some 0)), .inl p1] h (fun x h' => x = (-1) ∧ h' = zsI (h) 0 2 1) := by
  show zEx none (d + 1) mX11_years (0, [(0, .inr (.inr (some 0))), (1, .inl p1)], [], h) _
  refine ex_aload_n (pc' := 1) dX11_years_0 rfl rfl ?_
  refine en_callvI (pc' := 4) (vs := []) (rest := []) (h2 := h) (v := 0) dX11_years_1 ml_11_222 ⟨zble rfl, zble rfl⟩ rfl rfl s0 (zblt rfl) (zble rfl) rfl (kX11_hasPost_1 _ h s0 s2 i2_4 r0_3) ?_
  refine ex_if_f (pc' := 7) dX11_years_4 (by decide) (by decide) rfl ?_
  refine ex_aload_n (pc' := 8) dX11_years_7 rfl rfl ?_
  refine ex_iconst (v := 1) (pc' := 9) dX11_years_8 (by decide) rfl ?_
  refine en_callvI (pc' := 12) (vs := [.inl 1]) (rest := []) (h2 := zsI (h) 0 2 1) (v := (-1)) dX11_years_9 ml_11_98 ⟨zble rfl, zble rfl⟩ rfl rfl s0 (zblt rfl) (zble rfl) rfl (kX11_refused_1 _ h s0) ?_
  exact ex_iretI dX11_years_12 rfl rfl ⟨rfl, rfl⟩
set_option maxRecDepth 10000 in
theorem kX12_years_1 (d : Nat) (h : zH) (p1 : Int32) (s196 : zsh h 196 = some (12, 39)) (i196_14 : h.2.1 196 14 = 0) : zCi (d + 1) mX12_years [.inr (.inr (some 196)), .inl p1] h (fun x h' => x = (-1) ∧ h' = zsI (zsI (zsI (h) 196 0 0) 196 11 0) 196 11 1) := by
  show zEx none (d + 1) mX12_years (0, [(0, .inr (.inr (some 196))), (1, .inl p1)], [], h) _
  refine ex_aload_n (pc' := 1) dX12_years_0 rfl rfl ?_
  refine en_callvV (pc' := 4) (vs := []) (rest := []) (h2 := zsI (zsI (h) 196 0 0) 196 11 0) dX12_years_1 ml_12_167 ⟨zble rfl, zble rfl⟩ rfl rfl s196 (zblt rfl) (zble rfl) rfl (kX12_good_1 _ h s196) ?_
  refine ex_aload_n (pc' := 5) dX12_years_4 rfl rfl ?_
  refine ex_getI (pc' := 8) (v := 0) dX12_years_5 fl_12_180 (zsiI (zsiI s196)) (by decide) i196_14 rfl ?_
  refine ex_if_f (pc' := 11) dX12_years_8 (by decide) (by decide) rfl ?_
  refine ex_aload_n (pc' := 12) dX12_years_11 rfl rfl ?_
  refine ex_iconst (v := 1) (pc' := 13) dX12_years_12 (by decide) rfl ?_
  refine en_callvI (pc' := 16) (vs := [.inl 1]) (rest := []) (h2 := zsI (zsI (zsI (h) 196 0 0) 196 11 0) 196 11 1) (v := (-1)) dX12_years_13 ml_12_170 ⟨zble rfl, zble rfl⟩ rfl rfl (zsiI (zsiI s196)) (zblt rfl) (zble rfl) rfl (kX12_no_1 _ (zsI (zsI (h) 196 0 0) 196 11 0) (zsiI (zsiI s196))) ?_
  exact ex_iretI dX12_years_16 rfl rfl ⟨rfl, rfl⟩
set_option maxRecDepth 10000 in
theorem kX11_isWay_1 (d : Nat) (h : zH) (p1 : Int32) (s0 : zsh h 0 = some (11, 16)) (s2 : zsh h 2 = some (4, 15)) (i2_5 : h.2.1 2 5 = 0) (r0_3 : h.2.2.2.1 0 3 = some 2) : zCi (d + 0) mX11_isWay [.inr (.inr (some 0)), .inl p1] h (fun x h' => x = 0 ∧ h' = h) := by
  show zEx none (d + 0) mX11_isWay (0, [(0, .inr (.inr (some 0))), (1, .inl p1)], [], h) _
  refine ex_iload_n (pc' := 1) dX11_isWay_0 rfl rfl ?_
  refine ex_if (pc' := 19) (pc2 := 4) dX11_isWay_1 (by decide) rfl (fun c583 => ?_) (fun c583 => ?_)
  · refine ex_iconst (v := 0) (pc' := 20) dX11_isWay_19 (by decide) rfl ?_
    exact ex_iretI dX11_isWay_20 rfl (by decide) ⟨rfl, rfl⟩
  · refine ex_iload_n (pc' := 5) dX11_isWay_4 rfl rfl ?_
    refine ex_aload_n (pc' := 6) dX11_isWay_5 rfl rfl ?_
    refine ex_getR (pc' := 9) (r := 2) dX11_isWay_6 fl_11_23 s0 (by decide) r0_3 rfl ?_
    refine ex_getI (pc' := 12) (v := 0) dX11_isWay_9 fl_11_379 s2 (by decide) i2_5 rfl ?_
    refine ex_icmp_t (pc' := 19) dX11_isWay_12 (zk_lt_ge c583) (by decide) ?_
    refine ex_iconst (v := 0) (pc' := 20) dX11_isWay_19 (by decide) rfl ?_
    exact ex_iretI dX11_isWay_20 rfl (by decide) ⟨rfl, rfl⟩
set_option maxRecDepth 10000 in
theorem kX11_close_1 (d : Nat) (h : zH) (p1 p2 : Int32) (s0 : zsh h 0 = some (11, 16)) (s2 : zsh h 2 = some (4, 15)) (i2_5 : h.2.1 2 5 = 0) (r0_3 : h.2.2.2.1 0 3 = some 2) : zCi (d + 1) mX11_close [.inr (.inr (some 0)), .inl p1, .inl p2] h (fun x h' => x = 0 ∧ h' = zsI (h) 0 2 1) := by
  show zEx none (d + 1) mX11_close (0, [(0, .inr (.inr (some 0))), (1, .inl p1), (2, .inl p2)], [], h) _
  refine ex_aload_n (pc' := 1) dX11_close_0 rfl rfl ?_
  refine ex_iload_n (pc' := 2) dX11_close_1 rfl rfl ?_
  refine en_callvI (pc' := 5) (vs := [.inl p1]) (rest := []) (h2 := h) (v := 0) dX11_close_2 ml_11_230 ⟨zble rfl, zble rfl⟩ rfl rfl s0 (zblt rfl) (zble rfl) rfl (kX11_isWay_1 _ h p1 s0 s2 i2_5 r0_3) ?_
  refine ex_if_f (pc' := 8) dX11_close_5 (by decide) (by decide) rfl ?_
  refine ex_aload_n (pc' := 9) dX11_close_8 rfl rfl ?_
  refine ex_iconst (v := 1) (pc' := 10) dX11_close_9 (by decide) rfl ?_
  refine en_callvI (pc' := 13) (vs := [.inl 1]) (rest := []) (h2 := zsI (h) 0 2 1) (v := 0) dX11_close_10 ml_11_347 ⟨zble rfl, zble rfl⟩ rfl rfl s0 (zblt rfl) (zble rfl) rfl (kX11_hasRefused_1 _ h s0) ?_
  exact ex_iretI dX11_close_13 rfl (by decide) ⟨rfl, rfl⟩
set_option maxRecDepth 10000 in
theorem kX12_close_1 (d : Nat) (h : zH) (p1 p2 : Int32) (s196 : zsh h 196 = some (12, 39)) (i196_14 : h.2.1 196 14 = 0) : zCi (d + 1) mX12_close [.inr (.inr (some 196)), .inl p1, .inl p2] h (fun x h' => x = 0 ∧ h' = zsI (zsI (zsI (h) 196 0 0) 196 11 0) 196 11 1) := by
  show zEx none (d + 1) mX12_close (0, [(0, .inr (.inr (some 196))), (1, .inl p1), (2, .inl p2)], [], h) _
  refine ex_aload_n (pc' := 1) dX12_close_0 rfl rfl ?_
  refine en_callvV (pc' := 4) (vs := []) (rest := []) (h2 := zsI (zsI (h) 196 0 0) 196 11 0) dX12_close_1 ml_12_167 ⟨zble rfl, zble rfl⟩ rfl rfl s196 (zblt rfl) (zble rfl) rfl (kX12_good_1 _ h s196) ?_
  refine ex_aload_n (pc' := 5) dX12_close_4 rfl rfl ?_
  refine ex_getI (pc' := 8) (v := 0) dX12_close_5 fl_12_180 (zsiI (zsiI s196)) (by decide) i196_14 rfl ?_
  refine ex_if_t (pc' := 27) dX12_close_8 (by decide) (by decide) ?_
  refine ex_aload_n (pc' := 28) dX12_close_27 rfl rfl ?_
  refine ex_iconst (v := 1) (pc' := 29) dX12_close_28 (by decide) rfl ?_
  refine en_callvI (pc' := 32) (vs := [.inl 1]) (rest := []) (h2 := zsI (zsI (zsI (h) 196 0 0) 196 11 0) 196 11 1) (v := 0) dX12_close_29 ml_12_427 ⟨zble rfl, zble rfl⟩ rfl rfl (zsiI (zsiI s196)) (zblt rfl) (zble rfl) rfl (kX12_isNot_1 _ (zsI (zsI (h) 196 0 0) 196 11 0) (zsiI (zsiI s196))) ?_
  exact ex_iretI dX12_close_32 rfl (by decide) ⟨rfl, rfl⟩
set_option maxRecDepth 10000 in
theorem kX11_hasRefused_2 (d : Nat) (h : zH) (s0 : zsh h 0 = some (11, 16)) : zCi (d + 0) mX11_hasRefused [.inr (.inr (some 0)), .inl 6] h (fun x h' => x = 0 ∧ h' = zsI (h) 0 2 6) := by
  show zEx none (d + 0) mX11_hasRefused (0, [(0, .inr (.inr (some 0))), (1, .inl 6)], [], h) _
  refine ex_aload_n (pc' := 1) dX11_hasRefused_0 rfl rfl ?_
  refine ex_iload_n (pc' := 2) dX11_hasRefused_1 rfl rfl ?_
  refine ex_putI (pc' := 5) dX11_hasRefused_2 fl_11_17 s0 (Or.inl rfl) (Or.inl rfl) rfl ?_
  refine ex_iconst (v := 0) (pc' := 6) dX11_hasRefused_5 (by decide) rfl ?_
  exact ex_iretI dX11_hasRefused_6 rfl (by decide) ⟨rfl, rfl⟩
set_option maxRecDepth 10000 in
theorem kX11_undo_1 (d : Nat) (h : zH) (s0 : zsh h 0 = some (11, 16)) (i0_13 : h.2.1 0 13 = 0) : zCi (d + 1) mX11_undo [.inr (.inr (some 0))] h (fun x h' => x = 0 ∧ h' = zsI (h) 0 2 6) := by
  show zEx none (d + 1) mX11_undo (0, [(0, .inr (.inr (some 0)))], [], h) _
  refine ex_aload_n (pc' := 1) dX11_undo_0 rfl rfl ?_
  refine ex_getI (pc' := 4) (v := 0) dX11_undo_1 fl_11_85 s0 (by decide) i0_13 rfl ?_
  refine ex_if_f (pc' := 7) dX11_undo_4 (by decide) (by decide) rfl ?_
  refine ex_aload_n (pc' := 8) dX11_undo_7 rfl rfl ?_
  refine ex_bipush (v := 6) (pc' := 10) dX11_undo_8 (by decide) rfl ?_
  refine en_callvI (pc' := 13) (vs := [.inl 6]) (rest := []) (h2 := zsI (h) 0 2 6) (v := 0) dX11_undo_10 ml_11_347 ⟨zble rfl, zble rfl⟩ rfl rfl s0 (zblt rfl) (zble rfl) rfl (kX11_hasRefused_2 _ h s0) ?_
  exact ex_iretI dX11_undo_13 rfl (by decide) ⟨rfl, rfl⟩
set_option maxRecDepth 10000 in
theorem kX12_isNot_2 (d : Nat) (h : zH) (s196 : zsh h 196 = some (12, 39)) : zCi (d + 0) mX12_isNot [.inr (.inr (some 196)), .inl 6] h (fun x h' => x = 0 ∧ h' = zsI (h) 196 11 6) := by
  show zEx none (d + 0) mX12_isNot (0, [(0, .inr (.inr (some 196))), (1, .inl 6)], [], h) _
  refine ex_aload_n (pc' := 1) dX12_isNot_0 rfl rfl ?_
  refine ex_iload_n (pc' := 2) dX12_isNot_1 rfl rfl ?_
  refine ex_putI (pc' := 5) dX12_isNot_2 fl_12_65 s196 (Or.inl rfl) (Or.inl rfl) rfl ?_
  refine ex_iconst (v := 0) (pc' := 6) dX12_isNot_5 (by decide) rfl ?_
  exact ex_iretI dX12_isNot_6 rfl (by decide) ⟨rfl, rfl⟩
set_option maxRecDepth 10000 in
theorem kX12_undo_1 (d : Nat) (h : zH) (s196 : zsh h 196 = some (12, 39)) (i196_20 : h.2.1 196 20 = 0) : zCi (d + 1) mX12_undo [.inr (.inr (some 196))] h (fun x h' => x = 0 ∧ h' = zsI (zsI (zsI (h) 196 0 0) 196 11 0) 196 11 6) := by
  show zEx none (d + 1) mX12_undo (0, [(0, .inr (.inr (some 196)))], [], h) _
  refine ex_aload_n (pc' := 1) dX12_undo_0 rfl rfl ?_
  refine en_callvV (pc' := 4) (vs := []) (rest := []) (h2 := zsI (zsI (h) 196 0 0) 196 11 0) dX12_undo_1 ml_12_167 ⟨zble rfl, zble rfl⟩ rfl rfl s196 (zblt rfl) (zble rfl) rfl (kX12_good_1 _ h s196) ?_
  refine ex_aload_n (pc' := 5) dX12_undo_4 rfl rfl ?_
  refine ex_getI (pc' := 8) (v := 0) dX12_undo_5 fl_12_183 (zsiI (zsiI s196)) (by decide) i196_20 rfl ?_
  refine ex_if_f (pc' := 11) dX12_undo_8 (by decide) (by decide) rfl ?_
  refine ex_aload_n (pc' := 12) dX12_undo_11 rfl rfl ?_
  refine ex_bipush (v := 6) (pc' := 14) dX12_undo_12 (by decide) rfl ?_
  refine en_callvI (pc' := 17) (vs := [.inl 6]) (rest := []) (h2 := zsI (zsI (zsI (h) 196 0 0) 196 11 0) 196 11 6) (v := 0) dX12_undo_14 ml_12_427 ⟨zble rfl, zble rfl⟩ rfl rfl (zsiI (zsiI s196)) (zblt rfl) (zble rfl) rfl (kX12_isNot_2 _ (zsI (zsI (h) 196 0 0) 196 11 0) (zsiI (zsiI s196))) ?_
  exact ex_iretI dX12_undo_17 rfl (by decide) ⟨rfl, rfl⟩
set_option maxRecDepth 10000 in
theorem kX11_image_1 (d : Nat) (h : zH) (s0 : zsh h 0 = some (11, 16)) (s2 : zsh h 2 = some (4, 15)) (i2_4 : h.2.1 2 4 = 0) (r0_3 : h.2.2.2.1 0 3 = some 2) : zCi (d + 1) mX11_image [.inr (.inr (some 0))] h (fun x h' => x = (-1) ∧ h' = zsI (h) 0 2 1) := by
  show zEx none (d + 1) mX11_image (0, [(0, .inr (.inr (some 0)))], [], h) _
  refine ex_aload_n (pc' := 1) dX11_image_0 rfl rfl ?_
  refine en_callvI (pc' := 4) (vs := []) (rest := []) (h2 := h) (v := 0) dX11_image_1 ml_11_222 ⟨zble rfl, zble rfl⟩ rfl rfl s0 (zblt rfl) (zble rfl) rfl (kX11_hasPost_1 _ h s0 s2 i2_4 r0_3) ?_
  refine ex_if_f (pc' := 7) dX11_image_4 (by decide) (by decide) rfl ?_
  refine ex_aload_n (pc' := 8) dX11_image_7 rfl rfl ?_
  refine ex_iconst (v := 1) (pc' := 9) dX11_image_8 (by decide) rfl ?_
  refine en_callvI (pc' := 12) (vs := [.inl 1]) (rest := []) (h2 := zsI (h) 0 2 1) (v := (-1)) dX11_image_9 ml_11_98 ⟨zble rfl, zble rfl⟩ rfl rfl s0 (zblt rfl) (zble rfl) rfl (kX11_refused_1 _ h s0) ?_
  exact ex_iretI dX11_image_12 rfl rfl ⟨rfl, rfl⟩
set_option maxRecDepth 10000 in
theorem kX12_image_1 (d : Nat) (h : zH) (s196 : zsh h 196 = some (12, 39)) (i196_14 : h.2.1 196 14 = 0) : zCi (d + 1) mX12_image [.inr (.inr (some 196))] h (fun x h' => x = (-1) ∧ h' = zsI (zsI (zsI (h) 196 0 0) 196 11 0) 196 11 1) := by
  show zEx none (d + 1) mX12_image (0, [(0, .inr (.inr (some 196)))], [], h) _
  refine ex_aload_n (pc' := 1) dX12_image_0 rfl rfl ?_
  refine en_callvV (pc' := 4) (vs := []) (rest := []) (h2 := zsI (zsI (h) 196 0 0) 196 11 0) dX12_image_1 ml_12_167 ⟨zble rfl, zble rfl⟩ rfl rfl s196 (zblt rfl) (zble rfl) rfl (kX12_good_1 _ h s196) ?_
  refine ex_aload_n (pc' := 5) dX12_image_4 rfl rfl ?_
  refine ex_getI (pc' := 8) (v := 0) dX12_image_5 fl_12_180 (zsiI (zsiI s196)) (by decide) i196_14 rfl ?_
  refine ex_if_f (pc' := 11) dX12_image_8 (by decide) (by decide) rfl ?_
  refine ex_aload_n (pc' := 12) dX12_image_11 rfl rfl ?_
  refine ex_iconst (v := 1) (pc' := 13) dX12_image_12 (by decide) rfl ?_
  refine en_callvI (pc' := 16) (vs := [.inl 1]) (rest := []) (h2 := zsI (zsI (zsI (h) 196 0 0) 196 11 0) 196 11 1) (v := (-1)) dX12_image_13 ml_12_170 ⟨zble rfl, zble rfl⟩ rfl rfl (zsiI (zsiI s196)) (zblt rfl) (zble rfl) rfl (kX12_no_1 _ (zsI (zsI (h) 196 0 0) 196 11 0) (zsiI (zsiI s196))) ?_
  exact ex_iretI dX12_image_16 rfl rfl ⟨rfl, rfl⟩
set_option maxRecDepth 10000 in
theorem kX11_back_1 (d : Nat) (h : zH) (p1 : Int32) (s0 : zsh h 0 = some (11, 16)) (i0_15 : h.2.1 0 15 = 0) : zCi (d + 1) mX11_back [.inr (.inr (some 0)), .inl p1] h (fun x h' => x = 0 ∧ h' = zsI (h) 0 2 1) := by
  show zEx none (d + 1) mX11_back (0, [(0, .inr (.inr (some 0))), (1, .inl p1)], [], h) _
  refine ex_iload_n (pc' := 1) dX11_back_0 rfl rfl ?_
  refine ex_if (pc' := 12) (pc2 := 4) dX11_back_1 (by decide) rfl (fun c617 => ?_) (fun c617 => ?_)
  · refine ex_aload_n (pc' := 13) dX11_back_12 rfl rfl ?_
    refine ex_iconst (v := 1) (pc' := 14) dX11_back_13 (by decide) rfl ?_
    refine en_callvI (pc' := 17) (vs := [.inl 1]) (rest := []) (h2 := zsI (h) 0 2 1) (v := 0) dX11_back_14 ml_11_347 ⟨zble rfl, zble rfl⟩ rfl rfl s0 (zblt rfl) (zble rfl) rfl (kX11_hasRefused_1 _ h s0) ?_
    exact ex_iretI dX11_back_17 rfl (by decide) ⟨rfl, rfl⟩
  · refine ex_iload_n (pc' := 5) dX11_back_4 rfl rfl ?_
    refine ex_aload_n (pc' := 6) dX11_back_5 rfl rfl ?_
    refine ex_getI (pc' := 9) (v := 0) dX11_back_6 fl_11_91 s0 (by decide) i0_15 rfl ?_
    refine ex_icmp_f (pc' := 12) dX11_back_9 c617 (by decide) rfl ?_
    refine ex_aload_n (pc' := 13) dX11_back_12 rfl rfl ?_
    refine ex_iconst (v := 1) (pc' := 14) dX11_back_13 (by decide) rfl ?_
    refine en_callvI (pc' := 17) (vs := [.inl 1]) (rest := []) (h2 := zsI (h) 0 2 1) (v := 0) dX11_back_14 ml_11_347 ⟨zble rfl, zble rfl⟩ rfl rfl s0 (zblt rfl) (zble rfl) rfl (kX11_hasRefused_1 _ h s0) ?_
    exact ex_iretI dX11_back_17 rfl (by decide) ⟨rfl, rfl⟩
set_option maxRecDepth 10000 in
theorem kX12_led_1 (d : Nat) (h : zH) (p1 : Int32) (s196 : zsh h 196 = some (12, 39)) (i196_14 : h.2.1 196 14 = 0) : zCi (d + 0) mX12_led [.inr (.inr (some 196)), .inl p1] h (fun x h' => x = 0 ∧ h' = zsI (h) 196 0 1) := by
  show zEx none (d + 0) mX12_led (0, [(0, .inr (.inr (some 196))), (1, .inl p1)], [], h) _
  refine ex_iconst (v := 0) (pc' := 1) dX12_led_0 (by decide) rfl ?_
  refine ex_istore_n (pc' := 2) (ls' := [(2, .inl 0), (0, .inr (.inr (some 196))), (1, .inl p1)]) dX12_led_1 (by decide) rfl rfl ?_
  refine ex_iconst (v := 0) (pc' := 3) dX12_led_2 (by decide) rfl ?_
  refine ex_istore_n (pc' := 4) (ls' := [(3, .inl 0), (2, .inl 0), (0, .inr (.inr (some 196))), (1, .inl p1)]) dX12_led_3 (by decide) rfl rfl ?_
  refine ex_aload_n (pc' := 5) dX12_led_4 rfl rfl ?_
  refine ex_getI (pc' := 8) (v := 0) dX12_led_5 fl_12_180 s196 (by decide) i196_14 rfl ?_
  refine ex_if_t (pc' := 58) dX12_led_8 (by decide) (by decide) ?_
  refine ex_aload_n (pc' := 59) dX12_led_58 rfl rfl ?_
  refine ex_iconst (v := 1) (pc' := 60) dX12_led_59 (by decide) rfl ?_
  refine ex_putI (pc' := 63) dX12_led_60 fl_12_62 s196 (Or.inl rfl) (Or.inl rfl) rfl ?_
  refine ex_iconst (v := 0) (pc' := 64) dX12_led_63 (by decide) rfl ?_
  exact ex_iretI dX12_led_64 rfl rfl ⟨rfl, rfl⟩
set_option maxRecDepth 10000 in
theorem kX12_thrown_1 (d : Nat) (h : zH) (s196 : zsh h 196 = some (12, 39)) (i196_0 : h.2.1 196 0 = 0) : zCi (d + 0) mX12_thrown [.inr (.inr (some 196))] h (fun x h' => x = 0 ∧ h' = h) := by
  show zEx none (d + 0) mX12_thrown (0, [(0, .inr (.inr (some 196)))], [], h) _
  refine ex_aload_n (pc' := 1) dX12_thrown_0 rfl rfl ?_
  refine ex_getI (pc' := 4) (v := 0) dX12_thrown_1 fl_12_62 s196 (by decide) i196_0 rfl ?_
  exact ex_iretI dX12_thrown_4 rfl rfl ⟨rfl, rfl⟩
set_option maxRecDepth 10000 in
theorem kX11_trouble_1 (d : Nat) (h : zH) (s0 : zsh h 0 = some (11, 16)) (i0_2 : h.2.1 0 2 = 0) : zCi (d + 0) mX11_trouble [.inr (.inr (some 0))] h (fun x h' => x = 0 ∧ h' = h) := by
  show zEx none (d + 0) mX11_trouble (0, [(0, .inr (.inr (some 0)))], [], h) _
  refine ex_aload_n (pc' := 1) dX11_trouble_0 rfl rfl ?_
  refine ex_getI (pc' := 4) (v := 0) dX11_trouble_1 fl_11_17 s0 (by decide) i0_2 rfl ?_
  exact ex_iretI dX11_trouble_4 rfl rfl ⟨rfl, rfl⟩
set_option maxRecDepth 10000 in
theorem kX12_trouble_1 (d : Nat) (h : zH) (s196 : zsh h 196 = some (12, 39)) (i196_11 : h.2.1 196 11 = 0) : zCi (d + 0) mX12_trouble [.inr (.inr (some 196))] h (fun x h' => x = 0 ∧ h' = zsI (h) 196 0 0) := by
  show zEx none (d + 0) mX12_trouble (0, [(0, .inr (.inr (some 196)))], [], h) _
  refine ex_aload_n (pc' := 1) dX12_trouble_0 rfl rfl ?_
  refine ex_iconst (v := 0) (pc' := 2) dX12_trouble_1 (by decide) rfl ?_
  refine ex_putI (pc' := 5) dX12_trouble_2 fl_12_62 s196 (Or.inl rfl) (Or.inl rfl) rfl ?_
  refine ex_aload_n (pc' := 6) dX12_trouble_5 rfl rfl ?_
  refine ex_getI (pc' := 9) (v := 0) dX12_trouble_6 fl_12_65 (zsiI s196) (by decide) i196_11 rfl ?_
  exact ex_iretI dX12_trouble_9 rfl rfl ⟨rfl, rfl⟩
