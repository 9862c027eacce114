/-! the methods on the fresh heap, by program -/
set_option maxRecDepth 10000 in
theorem kX11_fault_1 (d : Nat) (h : zH) (s0 : zsh h 0 = some (11, 16)) (s82 : zsh h 82 = some (5, 13)) (i82_11 : h.2.1 82 11 = 0) (r0_5 : h.2.2.2.1 0 5 = some 82) : zCi (d + 0) mX11_fault [.inr (.inr (some 0))] h (fun x h' => x = 0 ∧ h' = h) := by
  show zEx none (d + 0) mX11_fault (0, [(0, .inr (.inr (some 0)))], [], h) _
  refine ex_aload_n (pc' := 1) dX11_fault_0 rfl rfl ?_
  refine ex_getR (pc' := 4) (r := 82) dX11_fault_1 fl_11_35 s0 (by decide) r0_5 rfl ?_
  refine ex_getI (pc' := 7) (v := 0) dX11_fault_4 fl_11_115 s82 (by decide) i82_11 rfl ?_
  exact ex_iretI dX11_fault_7 rfl rfl ⟨rfl, rfl⟩
set_option maxRecDepth 10000 in
theorem kX12_fault_1 (d : Nat) (h : zH) (s196 : zsh h 196 = some (12, 39)) (i196_9 : h.2.1 196 9 = 0) : zCi (d + 0) mX12_fault [.inr (.inr (some 196))] h (fun x h' => x = 0 ∧ h' = zsI (h) 196 0 0) := by
  show zEx none (d + 0) mX12_fault (0, [(0, .inr (.inr (some 196)))], [], h) _
  refine ex_aload_n (pc' := 1) dX12_fault_0 rfl rfl ?_
  refine ex_iconst (v := 0) (pc' := 2) dX12_fault_1 (by decide) rfl ?_
  refine ex_putI (pc' := 5) dX12_fault_2 fl_12_62 s196 (Or.inl rfl) (Or.inl rfl) rfl ?_
  refine ex_aload_n (pc' := 6) dX12_fault_5 rfl rfl ?_
  refine ex_getI (pc' := 9) (v := 0) dX12_fault_6 fl_12_104 (zsiI s196) (by decide) i196_9 rfl ?_
  exact ex_iretI dX12_fault_9 rfl rfl ⟨rfl, rfl⟩
set_option maxRecDepth 10000 in
theorem kX11_where_1 (d : Nat) (h : zH) (s0 : zsh h 0 = some (11, 16)) (i0_2 : h.2.1 0 2 = 0) : zCi (d + 0) mX11_where [.inr (.inr (some 0))] h (fun x h' => x = (-1) ∧ h' = h) := by
  show zEx none (d + 0) mX11_where (0, [(0, .inr (.inr (some 0)))], [], h) _
  refine ex_aload_n (pc' := 1) dX11_where_0 rfl rfl ?_
  refine ex_getI (pc' := 4) (v := 0) dX11_where_1 fl_11_17 s0 (by decide) i0_2 rfl ?_
  refine ex_iconst (v := 4) (pc' := 5) dX11_where_4 (by decide) rfl ?_
  refine ex_icmp_t (pc' := 18) dX11_where_5 (by decide) (by decide) ?_
  refine ex_iconst (v := (-1)) (pc' := 19) dX11_where_18 (by decide) rfl ?_
  exact ex_iretI dX11_where_19 rfl rfl ⟨rfl, rfl⟩
set_option maxRecDepth 10000 in
theorem kX12_where_1 (d : Nat) (h : zH) (s196 : zsh h 196 = some (12, 39)) (i196_11 : h.2.1 196 11 = 0) : zCi (d + 0) mX12_where [.inr (.inr (some 196))] h (fun x h' => x = (-1) ∧ h' = zsI (h) 196 0 0) := by
  show zEx none (d + 0) mX12_where (0, [(0, .inr (.inr (some 196)))], [], h) _
  refine ex_aload_n (pc' := 1) dX12_where_0 rfl rfl ?_
  refine ex_iconst (v := 0) (pc' := 2) dX12_where_1 (by decide) rfl ?_
  refine ex_putI (pc' := 5) dX12_where_2 fl_12_62 s196 (Or.inl rfl) (Or.inl rfl) rfl ?_
  refine ex_aload_n (pc' := 6) dX12_where_5 rfl rfl ?_
  refine ex_getI (pc' := 9) (v := 0) dX12_where_6 fl_12_65 (zsiI s196) (by decide) i196_11 rfl ?_
  refine ex_iconst (v := 4) (pc' := 10) dX12_where_9 (by decide) rfl ?_
  refine ex_icmp_t (pc' := 20) dX12_where_10 (by decide) (by decide) ?_
  refine ex_iconst (v := (-1)) (pc' := 21) dX12_where_20 (by decide) rfl ?_
  exact ex_iretI dX12_where_21 rfl rfl ⟨rfl, rfl⟩
set_option maxRecDepth 10000 in
theorem kX11_isWhale_1 (d : Nat) (h : zH) (p1 : Int32) (s0 : zsh h 0 = some (11, 16)) (s2 : zsh h 2 = some (4, 15)) (i2_6 : h.2.1 2 6 = 0) (r0_3 : h.2.2.2.1 0 3 = some 2) : zCi (d + 0) mX11_isWhale [.inr (.inr (some 0)), .inl p1] h (fun x h' => x = 0 ∧ h' = h) := by
  show zEx none (d + 0) mX11_isWhale (0, [(0, .inr (.inr (some 0))), (1, .inl p1)], [], h) _
  refine ex_iload_n (pc' := 1) dX11_isWhale_0 rfl rfl ?_
  refine ex_if (pc' := 19) (pc2 := 4) dX11_isWhale_1 (by decide) rfl (fun c16 => ?_) (fun c16 => ?_)
  · refine ex_iconst (v := 0) (pc' := 20) dX11_isWhale_19 (by decide) rfl ?_
    exact ex_iretI dX11_isWhale_20 rfl (by decide) ⟨rfl, rfl⟩
  · refine ex_iload_n (pc' := 5) dX11_isWhale_4 rfl rfl ?_
    refine ex_aload_n (pc' := 6) dX11_isWhale_5 rfl rfl ?_
    refine ex_getR (pc' := 9) (r := 2) dX11_isWhale_6 fl_11_23 s0 (by decide) r0_3 rfl ?_
    refine ex_getI (pc' := 12) (v := 0) dX11_isWhale_9 fl_11_382 s2 (by decide) i2_6 rfl ?_
    refine ex_icmp_t (pc' := 19) dX11_isWhale_12 (zk_lt_ge c16) (by decide) ?_
    refine ex_iconst (v := 0) (pc' := 20) dX11_isWhale_19 (by decide) rfl ?_
    exact ex_iretI dX11_isWhale_20 rfl (by decide) ⟨rfl, rfl⟩
set_option maxRecDepth 10000 in
theorem kX11_refused_1 (d : Nat) (h : zH) (s0 : zsh h 0 = some (11, 16)) : zCi (d + 0) mX11_refused [.inr (.inr (some 0)), .inl 1] h (fun x h' => x = (-1) ∧ h' = zsI (h) 0 2 1) := by
  show zEx none (d + 0) mX11_refused (0, [(0, .inr (.inr (some 0))), (1, .inl 1)], [], h) _
  refine ex_aload_n (pc' := 1) dX11_refused_0 rfl rfl ?_
  refine ex_iload_n (pc' := 2) dX11_refused_1 rfl rfl ?_
  refine ex_putI (pc' := 5) dX11_refused_2 fl_11_17 s0 (Or.inl rfl) (Or.inl rfl) rfl ?_
  refine ex_iconst (v := (-1)) (pc' := 6) dX11_refused_5 (by decide) rfl ?_
  exact ex_iretI dX11_refused_6 rfl rfl ⟨rfl, rfl⟩
set_option maxRecDepth 10000 in
theorem kX11_whale_1 (d : Nat) (h : zH) (p1 p2 : Int32) (s0 : zsh h 0 = some (11, 16)) (s2 : zsh h 2 = some (4, 15)) (i2_6 : h.2.1 2 6 = 0) (r0_3 : h.2.2.2.1 0 3 = some 2) : zCi (d + 1) mX11_whale [.inr (.inr (some 0)), .inl p1, .inl p2] h (fun x h' => x = (-1) ∧ h' = zsI (h) 0 2 1) := by
  show zEx none (d + 1) mX11_whale (0, [(0, .inr (.inr (some 0))), (1, .inl p1), (2, .inl p2)], [], h) _
  refine ex_aload_n (pc' := 1) dX11_whale_0 rfl rfl ?_
  refine ex_iload_n (pc' := 2) dX11_whale_1 rfl rfl ?_
  refine ex_callvI (pc' := 5) dX11_whale_2 ml_11_121 ⟨by decide, by decide⟩ rfl rfl s0 (by decide) (by decide) rfl (kX11_isWhale_1 _ h p1 s0 s2 i2_6 r0_3) ?_
  intro x18 h19 q17
  obtain ⟨rfl, rfl⟩ := q17
  refine ex_if_f (pc' := 8) dX11_whale_5 (by decide) (by decide) rfl ?_
  refine ex_aload_n (pc' := 9) dX11_whale_8 rfl rfl ?_
  refine ex_iconst (v := 1) (pc' := 10) dX11_whale_9 (by decide) rfl ?_
  refine ex_callvI (pc' := 13) dX11_whale_10 ml_11_98 ⟨by decide, by decide⟩ rfl rfl s0 (by decide) (by decide) rfl (kX11_refused_1 _ h s0) ?_
  intro x21 h22 q20
  obtain ⟨rfl, rfl⟩ := q20
  exact ex_iretI dX11_whale_13 rfl rfl ⟨rfl, rfl⟩
set_option maxRecDepth 10000 in
theorem kX12_good_1 (d : Nat) (h : zH) (s196 : zsh h 196 = some (12, 39)) : zCv (d + 0) mX12_good [.inr (.inr (some 196))] h (fun h' => h' = zsI (zsI (h) 196 0 0) 196 11 0) := by
  show zEx none (d + 0) mX12_good (0, [(0, .inr (.inr (some 196)))], [], h) _
  refine ex_aload_n (pc' := 1) dX12_good_0 rfl rfl ?_
  refine ex_iconst (v := 0) (pc' := 2) dX12_good_1 (by decide) rfl ?_
  refine ex_putI (pc' := 5) dX12_good_2 fl_12_62 s196 (Or.inl rfl) (Or.inl rfl) rfl ?_
  refine ex_aload_n (pc' := 6) dX12_good_5 rfl rfl ?_
  refine ex_iconst (v := 0) (pc' := 7) dX12_good_6 (by decide) rfl ?_
  refine ex_putI (pc' := 10) dX12_good_7 fl_12_65 (zsiI s196) (Or.inl rfl) (Or.inl rfl) rfl ?_
  exact ex_vretV dX12_good_10 rfl rfl
