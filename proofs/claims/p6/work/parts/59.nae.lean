theorem lp_copy {d : Nat} {h : zH} {f g nf ng a b n : Nat} (sf : zsh h f = some (14, nf)) (sg : zsh h g = some (14, ng)) (hne : f ≠ g) (ha : a + n ≤ nf) (hb : b + n ≤ ng) (hn : nf < 100000) (hn2 : ng < 100000) : ∀ r k : Nat, k + r = n → zEx none d mX12_copy (3, [(5, .inl (nI k)), (0, .inr (.inr (some f))), (1, .inl (nI a)), (2, .inr (.inr (some g))), (3, .inl (nI b)), (4, .inl (nI n))], [], cpyH h f a g b k) (fun v h' => v = none ∧ h' = cpyH h f a g b n) := by
  intro r
  induction r with
  | zero =>
    intro k hk
    obtain rfl : k = n := by omega
    refine ex_iload (pc' := 5) dX12_copy_3 rfl rfl ?_
    refine ex_iload (pc' := 7) dX12_copy_5 rfl rfl ?_
    refine ex_icmp_t (pc' := 28) dX12_copy_7 (zn_ge (Nat.le_refl _) (by omega)) (by decide) ?_
    exact ex_vret dX12_copy_28 rfl ⟨rfl, rfl⟩
  | succ r ih =>
    intro k hk
    refine ex_iload (pc' := 5) dX12_copy_3 rfl rfl ?_
    refine ex_iload (pc' := 7) dX12_copy_5 rfl rfl ?_
    refine ex_icmp_f (pc' := 10) dX12_copy_7 (zn_nge (by omega) (by omega)) (by decide) rfl ?_
    refine ex_aload_n (pc' := 11) dX12_copy_10 rfl rfl ?_
    refine ex_iload_n (pc' := 12) dX12_copy_11 rfl rfl ?_
    refine ex_iload (pc' := 14) dX12_copy_12 rfl rfl ?_
    refine ex_iadd (pc' := 15) (v := nI (b + k)) dX12_copy_14 (nI_add _ _) rfl ?_
    refine ex_aload_n (pc' := 16) dX12_copy_15 rfl rfl ?_
    refine ex_iload_n (pc' := 17) dX12_copy_16 rfl rfl ?_
    refine ex_iload (pc' := 19) dX12_copy_17 rfl rfl ?_
    refine ex_iadd (pc' := 20) (v := nI (a + k)) dX12_copy_19 (nI_add _ _) rfl ?_
    refine ex_iald (pc' := 21) (n := nf) (v := h.2.1 f (a + k)) dX12_copy_20 sf (zn_in (by omega) (by omega)) (by rw [nI_clamp (by omega), cpyH_at, if_neg (fun z => hne z.1)]) rfl ?_
    refine en_iast (pc' := 22) (n := ng) (jj := b + k) (h2 := cpyH h f a g b (k + 1)) dX12_copy_21 sg ⟨zn_in (by omega) (by omega), nI_clamp (by omega)⟩ cpyH_s rfl ?_
    refine ex_iinc (pc' := 25) (v := nI (k + 1)) (ls' := [(5, .inl (nI (k + 1))), (0, .inr (.inr (some f))), (1, .inl (nI a)), (2, .inr (.inr (some g))), (3, .inl (nI b)), (4, .inl (nI n))]) dX12_copy_22 rfl (by decide) (nI_1 k) rfl rfl ?_
    refine ex_goto (pc' := 3) dX12_copy_25 (by decide) ?_
    exact ih (k + 1) (by omega)
