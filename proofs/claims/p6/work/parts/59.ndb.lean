section Qx
variable {d k s : Nat} {h : zH} {kind day : Int32}
theorem so_it {x : Int32} {Q : Option zV → zH → Prop} (s0 : zsh h 196 = some (12, 39)) (s1 : zsh h 199 = some (14, 363)) (r1 : h.2.2.2.1 196 15 = some 199) (hk : k < 12) (ho : h.2.1 199 (62 + 4 * k) = nI s)
    (hq : Q (some (.inl x)) h) (hn : hBit (nI s) (sOf x) = 0 → zEx none (d + 1) mX12_setsOut (8, soL (nxD x) (nI k) kind day, [], h) Q) : zEx none (d + 1) mX12_setsOut (8, soL x (nI k) kind day, [], h) Q := by
  refine ex_aload_n (pc' := 9) dX12_setsOut_8 rfl rfl ?_
  refine ex_getR (pc' := 12) (n := 39) (r := 199) dX12_setsOut_9 fl_12_20 s0 (by decide) r1 rfl ?_
  refine ex_bipush (v := nI 59) (pc' := 14) dX12_setsOut_12 (by decide) rfl ?_
  refine ex_iconst (v := nI 4) (pc' := 15) dX12_setsOut_14 (by decide) rfl ?_
  refine ex_iload_n (pc' := 16) dX12_setsOut_15 rfl rfl ?_
  have em : nI 4 * nI k = nI (4 * k) := by
    refine Int32.toInt_inj.mp ?_
    rw [Int32.toInt_mul, nI_toInt (by omega), nI_toInt (by omega), nI_toInt (by omega)]
    rw [bmod_fit (by omega) (by omega)]
    omega
  refine ex_imul (pc' := 17) (v := nI (4 * k)) dX12_setsOut_16 em rfl ?_
  refine ex_iadd (pc' := 18) (v := nI (59 + 4 * k)) dX12_setsOut_17 (nI_add _ _) rfl ?_
  refine ex_iconst (v := nI 3) (pc' := 19) dX12_setsOut_18 (by decide) rfl ?_
  refine ex_iadd (pc' := 20) (v := nI (62 + 4 * k)) dX12_setsOut_19 (by rw [nI_add]; congr 1; omega) rfl ?_
  refine ex_iald (pc' := 21) (n := 363) (v := nI s) dX12_setsOut_20 s1 (zn_in (by omega) (by omega)) (by rw [nI_clamp (by omega)]; exact ho) rfl ?_
  refine ex_iload (pc' := 23) dX12_setsOut_21 rfl rfl ?_
  refine en_callsI (pc' := 26) (v := sOf x) (h2 := h) (vs := [.inl x]) (rest := [.inl (nI s)]) dX12_setsOut_23 ml_12_337 (Or.inl rfl) ⟨zble rfl, zble rfl⟩ rfl rfl (zble rfl) rfl k_season ?_
  refine en_callsI (pc' := 29) (v := hBit (nI s) (sOf x)) (h2 := h) (vs := [.inl (nI s), .inl (sOf x)]) (rest := []) dX12_setsOut_26 ml_12_298 (Or.inl rfl) ⟨zble rfl, zble rfl⟩ rfl rfl (zble rfl) rfl k_hasBit ?_
  refine ex_if (pc' := 47) (pc2 := 32) dX12_setsOut_29 (by decide) rfl (fun c => ?_) (fun c => ?_)
  · refine ex_iload (pc' := 49) dX12_setsOut_47 rfl rfl ?_
    exact ex_iret dX12_setsOut_49 rfl rfl hq
  · simp only [zcond, decide_eq_false_iff_not, Decidable.not_not] at c
    refine ex_bipush (v := 90) (pc' := 34) dX12_setsOut_32 (by decide) rfl ?_
    refine ex_iload (pc' := 36) dX12_setsOut_34 rfl rfl ?_
    refine ex_bipush (v := 90) (pc' := 38) dX12_setsOut_36 (by decide) rfl ?_
    refine ex_idiv (pc' := 39) dX12_setsOut_38 (by decide) rfl rfl ?_
    refine ex_iconst (v := 1) (pc' := 40) dX12_setsOut_39 (by decide) rfl ?_
    refine ex_iadd (pc' := 41) dX12_setsOut_40 rfl rfl ?_
    refine ex_imul (pc' := 42) (v := nxD x) dX12_setsOut_41 rfl rfl ?_
    refine ex_istore (pc' := 44) (ls' := soL (nxD x) (nI k) kind day) dX12_setsOut_42 (by decide) rfl rfl ?_
    refine ex_goto (pc' := 8) dX12_setsOut_44 (by decide) ?_
    exact hn c
end Qx
