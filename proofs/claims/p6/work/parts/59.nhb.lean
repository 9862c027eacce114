section Qx
variable {d : Nat} {h : zH} {jj mask : Int32} {n b : Nat} {Q : Option zV → zH → Prop}
theorem ld_in (s0 : zsh h 196 = some (12, 39)) (s1 : zsh h 199 = some (14, 363)) (s3 : zsh h 201 = some (14, 76)) (r15 : h.2.2.2.1 196 15 = some 199) (r17 : h.2.2.2.1 196 17 = some 201) (hn : h.2.1 199 5 = nI n) (hn12 : n ≤ 12)
    (hx : ∀ q : Nat, q < 12 → ∃ x : Nat, x < 7 ∧ h.2.1 199 (59 + 4 * q) = nI x) (hy : ∀ q : Nat, q < 12 → ∃ x : Nat, x < 7 ∧ h.2.1 199 (60 + 4 * q) = nI x)
    (K : ∀ (a : Nat) (ls : zL), b ≤ a → a < 128 → zget ls 0 = some (.inr (.inr (some 196))) → zget ls 2 = some (.inl jj) → zget ls 3 = some (.inl mask) → zget ls 4 = some (.inl (nI a)) → zget ls 5 = some (.inl (nI b)) → zEx none (d + 2) mX12_doLead (112, ls, [], h) Q) :
    ∀ (r q a : Nat) (ls : zL), q + r = n → b ≤ a → a < 128 → zget ls 0 = some (.inr (.inr (some 196))) → zget ls 2 = some (.inl jj) → zget ls 3 = some (.inl mask) → zget ls 4 = some (.inl (nI a)) → zget ls 5 = some (.inl (nI b)) → zget ls 6 = some (.inl (nI q)) → zEx none (d + 2) mX12_doLead (22, ls, [], h) Q := by
  intro r
  induction r with
  | zero =>
    intro q a ls hq hba ha hl0 hl2 hl3 hl4 hl5 hl6
    refine ex_iload (pc' := 24) dX12_doLead_22 hl6 rfl ?_
    refine ex_aload_n (pc' := 25) dX12_doLead_24 hl0 rfl ?_
    refine ex_getR (pc' := 28) (n := 39) (r := 199) dX12_doLead_25 fl_12_20 s0 (by decide) r15 rfl ?_
    refine ex_iconst (v := 5) (pc' := 29) dX12_doLead_28 (by decide) rfl ?_
    refine ex_iald (pc' := 30) (n := 363) (v := nI n) dX12_doLead_29 s1 (by decide) hn rfl ?_
    refine ex_icmp_t (pc' := 112) dX12_doLead_30 (zn_ge (by omega) (by omega)) (by decide) ?_
    exact K a ls hba ha hl0 hl2 hl3 hl4 hl5
  | succ r ih =>
    intro q a ls hq hba ha hl0 hl2 hl3 hl4 hl5 hl6
    have go : ∀ (a : Nat) (ls : zL), b ≤ a → a < 128 → zget ls 0 = some (.inr (.inr (some 196))) → zget ls 2 = some (.inl jj) → zget ls 3 = some (.inl mask) → zget ls 4 = some (.inl (nI a)) → zget ls 5 = some (.inl (nI b)) → zget ls 6 = some (.inl (nI q)) → zEx none (d + 2) mX12_doLead (106, ls, [], h) Q := by
      intro a ls hba ha hl0 hl2 hl3 hl4 hl5 hl6
      refine ex_iinc (pc' := 109) (v := nI (q + 1)) dX12_doLead_106 hl6 (by decide) (nI_1 q) rfl rfl ?_
      refine ex_goto (pc' := 22) dX12_doLead_109 (by decide) ?_
      exact ih (q + 1) a _ (by omega) hba ha (zget_s1 hl0 (by decide) (by simp [zcat])) (zget_s1 hl2 (by decide) (by simp [zcat])) (zget_s1 hl3 (by decide) (by simp [zcat])) (zget_s1 hl4 (by decide) (by simp [zcat])) (zget_s1 hl5 (by decide) (by simp [zcat])) zget_s1e
    refine ex_iload (pc' := 24) dX12_doLead_22 hl6 rfl ?_
    refine ex_aload_n (pc' := 25) dX12_doLead_24 hl0 rfl ?_
    refine ex_getR (pc' := 28) (n := 39) (r := 199) dX12_doLead_25 fl_12_20 s0 (by decide) r15 rfl ?_
    refine ex_iconst (v := 5) (pc' := 29) dX12_doLead_28 (by decide) rfl ?_
    refine ex_iald (pc' := 30) (n := 363) (v := nI n) dX12_doLead_29 s1 (by decide) hn rfl ?_
    refine ex_icmp_f (pc' := 33) dX12_doLead_30 (zn_nge (by omega) (by omega)) (by decide) rfl ?_
    refine ex_aload_n (pc' := 34) dX12_doLead_33 hl0 rfl ?_
    refine ex_iload (pc' := 36) dX12_doLead_34 hl6 rfl ?_
    refine en_callvI (pc' := 39) (v := hBit (h.2.1 201 1) (nI q)) (h2 := h) (vs := [.inl (nI q)]) (rest := []) (n := 39) dX12_doLead_36 ml_12_302 ⟨zble rfl, zble rfl⟩ rfl rfl s0 (by decide) (zble rfl) rfl (k_closed s0 s3 r17) ?_
    refine ex_if (pc' := 106) (pc2 := 42) dX12_doLead_39 (by decide) rfl (fun c => go a ls hba ha hl0 hl2 hl3 hl4 hl5 hl6) (fun c => ?_)
    refine ex_iload_n (pc' := 43) dX12_doLead_42 hl3 rfl ?_
    refine ex_iload (pc' := 45) dX12_doLead_43 hl6 rfl ?_
    refine en_callsI (pc' := 48) (v := hBit mask (nI q)) (h2 := h) (vs := [.inl mask, .inl (nI q)]) (rest := []) dX12_doLead_45 ml_12_298 (Or.inl rfl) ⟨zble rfl, zble rfl⟩ rfl rfl (zble rfl) rfl k_hasBit ?_
    refine ex_if (pc' := 54) (pc2 := 51) dX12_doLead_48 (by decide) rfl (fun c => ?_) (fun c => ?_)
    · obtain ⟨x, hx7, ex⟩ := hx q (by omega)
      obtain ⟨y, hy7, ey⟩ := hy q (by omega)
      refine ex_iconst (v := 1) (pc' := 55) dX12_doLead_54 (by decide) rfl ?_
      refine ex_aload_n (pc' := 56) dX12_doLead_55 hl0 rfl ?_
      refine ex_getR (pc' := 59) (n := 39) (r := 199) dX12_doLead_56 fl_12_20 s0 (by decide) r15 rfl ?_
      refine ex_bipush (v := 59) (pc' := 61) dX12_doLead_59 (by decide) rfl ?_
      refine ex_iconst (v := 4) (pc' := 62) dX12_doLead_61 (by decide) rfl ?_
      refine ex_iload (pc' := 64) dX12_doLead_62 hl6 rfl ?_
      refine ex_imul (pc' := 65) (v := nI (4 * q)) dX12_doLead_64 (nI_m4 (by omega)) rfl ?_
      refine ex_iadd (pc' := 66) (v := nI (59 + 4 * q)) dX12_doLead_65 (nI_add _ _) rfl ?_
      refine ex_iald (pc' := 67) (n := 363) (v := nI x) dX12_doLead_66 s1 (zn_in (by omega) (by omega)) (by rw [nI_clamp (by omega)]; exact ex) rfl ?_
      refine ex_ishl (pc' := 68) (v := nI (2 ^ x)) dX12_doLead_67 (shl7 ⟨x, hx7⟩) rfl ?_
      refine ex_iconst (v := 1) (pc' := 69) dX12_doLead_68 (by decide) rfl ?_
      refine ex_aload_n (pc' := 70) dX12_doLead_69 hl0 rfl ?_
      refine ex_getR (pc' := 73) (n := 39) (r := 199) dX12_doLead_70 fl_12_20 s0 (by decide) r15 rfl ?_
      refine ex_bipush (v := 59) (pc' := 75) dX12_doLead_73 (by decide) rfl ?_
      refine ex_iconst (v := 4) (pc' := 76) dX12_doLead_75 (by decide) rfl ?_
      refine ex_iload (pc' := 78) dX12_doLead_76 hl6 rfl ?_
      refine ex_imul (pc' := 79) (v := nI (4 * q)) dX12_doLead_78 (nI_m4 (by omega)) rfl ?_
      refine ex_iadd (pc' := 80) (v := nI (59 + 4 * q)) dX12_doLead_79 (nI_add _ _) rfl ?_
      refine ex_iconst (v := nI 1) (pc' := 81) dX12_doLead_80 (by decide) rfl ?_
      refine ex_iadd (pc' := 82) (v := nI (60 + 4 * q)) dX12_doLead_81 (by rw [nI_add]; congr 1; omega) rfl ?_
      refine ex_iald (pc' := 83) (n := 363) (v := nI y) dX12_doLead_82 s1 (zn_in (by omega) (by omega)) (by rw [nI_clamp (by omega)]; exact ey) rfl ?_
      refine ex_ishl (pc' := 84) (v := nI (2 ^ y)) dX12_doLead_83 (shl7 ⟨y, hy7⟩) rfl ?_
      refine ex_ior (pc' := 85) (v := nI (2 ^ x ||| 2 ^ y)) dX12_doLead_84 (nI_or _ _) rfl ?_
      have hm : 2 ^ x ||| 2 ^ y < 2 ^ 7 := Nat.or_lt_two_pow (Nat.pow_lt_pow_right (by decide) hx7) (Nat.pow_lt_pow_right (by decide) hy7)
      generalize hmm : 2 ^ x ||| 2 ^ y = m at hm
      refine ex_istore (pc' := 87) dX12_doLead_85 (by decide) rfl rfl ?_
      have g0 := zget_s1 (k := 7) (v := .inl (nI m)) hl0 (by decide) (by simp [zcat])
      have g2 := zget_s1 (k := 7) (v := .inl (nI m)) hl2 (by decide) (by simp [zcat])
      have g3 := zget_s1 (k := 7) (v := .inl (nI m)) hl3 (by decide) (by simp [zcat])
      have g4 := zget_s1 (k := 7) (v := .inl (nI m)) hl4 (by decide) (by simp [zcat])
      have g5 := zget_s1 (k := 7) (v := .inl (nI m)) hl5 (by decide) (by simp [zcat])
      have g6 := zget_s1 (k := 7) (v := .inl (nI m)) hl6 (by decide) (by simp [zcat])
      have g7 : zget (zset1 ls 7 (.inl (nI m))) 7 = some (.inl (nI m)) := zget_s1e
      have go2 : ∀ u : Nat, u < 2 ^ 7 → zEx none (d + 2) mX12_doLead (103, zset1 ls 7 (.inl (nI m)), [.inl (nI u), .inl (nI a)], h) Q := by
        intro u hu
        refine ex_ior (pc' := 104) (v := nI (a ||| u)) dX12_doLead_103 (nI_or _ _) rfl ?_
        refine ex_istore (pc' := 106) dX12_doLead_104 (by decide) rfl rfl ?_
        have h1 : a ≤ a ||| u := Nat.left_le_or
        have h2 : a ||| u < 2 ^ 7 := Nat.or_lt_two_pow (by omega) hu
        exact go (a ||| u) _ (by omega) h2 (zget_s1 g0 (by decide) (by simp [zcat])) (zget_s1 g2 (by decide) (by simp [zcat])) (zget_s1 g3 (by decide) (by simp [zcat])) zget_s1e (zget_s1 g5 (by decide) (by simp [zcat])) (zget_s1 g6 (by decide) (by simp [zcat]))
      refine ex_iload (pc' := 89) dX12_doLead_87 g4 rfl ?_
      refine ex_iload (pc' := 91) dX12_doLead_89 g4 rfl ?_
      refine ex_iload (pc' := 93) dX12_doLead_91 g7 rfl ?_
      refine ex_iand (pc' := 94) dX12_doLead_93 rfl rfl ?_
      refine ex_if (pc' := 102) (pc2 := 97) dX12_doLead_94 (by decide) rfl (fun c => ?_) (fun c => ?_)
      · refine ex_iconst (v := nI 0) (pc' := 103) dX12_doLead_102 (by decide) rfl ?_
        exact go2 0 (by decide)
      · refine ex_iload (pc' := 99) dX12_doLead_97 g7 rfl ?_
        refine ex_goto (pc' := 103) dX12_doLead_99 (by decide) ?_
        exact go2 m hm
    · refine ex_goto (pc' := 106) dX12_doLead_51 (by decide) ?_
      exact go a ls hba ha hl0 hl2 hl3 hl4 hl5 hl6
end Qx
