/-! feed: the tape's size grows by 20, or stays above 980 -/
section HFD
variable {d s : Nat} {h : zH} {Q : Option zV → zH → Prop} {x1 x2 x3 x4 x5 : Int32}
theorem fd_pick {k : Nat} {ls : zL} (hl1 : zget ls 1 = some (.inl x1)) (hl2 : zget ls 2 = some (.inl x2)) (hl3 : zget ls 3 = some (.inl x3)) (hl4 : zget ls 4 = some (.inl x4)) (hl5 : zget ls 5 = some (.inl x5)) (hl6 : zget ls 6 = some (.inl (nI k))) (K : ∀ x : Int32, zEx none d mX12_feed (76, ls, [.inl x], h) Q) : zEx none d mX12_feed (30, ls, [], h) Q := by
  refine ex_iload (pc' := 32) dX12_feed_30 hl6 rfl ?_
  refine ex_iconst (v := 4) (pc' := 33) dX12_feed_32 (by decide) rfl ?_
  refine ex_icmp (pc' := 40) (pc2 := 36) dX12_feed_33 (by decide) rfl (fun c => ?_) (fun c => ?_)
  · refine ex_iload (pc' := 42) dX12_feed_40 hl6 rfl ?_
    refine ex_bipush (v := 8) (pc' := 44) dX12_feed_42 (by decide) rfl ?_
    refine ex_icmp (pc' := 51) (pc2 := 47) dX12_feed_44 (by decide) rfl (fun c => ?_) (fun c => ?_)
    · refine ex_iload (pc' := 53) dX12_feed_51 hl6 rfl ?_
      refine ex_bipush (v := 12) (pc' := 55) dX12_feed_53 (by decide) rfl ?_
      refine ex_icmp (pc' := 62) (pc2 := 58) dX12_feed_55 (by decide) rfl (fun c => ?_) (fun c => ?_)
      · refine ex_iload (pc' := 64) dX12_feed_62 hl6 rfl ?_
        refine ex_bipush (v := 16) (pc' := 66) dX12_feed_64 (by decide) rfl ?_
        refine ex_icmp (pc' := 74) (pc2 := 69) dX12_feed_66 (by decide) rfl (fun c => ?_) (fun c => ?_)
        · refine ex_iload (pc' := 76) dX12_feed_74 hl5 rfl ?_
          exact K _
        · refine ex_iload (pc' := 71) dX12_feed_69 hl4 rfl ?_
          refine ex_goto (pc' := 76) dX12_feed_71 (by decide) ?_
          exact K _
      · refine ex_iload_n (pc' := 59) dX12_feed_58 hl3 rfl ?_
        refine ex_goto (pc' := 76) dX12_feed_59 (by decide) ?_
        exact K _
    · refine ex_iload_n (pc' := 48) dX12_feed_47 hl2 rfl ?_
      refine ex_goto (pc' := 76) dX12_feed_48 (by decide) ?_
      exact K _
  · refine ex_iload_n (pc' := 37) dX12_feed_36 hl1 rfl ?_
    refine ex_goto (pc' := 76) dX12_feed_37 (by decide) ?_
    exact K _
theorem fd_loop (hs : s ≤ 980) : ∀ (r k : Nat) (h : zH) (ls : zL), k + r = 20 → zsh h 196 = some (12, 39) → zsh h 197 = some (14, 1000) → h.2.2.2.1 196 1 = some 197 → h.2.1 196 2 = nI (s + k) → zget ls 0 = some (.inr (.inr (some 196))) → zget ls 1 = some (.inl x1) → zget ls 2 = some (.inl x2) → zget ls 3 = some (.inl x3) → zget ls 4 = some (.inl x4) → zget ls 5 = some (.inl x5) → zget ls 6 = some (.inl (nI k)) → zEx none d mX12_feed (23, ls, [], h) (fun v h' => h'.2.1 196 2 = nI (s + 20) ∧ v = some (.inl (nI (s + 20)))) := by
  intro r
  induction r with
  | zero =>
    intro k h ls hk s0 s1 r1 ht hl0 hl1 hl2 hl3 hl4 hl5 hl6
    have e : k = 20 := by omega
    subst e
    refine ex_iload (pc' := 25) dX12_feed_23 hl6 rfl ?_
    refine ex_bipush (v := nI 20) (pc' := 27) dX12_feed_25 (by decide) rfl ?_
    refine ex_icmp_t (pc' := 120) dX12_feed_27 (zn_ge (by omega) (by omega)) (by decide) ?_
    refine ex_aload_n (pc' := 121) dX12_feed_120 hl0 rfl ?_
    refine ex_getI (pc' := 124) (n := 39) (v := nI (s + 20)) dX12_feed_121 fl_12_68 s0 (by decide) ht rfl ?_
    exact ex_iret dX12_feed_124 rfl rfl ⟨ht, rfl⟩
  | succ r ih =>
    intro k h ls hk s0 s1 r1 ht hl0 hl1 hl2 hl3 hl4 hl5 hl6
    refine ex_iload (pc' := 25) dX12_feed_23 hl6 rfl ?_
    refine ex_bipush (v := nI 20) (pc' := 27) dX12_feed_25 (by decide) rfl ?_
    refine ex_icmp_f (pc' := 30) dX12_feed_27 (zn_nge (by omega) (by omega)) (by decide) rfl ?_
    refine fd_pick hl1 hl2 hl3 hl4 hl5 hl6 (fun x => ?_)
    refine ex_istore (pc' := 78) dX12_feed_76 (by decide) rfl rfl ?_
    have g0 := zget_s1 (k := 7) (v := .inl x) hl0 (by decide) (by simp [zcat])
    have g1 := zget_s1 (k := 7) (v := .inl x) hl1 (by decide) (by simp [zcat])
    have g2 := zget_s1 (k := 7) (v := .inl x) hl2 (by decide) (by simp [zcat])
    have g3 := zget_s1 (k := 7) (v := .inl x) hl3 (by decide) (by simp [zcat])
    have g4 := zget_s1 (k := 7) (v := .inl x) hl4 (by decide) (by simp [zcat])
    have g5 := zget_s1 (k := 7) (v := .inl x) hl5 (by decide) (by simp [zcat])
    have g6 := zget_s1 (k := 7) (v := .inl x) hl6 (by decide) (by simp [zcat])
    have g7 : zget (zset1 ls 7 (.inl x)) 7 = some (.inl x) := zget_s1e
    refine ex_aload_n (pc' := 79) dX12_feed_78 g0 rfl ?_
    refine ex_getR (pc' := 82) (n := 39) (r := 197) dX12_feed_79 fl_12_7 s0 (by decide) r1 rfl ?_
    refine ex_aload_n (pc' := 83) dX12_feed_82 g0 rfl ?_
    refine ex_getI (pc' := 86) (n := 39) (v := nI (s + k)) dX12_feed_83 fl_12_68 s0 (by decide) ht rfl ?_
    refine ex_iload (pc' := 88) dX12_feed_86 g7 rfl ?_
    refine ex_bipush (v := 24) (pc' := 90) dX12_feed_88 (by decide) rfl ?_
    refine ex_bipush (v := 8) (pc' := 92) dX12_feed_90 (by decide) rfl ?_
    refine ex_iload (pc' := 94) dX12_feed_92 g6 rfl ?_
    refine ex_iconst (v := 4) (pc' := 95) dX12_feed_94 (by decide) rfl ?_
    refine ex_irem (pc' := 96) dX12_feed_95 (by decide) rfl rfl ?_
    refine ex_imul (pc' := 97) dX12_feed_96 rfl rfl ?_
    refine ex_isub (pc' := 98) dX12_feed_97 rfl rfl ?_
    refine ex_ishr (pc' := 99) dX12_feed_98 rfl rfl ?_
    refine ex_sipush (v := 255) (pc' := 102) dX12_feed_99 (by decide) rfl ?_
    refine ex_iand (pc' := 103) dX12_feed_102 rfl rfl ?_
    refine ex_iast (pc' := 104) (n := 1000) dX12_feed_103 s1 (zn_in (by omega) (by omega)) rfl ?_
    refine ex_aload_n (pc' := 105) dX12_feed_104 g0 rfl ?_
    refine ex_dup (pc' := 106) dX12_feed_105 rfl rfl ?_
    refine ex_getI (pc' := 109) (n := 39) (v := nI (s + k)) dX12_feed_106 fl_12_68 s0 (by decide) (by rw [zsI_no (by omega)]; exact ht) rfl ?_
    refine ex_iconst (v := nI 1) (pc' := 110) dX12_feed_109 (by decide) rfl ?_
    refine ex_iadd (pc' := 111) (v := nI (s + (k + 1))) dX12_feed_110 (by rw [nI_add]; rfl) rfl ?_
    refine ex_putI (pc' := 114) (n := 39) dX12_feed_111 fl_12_68 s0 (Or.inl rfl) (Or.inl rfl) rfl ?_
    refine ex_iinc (pc' := 117) (v := nI (k + 1)) dX12_feed_114 g6 (by decide) (nI_1 k) rfl rfl ?_
    refine ex_goto (pc' := 23) dX12_feed_117 (by decide) ?_
    exact ih (k + 1) _ _ (by omega) s0 s1 r1 (by rw [zsI_at, if_pos ⟨rfl, rfl⟩]) (zget_s1 g0 (by decide) (by simp [zcat])) (zget_s1 g1 (by decide) (by simp [zcat])) (zget_s1 g2 (by decide) (by simp [zcat])) (zget_s1 g3 (by decide) (by simp [zcat])) (zget_s1 g4 (by decide) (by simp [zcat])) (zget_s1 g5 (by decide) (by simp [zcat])) zget_s1e
theorem F_feed12 (ho : hOK wd h) (ht : h.2.1 196 2 = nI s) (hs : s ≤ 1000) : zEx none d mX12_feed (0, zargs 0 [.inr (.inr (some 196)), .inl x1, .inl x2, .inl x3, .inl x4, .inl x5], [], h) (fun v h' => (s ≤ 980 ∧ h'.2.1 196 2 = nI (s + 20) ∧ v = some (.inl (nI (s + 20)))) ∨ (980 < s ∧ h'.2.1 196 2 = nI s ∧ v = some (.inl (-1)))) := by
  have s0 : zsh h 196 = some (12, 39) := ho.1 196 (12, 39) (by decide +kernel)
  have s1 : zsh h 197 = some (14, 1000) := ho.1 197 (14, 1000) (by decide +kernel)
  have r1 : h.2.2.2.1 196 1 = some 197 := ho.2.2.1 196 1 197 (by decide +kernel)
  show zEx none d mX12_feed (0, [(0, .inr (.inr (some 196))), (1, .inl x1), (2, .inl x2), (3, .inl x3), (4, .inl x4), (5, .inl x5)], [], h) _
  refine ex_aload_n (pc' := 1) dX12_feed_0 rfl rfl ?_
  refine ex_iconst (v := 0) (pc' := 2) dX12_feed_1 (by decide) rfl ?_
  refine ex_putI (pc' := 5) (n := 39) dX12_feed_2 fl_12_62 s0 (Or.inl rfl) (Or.inl rfl) rfl ?_
  refine ex_aload_n (pc' := 6) dX12_feed_5 rfl rfl ?_
  refine ex_getI (pc' := 9) (n := 39) (v := nI s) dX12_feed_6 fl_12_68 s0 (by decide) (by rw [zsI_no (by omega)]; exact ht) rfl ?_
  refine ex_bipush (v := nI 20) (pc' := 11) dX12_feed_9 (by decide) rfl ?_
  refine ex_iadd (pc' := 12) (v := nI (s + 20)) dX12_feed_11 (nI_add _ _) rfl ?_
  refine ex_sipush (v := nI 1000) (pc' := 15) dX12_feed_12 (by decide) rfl ?_
  refine ex_icmp (pc' := 20) (pc2 := 18) dX12_feed_15 (by decide) rfl (fun c => ?_) (fun c => ?_)
  · have c : nI (s + 20) ≤ nI 1000 := by simpa [zcond] using c
    rw [Int32.le_iff_toInt_le, nI_toInt (by omega), nI_toInt (by omega)] at c
    have c : s ≤ 980 := by omega
    refine ex_iconst (v := nI 0) (pc' := 21) dX12_feed_20 (by decide) rfl ?_
    refine ex_istore (pc' := 23) dX12_feed_21 (by decide) rfl rfl ?_
    refine zEx.mono (fd_loop (x1 := x1) (x2 := x2) (x3 := x3) (x4 := x4) (x5 := x5) c 20 0 _ _ (by omega) s0 s1 r1 (by rw [zsI_no (by omega)]; exact ht) rfl rfl rfl rfl rfl rfl rfl) (fun v h' hq => .inl ⟨c, hq⟩)
  · have c : ¬ nI (s + 20) ≤ nI 1000 := by simpa [zcond] using c
    rw [Int32.le_iff_toInt_le, nI_toInt (by omega), nI_toInt (by omega)] at c
    refine ex_iconst (v := (-1)) (pc' := 19) dX12_feed_18 (by decide) rfl ?_
    exact ex_iret dX12_feed_19 rfl rfl (.inr ⟨by omega, by rw [zsI_no (by omega)]; exact ht, rfl⟩)
end HFD
