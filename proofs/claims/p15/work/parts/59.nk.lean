section Pk0
/-! feed: the tape's size grows by 20, or stays above 980 -/
section HFD
variable {d s : Nat} {h : zH} {Q : Option zV → zH → Prop} {x1 x2 x3 x4 x5 : Int32}
theorem fd_pick {k : Nat} {ls : zL} (hl1 : zget ls 1 = some (.inl x1)) (hl2 : zget ls 2 = some (.inl x2)) (hl3 : zget ls 3 = some (.inl x3)) (hl4 : zget ls 4 = some (.inl x4)) (hl5 : zget ls 5 = some (.inl x5)) (hl6 : zget ls 6 = some (.inl (nI k))) (K : ∀ x : Int32, zEx none d mX12_feed (76, ls, [.inl x], h) Q) : zEx none d mX12_feed (30, ls, [], h) Q := by
  refine ex_iload (pc' := 32) dX12_feed_30 hl6 rfl ?_
  refine ex_iconst (v := 4) (pc' := 33) dX12_feed_32 (by decide) rfl ?_
  refine ex_icmp (pc' := 40) (pc2 := 36) dX12_feed_33 (by decide) rfl (fun c => ?_) (fun c => ?_)
  · refine ex_iload (pc' := 42) dX12_feed_40 hl6 rfl ?_
    refine ex_bipush (v := 8) (pc' := 44) dX12_feed_42 (by decide) rfl ?_
    refine ex_icmp (pc' := 51) (pc2 := 47) dX12_feed_44 (by decide) rfl (fun c => ?_) (fun c => ?_)
    · refine ex_iload (pc' := 53) dX12_feed_51 hl6 rfl ?_
      refine ex_bipush (v := 12) (pc' := 55) dX12_feed_53 (by decide) rfl ?_
      refine ex_icmp (pc' := 62) (pc2 := 58) dX12_feed_55 (by decide) rfl (fun c => ?_) (fun c => ?_)
      · refine ex_iload (pc' := 64) dX12_feed_62 hl6 rfl ?_
        refine ex_bipush (v := 16) (pc' := 66) dX12_feed_64 (by decide) rfl ?_
        refine ex_icmp (pc' := 74) (pc2 := 69) dX12_feed_66 (by decide) rfl (fun c => ?_) (fun c => ?_)
        · refine ex_iload (pc' := 76) dX12_feed_74 hl5 rfl ?_
          exact K _
        · refine ex_iload (pc' := 71) dX12_feed_69 hl4 rfl ?_
          refine ex_goto (pc' := 76) dX12_feed_71 (by decide) ?_
          exact K _
      · refine ex_iload_n (pc' := 59) dX12_feed_58 hl3 rfl ?_
        refine ex_goto (pc' := 76) dX12_feed_59 (by decide) ?_
        exact K _
    · refine ex_iload_n (pc' := 48) dX12_feed_47 hl2 rfl ?_
      refine ex_goto (pc' := 76) dX12_feed_48 (by decide) ?_
      exact K _
  · refine ex_iload_n (pc' := 37) dX12_feed_36 hl1 rfl ?_
    refine ex_goto (pc' := 76) dX12_feed_37 (by decide) ?_
    exact K _
theorem fd_loop (hs : s ≤ 980) : ∀ (r k : Nat) (h : zH) (ls : zL), k + r = 20 → zsh h 196 = some (12, 39) → zsh h 197 = some (14, 1000) → h.2.2.2.1 196 1 = some 197 → h.2.1 196 2 = nI (s + k) → zget ls 0 = some (.inr (.inr (some 196))) → zget ls 1 = some (.inl x1) → zget ls 2 = some (.inl x2) → zget ls 3 = some (.inl x3) → zget ls 4 = some (.inl x4) → zget ls 5 = some (.inl x5) → zget ls 6 = some (.inl (nI k)) → zEx none d mX12_feed (23, ls, [], h) (fun v h' => h'.2.1 196 2 = nI (s + 20) ∧ v = some (.inl (nI (s + 20)))) := by
  intro r
  induction r with
  | zero =>
    intro k h ls hk s0 s1 r1 ht hl0 hl1 hl2 hl3 hl4 hl5 hl6
    have e : k = 20 := by omega
    subst e
    refine ex_iload (pc' := 25) dX12_feed_23 hl6 rfl ?_
    refine ex_bipush (v := nI 20) (pc' := 27) dX12_feed_25 (by decide) rfl ?_
    refine ex_icmp_t (pc' := 120) dX12_feed_27 (zn_ge (by omega) (by omega)) (by decide) ?_
    refine ex_aload_n (pc' := 121) dX12_feed_120 hl0 rfl ?_
    refine ex_getI (pc' := 124) (n := 39) (v := nI (s + 20)) dX12_feed_121 fl_12_68 s0 (by decide) ht rfl ?_
    exact ex_iret dX12_feed_124 rfl rfl ⟨ht, rfl⟩
  | succ r ih =>
    intro k h ls hk s0 s1 r1 ht hl0 hl1 hl2 hl3 hl4 hl5 hl6
    refine ex_iload (pc' := 25) dX12_feed_23 hl6 rfl ?_
    refine ex_bipush (v := nI 20) (pc' := 27) dX12_feed_25 (by decide) rfl ?_
    refine ex_icmp_f (pc' := 30) dX12_feed_27 (zn_nge (by omega) (by omega)) (by decide) rfl ?_
    refine fd_pick hl1 hl2 hl3 hl4 hl5 hl6 (fun x => ?_)
    refine ex_istore (pc' := 78) dX12_feed_76 (by decide) rfl rfl ?_
    have g0 := zget_s1 (k := 7) (v := .inl x) hl0 (by decide) (by simp [zcat])
    have g1 := zget_s1 (k := 7) (v := .inl x) hl1 (by decide) (by simp [zcat])
    have g2 := zget_s1 (k := 7) (v := .inl x) hl2 (by decide) (by simp [zcat])
    have g3 := zget_s1 (k := 7) (v := .inl x) hl3 (by decide) (by simp [zcat])
    have g4 := zget_s1 (k := 7) (v := .inl x) hl4 (by decide) (by simp [zcat])
    have g5 := zget_s1 (k := 7) (v := .inl x) hl5 (by decide) (by simp [zcat])
    have g6 := zget_s1 (k := 7) (v := .inl x) hl6 (by decide) (by simp [zcat])
    have g7 : zget (zset1 ls 7 (.inl x)) 7 = some (.inl x) := zget_s1e
    refine ex_aload_n (pc' := 79) dX12_feed_78 g0 rfl ?_
    refine ex_getR (pc' := 82) (n := 39) (r := 197) dX12_feed_79 fl_12_7 s0 (by decide) r1 rfl ?_
    refine ex_aload_n (pc' := 83) dX12_feed_82 g0 rfl ?_
    refine ex_getI (pc' := 86) (n := 39) (v := nI (s + k)) dX12_feed_83 fl_12_68 s0 (by decide) ht rfl ?_
    refine ex_iload (pc' := 88) dX12_feed_86 g7 rfl ?_
    refine ex_bipush (v := 24) (pc' := 90) dX12_feed_88 (by decide) rfl ?_
    refine ex_bipush (v := 8) (pc' := 92) dX12_feed_90 (by decide) rfl ?_
    refine ex_iload (pc' := 94) dX12_feed_92 g6 rfl ?_
    refine ex_iconst (v := 4) (pc' := 95) dX12_feed_94 (by decide) rfl ?_
    refine ex_irem (pc' := 96) dX12_feed_95 (by decide) rfl rfl ?_
    refine ex_imul (pc' := 97) dX12_feed_96 rfl rfl ?_
    refine ex_isub (pc' := 98) dX12_feed_97 rfl rfl ?_
    refine ex_ishr (pc' := 99) dX12_feed_98 rfl rfl ?_
    refine ex_sipush (v := 255) (pc' := 102) dX12_feed_99 (by decide) rfl ?_
    refine ex_iand (pc' := 103) dX12_feed_102 rfl rfl ?_
    refine ex_iast (pc' := 104) (n := 1000) dX12_feed_103 s1 (zn_in (by omega) (by omega)) rfl ?_
    refine ex_aload_n (pc' := 105) dX12_feed_104 g0 rfl ?_
    refine ex_dup (pc' := 106) dX12_feed_105 rfl rfl ?_
    refine ex_getI (pc' := 109) (n := 39) (v := nI (s + k)) dX12_feed_106 fl_12_68 s0 (by decide) (by rw [zsI_no (by omega)]; exact ht) rfl ?_
    refine ex_iconst (v := nI 1) (pc' := 110) dX12_feed_109 (by decide) rfl ?_
    refine ex_iadd (pc' := 111) (v := nI (s + (k + 1))) dX12_feed_110 (by rw [nI_add]; rfl) rfl ?_
    refine ex_putI (pc' := 114) (n := 39) dX12_feed_111 fl_12_68 s0 (Or.inl rfl) (Or.inl rfl) rfl ?_
    refine ex_iinc (pc' := 117) (v := nI (k + 1)) dX12_feed_114 g6 (by decide) (nI_1 k) rfl rfl ?_
    refine ex_goto (pc' := 23) dX12_feed_117 (by decide) ?_
    exact ih (k + 1) _ _ (by omega) s0 s1 r1 (by rw [zsI_at, if_pos ⟨rfl, rfl⟩]) (zget_s1 g0 (by decide) (by simp [zcat])) (zget_s1 g1 (by decide) (by simp [zcat])) (zget_s1 g2 (by decide) (by simp [zcat])) (zget_s1 g3 (by decide) (by simp [zcat])) (zget_s1 g4 (by decide) (by simp [zcat])) (zget_s1 g5 (by decide) (by simp [zcat])) zget_s1e
theorem F_feed12 (ho : hOK wd h) (ht : h.2.1 196 2 = nI s) (hs : s ≤ 1000) : zEx none d mX12_feed (0, zargs 0 [.inr (.inr (some 196)), .inl x1, .inl x2, .inl x3, .inl x4, .inl x5], [], h) (fun v h' => (s ≤ 980 ∧ h'.2.1 196 2 = nI (s + 20) ∧ v = some (.inl (nI (s + 20)))) ∨ (980 < s ∧ h'.2.1 196 2 = nI s ∧ v = some (.inl (-1)))) := by
  have s0 : zsh h 196 = some (12, 39) := ho.1 196 (12, 39) (by decide +kernel)
  have s1 : zsh h 197 = some (14, 1000) := ho.1 197 (14, 1000) (by decide +kernel)
  have r1 : h.2.2.2.1 196 1 = some 197 := ho.2.2.1 196 1 197 (by decide +kernel)
  show zEx none d mX12_feed (0, [(0, .inr (.inr (some 196))), (1, .inl x1), (2, .inl x2), (3, .inl x3), (4, .inl x4), (5, .inl x5)], [], h) _
  refine ex_aload_n (pc' := 1) dX12_feed_0 rfl rfl ?_
  refine ex_iconst (v := 0) (pc' := 2) dX12_feed_1 (by decide) rfl ?_
  refine ex_putI (pc' := 5) (n := 39) dX12_feed_2 fl_12_62 s0 (Or.inl rfl) (Or.inl rfl) rfl ?_
  refine ex_aload_n (pc' := 6) dX12_feed_5 rfl rfl ?_
  refine ex_getI (pc' := 9) (n := 39) (v := nI s) dX12_feed_6 fl_12_68 s0 (by decide) (by rw [zsI_no (by omega)]; exact ht) rfl ?_
  refine ex_bipush (v := nI 20) (pc' := 11) dX12_feed_9 (by decide) rfl ?_
  refine ex_iadd (pc' := 12) (v := nI (s + 20)) dX12_feed_11 (nI_add _ _) rfl ?_
  refine ex_sipush (v := nI 1000) (pc' := 15) dX12_feed_12 (by decide) rfl ?_
  refine ex_icmp (pc' := 20) (pc2 := 18) dX12_feed_15 (by decide) rfl (fun c => ?_) (fun c => ?_)
  · have c : nI (s + 20) ≤ nI 1000 := by simpa [zcond] using c
    rw [Int32.le_iff_toInt_le, nI_toInt (by omega), nI_toInt (by omega)] at c
    have c : s ≤ 980 := by omega
    refine ex_iconst (v := nI 0) (pc' := 21) dX12_feed_20 (by decide) rfl ?_
    refine ex_istore (pc' := 23) dX12_feed_21 (by decide) rfl rfl ?_
    refine zEx.mono (fd_loop (x1 := x1) (x2 := x2) (x3 := x3) (x4 := x4) (x5 := x5) c 20 0 _ _ (by omega) s0 s1 r1 (by rw [zsI_no (by omega)]; exact ht) rfl rfl rfl rfl rfl rfl rfl) (fun v h' hq => .inl ⟨c, hq⟩)
  · have c : ¬ nI (s + 20) ≤ nI 1000 := by simpa [zcond] using c
    rw [Int32.le_iff_toInt_le, nI_toInt (by omega), nI_toInt (by omega)] at c
    refine ex_iconst (v := (-1)) (pc' := 19) dX12_feed_18 (by decide) rfl ?_
    exact ex_iret dX12_feed_19 rfl rfl (.inr ⟨by omega, by rw [zsI_no (by omega)]; exact ht, rfl⟩)
end HFD
end Pk0
section Pk1
/-! feed of the class: four bytes five times -/
section HFC
variable {d s : Nat} {h : zH} {x : Int32}
theorem ap_loop : ∀ (r t : Nat) (h : zH) (ls : zL), r ≤ 4 → t + r ≤ 1000 → zsh h 0 = some (11, 16) → zsh h 1 = some (13, 1000) → h.2.2.2.1 0 0 = some 1 → h.2.1 0 1 = nI t → zget ls 0 = some (.inr (.inr (some 0))) → zget ls 1 = some (.inl x) → zget ls 2 = some (.inl (Int32.ofInt (8 * (r : Int) - 8))) → zEx none d mX11_appendBytes (3, ls, [], h) (fun v h' => v = none ∧ h'.1 = h.1 ∧ h'.2.2.2.1 = h.2.2.2.1 ∧ h'.2.1 0 1 = nI (t + r)) := by
  intro r
  induction r with
  | zero =>
    intro t h ls _ ht s0 s1 r0 h1 hl0 hl1 hl2
    refine ex_iload_n (pc' := 4) dX11_appendBytes_3 hl2 rfl ?_
    refine ex_if_t (pc' := 36) dX11_appendBytes_4 (by decide) (by decide) ?_
    exact ex_vret dX11_appendBytes_36 rfl ⟨rfl, rfl, rfl, h1⟩
  | succ r ih =>
    intro t h ls hr ht s0 s1 r0 h1 hl0 hl1 hl2
    have hc : ∀ q : Fin 4, zcond .lt (Int32.ofInt (8 * ((q.val + 1 : Nat) : Int) - 8)) 0 = false ∧ Int32.ofInt (8 * ((q.val + 1 : Nat) : Int) - 8) + Int32.ofInt (-8) = Int32.ofInt (8 * (q.val : Int) - 8) := by decide
    have hq := hc ⟨r, by omega⟩
    refine ex_iload_n (pc' := 4) dX11_appendBytes_3 hl2 rfl ?_
    refine ex_if_f (pc' := 7) dX11_appendBytes_4 hq.1 (by decide) rfl ?_
    refine ex_aload_n (pc' := 8) dX11_appendBytes_7 hl0 rfl ?_
    refine ex_getR (pc' := 11) (n := 16) (r := 1) dX11_appendBytes_8 fl_11_9 s0 (by decide) r0 rfl ?_
    refine ex_aload_n (pc' := 12) dX11_appendBytes_11 hl0 rfl ?_
    refine ex_getI (pc' := 15) (n := 16) (v := nI t) dX11_appendBytes_12 fl_11_13 s0 (by decide) h1 rfl ?_
    refine ex_iload_n (pc' := 16) dX11_appendBytes_15 hl1 rfl ?_
    refine ex_iload_n (pc' := 17) dX11_appendBytes_16 hl2 rfl ?_
    refine ex_ishr (pc' := 18) dX11_appendBytes_17 rfl rfl ?_
    refine ex_i2b (pc' := 19) dX11_appendBytes_18 rfl rfl ?_
    refine ex_bast (pc' := 20) (n := 1000) dX11_appendBytes_19 s1 (zn_in (by omega) (by omega)) rfl ?_
    refine ex_aload_n (pc' := 21) dX11_appendBytes_20 hl0 rfl ?_
    refine ex_dup (pc' := 22) dX11_appendBytes_21 rfl rfl ?_
    refine ex_getI (pc' := 25) (n := 16) (v := nI t) dX11_appendBytes_22 fl_11_13 s0 (by decide) (by rw [zsI_no (by omega)]; exact h1) rfl ?_
    refine ex_iconst (v := nI 1) (pc' := 26) dX11_appendBytes_25 (by decide) rfl ?_
    refine ex_iadd (pc' := 27) (v := nI (t + 1)) dX11_appendBytes_26 (nI_add _ _) rfl ?_
    refine ex_putI (pc' := 30) (n := 16) dX11_appendBytes_27 fl_11_13 s0 (Or.inl rfl) (Or.inl rfl) rfl ?_
    refine ex_iinc (pc' := 33) dX11_appendBytes_30 hl2 (by decide) hq.2 rfl rfl ?_
    refine ex_goto (pc' := 3) dX11_appendBytes_33 (by decide) ?_
    refine zEx.mono (ih (t + 1) _ _ (by omega) (by omega) s0 s1 r0 (by rw [zsI_at, if_pos ⟨rfl, rfl⟩]) (zget_s1 hl0 (by decide) (by simp [zcat])) (zget_s1 hl1 (by decide) (by simp [zcat])) zget_s1e) (fun v h' hq => ?_)
    obtain ⟨a, b, c, e⟩ := hq
    exact ⟨a, b, c, by rw [e]; congr 1; omega⟩
theorem k_append {t : Nat} (s0 : zsh h 0 = some (11, 16)) (s1 : zsh h 1 = some (13, 1000)) (r0 : h.2.2.2.1 0 0 = some 1) (h1 : h.2.1 0 1 = nI t) (ht : t + 4 ≤ 1000) : zCv d mX11_appendBytes [.inr (.inr (some 0)), .inl x] h (fun h' => h'.1 = h.1 ∧ h'.2.2.2.1 = h.2.2.2.1 ∧ h'.2.1 0 1 = nI (t + 4)) := by
  show zEx none d mX11_appendBytes (0, [(0, .inr (.inr (some 0))), (1, .inl x)], [], h) _
  refine ex_bipush (v := 24) (pc' := 2) dX11_appendBytes_0 (by decide) rfl ?_
  refine ex_istore_n (pc' := 3) dX11_appendBytes_2 (by decide) rfl rfl ?_
  exact ap_loop 4 t h _ (Nat.le_refl _) ht s0 s1 r0 h1 rfl rfl rfl
theorem F_feed11 {x1 x2 x3 x4 x5 : Int32} (ho : hOK wd h) (ht : h.2.1 0 1 = nI s) (hs : s ≤ 1000) : zEx none (d + 1) mX11_feed (0, zargs 0 [.inr (.inr (some 0)), .inl x1, .inl x2, .inl x3, .inl x4, .inl x5], [], h) (fun v h' => (s ≤ 980 ∧ h'.2.1 0 1 = nI (s + 20) ∧ v = some (.inl (nI (s + 20)))) ∨ (980 < s ∧ h'.2.1 0 1 = nI s ∧ v = some (.inl (-1)))) := by
  have s0 : zsh h 0 = some (11, 16) := ho.1 0 (11, 16) (by decide +kernel)
  have s1 : zsh h 1 = some (13, 1000) := ho.1 1 (13, 1000) (by decide +kernel)
  have r0 : h.2.2.2.1 0 0 = some 1 := ho.2.2.1 0 0 1 (by decide +kernel)
  have zs : ∀ {h' : zH} {a : Nat}, h'.1 = h.1 → zsh h' a = zsh h a := fun e => by unfold zsh; rw [e]
  show zEx none (d + 1) mX11_feed (0, [(0, .inr (.inr (some 0))), (1, .inl x1), (2, .inl x2), (3, .inl x3), (4, .inl x4), (5, .inl x5)], [], h) _
  refine ex_aload_n (pc' := 1) dX11_feed_0 rfl rfl ?_
  refine ex_getI (pc' := 4) (n := 16) (v := nI s) dX11_feed_1 fl_11_13 s0 (by decide) ht rfl ?_
  refine ex_sipush (v := nI 980) (pc' := 7) dX11_feed_4 (by decide) rfl ?_
  refine ex_icmp (pc' := 12) (pc2 := 10) dX11_feed_7 (by decide) rfl (fun c => ?_) (fun c => ?_)
  · have c : nI s ≤ nI 980 := by simpa [zcond] using c
    rw [Int32.le_iff_toInt_le, nI_toInt (by omega), nI_toInt (by omega)] at c
    have c : s ≤ 980 := by omega
    refine ex_aload_n (pc' := 13) dX11_feed_12 rfl rfl ?_
    refine ex_iload_n (pc' := 14) dX11_feed_13 rfl rfl ?_
    refine ex_callvV (pc' := 17) (vs := [.inl x1]) (rest := []) (n := 16) dX11_feed_14 ml_11_94 ⟨zble rfl, zble rfl⟩ rfl rfl s0 (by decide) (zble rfl) rfl (k_append s0 s1 r0 ht (by omega)) (fun h1 hq => ?_)
    obtain ⟨a1, b1, c1⟩ := hq
    refine ex_aload_n (pc' := 18) dX11_feed_17 rfl rfl ?_
    refine ex_iload_n (pc' := 19) dX11_feed_18 rfl rfl ?_
    refine ex_callvV (pc' := 22) (vs := [.inl x2]) (rest := []) (n := 16) dX11_feed_19 ml_11_94 ⟨zble rfl, zble rfl⟩ rfl rfl ((zs a1).trans s0) (by decide) (zble rfl) rfl (k_append ((zs a1).trans s0) ((zs a1).trans s1) (by rw [b1]; exact r0) c1 (by omega)) (fun h2 hq => ?_)
    obtain ⟨a2, b2, c2⟩ := hq
    have a2 := a2.trans a1
    have b2 := b2.trans b1
    refine ex_aload_n (pc' := 23) dX11_feed_22 rfl rfl ?_
    refine ex_iload_n (pc' := 24) dX11_feed_23 rfl rfl ?_
    refine ex_callvV (pc' := 27) (vs := [.inl x3]) (rest := []) (n := 16) dX11_feed_24 ml_11_94 ⟨zble rfl, zble rfl⟩ rfl rfl ((zs a2).trans s0) (by decide) (zble rfl) rfl (k_append ((zs a2).trans s0) ((zs a2).trans s1) (by rw [b2]; exact r0) c2 (by omega)) (fun h3 hq => ?_)
    obtain ⟨a3, b3, c3⟩ := hq
    have a3 := a3.trans a2
    have b3 := b3.trans b2
    refine ex_aload_n (pc' := 28) dX11_feed_27 rfl rfl ?_
    refine ex_iload (pc' := 30) dX11_feed_28 rfl rfl ?_
    refine ex_callvV (pc' := 33) (vs := [.inl x4]) (rest := []) (n := 16) dX11_feed_30 ml_11_94 ⟨zble rfl, zble rfl⟩ rfl rfl ((zs a3).trans s0) (by decide) (zble rfl) rfl (k_append ((zs a3).trans s0) ((zs a3).trans s1) (by rw [b3]; exact r0) c3 (by omega)) (fun h4 hq => ?_)
    obtain ⟨a4, b4, c4⟩ := hq
    have a4 := a4.trans a3
    have b4 := b4.trans b3
    refine ex_aload_n (pc' := 34) dX11_feed_33 rfl rfl ?_
    refine ex_iload (pc' := 36) dX11_feed_34 rfl rfl ?_
    refine ex_callvV (pc' := 39) (vs := [.inl x5]) (rest := []) (n := 16) dX11_feed_36 ml_11_94 ⟨zble rfl, zble rfl⟩ rfl rfl ((zs a4).trans s0) (by decide) (zble rfl) rfl (k_append ((zs a4).trans s0) ((zs a4).trans s1) (by rw [b4]; exact r0) c4 (by omega)) (fun h5 hq => ?_)
    obtain ⟨a5, b5, c5⟩ := hq
    have a5 := a5.trans a4
    refine ex_aload_n (pc' := 40) dX11_feed_39 rfl rfl ?_
    refine ex_getI (pc' := 43) (n := 16) (v := nI (s + 20)) dX11_feed_40 fl_11_13 ((zs a5).trans s0) (by decide) (by rw [c5]) rfl ?_
    exact ex_iret dX11_feed_43 rfl rfl (.inl ⟨c, by rw [c5], rfl⟩)
  · have c : ¬ nI s ≤ nI 980 := by simpa [zcond] using c
    rw [Int32.le_iff_toInt_le, nI_toInt (by omega), nI_toInt (by omega)] at c
    refine ex_iconst (v := -1) (pc' := 11) dX11_feed_10 (by decide) rfl ?_
    exact ex_iret dX11_feed_11 rfl rfl (.inr ⟨by omega, ht, rfl⟩)
end HFC
end Pk1
section Pk2
/-! a loop of lines from a node (post, behind the reset of the tape) -/
def aChP (w : aWd) (c : aCt) (lk : aLk) (cd : aCd) (fk : List Nat) (fuel : Nat) (X : List aNd) : List aNd → Prop
  | [] => True
  | e :: es => aSgk w c lk cd fk fuel ((es.head?.toList ++ X).map nd0) (nd1 e) = true ∧ aChP w c lk cd fk fuel X es
theorem aChP_ok {w : aWd} {c : aCt} {lk : aLk} {cd : aCd} {fk : List Nat} {fuel d : Nat} {vs : List zV} {X : List aNd} (hlk : aLkH w c lk) (hcd : aCdH c cd) (hd : c.2.2.2.2.2.2 ≤ d) (hX : ∀ nd ∈ X, aNok w c d vs nd) : ∀ (Es : List aNd), aChP w c lk cd fk fuel X Es → ∀ nd ∈ Es, aNok w c d vs nd := by
  intro Es
  induction Es with
  | nil => intro _ nd hm; cases hm
  | cons e es ih =>
    intro h nd hm
    have ih := ih h.2
    rcases List.mem_cons.mp hm with rfl | hm
    · refine aStep_ok (T := es.head?.toList ++ X) hlk hcd hd (fun nd' hm' => ?_) h.1
      rcases List.mem_append.mp hm' with hm' | hm'
      · refine ih nd' ?_
        cases es with
        | nil => cases hm'
        | cons a t =>
          have : nd' = a := by simpa using hm'
          rw [this]
          exact List.mem_cons_self
      · exact hX nd' hm'
    · exact ih nd hm
theorem aPostN_ok {w : aWd} {c : aCt} {lk : aLk} {cd : aCd} {fk : List Nat} {fuel : Nat} {md' : aMd} {T A B C Es : List aNd} (hlk : aLkH w c lk) (hcd : aCdH c cd) (hw : aLe (gSeg (w.2.1 196) 5) [(0, 100000, 1)] = true) (hmd : (aMono md' && aMdOk md' c.2.2.2.2.1) = true)
    (kT : ∀ nd ∈ T, aSgk w (c.1, c.2.1, c.2.2.1, c.2.2.2.1, md', c.2.2.2.2.2.1, c.2.2.2.2.2.2) lk cd fk fuel (T ++ []) nd = true)
    (kA : ∀ nd ∈ A, aSgk w (c.1, c.2.1, c.2.2.1, c.2.2.2.1, md', c.2.2.2.2.2.1, c.2.2.2.2.2.2) lk cd fk fuel (T.map nd0) (nd1 nd) = true)
    (kB : ∀ nd ∈ B, (aTok [(1, 3, 1)] nd && aSgk w (c.1, c.2.1, c.2.2.1, c.2.2.2.1, md', c.2.2.2.2.2.1, c.2.2.2.2.2.2) lk cd fk fuel ((T ++ C).map nd0) (nd1 nd)) = true)
    (kC : ∀ nd ∈ C, (aTok [(59, 59, 1)] nd && aSgk w (c.1, c.2.1, c.2.2.1, c.2.2.2.1, md', c.2.2.2.2.2.1, c.2.2.2.2.2.2) lk cd fk fuel ((A ++ B).map nd0) (nd1 nd)) = true)
    (kE : aChP w c lk cd fk fuel (T ++ C) Es) : ∀ d, c.2.2.2.2.2.2 ≤ d → ∀ vs, ∀ nd ∈ Es, aNok w c d vs nd := by
  simp only [Bool.and_eq_true] at hmd kB kC
  intro d hd vs
  refine aChP_ok hlk hcd hd (fun nd hm1 => ?_) Es kE
  intro g' hn'
  have hn' : aNH w c.2.2.2.2.1 c.2.2.2.2.2.1 g'.2.2.2 nd g' := hn'
  have hT := aNodes_ok (c := (c.1, c.2.1, c.2.2.1, c.2.2.2.1, md', c.2.2.2.2.2.1, c.2.2.2.2.2.2)) (vs := vs) (ex := []) kT hlk hcd hd (fun nd hm => nomatch hm)
  have hA : ∀ nd ∈ A, aNok w _ d vs nd := fun nd hm => aStep_ok (c := (c.1, c.2.1, c.2.2.1, c.2.2.2.1, md', c.2.2.2.2.2.1, c.2.2.2.2.2.2)) hlk hcd hd hT (kA nd hm)
  have hC := aLoop_ok (c := (c.1, c.2.1, c.2.2.1, c.2.2.2.1, md', c.2.2.2.2.2.1, c.2.2.2.2.2.2)) (vs := vs) hmd.1 hlk hcd hd hT hA (fun nd hm => (kC nd hm).2) (fun nd hm => (kB nd hm).2) hw (fun nd hm => (kC nd hm).1) (fun nd hm => (kB nd hm).1)
  have fin : aNok w (c.1, c.2.1, c.2.2.1, c.2.2.2.1, md', c.2.2.2.2.2.1, c.2.2.2.2.2.2) d vs nd := by
    rcases List.mem_append.mp hm1 with hm | hm
    · exact hT nd hm
    · exact hC nd hm
  exact zEx.mono (fin g' hn'.re) (fun v h' hq => ⟨hq.1, hn'.fr.tr hq.2.1 hmd.2 aMdLe_rf, hq.2.2⟩)
end Pk2
section Pk3
/-! contracts by hand, by the general rows -/
theorem S_X5_isToken_0 : aSpec wd ct_X5_isToken_0 := S_it (by decide +kernel)
theorem S_X12_isWord_0 : aSpec wd ct_X12_isWord_0 := S_iw (by decide +kernel)
theorem S_X12_isWord_1 : aSpec wd ct_X12_isWord_1 := S_iw0 (by decide +kernel) (by decide +kernel)
theorem S_X12_isWord_2 : aSpec wd ct_X12_isWord_2 := S_iw0 (by decide +kernel) (by decide +kernel)
theorem S_X12_isWord_3 : aSpec wd ct_X12_isWord_3 := S_iw0 (by decide +kernel) (by decide +kernel)
theorem S_X12_isWord_4 : aSpec wd ct_X12_isWord_4 := S_iw0 (by decide +kernel) (by decide +kernel)
theorem S_X12_copy_0 : aSpec wd ct_X12_copy_0 := S_cpR (by decide +kernel)
theorem S_X12_isWord_5 : aSpec wd ct_X12_isWord_5 := S_iw0 (by decide +kernel) (by decide +kernel)
theorem S_X12_copy_1 : aSpec wd ct_X12_copy_1 := S_cpR (by decide +kernel)
theorem S_X12_copy_2 : aSpec wd ct_X12_copy_2 := S_cpR (by decide +kernel)
theorem S_X12_copy_3 : aSpec wd ct_X12_copy_3 := S_cpR (by decide +kernel)
theorem S_X12_copy_4 : aSpec wd ct_X12_copy_4 := S_cpR (by decide +kernel)
theorem S_X12_copy_5 : aSpec wd ct_X12_copy_5 := S_cpR (by decide +kernel)
theorem S_X12_copy_6 : aSpec wd ct_X12_copy_6 := S_cpR (by decide +kernel)
theorem S_X12_copy_7 : aSpec wd ct_X12_copy_7 := S_cpR (by decide +kernel)
theorem S_X12_copy_15 : aSpec wd ct_X12_copy_15 := S_cpy (nf := 363) (ng := 76) (by decide +kernel) (by decide +kernel) (by decide +kernel)
theorem S_X12_setsOut_0 : aSpec wd ct_X12_setsOut_0 := S_sets (k := 11) (by decide) (by decide +kernel)
theorem S_X12_setsOut_1 : aSpec wd ct_X12_setsOut_1 := S_sets (k := 10) (by decide) (by decide +kernel)
theorem S_X12_setsOut_2 : aSpec wd ct_X12_setsOut_2 := S_sets (k := 9) (by decide) (by decide +kernel)
theorem S_X12_setsOut_3 : aSpec wd ct_X12_setsOut_3 := S_sets (k := 8) (by decide) (by decide +kernel)
theorem S_X12_setsOut_4 : aSpec wd ct_X12_setsOut_4 := S_sets (k := 7) (by decide) (by decide +kernel)
theorem S_X12_setsOut_5 : aSpec wd ct_X12_setsOut_5 := S_sets (k := 6) (by decide) (by decide +kernel)
theorem S_X12_setsOut_6 : aSpec wd ct_X12_setsOut_6 := S_sets (k := 5) (by decide) (by decide +kernel)
theorem S_X12_setsOut_7 : aSpec wd ct_X12_setsOut_7 := S_sets (k := 4) (by decide) (by decide +kernel)
theorem S_X12_setsOut_8 : aSpec wd ct_X12_setsOut_8 := S_sets (k := 3) (by decide) (by decide +kernel)
theorem S_X12_setsOut_9 : aSpec wd ct_X12_setsOut_9 := S_sets (k := 2) (by decide) (by decide +kernel)
theorem S_X12_setsOut_10 : aSpec wd ct_X12_setsOut_10 := S_sets (k := 1) (by decide) (by decide +kernel)
theorem S_X12_setsOut_11 : aSpec wd ct_X12_setsOut_11 := S_sets (k := 0) (by decide) (by decide +kernel)
theorem S_X12_lowest_0 : aSpec wd ct_X12_lowest_0 := S_low
theorem S_X12_copy_16 : aSpec wd ct_X12_copy_16 := S_cpy (nf := 8) (ng := 8) (by decide +kernel) (by decide +kernel) (by decide +kernel)
theorem S_X12_copy_17 : aSpec wd ct_X12_copy_17 := S_cpy (nf := 8) (ng := 8) (by decide +kernel) (by decide +kernel) (by decide +kernel)
theorem S_X12_copy_18 : aSpec wd ct_X12_copy_18 := S_cpy (nf := 8) (ng := 8) (by decide +kernel) (by decide +kernel) (by decide +kernel)
theorem S_X12_copy_19 : aSpec wd ct_X12_copy_19 := S_cpy (nf := 8) (ng := 8) (by decide +kernel) (by decide +kernel) (by decide +kernel)
theorem S_X12_copy_20 : aSpec wd ct_X12_copy_20 := S_cpy (nf := 8) (ng := 8) (by decide +kernel) (by decide +kernel) (by decide +kernel)
theorem S_X12_copy_21 : aSpec wd ct_X12_copy_21 := S_cpy (nf := 8) (ng := 8) (by decide +kernel) (by decide +kernel) (by decide +kernel)
theorem S_X12_copy_22 : aSpec wd ct_X12_copy_22 := S_cpy (nf := 8) (ng := 8) (by decide +kernel) (by decide +kernel) (by decide +kernel)
theorem S_X12_copy_23 : aSpec wd ct_X12_copy_23 := S_cpy (nf := 8) (ng := 8) (by decide +kernel) (by decide +kernel) (by decide +kernel)
theorem S_X12_copy_24 : aSpec wd ct_X12_copy_24 := S_cpy (nf := 8) (ng := 8) (by decide +kernel) (by decide +kernel) (by decide +kernel)
theorem S_X12_doLead_0 : aSpec wd ct_X12_doLead_0 := S_lead
theorem S_X12_copy_25 : aSpec wd ct_X12_copy_25 := S_cpy (nf := 7) (ng := 7) (by decide +kernel) (by decide +kernel) (by decide +kernel)
theorem S_X12_copy_26 : aSpec wd ct_X12_copy_26 := S_cpy (nf := 7) (ng := 7) (by decide +kernel) (by decide +kernel) (by decide +kernel)
theorem S_X12_copy_27 : aSpec wd ct_X12_copy_27 := S_cpy (nf := 7) (ng := 7) (by decide +kernel) (by decide +kernel) (by decide +kernel)
theorem S_X12_copy_28 : aSpec wd ct_X12_copy_28 := S_cpy (nf := 7) (ng := 7) (by decide +kernel) (by decide +kernel) (by decide +kernel)
theorem S_X12_copy_29 : aSpec wd ct_X12_copy_29 := S_cpy (nf := 7) (ng := 7) (by decide +kernel) (by decide +kernel) (by decide +kernel)
theorem S_X12_copy_30 : aSpec wd ct_X12_copy_30 := S_cpy (nf := 7) (ng := 7) (by decide +kernel) (by decide +kernel) (by decide +kernel)
theorem S_X12_copy_31 : aSpec wd ct_X12_copy_31 := S_cpy (nf := 7) (ng := 7) (by decide +kernel) (by decide +kernel) (by decide +kernel)
theorem S_X12_copy_32 : aSpec wd ct_X12_copy_32 := S_cpy (nf := 912) (ng := 76) (by decide +kernel) (by decide +kernel) (by decide +kernel)
theorem S_X12_copy_33 : aSpec wd ct_X12_copy_33 := S_cpy (nf := 76) (ng := 228) (by decide +kernel) (by decide +kernel) (by decide +kernel)
theorem S_X12_copy_34 : aSpec wd ct_X12_copy_34 := S_cpy (nf := 228) (ng := 76) (by decide +kernel) (by decide +kernel) (by decide +kernel)
end Pk3
