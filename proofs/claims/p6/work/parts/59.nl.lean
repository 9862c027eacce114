/-! feed of the class: four bytes five times -/
section HFC
variable {d s : Nat} {h : zH} {x : Int32}
theorem ap_loop : ∀ (r t : Nat) (h : zH) (ls : zL), r ≤ 4 → t + r ≤ 1000 → zsh h 0 = some (11, 16) → zsh h 1 = some (13, 1000) → h.2.2.2.1 0 0 = some 1 → h.2.1 0 1 = nI t → zget ls 0 = some (.inr (.inr (some 0))) → zget ls 1 = some (.inl x) → zget ls 2 = some (.inl (Int32.ofInt (8 * (r : Int) - 8))) → zEx none d mX11_appendBytes (3, ls, [], h) (fun v h' => v = none ∧ h'.1 = h.1 ∧ h'.2.2.2.1 = h.2.2.2.1 ∧ h'.2.1 0 1 = nI (t + r)) := by
  intro r
  induction r with
  | zero =>
    intro t h ls _ ht s0 s1 r0 h1 hl0 hl1 hl2
    refine ex_iload_n (pc' := 4) dX11_appendBytes_3 hl2 rfl ?_
    refine ex_if_t (pc' := 36) dX11_appendBytes_4 (by decide) (by decide) ?_
    exact ex_vret dX11_appendBytes_36 rfl ⟨rfl, rfl, rfl, h1⟩
  | succ r ih =>
    intro t h ls hr ht s0 s1 r0 h1 hl0 hl1 hl2
    have hc : ∀ q : Fin 4, zcond .lt (Int32.ofInt (8 * ((q.val + 1 : Nat) : Int) - 8)) 0 = false ∧ Int32.ofInt (8 * ((q.val + 1 : Nat) : Int) - 8) + Int32.ofInt (-8) = Int32.ofInt (8 * (q.val : Int) - 8) := by decide
    have hq := hc ⟨r, by omega⟩
    refine ex_iload_n (pc' := 4) dX11_appendBytes_3 hl2 rfl ?_
    refine ex_if_f (pc' := 7) dX11_appendBytes_4 hq.1 (by decide) rfl ?_
    refine ex_aload_n (pc' := 8) dX11_appendBytes_7 hl0 rfl ?_
    refine ex_getR (pc' := 11) (n := 16) (r := 1) dX11_appendBytes_8 fl_11_9 s0 (by decide) r0 rfl ?_
    refine ex_aload_n (pc' := 12) dX11_appendBytes_11 hl0 rfl ?_
    refine ex_getI (pc' := 15) (n := 16) (v := nI t) dX11_appendBytes_12 fl_11_13 s0 (by decide) h1 rfl ?_
    refine ex_iload_n (pc' := 16) dX11_appendBytes_15 hl1 rfl ?_
    refine ex_iload_n (pc' := 17) dX11_appendBytes_16 hl2 rfl ?_
    refine ex_ishr (pc' := 18) dX11_appendBytes_17 rfl rfl ?_
    refine ex_i2b (pc' := 19) dX11_appendBytes_18 rfl rfl ?_
    refine ex_bast (pc' := 20) (n := 1000) dX11_appendBytes_19 s1 (zn_in (by omega) (by omega)) rfl ?_
    refine ex_aload_n (pc' := 21) dX11_appendBytes_20 hl0 rfl ?_
    refine ex_dup (pc' := 22) dX11_appendBytes_21 rfl rfl ?_
    refine ex_getI (pc' := 25) (n := 16) (v := nI t) dX11_appendBytes_22 fl_11_13 s0 (by decide) (by rw [zsI_no (by omega)]; exact h1) rfl ?_
    refine ex_iconst (v := nI 1) (pc' := 26) dX11_appendBytes_25 (by decide) rfl ?_
    refine ex_iadd (pc' := 27) (v := nI (t + 1)) dX11_appendBytes_26 (nI_add _ _) rfl ?_
    refine ex_putI (pc' := 30) (n := 16) dX11_appendBytes_27 fl_11_13 s0 (Or.inl rfl) (Or.inl rfl) rfl ?_
    refine ex_iinc (pc' := 33) dX11_appendBytes_30 hl2 (by decide) hq.2 rfl rfl ?_
    refine ex_goto (pc' := 3) dX11_appendBytes_33 (by decide) ?_
    refine zEx.mono (ih (t + 1) _ _ (by omega) (by omega) s0 s1 r0 (by rw [zsI_at, if_pos ⟨rfl, rfl⟩]) (zget_s1 hl0 (by decide) (by simp [zcat])) (zget_s1 hl1 (by decide) (by simp [zcat])) zget_s1e) (fun v h' hq => ?_)
    obtain ⟨a, b, c, e⟩ := hq
    exact ⟨a, b, c, by rw [e]; congr 1; omega⟩
theorem k_append {t : Nat} (s0 : zsh h 0 = some (11, 16)) (s1 : zsh h 1 = some (13, 1000)) (r0 : h.2.2.2.1 0 0 = some 1) (h1 : h.2.1 0 1 = nI t) (ht : t + 4 ≤ 1000) : zCv d mX11_appendBytes [.inr (.inr (some 0)), .inl x] h (fun h' => h'.1 = h.1 ∧ h'.2.2.2.1 = h.2.2.2.1 ∧ h'.2.1 0 1 = nI (t + 4)) := by
  show zEx none d mX11_appendBytes (0, [(0, .inr (.inr (some 0))), (1, .inl x)], [], h) _
  refine ex_bipush (v := 24) (pc' := 2) dX11_appendBytes_0 (by decide) rfl ?_
  refine ex_istore_n (pc' := 3) dX11_appendBytes_2 (by decide) rfl rfl ?_
  exact ap_loop 4 t h _ (Nat.le_refl _) ht s0 s1 r0 h1 rfl rfl rfl
theorem F_feed11 {x1 x2 x3 x4 x5 : Int32} (ho : hOK wd h) (ht : h.2.1 0 1 = nI s) (hs : s ≤ 1000) : zEx none (d + 1) mX11_feed (0, zargs 0 [.inr (.inr (some 0)), .inl x1, .inl x2, .inl x3, .inl x4, .inl x5], [], h) (fun v h' => (s ≤ 980 ∧ h'.2.1 0 1 = nI (s + 20) ∧ v = some (.inl (nI (s + 20)))) ∨ (980 < s ∧ h'.2.1 0 1 = nI s ∧ v = some (.inl (-1)))) := by
  have s0 : zsh h 0 = some (11, 16) := ho.1 0 (11, 16) (by decide +kernel)
  have s1 : zsh h 1 = some (13, 1000) := ho.1 1 (13, 1000) (by decide +kernel)
  have r0 : h.2.2.2.1 0 0 = some 1 := ho.2.2.1 0 0 1 (by decide +kernel)
  have zs : ∀ {h' : zH} {a : Nat}, h'.1 = h.1 → zsh h' a = zsh h a := fun e => by unfold zsh; rw [e]
  show zEx none (d + 1) mX11_feed (0, [(0, .inr (.inr (some 0))), (1, .inl x1), (2, .inl x2), (3, .inl x3), (4, .inl x4), (5, .inl x5)], [], h) _
  refine ex_aload_n (pc' := 1) dX11_feed_0 rfl rfl ?_
  refine ex_getI (pc' := 4) (n := 16) (v := nI s) dX11_feed_1 fl_11_13 s0 (by decide) ht rfl ?_
  refine ex_sipush (v := nI 980) (pc' := 7) dX11_feed_4 (by decide) rfl ?_
  refine ex_icmp (pc' := 12) (pc2 := 10) dX11_feed_7 (by decide) rfl (fun c => ?_) (fun c => ?_)
  · have c : nI s ≤ nI 980 := by simpa [zcond] using c
    rw [Int32.le_iff_toInt_le, nI_toInt (by omega), nI_toInt (by omega)] at c
    have c : s ≤ 980 := by omega
    refine ex_aload_n (pc' := 13) dX11_feed_12 rfl rfl ?_
    refine ex_iload_n (pc' := 14) dX11_feed_13 rfl rfl ?_
    refine ex_callvV (pc' := 17) (vs := [.inl x1]) (rest := []) (n := 16) dX11_feed_14 ml_11_94 ⟨zble rfl, zble rfl⟩ rfl rfl s0 (by decide) (zble rfl) rfl (k_append s0 s1 r0 ht (by omega)) (fun h1 hq => ?_)
    obtain ⟨a1, b1, c1⟩ := hq
    refine ex_aload_n (pc' := 18) dX11_feed_17 rfl rfl ?_
    refine ex_iload_n (pc' := 19) dX11_feed_18 rfl rfl ?_
    refine ex_callvV (pc' := 22) (vs := [.inl x2]) (rest := []) (n := 16) dX11_feed_19 ml_11_94 ⟨zble rfl, zble rfl⟩ rfl rfl ((zs a1).trans s0) (by decide) (zble rfl) rfl (k_append ((zs a1).trans s0) ((zs a1).trans s1) (by rw [b1]; exact r0) c1 (by omega)) (fun h2 hq => ?_)
    obtain ⟨a2, b2, c2⟩ := hq
    have a2 := a2.trans a1
    have b2 := b2.trans b1
    refine ex_aload_n (pc' := 23) dX11_feed_22 rfl rfl ?_
    refine ex_iload_n (pc' := 24) dX11_feed_23 rfl rfl ?_
    refine ex_callvV (pc' := 27) (vs := [.inl x3]) (rest := []) (n := 16) dX11_feed_24 ml_11_94 ⟨zble rfl, zble rfl⟩ rfl rfl ((zs a2).trans s0) (by decide) (zble rfl) rfl (k_append ((zs a2).trans s0) ((zs a2).trans s1) (by rw [b2]; exact r0) c2 (by omega)) (fun h3 hq => ?_)
    obtain ⟨a3, b3, c3⟩ := hq
    have a3 := a3.trans a2
    have b3 := b3.trans b2
    refine ex_aload_n (pc' := 28) dX11_feed_27 rfl rfl ?_
    refine ex_iload (pc' := 30) dX11_feed_28 rfl rfl ?_
    refine ex_callvV (pc' := 33) (vs := [.inl x4]) (rest := []) (n := 16) dX11_feed_30 ml_11_94 ⟨zble rfl, zble rfl⟩ rfl rfl ((zs a3).trans s0) (by decide) (zble rfl) rfl (k_append ((zs a3).trans s0) ((zs a3).trans s1) (by rw [b3]; exact r0) c3 (by omega)) (fun h4 hq => ?_)
    obtain ⟨a4, b4, c4⟩ := hq
    have a4 := a4.trans a3
    have b4 := b4.trans b3
    refine ex_aload_n (pc' := 34) dX11_feed_33 rfl rfl ?_
    refine ex_iload (pc' := 36) dX11_feed_34 rfl rfl ?_
    refine ex_callvV (pc' := 39) (vs := [.inl x5]) (rest := []) (n := 16) dX11_feed_36 ml_11_94 ⟨zble rfl, zble rfl⟩ rfl rfl ((zs a4).trans s0) (by decide) (zble rfl) rfl (k_append ((zs a4).trans s0) ((zs a4).trans s1) (by rw [b4]; exact r0) c4 (by omega)) (fun h5 hq => ?_)
    obtain ⟨a5, b5, c5⟩ := hq
    have a5 := a5.trans a4
    refine ex_aload_n (pc' := 40) dX11_feed_39 rfl rfl ?_
    refine ex_getI (pc' := 43) (n := 16) (v := nI (s + 20)) dX11_feed_40 fl_11_13 ((zs a5).trans s0) (by decide) (by rw [c5]) rfl ?_
    exact ex_iret dX11_feed_43 rfl rfl (.inl ⟨c, by rw [c5], rfl⟩)
  · have c : ¬ nI s ≤ nI 980 := by simpa [zcond] using c
    rw [Int32.le_iff_toInt_le, nI_toInt (by omega), nI_toInt (by omega)] at c
    refine ex_iconst (v := -1) (pc' := 11) dX11_feed_10 (by decide) rfl ?_
    exact ex_iret dX11_feed_11 rfl rfl (.inr ⟨by omega, ht, rfl⟩)
end HFC
