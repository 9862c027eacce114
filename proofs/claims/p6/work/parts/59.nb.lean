/-! by hand: note1 -/
def shfH (h : zH) (k : Nat) : zH := (h.1, zrow h.2.1 202 (fun j => if j < k then h.2.1 202 (j + 76) else h.2.1 202 j), h.2.2.1, h.2.2.2.1, h.2.2.2.2)
theorem shfH_at {h : zH} {k x j : Nat} : (shfH h k).2.1 x j = if x = 202 ∧ j < k then h.2.1 202 (j + 76) else h.2.1 x j := by
  simp only [shfH, zrow]
  by_cases e : x = 202
  · subst e
    by_cases q : j < k
    · rw [if_pos rfl, if_pos q, if_pos ⟨rfl, q⟩]
    · rw [if_pos rfl, if_neg q, if_neg (fun z => q z.2)]
  · rw [if_neg e, if_neg (fun z => e z.1)]
theorem shfH_0 {h : zH} : shfH h 0 = h := zH_ext rfl (fun x j => by rw [shfH_at, if_neg (by omega)]) rfl
theorem shfH_s {h : zH} {k : Nat} : zsI (shfH h k) 202 k (h.2.1 202 (k + 76)) = shfH h (k + 1) := zH_ext rfl (fun x j => by
  rw [zsI_at, shfH_at, shfH_at]
  by_cases e : x = 202 ∧ j = k
  · rw [if_pos e, if_pos ⟨e.1, by omega⟩, e.2]
  · rw [if_neg e]
    by_cases q : x = 202 ∧ j < k
    · rw [if_pos q, if_pos ⟨q.1, by omega⟩]
    · rw [if_neg q, if_neg (fun z => q ⟨z.1, by have : j ≠ k := fun y => e ⟨z.1, y⟩; omega⟩)]) rfl
theorem lp_shift {d : Nat} {h : zH} {Q : Option zV → zH → Prop} (s0 : zsh h 196 = some (12, 39)) (s2 : zsh h 202 = some (14, 912)) (r2 : h.2.2.2.1 196 18 = some 202) (kk : zEx none d mX12_note1 (39, [(1, .inl (nI 836)), (0, .inr (.inr (some 196)))], [], shfH h 836) Q) : ∀ r k : Nat, k + r = 836 → zEx none d mX12_note1 (11, [(1, .inl (nI k)), (0, .inr (.inr (some 196)))], [], shfH h k) Q := by
  intro r
  induction r with
  | zero =>
    intro k hk
    obtain rfl : k = 836 := by omega
    refine ex_iload_n (pc' := 12) dX12_note1_11 rfl rfl ?_
    refine ex_sipush (v := nI 836) (pc' := 15) dX12_note1_12 (by decide) rfl ?_
    refine ex_icmp_t (pc' := 39) dX12_note1_15 (zn_ge (Nat.le_refl _) (by omega)) (by decide) ?_
    exact kk
  | succ r ih =>
    intro k hk
    refine ex_iload_n (pc' := 12) dX12_note1_11 rfl rfl ?_
    refine ex_sipush (v := nI 836) (pc' := 15) dX12_note1_12 (by decide) rfl ?_
    refine ex_icmp_f (pc' := 18) dX12_note1_15 (zn_nge (by omega) (by omega)) (by decide) rfl ?_
    refine ex_aload_n (pc' := 19) dX12_note1_18 rfl rfl ?_
    refine ex_getR (pc' := 22) (n := 39) (r := 202) dX12_note1_19 fl_12_29 s0 (by decide) r2 rfl ?_
    refine ex_iload_n (pc' := 23) dX12_note1_22 rfl rfl ?_
    refine ex_aload_n (pc' := 24) dX12_note1_23 rfl rfl ?_
    refine ex_getR (pc' := 27) (n := 39) (r := 202) dX12_note1_24 fl_12_29 s0 (by decide) r2 rfl ?_
    refine ex_iload_n (pc' := 28) dX12_note1_27 rfl rfl ?_
    refine ex_bipush (v := nI 76) (pc' := 30) dX12_note1_28 (by decide) rfl ?_
    refine ex_iadd (pc' := 31) (v := nI (k + 76)) dX12_note1_30 (nI_add _ _) rfl ?_
    refine ex_iald (pc' := 32) (n := 912) (v := h.2.1 202 (k + 76)) dX12_note1_31 s2 (zn_in (by omega) (by omega)) (by rw [nI_clamp (by omega), shfH_at, if_neg (by omega)]) rfl ?_
    refine en_iast (pc' := 33) (n := 912) (jj := k) (h2 := shfH h (k + 1)) dX12_note1_32 s2 ⟨zn_in (by omega) (by omega), nI_clamp (by omega)⟩ shfH_s rfl ?_
    refine ex_iinc (pc' := 36) (v := nI (k + 1)) (ls' := [(1, .inl (nI (k + 1))), (0, .inr (.inr (some 196)))]) dX12_note1_33 rfl (by decide) (nI_1 k) rfl rfl ?_
    refine ex_goto (pc' := 11) dX12_note1_36 (by decide) ?_
    exact ih (k + 1) (by omega)
/-- behind the shift: the row is copied, one more counts -/
theorem n1_tail {d u : Nat} {h : zH} {ls : zL} {Q : Option zV → zH → Prop} (s0 : zsh h 196 = some (12, 39)) (s1 : zsh h 201 = some (14, 76)) (s2 : zsh h 202 = some (14, 912)) (r1 : h.2.2.2.1 196 17 = some 201) (r2 : h.2.2.2.1 196 18 = some 202) (hu : h.2.1 196 20 = nI u) (hu2 : u ≤ 11) (hl : zget ls 0 = some (.inr (.inr (some 196))))
    (hQ : Q none (zsI (cpyH h 201 0 202 (76 * u) 76) 196 20 (nI (u + 1)))) : zEx none (d + 1) mX12_note1 (49, ls, [], h) Q := by
  refine ex_aload_n (pc' := 50) dX12_note1_49 hl rfl ?_
  refine ex_getR (pc' := 53) (n := 39) (r := 201) dX12_note1_50 fl_12_26 s0 (by decide) r1 rfl ?_
  refine ex_iconst (v := nI 0) (pc' := 54) dX12_note1_53 rfl rfl ?_
  refine ex_aload_n (pc' := 55) dX12_note1_54 hl rfl ?_
  refine ex_getR (pc' := 58) (n := 39) (r := 202) dX12_note1_55 fl_12_29 s0 (by decide) r2 rfl ?_
  refine ex_bipush (v := nI 76) (pc' := 60) dX12_note1_58 (by decide) rfl ?_
  refine ex_aload_n (pc' := 61) dX12_note1_60 hl rfl ?_
  refine ex_getI (pc' := 64) (n := 39) (v := nI u) dX12_note1_61 fl_12_183 s0 (by decide) hu rfl ?_
  have em : nI 76 * nI u = nI (76 * u) := by
    refine Int32.toInt_inj.mp ?_
    rw [Int32.toInt_mul, nI_toInt (by omega), nI_toInt (by omega), nI_toInt (by omega)]
    rw [bmod_fit (by omega) (by omega)]
    omega
  refine ex_imul (pc' := 65) (v := nI (76 * u)) dX12_note1_64 em rfl ?_
  refine ex_bipush (v := nI 76) (pc' := 67) dX12_note1_65 (by decide) rfl ?_
  refine ex_callsV (pc' := 70) (vs := [.inr (.inr (some 201)), .inl (nI 0), .inr (.inr (some 202)), .inl (nI (76 * u)), .inl (nI 76)]) (rest := []) dX12_note1_67 ml_12_176 (Or.inl rfl) ⟨zble rfl, zble rfl⟩ rfl rfl (zble rfl) rfl (k_copy s1 s2 (by decide) (by omega) (by omega) (by decide) (by decide)) ?_
  intro h' e
  subst e
  refine ex_aload_n (pc' := 71) dX12_note1_70 hl rfl ?_
  refine ex_dup (pc' := 72) dX12_note1_71 rfl rfl ?_
  refine ex_getI (pc' := 75) (n := 39) (v := nI u) dX12_note1_72 fl_12_183 s0 (by decide) (by rw [cpyH_at, if_neg (by omega)]; exact hu) rfl ?_
  refine ex_iconst (v := nI 1) (pc' := 76) dX12_note1_75 rfl rfl ?_
  refine ex_iadd (pc' := 77) (v := nI (u + 1)) dX12_note1_76 (nI_add _ _) rfl ?_
  refine ex_putI (pc' := 80) (n := 39) dX12_note1_77 fl_12_183 s0 (Or.inl rfl) (Or.inl rfl) rfl ?_
  exact ex_vret dX12_note1_80 rfl hQ
def n1Chk (w : aWd) : Bool := aNoC w 202 && (aNoS w 196 20 && ((List.range 836).all (fun j => aLe (gSeg (w.2.1 202) (j + 76)) (gSeg (w.2.1 202) j)) && ((List.range 12).all (fun u => (List.range 76).all (fun j => aLe (gSeg (w.2.1 201) j) (gSeg (w.2.1 202) (76 * u + j)))) && aLe [(0, 12, 1)] (gSeg (w.2.1 196) 20) && aLe (gSeg (w.2.1 196) 20) [(0, 12, 1)])))
set_option maxRecDepth 100000 in
theorem n1Chk_wd : n1Chk wd = true := by decide +kernel
theorem S_X12_note1_0 : aSpec wd ct_X12_note1_0 := by
  intro d hd vs h hargs hok hpre
  match vs, hargs with
  | [v0], ⟨⟨q0, m0, e0⟩, _⟩ =>
    have m0 : q0 = 196 := by simpa using m0
    subst e0; subst m0
    have hck := n1Chk_wd
    simp only [n1Chk, Bool.and_eq_true, List.all_eq_true] at hck
    obtain ⟨k1, k2, k3, ⟨k4, k5⟩, k6⟩ := hck
    obtain ⟨d', rfl⟩ : ∃ d', d = d' + 1 := ⟨d - 1, by have : 2 ≤ d := hd; omega⟩
    have s0 : zsh h 196 = some (12, 39) := hok.1 196 (12, 39) (by decide +kernel)
    have s1 : zsh h 201 = some (14, 76) := hok.1 201 (14, 76) (by decide +kernel)
    have s2 : zsh h 202 = some (14, 912) := hok.1 202 (14, 912) (by decide +kernel)
    have r1 : h.2.2.2.1 196 17 = some 201 := hok.2.2.1 196 17 201 (by decide +kernel)
    have r2 : h.2.2.2.1 196 18 = some 202 := hok.2.2.1 196 18 202 (by decide +kernel)
    have hu := aHull_in (aLe_in k6 (hok.2.1 196 20))
    have hu0 : (0 : Int) ≤ (h.2.1 196 20).toInt := hu.1
    have hu1 : (h.2.1 196 20).toInt ≤ (12 : Int) := hu.2
    obtain ⟨u, hu12, eu⟩ : ∃ u : Nat, u ≤ 12 ∧ h.2.1 196 20 = nI u := ⟨(h.2.1 196 20).toInt.toNat, by omega, nI_at (by omega)⟩
    have fin : ∀ (h1 : zH) (u : Nat), u ≤ 11 → hOK wd h1 → h1.1 = h.1 → h1.2.2.2 = h.2.2.2 → (∀ x j, ¬ (x = 196 ∧ j = 20) → ¬ (x = 202 ∧ j < 912) → h1.2.1 x j = h.2.1 x j) → (fun (v : Option zV) (h' : zH) => hOK wd h' ∧ hFr ct_X12_note1_0.2.2.2.2.1 ct_X12_note1_0.2.2.2.2.2.1 h h' ∧ ∃ p ∈ ct_X12_note1_0.2.2.2.1, aPst [.inr (.inr (some 196))] v h' p) none (zsI (cpyH h1 201 0 202 (76 * u) 76) 196 20 (nI (u + 1))) := by
      intro h1 u hu ho1 e1 e2 e3
      have hv : aIn (nI (u + 1)).toInt [(0, 12, 1)] := by
        rw [nI_toInt (by omega)]
        exact aR1_in (lo := 0) (hi := 12) (by omega) (by omega)
      refine ⟨hOK_set (aLe_in k5 hv) k2 (hOK_row (h := h1) (g := 202) rfl rfl (fun x j hx => by rw [cpyH_at, if_neg (fun z => hx z.1)]) (fun j => ?_) k1 ho1), ⟨e1, by show h1.2.2.2.2 = _; rw [e2], fun x j hm => ?_, fun x j _ => by show h1.2.2.2.1 x j = _; rw [e2], fun hm => absurd hm (by decide)⟩, _, List.mem_cons_self, rfl, trivial, fun q hq => ?_, fun q hq => nomatch hq⟩
      · rw [cpyH_at]
        split
        · next z =>
          have := aLe_in (k4 u (List.mem_range.mpr (by omega)) (j - 76 * u) (List.mem_range.mpr (by omega))) (ho1.2.1 201 (0 + (j - 76 * u)) |> fun q => by rw [Nat.zero_add] at q; exact q)
          have e : 76 * u + (j - 76 * u) = j := by omega
          rw [e] at this
          rw [Nat.zero_add]
          exact this
        · exact ho1.2.1 202 j
      · have hm2 : ¬ (x = 196 ∧ j = 20) ∧ ¬ (x = 202 ∧ j < 912) := by
          refine ⟨fun z => ?_, fun z => ?_⟩
          · rw [z.1, z.2] at hm
            exact absurd hm (by decide)
          · have : inM ct_X12_note1_0.2.2.2.2.1 x j = true := by
              refine List.any_eq_true.mpr ⟨(202, 0, 912), by simp [ct_X12_note1_0], ?_⟩
              simp only [Bool.and_eq_true, Nat.beq_eq, Nat.ble_eq, Nat.blt_eq]
              exact ⟨z.1.symm, by omega, z.2⟩
            rw [this] at hm
            cases hm
        rw [zsI_no hm2.1, cpyH_at, if_neg (fun z => hm2.2 ⟨z.1, by omega⟩)]
        exact e3 x j hm2.1 hm2.2
      · have hq : q = ((196, 20), [(1, 12, 1)]) := by simpa [ct_X12_note1_0] using hq
        subst hq
        show aIn ((zsI _ 196 20 (nI (u + 1))).2.1 196 20).toInt _
        rw [zsI_at, if_pos ⟨rfl, rfl⟩, nI_toInt (by omega)]
        exact aR1_in (lo := 1) (hi := 12) (by omega) (by omega)
    show zEx none (d' + 1) mX12_note1 (0, [(0, .inr (.inr (some 196)))], [], h) _
    refine ex_aload_n (pc' := 1) dX12_note1_0 rfl rfl ?_
    refine ex_getI (pc' := 4) (n := 39) (v := nI u) dX12_note1_1 fl_12_183 s0 (by decide) eu rfl ?_
    refine ex_bipush (v := nI 12) (pc' := 6) dX12_note1_4 (by decide) rfl ?_
    by_cases hq : u = 12
    · subst hq
      refine ex_icmp_f (pc' := 9) dX12_note1_6 (by decide) (by decide) rfl ?_
      refine ex_iconst (v := nI 0) (pc' := 10) dX12_note1_9 rfl rfl ?_
      refine ex_istore_n (pc' := 11) (ls' := [(1, .inl (nI 0)), (0, .inr (.inr (some 196)))]) dX12_note1_10 (by decide) rfl rfl ?_
      have hsh : hOK wd (shfH h 836) := hOK_row (h := h) (g := 202) rfl rfl (fun x j hx => by rw [shfH_at, if_neg (fun z => hx z.1)]) (fun j => by
        rw [shfH_at]
        split
        · next z => exact aLe_in (k3 j (List.mem_range.mpr z.2)) (hok.2.1 202 (j + 76))
        · exact hok.2.1 202 j) k1 hok
      have hv : aIn (nI 11).toInt (gSeg (wd.2.1 196) 20) := aLe_in k5 (aR1_in (lo := 0) (hi := 12) (by decide) (by decide))
      have lp := lp_shift (d := d' + 1) (h := h) (Q := fun v h' => hOK wd h' ∧ hFr ct_X12_note1_0.2.2.2.2.1 ct_X12_note1_0.2.2.2.2.2.1 h h' ∧ ∃ p ∈ ct_X12_note1_0.2.2.2.1, aPst [.inr (.inr (some 196))] v h' p) s0 s2 r2 ?_ 836 0 (by omega)
      · rw [shfH_0] at lp
        exact lp
      · refine ex_aload_n (pc' := 40) dX12_note1_39 rfl rfl ?_
        refine ex_dup (pc' := 41) dX12_note1_40 rfl rfl ?_
        refine ex_getI (pc' := 44) (n := 39) (v := nI 12) dX12_note1_41 fl_12_183 s0 (by decide) (by rw [shfH_at, if_neg (by omega)]; exact eu) rfl ?_
        refine ex_iconst (v := nI 1) (pc' := 45) dX12_note1_44 rfl rfl ?_
        refine ex_isub (pc' := 46) (v := nI 11) dX12_note1_45 (by decide) rfl ?_
        refine ex_putI (pc' := 49) (n := 39) dX12_note1_46 fl_12_183 s0 (Or.inl rfl) (Or.inl rfl) rfl ?_
        refine n1_tail (u := 11) s0 s1 s2 r1 r2 (by rw [zsI_at, if_pos ⟨rfl, rfl⟩]) (by decide) rfl ?_
        exact fin (zsI (shfH h 836) 196 20 (nI 11)) 11 (by decide) (hOK_set hv k2 hsh) rfl rfl (fun x j h1 h2 => by rw [zsI_no h1, shfH_at, if_neg (fun z => h2 ⟨z.1, by omega⟩)])
    · refine ex_icmp_t (pc' := 49) dX12_note1_6 ?_ (by decide) ?_
      · simp only [zcond, decide_eq_true_eq]
        intro e
        exact hq ((nI_eq (by omega) (by omega)).mp e)
      · exact n1_tail (u := u) s0 s1 s2 r1 r2 eu (by omega) rfl (fin h u (by omega) hok rfl rfl (fun x j _ _ => rfl))
