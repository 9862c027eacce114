/-! the law says true of every script of at most 3072 -/
theorem l_loop2 {L : Nat} {xs : Nat → Int32} (hL : L ≤ 3072) : ∀ (n i t : Nat) (h : zH) (ls : zL), L < i + 6 * n + 6 → i ≤ L → t + n ≤ 900 → lInv t h → lZs h → lLoc ls i → zEx (some (L, xs)) 1005 mL_law (23, ls, [], h) zQL := by
  intro n
  induction n with
  | zero =>
    intro i t h ls h1 h2 h3 hi hzs hl
    have no : zsh h 1000000 = none := hi.sh (by decide +kernel)
    have e6 : (nI L - 6).toInt = (L : Int) - 6 := by
      rw [Int32.toInt_sub, nI_toInt (by omega)]
      exact bmod_fit (by have : (6 : Int32).toInt = 6 := by decide
                         omega) (by have : (6 : Int32).toInt = 6 := by decide
                                    omega)
    refine ex_iload (pc' := 25) dL_law_23 hl.2.2.2.2 rfl ?_
    refine ex_aload_n (pc' := 26) dL_law_25 hl.1 rfl ?_
    refine ex_slen (pc' := 27) (n := L) (xs := xs) (v := nI L) dL_law_26 no rfl rfl rfl ?_
    refine ex_bipush (v := 6) (pc' := 29) dL_law_27 (by decide) rfl ?_
    refine ex_isub (pc' := 30) (v := nI L - 6) dL_law_29 rfl rfl ?_
    refine ex_icmp_t (pc' := 1811) dL_law_30 (zj_gt (by rw [e6, nI_toInt (by omega)]; omega)) (by decide) ?_
    refine ex_iconst (v := 1) (pc' := 1812) dL_law_1811 (by decide) rfl ?_
    exact ex_iret dL_law_1812 rfl (by decide) ⟨rfl, by rw [hi.2.2.2.2.1]; exact zble rfl, by rw [hi.2.2.2.2.1]; exact zble rfl, by have := hi.2.2.2.1; omega⟩
  | succ n ih =>
    intro i t h ls h1 h2 h3 hi hzs hl
    have no : zsh h 1000000 = none := hi.sh (by decide +kernel)
    have e6 : (nI L - 6).toInt = (L : Int) - 6 := by
      rw [Int32.toInt_sub, nI_toInt (by omega)]
      exact bmod_fit (by have : (6 : Int32).toInt = 6 := by decide
                         omega) (by have : (6 : Int32).toInt = 6 := by decide
                                    omega)
    refine ex_iload (pc' := 25) dL_law_23 hl.2.2.2.2 rfl ?_
    refine ex_aload_n (pc' := 26) dL_law_25 hl.1 rfl ?_
    refine ex_slen (pc' := 27) (n := L) (xs := xs) (v := nI L) dL_law_26 no rfl rfl rfl ?_
    refine ex_bipush (v := 6) (pc' := 29) dL_law_27 (by decide) rfl ?_
    refine ex_isub (pc' := 30) (v := nI L - 6) dL_law_29 rfl rfl ?_
    by_cases hc : i + 6 ≤ L
    · refine ex_icmp_f (pc' := 33) dL_law_30 (zj_ngt (by rw [e6, nI_toInt (by omega)]; omega)) (by decide) rfl ?_
      refine ex_aload_n (pc' := 34) dL_law_33 hl.1 rfl ?_
      refine ex_iload (pc' := 36) dL_law_34 hl.2.2.2.2 rfl ?_
      refine ex_sald (pc' := 37) (n := L) (xs := xs) (v := xs i) dL_law_36 no rfl (zn_in (by omega) (by omega)) (by rw [nI_clamp (by omega)]) rfl ?_
      refine ex_bipush (v := 63) (pc' := 39) dL_law_37 (by decide) rfl ?_
      refine ex_iand (pc' := 40) (v := xs i &&& 63) dL_law_39 rfl rfl ?_
      have K : ∀ ls' h', lLoc ls' i → lInv (t + 1) h' → lZs h' → zEx (some (L, xs)) 1005 mL_law (1805, ls', [], h') zQL := by
        intro ls' h' hl' hi' hz'
        refine ex_iinc (pc' := 1808) (v := nI (i + 6)) dL_law_1805 hl'.2.2.2.2 (by decide) (nI_add i 6) rfl rfl ?_
        refine ex_goto (pc' := 23) dL_law_1808 (by decide) ?_
        exact ih (i + 6) (t + 1) h' _ (by omega) (by omega) (by omega) hi' hz' ⟨zget_s1 hl'.1 (by decide) (by simp [zcat]), zget_s1 hl'.2.1 (by decide) (by simp [zcat]), zget_s1 hl'.2.2.1 (by decide) (by simp [zcat]), zget_s1 hl'.2.2.2.1 (by decide) (by simp [zcat]), zget_s1e⟩
      by_cases hb : (xs i &&& 63).toInt < 0 ∨ 49 < (xs i &&& 63).toInt
      · exact ex_switch (pc' := 1805) dL_law_40 (fun _ => by decide) (fun q => absurd hb q) (K ls h hl hi.up hzs)
      · obtain ⟨off, e1, pc, e2, k⟩ := lc_at hL hc hl hi hzs (by omega) K ((xs i &&& 63).toInt - 0).toNat (by omega)
        exact ex_switch (pc' := pc) dL_law_40 (fun q => absurd q hb) (fun _ => ⟨off, e1, e2⟩) k
    · refine ex_icmp_t (pc' := 1811) dL_law_30 (zj_gt (by rw [e6, nI_toInt (by omega)]; omega)) (by decide) ?_
      refine ex_iconst (v := 1) (pc' := 1812) dL_law_1811 (by decide) rfl ?_
      exact ex_iret dL_law_1812 rfl (by decide) ⟨rfl, by rw [hi.2.2.2.2.1]; exact zble rfl, by rw [hi.2.2.2.2.1]; exact zble rfl, by have := hi.2.2.2.1; omega⟩
