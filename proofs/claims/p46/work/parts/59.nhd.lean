theorem S_lead : aSpec wd (mX12_doLead, [.inr (.inl [196]), .inl [(0, 6, 1)], .inl [(0, 6, 1)], .inl aTop], ([], []), [(some (.inl [(0, 1, 1)]), [], [], [])], [], [], 3) := by
  intro d hd vs h hargs hok hpre
  obtain ⟨v0, ta0, rfl, ga0, ha0⟩ := ags_c hargs
  obtain ⟨v1, ta1, rfl, ga1, ha1⟩ := ags_c ha0
  obtain ⟨v2, ta2, rfl, ga2, ha2⟩ := ags_c ha1
  obtain ⟨v3, ta3, rfl, ga3, ha3⟩ := ags_c ha2
  obtain rfl := ags_n ha3
  obtain ⟨q0, m0, e0⟩ := ga0
  obtain ⟨x1, e1, i1⟩ := ga1
  obtain ⟨x2, e2, i2⟩ := ga2
  obtain ⟨x3, e3, i3⟩ := ga3
  have m0 : q0 = 196 := by simpa using m0
  subst e0; subst e1; subst e2; subst e3; subst m0
  have hd : 3 ≤ d := hd
  obtain ⟨d, rfl⟩ : ∃ d', d = d' + 2 := ⟨d - 2, by omega⟩
  have s0 : zsh h 196 = some (12, 39) := hok.1 196 (12, 39) (by decide +kernel)
  have s1 : zsh h 199 = some (14, 363) := hok.1 199 (14, 363) (by decide +kernel)
  have s3 : zsh h 201 = some (14, 76) := hok.1 201 (14, 76) (by decide +kernel)
  have r15 : h.2.2.2.1 196 15 = some 199 := hok.2.2.1 196 15 199 (by decide +kernel)
  have r17 : h.2.2.2.1 196 17 = some 201 := hok.2.2.1 196 17 201 (by decide +kernel)
  have h5 := aHull_in (aLe_in (B := [(0, 12, 1)]) (by decide +kernel) (hok.2.1 199 5))
  have i1 := aHull_in i1
  simp only [aHull] at h5 i1
  have hxx : ∀ o : Nat, o < 2 → ∀ q : Nat, q < 12 → ∃ x : Nat, x < 7 ∧ h.2.1 199 (59 + o + 4 * q) = nI x := by
    intro o ho q hq
    have hall : ((List.range 2).all (fun o => (List.range 12).all (fun q => aLe (gSeg (wd.2.1 199) (59 + o + 4 * q)) [(0, 6, 1)]))) = true := by decide +kernel
    have := List.all_eq_true.mp (List.all_eq_true.mp hall o (List.mem_range.mpr ho)) q (List.mem_range.mpr hq)
    have := aHull_in (aLe_in this (hok.2.1 199 (59 + o + 4 * q)))
    simp only [aHull] at this
    exact ⟨(h.2.1 199 (59 + o + 4 * q)).toInt.toNat, by omega, nI_at (by omega)⟩
  obtain ⟨i, hi7, ei⟩ : ∃ i : Nat, i < 7 ∧ x1 = nI i := ⟨x1.toInt.toNat, by omega, nI_at (by omega)⟩
  have hp7 : 2 ^ i < 2 ^ 7 := Nat.pow_lt_pow_right (by decide) hi7
  show zEx none (d + 2) mX12_doLead (0, [(0, .inr (.inr (some 196))), (1, .inl x1), (2, .inl x2), (3, .inl x3)], [], h) _
  refine ex_iconst (v := 1) (pc' := 1) dX12_doLead_0 (by decide) rfl ?_
  refine ex_iload_n (pc' := 2) dX12_doLead_1 rfl rfl ?_
  refine ex_ishl (pc' := 3) (v := nI (2 ^ i)) dX12_doLead_2 (by rw [ei]; exact shl7 ⟨i, hi7⟩) rfl ?_
  refine ex_istore (pc' := 5) dX12_doLead_3 (by decide) rfl rfl ?_
  refine ex_iconst (v := nI 0) (pc' := 6) dX12_doLead_5 (by decide) rfl ?_
  refine ex_istore (pc' := 8) dX12_doLead_6 (by decide) rfl rfl ?_
  refine ld_out (n := (h.2.1 199 5).toInt.toNat) s0 s1 s3 r15 r17 (nI_at (by omega)) (by omega) (fun q hq => hxx 0 (by decide) q hq) (fun q hq => hxx 1 (by decide) q hq) (fun x hx => ?_) 128 0 (2 ^ i) _ (by omega) (Nat.zero_le _) hp7 rfl rfl rfl rfl rfl
  refine ⟨hok, hFr.rf, _, List.mem_cons_self, ⟨x, rfl, ?_⟩, trivial, (fun q hq => nomatch hq), (fun q hq => nomatch hq)⟩
  rcases hx with e | e <;> subst e
  · exact aR1_in (lo := 0) (hi := 1) (by decide) (by decide)
  · exact aR1_in (lo := 0) (hi := 1) (by decide) (by decide)
