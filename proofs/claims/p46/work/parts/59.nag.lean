theorem S_cpy {w : aWd} {f g nf ng : Nat} {A B N : aI} {lo hi D : Nat} {pre : List ((Nat × Nat) × aI) × aU} (hw1 : w.1 f = some (14, nf)) (hw2 : w.1 g = some (14, ng)) (hck : cpyChk w f g nf ng A B N lo hi = true) : aSpec w (mX12_copy, [.inr (.inl [f]), .inl A, .inr (.inl [g]), .inl B, .inl N], pre, [(none, [], [], [])], [(g, lo, hi)], [], D) := by
  intro d hd vs h hargs hok hpre
  obtain ⟨v0, ta0, rfl, ga0, ha0⟩ := ags_c hargs
  obtain ⟨v1, ta1, rfl, ga1, ha1⟩ := ags_c ha0
  obtain ⟨v2, ta2, rfl, ga2, ha2⟩ := ags_c ha1
  obtain ⟨v3, ta3, rfl, ga3, ha3⟩ := ags_c ha2
  obtain ⟨v4, ta4, rfl, ga4, ha4⟩ := ags_c ha3
  obtain rfl := ags_n ha4
  obtain ⟨q0, m0, e0⟩ := ga0
  obtain ⟨x1, e1, i1⟩ := ga1
  obtain ⟨q2, m2, e2⟩ := ga2
  obtain ⟨x3, e3, i3⟩ := ga3
  obtain ⟨x4, e4, i4⟩ := ga4
  have m0 : q0 = f := by simpa using m0
  have m2 : q2 = g := by simpa using m2
  subst e0; subst e1; subst e2; subst e3; subst e4; subst m0; subst m2
  simp only [cpyChk, Bool.and_eq_true, List.all_eq_true, ile_iff, Nat.ble_eq, Nat.blt_eq, Bool.not_eq_true'] at hck
  obtain ⟨k1, k2, k3, k4, k5, k6⟩ := hck
  obtain ⟨a0, b0, n0, y1, y2, y3, y4, y5⟩ := k6 _ (aEn_in i1) _ (aEn_in i3) _ (aEn_in i4)
  have ex1 : x1 = nI x1.toInt.toNat := nI_at (by omega)
  have ex3 : x3 = nI x3.toInt.toNat := nI_at (by omega)
  have ex4 : x4 = nI x4.toInt.toNat := nI_at (by omega)
  generalize x1.toInt.toNat = a at *
  generalize x3.toInt.toNat = b at *
  generalize x4.toInt.toNat = n at *
  subst ex1; subst ex3; subst ex4
  refine zEx.mono (k_copy (d := d) (hok.1 _ _ hw1) (hok.1 _ _ hw2) (nbeq_f k2) y1 y2 k4 k5) (fun v h' hq => ?_)
  obtain ⟨rfl, rfl⟩ := hq
  refine ⟨hOK_row (h := h) (g := q2) rfl rfl (fun x j hx => by rw [cpyH_at, if_neg (fun z => hx z.1)]) (fun j => ?_) k1 hok, ⟨rfl, rfl, fun x j hm => ?_, fun _ _ _ => rfl, fun hm => ?_⟩, _, List.mem_cons_self, rfl, trivial, (fun q hq => nomatch hq), (fun q hq => nomatch hq)⟩
  · rw [cpyH_at]
    split
    · next z =>
      have := aLe_in (y5 (j - b) (List.mem_range.mpr (by omega))) (hok.2.1 q0 (a + (j - b)))
      have e : b + (j - b) = j := by omega
      rw [e] at this
      exact this
    · exact hok.2.1 q2 j
  · rw [cpyH_at, if_neg]
    intro z
    have : inM [(q2, lo, hi)] x j = true := by
      refine List.any_eq_true.mpr ⟨_, List.mem_cons_self, ?_⟩
      simp only [Bool.and_eq_true, Nat.beq_eq, Nat.ble_eq, Nat.blt_eq]
      exact ⟨z.1.symm, by omega, by omega⟩
    rw [this] at hm
    cases hm
  · exact hMn.eq (by rw [cpyH_at, if_neg (fun z => nbeq_f k3 z.1.symm)]) (by rw [cpyH_at, if_neg (fun z => nbeq_f k3 z.1.symm)])
