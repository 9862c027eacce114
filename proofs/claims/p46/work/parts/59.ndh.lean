theorem S_sets {k D : Nat} {A B : aI} {md : aMd} (hD : 1 ≤ D) (hck : soChk wd k = true) : aSpec wd (mX12_setsOut, [.inr (.inl [196]), .inl [((k : Int), (k : Int), 1)], .inl A, .inl B], ([((199, 5), [((k : Int) + 1, 12, 1)])], []), [(some (.inl aTop), [], [], [])], md, [], D) := by
  intro d hd vs h hargs hok hpre
  obtain ⟨v0, ta0, rfl, ga0, ha0⟩ := ags_c hargs
  obtain ⟨v1, ta1, rfl, ga1, ha1⟩ := ags_c ha0
  obtain ⟨v2, ta2, rfl, ga2, ha2⟩ := ags_c ha1
  obtain ⟨v3, ta3, rfl, ga3, ha3⟩ := ags_c ha2
  obtain rfl := ags_n ha3
  obtain ⟨q0, m0, e0⟩ := ga0
  obtain ⟨x1, e1, i1⟩ := ga1
  obtain ⟨x2, e2, i2⟩ := ga2
  obtain ⟨x3, e3, i3⟩ := ga3
  have m0 : q0 = 196 := by simpa using m0
  subst e0; subst e1; subst e2; subst e3; subst m0
  simp only [soChk, Bool.and_eq_true, List.any_eq_true, List.all_eq_true, Nat.beq_eq, Nat.blt_eq] at hck
  obtain ⟨hk, i, him, c1, c2, c3, c4⟩ := hck
  have hx1 : x1 = nI k := nI_at (aIn_eq i1)
  subst hx1
  have s0 : zsh h 196 = some (12, 39) := hok.1 196 (12, 39) (by decide +kernel)
  have s1 : zsh h 199 = some (14, 363) := hok.1 199 (14, 363) (by decide +kernel)
  have r1 : h.2.2.2.1 196 15 = some 199 := hok.2.2.1 196 15 199 (by decide +kernel)
  have h5 := hpre.1 _ List.mem_cons_self
  have him2 := hok.2.2.2.1 i him (fun c hc => by
    obtain ⟨a1, a2, a3⟩ := c4 c hc
    rw [a1, a2]
    exact aLe_in a3 h5)
  rw [c1, c2] at him2
  have hh := aHull_in (aLe_in c3 him2)
  have b1 : (1 : Int) ≤ (h.2.1 199 (62 + 4 * k)).toInt := hh.1
  have b2 : (h.2.1 199 (62 + 4 * k)).toInt ≤ (15 : Int) := hh.2
  obtain ⟨d', rfl⟩ : ∃ d', d = d' + 1 := ⟨d - 1, by have : D ≤ d := hd; omega⟩
  have hQ : ∀ y : Int32, (fun (v : Option zV) (h' : zH) => hOK wd h' ∧ hFr md [] h h' ∧ ∃ p ∈ [((some (.inl aTop), [], [], []) : aPo)], aPst [.inr (.inr (some 196)), .inl (nI k), .inl x2, .inl x3] v h' p) (some (.inl y)) h := fun y => ⟨hok, ⟨rfl, rfl, fun _ _ _ => rfl, fun _ _ _ => rfl, fun _ => hMn.rf⟩, _, List.mem_cons_self, ⟨y, rfl, aIn_top y⟩, trivial, (fun q hq => nomatch hq), (fun q hq => nomatch hq)⟩
  show zEx none (d' + 1) mX12_setsOut (0, [(0, .inr (.inr (some 196))), (1, .inl (nI k)), (2, .inl x2), (3, .inl x3)], [], h) _
  refine ex_iload_n (pc' := 1) dX12_setsOut_0 rfl rfl ?_
  refine ex_istore (pc' := 3) (ls' := soL x3 (nI k) x2 x3) dX12_setsOut_1 (by decide) rfl rfl ?_
  refine ex_iload_n (pc' := 4) dX12_setsOut_3 rfl rfl ?_
  refine ex_iconst (v := 3) (pc' := 5) dX12_setsOut_4 (by decide) rfl ?_
  refine ex_icmp (pc' := 47) (pc2 := 8) dX12_setsOut_5 (by decide) rfl (fun _ => ?_) (fun _ => ?_)
  · refine ex_iload (pc' := 49) dX12_setsOut_47 rfl rfl ?_
    exact ex_iret dX12_setsOut_49 rfl rfl (hQ x3)
  · exact so_all s0 s1 r1 hk (nI_at (k := (h.2.1 199 (62 + 4 * k)).toInt.toNat) (by omega)) ⟨by omega, by omega⟩ hQ x3
