theorem S_cpR {pre tells : List ((Nat × Nat) × aI)} {D : Nat} (hck : cpRChk pre tells = true) : aSpec wd (mX12_copy, [.inr (.inl [200]), .inl [(0, 0, 1)], .inr (.inl [199]), .inl [(0, 0, 1)], .inl [(363, 363, 1)]], (pre, []), [(none, [], tells, [])], [(199, 0, 363)], [], D) := by
  intro d hd vs h hargs hok hpre
  obtain ⟨v0, ta0, rfl, ga0, ha0⟩ := ags_c hargs
  obtain ⟨v1, ta1, rfl, ga1, ha1⟩ := ags_c ha0
  obtain ⟨v2, ta2, rfl, ga2, ha2⟩ := ags_c ha1
  obtain ⟨v3, ta3, rfl, ga3, ha3⟩ := ags_c ha2
  obtain ⟨v4, ta4, rfl, ga4, ha4⟩ := ags_c ha3
  obtain rfl := ags_n ha4
  obtain ⟨q0, m0, e0⟩ := ga0
  obtain ⟨x1, e1, i1⟩ := ga1
  obtain ⟨q2, m2, e2⟩ := ga2
  obtain ⟨x3, e3, i3⟩ := ga3
  obtain ⟨x4, e4, i4⟩ := ga4
  have m0 : q0 = 200 := by simpa using m0
  have m2 : q2 = 199 := by simpa using m2
  subst e0; subst e1; subst e2; subst e3; subst e4; subst m0; subst m2
  have hw1 : wd.1 200 = some (14, 363) := by decide +kernel
  have hw2 : wd.1 199 = some (14, 363) := by decide +kernel
  have hcm := cpRM_wd
  simp only [cpRM, Bool.and_eq_true, List.all_eq_true] at hcm
  obtain ⟨k1, k2⟩ := hcm
  simp only [cpRChk, Bool.and_eq_true, List.all_eq_true] at hck
  obtain ⟨p0, p4, k3⟩ := hck
  have ex1 : x1 = nI 0 := nI_at (aIn_eq i1)
  have ex3 : x3 = nI 0 := nI_at (aIn_eq i3)
  have ex4 : x4 = nI 363 := nI_at (aIn_eq i4)
  subst ex1; subst ex3; subst ex4
  refine zEx.mono (k_copy (d := d) (hok.1 _ _ hw1) (hok.1 _ _ hw2) (by decide) (by decide) (by decide) (by decide) (by decide)) (fun v h' hq => ?_)
  obtain ⟨rfl, rfl⟩ := hq
  have at9 : ∀ j : Nat, j < 363 → (cpyH h 200 0 199 0 363).2.1 199 j = h.2.1 200 j := fun j hj => by
    rw [cpyH_at, if_pos ⟨rfl, by omega, by omega⟩]
    rw [Nat.zero_add, Nat.sub_zero]
  have atn : ∀ x j : Nat, x ≠ 199 → (cpyH h 200 0 199 0 363).2.1 x j = h.2.1 x j := fun x j hx => by rw [cpyH_at, if_neg (fun z => hx z.1)]
  have atp : ∀ (j : Nat) (B : aI), (pre.any (fun p => Nat.beq p.1.1 200 && (Nat.beq p.1.2 j && aLe p.2 B))) = true → aIn (h.2.1 200 j).toInt B := by
    intro j B hany
    obtain ⟨p, hp, hz⟩ := List.any_eq_true.mp hany
    simp only [Bool.and_eq_true, Nat.beq_eq] at hz
    have := aLe_in hz.2.2 (hpre.1 p hp)
    rw [hz.1, hz.2.1] at this
    exact this
  refine ⟨⟨hok.1, fun x j => ?_, hok.2.2.1, fun i hi => ?_, hok.2.2.2.2⟩, ⟨rfl, rfl, fun x j hm => ?_, fun _ _ _ => rfl, fun hm => ?_⟩, _, List.mem_cons_self, rfl, trivial, (fun q hq => ?_), (fun q hq => nomatch hq)⟩
  · by_cases e : x = 199
    · subst e
      by_cases e2 : j < 363
      · rw [at9 j e2]
        exact aLe_in (k1 j (List.mem_range.mpr e2)) (hok.2.1 200 j)
      · rw [cpyH_at, if_neg (by omega)]
        exact hok.2.1 199 j
    · rw [atn x j e]
      exact hok.2.1 x j
  · have hc := k2 i hi
    have ho := hok.2.2.2.1 i hi
    intro hcond
    simp only [Bool.or_eq_true, Bool.and_eq_true, Bool.not_eq_true', List.all_eq_true] at hc
    rcases hc with ⟨n1, n2⟩ | ⟨n1, n2, n3⟩ | ⟨n1, n2, n3⟩
    · rw [atn _ _ (fun z => nbeq_f n1 z)]
      refine ho (fun c hcm => ?_)
      have := hcond c hcm
      rw [atn _ _ (fun z => nbeq_f (n2 c hcm) z)] at this
      exact this
    · have n1 : i.2.1.1 = 199 := by simpa using n1
      have n2 : i.2.1.2 < 363 := by simpa using n2
      obtain ⟨k, hk, hz⟩ := List.any_eq_true.mp n3
      simp only [Bool.and_eq_true, Nat.beq_eq, List.all_eq_true, List.any_eq_true, Nat.blt_eq] at hz
      obtain ⟨z1, z2, z3, z4⟩ := hz
      have hk2 := hok.2.2.2.1 k hk (fun e he => by
        obtain ⟨y1, c, hcm, y2, y3, y4, y5⟩ := z4 e he
        have := hcond c hcm
        rw [y2, at9 _ y4, y3] at this
        rw [y1]
        exact aLe_in y5 this)
      rw [z1, z2] at hk2
      rw [n1, at9 _ n2]
      exact aLe_in z3 hk2
    · have n1 : i.2.1.1 = 199 := by simpa using n1
      have n2 : i.2.1.2 < 363 := by simpa using n2
      rw [n1, at9 _ n2]
      obtain ⟨p, hp, hz⟩ := List.any_eq_true.mp n3
      simp only [Bool.and_eq_true, Nat.beq_eq] at hz
      obtain ⟨-, z2, z3⟩ := hz
      rw [← z2]
      simp only [List.mem_cons, List.not_mem_nil, or_false] at hp
      rcases hp with rfl | rfl
      · exact aLe_in z3 (atp _ _ p0)
      · exact aLe_in z3 (atp _ _ p4)
  · have hx : ¬ (x = 199 ∧ j < 363) := fun z => by
      rw [z.1] at hm
      have : inM [(199, 0, 363)] 199 j = true := by
        refine List.any_eq_true.mpr ⟨_, List.mem_cons_self, ?_⟩
        simp only [Bool.and_eq_true, Nat.beq_eq, Nat.ble_eq, Nat.blt_eq]
        exact ⟨trivial, by omega, z.2⟩
      rw [this] at hm
      cases hm
    rw [cpyH_at, if_neg (fun z => hx ⟨z.1, by omega⟩)]
  · exact absurd (show aMono [(199, 0, 363)] = true from hm) (by decide)
  · have ht := k3 q hq
    simp only [Bool.and_eq_true, Nat.beq_eq, Nat.blt_eq] at ht
    obtain ⟨t1, t2, t3⟩ := ht
    rw [t1, at9 _ t2]
    exact atp _ _ t3
