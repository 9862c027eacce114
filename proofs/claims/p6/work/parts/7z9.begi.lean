theorem l_law {L : Nat} {xs : Nat → Int32} (hL : L ≤ 3072) : zEx (some (L, xs)) 1005 mL_law (0, [(0, .inr (.inr (some 1000000)))], [], hh_0) zQL := by
  refine k_law0 1001 ?_
  refine ex_iconst (v := nI 0) (pc' := 21) dL_law_20 (by decide) rfl ?_
  refine ex_istore (pc' := 23) dL_law_21 (by decide) rfl rfl ?_
  refine l_loop2 hL 520 0 0 hh_487 _ (by omega) (by omega) (by decide) ⟨hOK_beg, .inl ?_, ?_, Nat.le_refl _, rfl, ?_, ?_⟩ lZ_beg ⟨rfl, rfl, rfl, rfl, rfl⟩
  · intro q hq
    have hk : rv0.all (fun q => decide (hh_487.2.2.2.1 q.1.1 q.1.2 = some q.2)) = true := by decide +kernel
    exact of_decide_eq_true (List.all_eq_true.mp hk q hq)
  · decide +kernel
  · intro k hk
    have e : hh_487.2.1 196 2 = 0 := by decide +kernel
    rw [e] at hk
    have : (0 : Int32).toInt = 0 := by decide
    omega
  · refine ⟨⟨pA0, 2, ⟨pI_0, .inl rfl, by decide +kernel, ⟨by decide +kernel, by decide +kernel, by decide +kernel, by decide +kernel, by decide +kernel, by decide +kernel, fun i hi => absurd hi (Nat.not_lt_zero i), fun i hi => absurd hi (Nat.not_lt_zero i), fun i hi => absurd hi (Nat.not_lt_zero i), fun j hj => absurd rfl hj⟩, .inl ⟨by decide +kernel, rfl⟩⟩, tA_0⟩, by decide +kernel, ⟨?_, ?_⟩, by decide +kernel⟩
    · have e1 : hh_487.2.1 0 2 = 0 := by decide +kernel
      have e2 : hh_487.2.1 196 11 = 0 := by decide +kernel
      rw [e1, e2]
    · have e2 : hh_487.2.1 196 11 = 0 := by decide +kernel
      rw [e2]
      exact fun z => absurd z (by decide)
