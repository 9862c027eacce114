theorem hOK_beg : hOK wd hh_487 := by
  refine ⟨fun a q hq => ?_, hy_487, fun a k b hb => ?_, fun i hi hc => ?_, zble rfl⟩
  · have hq : wSh[a]? = some q := hq
    have ha : a < 214 := by
      have := (List.getElem?_eq_some_iff.mp hq).1
      rw [hk_ln] at this
      exact this
    have := of_decide_eq_true (List.all_eq_true.mp hk_sh a (List.mem_range.mpr ha))
    rw [this]
    exact hq
  · have hb : (wR.getD a []).getD k none = some b := hb
    have hk : k < (wR.getD a []).length := by
      rcases Nat.lt_or_ge k (wR.getD a []).length with z | z
      · exact z
      · rw [List.getD_eq_getElem?_getD (l := wR.getD a []), List.getElem?_eq_none z] at hb
        cases hb
    have ha : a < wR.length := by
      rcases Nat.lt_or_ge a wR.length with z | z
      · exact z
      · rw [List.getD_eq_getElem?_getD (l := wR), List.getElem?_eq_none z] at hk
        exact absurd hk (Nat.not_lt_zero _)
    have := List.all_eq_true.mp (List.all_eq_true.mp hk_rf a (List.mem_range.mpr ha)) k (List.mem_range.mpr hk)
    rw [hb] at this
    exact of_decide_eq_true this
  · have hor := List.all_eq_true.mp hk_im i hi
    rw [Bool.or_eq_true] at hor
    rcases hor with hor | hor
    rotate_left
    · rw [Bool.and_eq_true] at hor
      rw [of_decide_eq_true hor.1]
      exact aLe_in hor.2 (aR1_in (lo := 0) (hi := 0) (by decide) (by decide))
    obtain ⟨c, hcm, hcc⟩ := List.any_eq_true.mp hor
    rw [Bool.and_eq_true] at hcc
    have h0 := of_decide_eq_true hcc.1
    obtain ⟨p, hp, a, b, -⟩ := hc c hcm
    rw [h0] at a b
    have a : p.1 ≤ 0 := a
    have b : 0 ≤ p.2.1 := b
    have := List.all_eq_true.mp hcc.2 p hp
    rw [Bool.or_eq_true, ile_iff, ile_iff] at this
    omega
