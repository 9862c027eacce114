theorem hOK_row {w : aWd} {h h' : zH} {g : Nat} (e1 : h'.1 = h.1) (e2 : h'.2.2.2.1 = h.2.2.2.1) (hs : ∀ x j, x ≠ g → h'.2.1 x j = h.2.1 x j) (hn : ∀ j, aIn (h'.2.1 g j).toInt (gSeg (w.2.1 g) j)) (hno : aNoC w g = true) (ho : hOK w h) : hOK w h' := by
  obtain ⟨c5, c6, c7, c8, c9⟩ := ho
  refine ⟨fun a q hq => ?_, fun a k => ?_, fun a k b hb => by rw [e2]; exact c7 a k b hb, fun i hi => ?_, by rw [e1]; exact c9⟩
  · have := c5 a q hq
    unfold zsh at this ⊢
    rw [e1]; exact this
  · by_cases e : a = g
    · rw [e]; exact hn k
    · rw [hs a k e]; exact c6 a k
  · have hno := List.all_eq_true.mp hno i hi
    simp only [Bool.and_eq_true, Bool.not_eq_true', List.all_eq_true] at hno
    have hold := c8 i hi
    intro hc
    rw [hs _ _ (nbeq_f hno.1)]
    refine hold (fun c hcm => ?_)
    have := hc c hcm
    rw [hs _ _ (nbeq_f (hno.2 c hcm))] at this
    exact this
