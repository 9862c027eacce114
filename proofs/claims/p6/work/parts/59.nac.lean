theorem hOK_set {w : aWd} {h : zH} {g k : Nat} {v : Int32} (hv : aIn v.toInt (gSeg (w.2.1 g) k)) (hno : aNoS w g k = true) (ho : hOK w h) : hOK w (zsI h g k v) := by
  obtain ⟨c5, c6, c7, c8, c9⟩ := ho
  refine ⟨c5, fun a j => ?_, c7, fun i hi => ?_, c9⟩
  · rw [zsI_at]
    split
    · next e => rw [e.1, e.2]; exact hv
    · exact c6 a j
  · have hno := List.all_eq_true.mp hno i hi
    simp only [Bool.and_eq_true, Bool.not_eq_true', List.all_eq_true] at hno
    have hne : ∀ {a b : Nat}, (Nat.beq a g && Nat.beq b k) = false → ¬ (a = g ∧ b = k) := by
      intro a b hq z
      rw [z.1, z.2] at hq
      simp at hq
    have hold := c8 i hi
    intro hc
    rw [zsI_no (hne hno.1)]
    refine hold (fun c hcm => ?_)
    have := hc c hcm
    rw [zsI_no (hne (hno.2 c hcm))] at this
    exact this
/-! copy -/
