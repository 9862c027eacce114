def pA0 : pA := (0, fun _ => [], fun _ => [], fun _ => (0, 0), fun _ => (0, 0), 0, 0, 0, 0, 0)
theorem pI_0 : pI pA0 := by
  refine ⟨.inl rfl, fun _ => ⟨rfl, rfl, rfl, rfl, rfl⟩, ⟨by decide, by decide, by decide, by decide, by decide⟩, fun i hi => ⟨fun z => absurd rfl z, fun z => ?_⟩, ⟨fun i _ z => absurd rfl z, fun i j _ _ z => absurd rfl z⟩, fun i hi => absurd hi (Nat.not_lt_zero i), fun i hi => absurd hi (Nat.not_lt_zero i), fun i hi => absurd hi (Nat.not_lt_zero i)⟩
  have z : i < 0 ∨ (7 ≤ i ∧ i < 7 + 0) ∨ (12 ≤ i ∧ i < 12 + 0) := z
  omega
section Qx
variable {y : Nat → Int32} {n c d N p : Nat} {h h' : zH} {A : pA}
def clr (h : zH) (c : Nat) : zH := zsI (zsI (zsI (zsI (zsI (zsI (zsI (zsI (zsI h c 0 0) c 1 0) c 2 0) c 3 0) c 4 0) c 5 0) c 6 0) c 7 0) c 8 0
theorem clr_1 : (clr h c).1 = h.1 := rfl
theorem clr_r : (clr h c).2.2.2.1 = h.2.2.2.1 := rfl
theorem clr_no {a k : Nat} (hn : a ≠ c) : (clr h c).2.1 a k = h.2.1 a k := by
  unfold clr
  rw [zsI_no (by omega), zsI_no (by omega), zsI_no (by omega), zsI_no (by omega), zsI_no (by omega), zsI_no (by omega), zsI_no (by omega), zsI_no (by omega), zsI_no (by omega)]
theorem clr_0 : (clr h c).2.1 c 0 = 0 ∧ (clr h c).2.1 c 4 = 0 ∧ (clr h c).2.1 c 5 = 0 ∧ (clr h c).2.1 c 6 = 0 ∧ (clr h c).2.1 c 7 = 0 ∧ (clr h c).2.1 c 8 = 0 := by
  unfold clr
  refine ⟨?_, ?_, ?_, ?_, ?_, zsI_eq⟩
  · rw [zsI_no (by omega), zsI_no (by omega), zsI_no (by omega), zsI_no (by omega), zsI_no (by omega), zsI_no (by omega), zsI_no (by omega), zsI_no (by omega), zsI_eq]
  · rw [zsI_no (by omega), zsI_no (by omega), zsI_no (by omega), zsI_no (by omega), zsI_eq]
  · rw [zsI_no (by omega), zsI_no (by omega), zsI_no (by omega), zsI_eq]
  · rw [zsI_no (by omega), zsI_no (by omega), zsI_eq]
  · rw [zsI_no (by omega), zsI_eq]
end Qx
