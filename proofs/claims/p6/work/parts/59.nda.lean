theorem sOf_toInt {x : Int32} (hx : 0 ≤ x.toInt) : (x / 90).toInt = x.toInt / 90 ∧ (sOf x).toInt = x.toInt / 90 % 4 := by
  have e1 : (x / 90).toInt = x.toInt / 90 := div_pos hx (by decide)
  refine ⟨e1, ?_⟩
  unfold sOf
  rw [rem_pos (by decide), e1]
  show (x.toInt / 90).tmod 4 = _
  rw [Int.tmod_eq_emod_of_nonneg (by omega)]
theorem hBit4 : ∀ s : Nat, s < 16 → ∀ k : Nat, k < 4 → hBit (nI s) (nI k) = nI (s / 2 ^ k % 2) := by decide +kernel
theorem hBitNeg : ∀ s : Nat, s < 16 → ∀ k : Nat, k < 4 → (hBit (nI s) (-(nI k)) = 0 ∨ k = 0) := by decide +kernel
theorem bit_some : ∀ s : Nat, s < 16 → 0 < s → ∀ q : Nat, q < 4 → s / 2 ^ q % 2 = 1 ∨ s / 2 ^ ((q + 1) % 4) % 2 = 1 ∨ s / 2 ^ ((q + 2) % 4) % 2 = 1 ∨ s / 2 ^ ((q + 3) % 4) % 2 = 1 := by decide +kernel
def nxD (x : Int32) : Int32 := 90 * (x / 90 + 1)
abbrev soL (x way kind day : Int32) : zL := [(4, .inl x), (0, .inr (.inr (some 196))), (1, .inl way), (2, .inl kind), (3, .inl day)]
