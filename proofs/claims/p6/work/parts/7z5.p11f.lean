section Qx
variable {y : Nat → Int32} {n p q : Nat} {A A' : pA} {nm : Nat → List Int32}
theorem sLine_ge (hp : p ≤ n) (e : sLine y n A p = .inr (A', q)) : p ≤ q ∧ q ≤ n := by
  have a := tE_ge (y := y) hp
  unfold sLine at e
  split at e
  · split at e
    · have := sHead_ge a.2 e; omega
    · cases e
  split at e
  · split at e
    · cases e
    split at e
    · have := sIsland_ge a.2 e; omega
    · cases e
  split at e
  · split at e
    · cases e
    split at e
    · have := sWay_ge a.2 e; omega
    · cases e
  split at e
  · split at e
    · cases e
    split at e
    · have := sWhale_ge a.2 e; omega
    · cases e
  split at e
  · split at e
    · cases e
    split at e
    · have := sBox_ge a.2 e; omega
    · cases e
  split at e
  · split at e
    · cases e
    split at e
    · have := sSpout_ge a.2 e; omega
    · cases e
  · cases e
end Qx
