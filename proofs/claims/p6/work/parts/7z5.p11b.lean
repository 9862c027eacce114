section Qx
variable {y : Nat → Int32} {n p q : Nat} {A A' : pA} {nm : Nat → List Int32}
theorem sHead_ge (hp : p ≤ n) (e : sHead y n A p = .inr (A', q)) : p ≤ q ∧ q ≤ n := by
  unfold sHead at e
  split at e
  · cases e
  next t p1 e1 =>
  have a1 := sWN_ge hp e1
  split at e
  · cases e
  next x2 p2 e2 =>
  have a2 := sWN_ge a1.2 e2
  split at e
  · cases e
  next x3 p3 e3 =>
  have a3 := sWN_ge a2.2 e3
  split at e
  · cases e
  next x4 p4 e4 =>
  have a4 := sWN_ge a3.2 e4
  have e := congrArg Prod.snd (Sum.inr.inj e)
  dsimp only at e
  omega
end Qx
section Qx
variable {y : Nat → Int32} {n p q : Nat} {A A' : pA} {nm : Nat → List Int32}
theorem sIsland_ge (hp : p ≤ n) (e : sIsland y n A p = .inr (A', q)) : p ≤ q ∧ q ≤ n := by
  unfold sIsland at e
  split at e
  · cases e
  next p1 e1 =>
  have a1 := sNew_ge hp e1
  split at e
  · split at e
    · split at e
      · cases e
      · have e := congrArg Prod.snd (Sum.inr.inj e)
        dsimp only at e
        have := tE_ge (y := y) a1.2
        omega
    · cases e
  · cases e
end Qx
