section Qx
variable {y : Nat → Int32} {n p q : Nat} {A A' : pA} {nm : Nat → List Int32}
theorem sBox_ge (hp : p ≤ n) (e : sBox y n A p = .inr (A', q)) : p ≤ q ∧ q ≤ n := by
  unfold sBox at e
  split at e
  · cases e
  next p1 e1 =>
  have a1 := sNew_ge hp e1
  split at e
  · cases e
  next p2 e2 =>
  have a2 := sWord_ge a1.2 e2
  split at e
  · cases e
  next x3 p3 e3 =>
  have a3 := sOld_ge a2.2 e3
  split at e
  · cases e
  next p4 e4 =>
  have a4 := sWord_ge a3.2 e4
  split at e
  · cases e
  next x5 p5 e5 =>
  have a5 := sOld_ge a4.2 e5
  split at e
  · cases e
  next x6 p6 e6 =>
  have a6 := sWN_ge a5.2 e6
  split at e
  · cases e
  next x7 p7 e7 =>
  have a7 := sWN_ge a6.2 e7
  have e := congrArg Prod.snd (Sum.inr.inj e)
  dsimp only at e
  omega
end Qx
section Qx
variable {y : Nat → Int32} {n p q : Nat} {A A' : pA} {nm : Nat → List Int32}
theorem sSpout_ge (hp : p ≤ n) (e : sSpout y n A p = .inr (A', q)) : p ≤ q ∧ q ≤ n := by
  unfold sSpout at e
  split at e
  · cases e
  next x1 p1 e1 =>
  have a1 := sOld_ge hp e1
  split at e
  · cases e
  next x2 p2 e2 =>
  have a2 := sOld_ge a1.2 e2
  split at e
  · cases e
  next x3 p3 e3 =>
  have a3 := sWN_ge a2.2 e3
  have e := congrArg Prod.snd (Sum.inr.inj e)
  dsimp only at e
  omega
end Qx
