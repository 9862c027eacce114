section Qx
variable {y : Nat → Int32} {n p q : Nat} {A A' : pA} {nm : Nat → List Int32}
theorem sWhale_ge (hp : p ≤ n) (e : sWhale y n A p = .inr (A', q)) : p ≤ q ∧ q ≤ n := by
  unfold sWhale at e
  split at e
  · cases e
  next p1 e1 =>
  have a1 := sNew_ge hp e1
  have a0 := tE_ge (y := y) a1.2
  split at e
  · split at e
    · cases e
    next p2 e2 =>
    have a2 := sWord_ge a0.2 e2
    split at e
    · cases e
    next x3 p3 e3 =>
    have a3 := sOld_ge a2.2 e3
    split at e
    · cases e
    next x4 p4 e4 =>
    have a4 := sWN_ge a3.2 e4
    split at e
    · cases e
    next x5 p5 e5 =>
    have a5 := sWN_ge a4.2 e5
    have e := congrArg Prod.snd (Sum.inr.inj e)
    dsimp only at e
    omega
  · cases e
end Qx
