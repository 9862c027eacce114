section Qx
variable {y : Nat → Int32} {n p q : Nat} {A A' : pA} {nm : Nat → List Int32}
theorem tE_ge (hp : p ≤ n) : p ≤ tE y n p ∧ tE y n p ≤ n := by
  have a := tS_sp (y := y) hp
  have b := tE_sp (y := y) hp
  omega
theorem sWord_ge {bs : List Int32} (hp : p ≤ n) (e : sWord y n bs p = .inr q) : p ≤ q ∧ q ≤ n := by
  unfold sWord at e
  split at e
  · have e := Sum.inr.inj e
    rw [← e]
    exact tE_ge hp
  · cases e
theorem sNum_ge {lo hi x : Int32} (hp : p ≤ n) (e : sNum y n lo hi p = .inr (x, q)) : p ≤ q ∧ q ≤ n := by
  unfold sNum at e
  split at e
  · split at e
    · have e := congrArg Prod.snd (Sum.inr.inj e)
      dsimp only at e
      rw [← e]
      exact tE_ge hp
    · cases e
  · cases e
theorem sWN_ge {bs : List Int32} {lo hi x : Int32} (hp : p ≤ n) (e : sWN y n bs lo hi p = .inr (x, q)) : p ≤ q ∧ q ≤ n := by
  unfold sWN at e
  split at e
  · cases e
  · next r e1 =>
    have a := sWord_ge hp e1
    have b := sNum_ge a.2 e
    omega
theorem sNew_ge (hp : p ≤ n) (e : sNew y n nm p = .inr q) : p ≤ q ∧ q ≤ n := by
  unfold sNew at e
  split at e
  · split at e
    · cases e
    · have e := Sum.inr.inj e
      rw [← e]
      exact tE_ge hp
  · cases e
theorem sOld_ge {lo hi x : Nat} (hp : p ≤ n) (e : sOld y n nm lo hi p = .inr (x, q)) : p ≤ q ∧ q ≤ n := by
  unfold sOld at e
  split at e
  · split at e
    · split at e
      · have e := congrArg Prod.snd (Sum.inr.inj e)
        dsimp only at e
        rw [← e]
        exact tE_ge hp
      · cases e
    · cases e
  · cases e
end Qx
