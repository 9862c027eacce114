section Qx
variable {y : Nat → Int32} {n p q : Nat} {A A' : pA} {nm : Nat → List Int32}
theorem t59_gt (hp : p ≤ n) (e : tT y n p = 59) : p < tE y n p ∧ tE y n p ≤ n := by
  have a := tS_sp (y := y) hp
  have b := tE_sp (y := y) hp
  have := b.2.2 (by rw [e]; decide)
  omega
end Qx
section Qx
variable {y : Nat → Int32} {n p q : Nat} {A A' : pA} {nm : Nat → List Int32}
theorem sText_f : ∀ (f f' : Nat) (A : pA) (p : Nat), p ≤ n → n < p + f → n < p + f' → sText y n f A p = sText y n f' A p := by
  intro f
  induction f with
  | zero => intro f' A p h1 h2 _; omega
  | succ f ih =>
    intro f' A p hp h1 h2
    cases f' with
    | zero => omega
    | succ f' =>
      unfold sText
      cases e : sLine y n A p with
      | inl e => rfl
      | inr r =>
        obtain ⟨A', q⟩ := r
        have a := sLine_ge hp e
        dsimp only
        split
        · rfl
        · split
          · next e59 =>
            have b := t59_gt (y := y) a.2 e59
            exact ih f' A' _ b.2 (by omega) (by omega)
          · rfl
end Qx
