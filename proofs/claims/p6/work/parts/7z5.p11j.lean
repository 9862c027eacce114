section Qx
variable {y : Nat → Int32} {n c d N p : Nat} {h h' : zH} {A : pA}
def txR (c : Nat) (r : sF ⊕ pA) (v : Option zV) (h' : zH) : Prop := match r with
  | .inl e => v = some (.inl 0) ∧ fl e h'
  | .inr A => v = some (.inl 1) ∧ rcC A c h' ∧ pI A
end Qx
