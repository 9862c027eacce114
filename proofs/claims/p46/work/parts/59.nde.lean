section Qx
variable {d k s : Nat} {h : zH} {kind day : Int32}
theorem sOf_nI {x : Int32} (hx : 0 ≤ x.toInt) : sOf x = nI (x.toInt / 90 % 4).toNat := nI_at (by rw [(sOf_toInt hx).2]; omega)
end Qx
