section Qx
variable {d k s : Nat} {h : zH} {kind day : Int32}
theorem nxD_pos {x : Int32} (hx : 0 ≤ x.toInt) : (nxD x).toInt = (90 * (x.toInt / 90 + 1)).bmod (2 ^ 32) := by
  unfold nxD
  have e1 := (sOf_toInt hx).1
  have r1 := i32_rg x
  have e2 : (x / 90 + 1).toInt = x.toInt / 90 + 1 := by
    rw [Int32.toInt_add, e1]
    exact bmod_fit (by show -2147483648 ≤ x.toInt / 90 + 1; omega) (by show x.toInt / 90 + 1 ≤ 2147483647; omega)
  rw [Int32.toInt_mul, e2]
  rfl
end Qx
