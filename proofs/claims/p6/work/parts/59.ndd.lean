section Qx
variable {d k s : Nat} {h : zH} {kind day : Int32}
theorem nxD_neg {x : Int32} (hx : x.toInt < 0) : x.toInt < (nxD x).toInt ∧ (nxD x).toInt ≤ 90 := by
  have r1 := i32_rg x
  have e1 : (x / 90).toInt = -((-x.toInt) / 90) := by
    rw [Int32.toInt_div]
    have e : x.toInt.tdiv (90 : Int32).toInt = -((-x.toInt) / 90) := by
      show x.toInt.tdiv 90 = _
      have := Int.neg_tdiv (-x.toInt) 90
      rw [Int.neg_neg] at this
      rw [this, Int.tdiv_eq_ediv_of_nonneg (by omega)]
    rw [e]
    exact bmod_fit (by omega) (by omega)
  have e2 : (x / 90 + 1).toInt = -((-x.toInt) / 90) + 1 := by
    rw [Int32.toInt_add, e1]
    exact bmod_fit (by show -2147483648 ≤ -((-x.toInt) / 90) + 1; omega) (by show -((-x.toInt) / 90) + 1 ≤ 2147483647; omega)
  have e3 : (nxD x).toInt = 90 * (-((-x.toInt) / 90) + 1) := by
    unfold nxD
    rw [Int32.toInt_mul, e2]
    show (90 * (-((-x.toInt) / 90) + 1)).bmod (2 ^ 32) = _
    exact bmod_fit (by omega) (by omega)
  omega
end Qx
