theorem zcl_cl {ci : Nat} (h : ci < 13) : vwCl[ci]? = some (zRn ci, zTT ci, (zft ci).length) := by
  match ci, h with
  | 0, _ => exact rfl
  | 1, _ => exact rfl
  | 2, _ => exact rfl
  | 3, _ => exact rfl
  | 4, _ => exact rfl
  | 5, _ => exact rfl
  | 6, _ => exact rfl
  | 7, _ => exact rfl
  | 8, _ => exact rfl
  | 9, _ => exact rfl
  | 10, _ => exact rfl
  | 11, _ => exact rfl
  | 12, _ => exact rfl
theorem zcl_ws {ci : Nat} (h : ci < 13) : ∀ w ∈ u_ws (zRn ci) (zTT ci) (zft ci).length, w ∈ zws := by
  match ci, h with
  | 0, _ => exact zcw0
  | 1, _ => exact zcw1
  | 2, _ => exact zcw2
  | 3, _ => exact zcw3
  | 4, _ => exact zcw4
  | 5, _ => exact zcw5
  | 6, _ => exact zcw6
  | 7, _ => exact zcw7
  | 8, _ => exact zcw8
  | 9, _ => exact zcw9
  | 10, _ => exact zcw10
  | 11, _ => exact zcw11
  | 12, _ => exact zcw12
