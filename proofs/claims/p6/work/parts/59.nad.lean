def cpyH (h : zH) (f a g b n : Nat) : zH := (h.1, zrow h.2.1 g (fun j => if b ≤ j ∧ j < b + n then h.2.1 f (a + (j - b)) else h.2.1 g j), h.2.2.1, h.2.2.2.1, h.2.2.2.2)
section Qx
variable {h : zH} {f a g b n x j k : Nat}
theorem cpyH_at : (cpyH h f a g b n).2.1 x j = if x = g ∧ b ≤ j ∧ j < b + n then h.2.1 f (a + (j - b)) else h.2.1 x j := by
  simp only [cpyH, zrow]
  by_cases e : x = g
  · subst e
    by_cases q : b ≤ j ∧ j < b + n
    · rw [if_pos rfl, if_pos q, if_pos ⟨rfl, q⟩]
    · rw [if_pos rfl, if_neg q, if_neg (fun z => q z.2)]
  · rw [if_neg e, if_neg (fun z => e z.1)]
theorem cpyH_0 : cpyH h f a g b 0 = h := zH_ext rfl (fun x j => by rw [cpyH_at, if_neg (by omega)]) rfl
theorem cpyH_s : zsI (cpyH h f a g b k) g (b + k) (h.2.1 f (a + k)) = cpyH h f a g b (k + 1) := zH_ext rfl (fun x j => by
  rw [zsI_at, cpyH_at, cpyH_at]
  by_cases e : x = g ∧ j = b + k
  · rw [if_pos e, if_pos ⟨e.1, by omega, by omega⟩]
    have : a + (j - b) = a + k := by omega
    rw [this]
  · rw [if_neg e]
    by_cases q : x = g ∧ b ≤ j ∧ j < b + k
    · rw [if_pos q, if_pos ⟨q.1, q.2.1, by omega⟩]
    · rw [if_neg q, if_neg (fun z => q ⟨z.1, z.2.1, by have : j ≠ b + k := fun y => e ⟨z.1, y⟩; omega⟩)]) rfl
end Qx
