def hz (f : Nat → Nat → Int32) : Prop := ∀ a k, aIn (f a k).toInt (gSeg (wd.2.1 a) k)
theorem gSeg0 : ∀ (r : List (Nat × aI)) (k : Nat), r.all (fun p => aLe [(0, 0, 1)] p.2) = true → aIn 0 (gSeg r k)
  | [], _, _ => aR1_in (lo := -2147483648) (hi := 2147483647) (by decide) (by decide)
  | p :: t, k, h => by
    simp only [List.all_cons, Bool.and_eq_true] at h
    unfold gSeg
    split
    · exact aLe_in h.1 (aR1_in (lo := 0) (hi := 0) (by decide) (by decide))
    · exact gSeg0 t k h.2
theorem hz_0 (a k : Nat) : aIn 0 (gSeg (wd.2.1 a) k) := by
  have hw : wG.all (fun r => r.all (fun p => aLe [(0, 0, 1)] p.2)) = true := by decide +kernel
  refine gSeg0 _ k ?_
  show (wG.getD a []).all (fun p => aLe [(0, 0, 1)] p.2) = true
  rw [List.getD_eq_getElem?_getD]
  cases e : wG[a]? with
  | none => rfl
  | some r => exact List.all_eq_true.mp hw r (List.mem_of_getElem? e)
theorem hz_row {f : Nat → Nat → Int32} {c : Nat} (h : hz f) : hz (zrow f c (fun _ => 0)) := by
  intro a k
  unfold zrow
  split
  · exact hz_0 a k
  · exact h a k
theorem hz_up {f : Nat → Nat → Int32} {c j : Nat} {v : Int32} (h : hz f) (hv : aIn v.toInt (gSeg (wd.2.1 c) j)) : hz (zup f c j v) := by
  intro a k
  unfold zup
  split
  · next e =>
    split
    · next e2 => rw [e, e2]; exact hv
    · exact h a k
  · exact h a k
