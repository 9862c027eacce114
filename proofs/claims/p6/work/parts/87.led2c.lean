theorem zled_ent (vs : List zV) (B : Nat) (sp : Nat → Nat) : (lg_sl (vs.map (zcv B sp))).length = zwd vs := by
  induction vs with
  | nil => rfl
  | cons u us ih =>
    have e1 : lg_sl ((u :: us).map (zcv B sp)) = (if (zcv B sp u).category = 2 then [.val (zcv B sp u), .second] else [.val (zcv B sp u)]) ++ lg_sl (us.map (zcv B sp)) := by simp [lg_sl]
    have e2 : zwd (u :: us) = zcat u + zwd us := by simp [zwd]
    rw [e1, e2, List.length_append, ih, zcat_cv]
    have : zcat u = 1 ∨ zcat u = 2 := by
      match u with
      | .inl _ => exact Or.inl rfl
      | .inr (.inl _) => exact Or.inr rfl
      | .inr (.inr _) => exact Or.inl rfl
    rcases this with q | q <;> rw [q] <;> simp
