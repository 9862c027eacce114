/-! the last step of led: it answers, or it throws -/
abbrev zledN : zM := (cX11_led, 11, 4, some .int, yX11_init, false)
section ZL1
variable {scr : Option (Nat × (Nat → Int32))} {call : zM → List zV → zH → Option zR} {deep : Bool} {pc len : Nat} {ls : zL} {st : List zV} {h : zH}
theorem zexec_nm {i : Instr} (hn : ∀ k, i ≠ .new k) : zexec scr call deep mX11_led i len pc ls st h = zexec scr call deep zledN i len pc ls st h := by
  cases i <;> first | rfl | exact absurd rfl (hn _)
theorem zs_finL {g : zC} {v : Option zV} {h' : zH} (hs : zstep scr call deep mX11_led g = some (.inr (v, h'))) :
    (g.2.2.2 = h' ∧ ∃ x : Int32, v = some (.inl x) ∧ g.2.2.1 = [.inl x] ∧ decode mX11_led.1 g.1 = .ok (.ireturn, 1)) ∨ (v = some (.inr (.inl (-1))) ∧ h' = zthr g.2.2.2 ∧ g.1 = 45 ∧ g.2.2.1 = []) := by
  obtain ⟨pc, ls, st, h⟩ := g
  by_cases hn : ∃ k len, decode mX11_led.1 pc = .ok (.new k, len)
  · obtain ⟨k, len, hd⟩ := hn
    unfold zstep at hs
    rw [hd] at hs
    dsimp only at hs
    split at hs
    · simp only [zexec] at hs
      split at hs
      · split at hs
        · split at hs <;> cases hs
        · split at hs
          · next q => cases hs; exact Or.inr ⟨rfl, rfl, q.2.2.1, q.1⟩
          · cases hs
      · cases hs
    · cases hs
  · have hs' : zstep scr call deep zledN (pc, ls, st, h) = some (.inr (v, h')) := by
      unfold zstep at hs ⊢
      split at hs
      · next i len hd =>
        have hd' : decode zledN.1 pc = .ok (i, len) := hd
        rw [hd']
        dsimp only
        split at hs
        · next hl =>
          rw [if_pos hl, ← zexec_nm (fun k e => hn ⟨k, len, by rw [← e]; exact hd⟩)]
          exact hs
        · cases hs
      · cases hs
    obtain ⟨e0, hcase⟩ := zs_fin hs' (by decide)
    rcases hcase with ⟨x, ty, v1, hst, hty, hnar, hdec⟩ | ⟨x, v1, hst, hty, -⟩ | ⟨v1, hst, hty, -⟩
    · exact Or.inl ⟨e0, x, v1, hst, hdec⟩
    · cases hty
    · cases hty
end ZL1
