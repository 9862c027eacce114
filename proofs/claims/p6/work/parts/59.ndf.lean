section Qx
variable {d k s : Nat} {h : zH} {kind day : Int32}
theorem so_up {Q : Option zV → zH → Prop} (s0 : zsh h 196 = some (12, 39)) (s1 : zsh h 199 = some (14, 363)) (r1 : h.2.2.2.1 196 15 = some 199) (hk : k < 12) (ho : h.2.1 199 (62 + 4 * k) = nI s) (hs : 0 < s ∧ s < 16) (hQ : ∀ y, Q (some (.inl y)) h)
    (x : Int32) (hx : 0 ≤ x.toInt) (neg : 10000 ≤ x.toInt → ∀ y : Int32, y.toInt < 0 → zEx none (d + 1) mX12_setsOut (8, soL y (nI k) kind day, [], h) Q) : zEx none (d + 1) mX12_setsOut (8, soL x (nI k) kind day, [], h) Q := by
  have step : ∀ (q : Nat) (y : Int32), (q : Int) ≤ x.toInt / 90 + 3 → 0 ≤ y.toInt → y.toInt / 90 = (q : Int) → (s / 2 ^ (q % 4) % 2 = 0 → ∀ z : Int32, z.toInt / 90 = (q : Int) + 1 → 0 ≤ z.toInt → zEx none (d + 1) mX12_setsOut (8, soL z (nI k) kind day, [], h) Q) → zEx none (d + 1) mX12_setsOut (8, soL y (nI k) kind day, [], h) Q := by
    intro q y hqx hy hq hn
    refine so_it s0 s1 r1 hk ho (hQ y) (fun hb => ?_)
    rw [sOf_nI hy, hq] at hb
    have e4 : ((q : Int) % 4).toNat = q % 4 := by omega
    rw [e4, hBit4 s hs.2 (q % 4) (Nat.mod_lt _ (by decide))] at hb
    have hb0 : s / 2 ^ (q % 4) % 2 = 0 := by
      have h2 : s / 2 ^ (q % 4) % 2 < 2 := Nat.mod_lt _ (by decide)
      have := (nI_eq (a := s / 2 ^ (q % 4) % 2) (b := 0) (by omega) (by decide)).mp hb
      exact this
    have e := nxD_pos hy
    rw [hq] at e
    by_cases hov : 90 * ((q : Int) + 1) ≤ 2147483647
    · rw [bmod_fit (by omega) hov] at e
      exact hn hb0 (nxD y) (by rw [e]; omega) (by rw [e]; omega)
    · have ry := i32_rg y
      have hq2 : (q : Int) = 23860929 := by omega
      refine neg (by omega) (nxD y) ?_
      rw [e, hq2]
      decide
  obtain ⟨q, hq⟩ : ∃ q : Nat, x.toInt / 90 = (q : Int) := ⟨(x.toInt / 90).toNat, by omega⟩
  refine step q x (by omega) hx hq (fun b0 y1 e1 p1 => ?_)
  refine step (q + 1) y1 (by omega) p1 (by omega) (fun b1 y2 e2 p2 => ?_)
  refine step (q + 2) y2 (by omega) p2 (by omega) (fun b2 y3 e3 p3 => ?_)
  refine step (q + 3) y3 (by omega) p3 (by omega) (fun b3 y4 e4 p4 => ?_)
  exfalso
  have := bit_some s hs.2 hs.1 (q % 4) (Nat.mod_lt _ (by decide))
  have f1 : (q % 4 + 1) % 4 = (q + 1) % 4 := by omega
  have f2 : (q % 4 + 2) % 4 = (q + 2) % 4 := by omega
  have f3 : (q % 4 + 3) % 4 = (q + 3) % 4 := by omega
  rw [f1, f2, f3] at this
  omega
end Qx
