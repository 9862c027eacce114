section Qx
variable {d k s : Nat} {h : zH} {kind day : Int32}
theorem so_neg {Q : Option zV → zH → Prop} (s0 : zsh h 196 = some (12, 39)) (s1 : zsh h 199 = some (14, 363)) (r1 : h.2.2.2.1 196 15 = some 199) (hk : k < 12) (ho : h.2.1 199 (62 + 4 * k) = nI s) (hs : 0 < s ∧ s < 16) (hQ : ∀ y, Q (some (.inl y)) h) :
    ∀ (n : Nat) (x : Int32), x.toInt < 0 → (-x.toInt).toNat ≤ n → zEx none (d + 1) mX12_setsOut (8, soL x (nI k) kind day, [], h) Q := by
  intro n
  induction n with
  | zero => intro x hx hn; omega
  | succ n ih =>
    intro x hx hn
    refine so_it s0 s1 r1 hk ho (hQ x) (fun _ => ?_)
    obtain ⟨b1, b2⟩ := nxD_neg hx
    rcases Int.lt_or_le (nxD x).toInt 0 with q | q
    · exact ih (nxD x) q (by omega)
    · exact so_up s0 s1 r1 hk ho hs hQ (nxD x) q (fun z => by omega)
theorem so_all {Q : Option zV → zH → Prop} (s0 : zsh h 196 = some (12, 39)) (s1 : zsh h 199 = some (14, 363)) (r1 : h.2.2.2.1 196 15 = some 199) (hk : k < 12) (ho : h.2.1 199 (62 + 4 * k) = nI s) (hs : 0 < s ∧ s < 16) (hQ : ∀ y, Q (some (.inl y)) h) (x : Int32) : zEx none (d + 1) mX12_setsOut (8, soL x (nI k) kind day, [], h) Q := by
  rcases Int.lt_or_le x.toInt 0 with q | q
  · exact so_neg s0 s1 r1 hk ho hs hQ _ x q (Nat.le_refl _)
  · exact so_up s0 s1 r1 hk ho hs hQ x q (fun _ y hy => so_neg s0 s1 r1 hk ho hs hQ _ y hy (Nat.le_refl _))
end Qx
def soChk (w : aWd) (k : Nat) : Bool := Nat.blt k 12 && w.2.2.2.any (fun i => Nat.beq i.2.1.1 199 && (Nat.beq i.2.1.2 (62 + 4 * k) && (aLe i.2.2 [(1, 15, 1)] && i.1.all (fun c => Nat.beq c.1.1 199 && (Nat.beq c.1.2 5 && aLe [((k : Int) + 1, 12, 1)] c.2)))))
