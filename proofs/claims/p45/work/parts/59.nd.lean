/-! by hand: setsOut ends -/
theorem sOf_toInt {x : Int32} (hx : 0 ≤ x.toInt) : (x / 90).toInt = x.toInt / 90 ∧ (sOf x).toInt = x.toInt / 90 % 4 := by
  have e1 : (x / 90).toInt = x.toInt / 90 := div_pos hx (by decide)
  refine ⟨e1, ?_⟩
  unfold sOf
  rw [rem_pos (by decide), e1]
  show (x.toInt / 90).tmod 4 = _
  rw [Int.tmod_eq_emod_of_nonneg (by omega)]
theorem hBit4 : ∀ s : Nat, s < 16 → ∀ k : Nat, k < 4 → hBit (nI s) (nI k) = nI (s / 2 ^ k % 2) := by decide +kernel
theorem hBitNeg : ∀ s : Nat, s < 16 → ∀ k : Nat, k < 4 → (hBit (nI s) (-(nI k)) = 0 ∨ k = 0) := by decide +kernel
theorem bit_some : ∀ s : Nat, s < 16 → 0 < s → ∀ q : Nat, q < 4 → s / 2 ^ q % 2 = 1 ∨ s / 2 ^ ((q + 1) % 4) % 2 = 1 ∨ s / 2 ^ ((q + 2) % 4) % 2 = 1 ∨ s / 2 ^ ((q + 3) % 4) % 2 = 1 := by decide +kernel
def nxD (x : Int32) : Int32 := 90 * (x / 90 + 1)
abbrev soL (x way kind day : Int32) : zL := [(4, .inl x), (0, .inr (.inr (some 196))), (1, .inl way), (2, .inl kind), (3, .inl day)]
section HSO
variable {d k s : Nat} {h : zH} {kind day : Int32}
theorem so_it {x : Int32} {Q : Option zV → zH → Prop} (s0 : zsh h 196 = some (12, 39)) (s1 : zsh h 199 = some (14, 363)) (r1 : h.2.2.2.1 196 15 = some 199) (hk : k < 12) (ho : h.2.1 199 (62 + 4 * k) = nI s)
    (hq : Q (some (.inl x)) h) (hn : hBit (nI s) (sOf x) = 0 → zEx none (d + 1) mX12_setsOut (8, soL (nxD x) (nI k) kind day, [], h) Q) : zEx none (d + 1) mX12_setsOut (8, soL x (nI k) kind day, [], h) Q := by
  refine ex_aload_n (pc' := 9) dX12_setsOut_8 rfl rfl ?_
  refine ex_getR (pc' := 12) (n := 39) (r := 199) dX12_setsOut_9 fl_12_20 s0 (by decide) r1 rfl ?_
  refine ex_bipush (v := nI 59) (pc' := 14) dX12_setsOut_12 (by decide) rfl ?_
  refine ex_iconst (v := nI 4) (pc' := 15) dX12_setsOut_14 (by decide) rfl ?_
  refine ex_iload_n (pc' := 16) dX12_setsOut_15 rfl rfl ?_
  have em : nI 4 * nI k = nI (4 * k) := by
    refine Int32.toInt_inj.mp ?_
    rw [Int32.toInt_mul, nI_toInt (by omega), nI_toInt (by omega), nI_toInt (by omega)]
    rw [bmod_fit (by omega) (by omega)]
    omega
  refine ex_imul (pc' := 17) (v := nI (4 * k)) dX12_setsOut_16 em rfl ?_
  refine ex_iadd (pc' := 18) (v := nI (59 + 4 * k)) dX12_setsOut_17 (nI_add _ _) rfl ?_
  refine ex_iconst (v := nI 3) (pc' := 19) dX12_setsOut_18 (by decide) rfl ?_
  refine ex_iadd (pc' := 20) (v := nI (62 + 4 * k)) dX12_setsOut_19 (by rw [nI_add]; congr 1; omega) rfl ?_
  refine ex_iald (pc' := 21) (n := 363) (v := nI s) dX12_setsOut_20 s1 (zn_in (by omega) (by omega)) (by rw [nI_clamp (by omega)]; exact ho) rfl ?_
  refine ex_iload (pc' := 23) dX12_setsOut_21 rfl rfl ?_
  refine en_callsI (pc' := 26) (v := sOf x) (h2 := h) (vs := [.inl x]) (rest := [.inl (nI s)]) dX12_setsOut_23 ml_12_337 (Or.inl rfl) ⟨zble rfl, zble rfl⟩ rfl rfl (zble rfl) rfl k_season ?_
  refine en_callsI (pc' := 29) (v := hBit (nI s) (sOf x)) (h2 := h) (vs := [.inl (nI s), .inl (sOf x)]) (rest := []) dX12_setsOut_26 ml_12_298 (Or.inl rfl) ⟨zble rfl, zble rfl⟩ rfl rfl (zble rfl) rfl k_hasBit ?_
  refine ex_if (pc' := 47) (pc2 := 32) dX12_setsOut_29 (by decide) rfl (fun c => ?_) (fun c => ?_)
  · refine ex_iload (pc' := 49) dX12_setsOut_47 rfl rfl ?_
    exact ex_iret dX12_setsOut_49 rfl rfl hq
  · simp only [zcond, decide_eq_false_iff_not, Decidable.not_not] at c
    refine ex_bipush (v := 90) (pc' := 34) dX12_setsOut_32 (by decide) rfl ?_
    refine ex_iload (pc' := 36) dX12_setsOut_34 rfl rfl ?_
    refine ex_bipush (v := 90) (pc' := 38) dX12_setsOut_36 (by decide) rfl ?_
    refine ex_idiv (pc' := 39) dX12_setsOut_38 (by decide) rfl rfl ?_
    refine ex_iconst (v := 1) (pc' := 40) dX12_setsOut_39 (by decide) rfl ?_
    refine ex_iadd (pc' := 41) dX12_setsOut_40 rfl rfl ?_
    refine ex_imul (pc' := 42) (v := nxD x) dX12_setsOut_41 rfl rfl ?_
    refine ex_istore (pc' := 44) (ls' := soL (nxD x) (nI k) kind day) dX12_setsOut_42 (by decide) rfl rfl ?_
    refine ex_goto (pc' := 8) dX12_setsOut_44 (by decide) ?_
    exact hn c
theorem nxD_pos {x : Int32} (hx : 0 ≤ x.toInt) : (nxD x).toInt = (90 * (x.toInt / 90 + 1)).bmod (2 ^ 32) := by
  unfold nxD
  have e1 := (sOf_toInt hx).1
  have r1 := i32_rg x
  have e2 : (x / 90 + 1).toInt = x.toInt / 90 + 1 := by
    rw [Int32.toInt_add, e1]
    exact bmod_fit (by show -2147483648 ≤ x.toInt / 90 + 1; omega) (by show x.toInt / 90 + 1 ≤ 2147483647; omega)
  rw [Int32.toInt_mul, e2]
  rfl
theorem nxD_neg {x : Int32} (hx : x.toInt < 0) : x.toInt < (nxD x).toInt ∧ (nxD x).toInt ≤ 90 := by
  have r1 := i32_rg x
  have e1 : (x / 90).toInt = -((-x.toInt) / 90) := by
    rw [Int32.toInt_div]
    have e : x.toInt.tdiv (90 : Int32).toInt = -((-x.toInt) / 90) := by
      show x.toInt.tdiv 90 = _
      have := Int.neg_tdiv (-x.toInt) 90
      rw [Int.neg_neg] at this
      rw [this, Int.tdiv_eq_ediv_of_nonneg (by omega)]
    rw [e]
    exact bmod_fit (by omega) (by omega)
  have e2 : (x / 90 + 1).toInt = -((-x.toInt) / 90) + 1 := by
    rw [Int32.toInt_add, e1]
    exact bmod_fit (by show -2147483648 ≤ -((-x.toInt) / 90) + 1; omega) (by show -((-x.toInt) / 90) + 1 ≤ 2147483647; omega)
  have e3 : (nxD x).toInt = 90 * (-((-x.toInt) / 90) + 1) := by
    unfold nxD
    rw [Int32.toInt_mul, e2]
    show (90 * (-((-x.toInt) / 90) + 1)).bmod (2 ^ 32) = _
    exact bmod_fit (by omega) (by omega)
  omega
theorem sOf_nI {x : Int32} (hx : 0 ≤ x.toInt) : sOf x = nI (x.toInt / 90 % 4).toNat := nI_at (by rw [(sOf_toInt hx).2]; omega)
/-- from a day that isn't negative: one of four seasons is open, unless the count runs over -/
theorem so_up {Q : Option zV → zH → Prop} (s0 : zsh h 196 = some (12, 39)) (s1 : zsh h 199 = some (14, 363)) (r1 : h.2.2.2.1 196 15 = some 199) (hk : k < 12) (ho : h.2.1 199 (62 + 4 * k) = nI s) (hs : 0 < s ∧ s < 16) (hQ : ∀ y, Q (some (.inl y)) h)
    (x : Int32) (hx : 0 ≤ x.toInt) (neg : 10000 ≤ x.toInt → ∀ y : Int32, y.toInt < 0 → zEx none (d + 1) mX12_setsOut (8, soL y (nI k) kind day, [], h) Q) : zEx none (d + 1) mX12_setsOut (8, soL x (nI k) kind day, [], h) Q := by
  have step : ∀ (q : Nat) (y : Int32), (q : Int) ≤ x.toInt / 90 + 3 → 0 ≤ y.toInt → y.toInt / 90 = (q : Int) → (s / 2 ^ (q % 4) % 2 = 0 → ∀ z : Int32, z.toInt / 90 = (q : Int) + 1 → 0 ≤ z.toInt → zEx none (d + 1) mX12_setsOut (8, soL z (nI k) kind day, [], h) Q) → zEx none (d + 1) mX12_setsOut (8, soL y (nI k) kind day, [], h) Q := by
    intro q y hqx hy hq hn
    refine so_it s0 s1 r1 hk ho (hQ y) (fun hb => ?_)
    rw [sOf_nI hy, hq] at hb
    have e4 : ((q : Int) % 4).toNat = q % 4 := by omega
    rw [e4, hBit4 s hs.2 (q % 4) (Nat.mod_lt _ (by decide))] at hb
    have hb0 : s / 2 ^ (q % 4) % 2 = 0 := by
      have h2 : s / 2 ^ (q % 4) % 2 < 2 := Nat.mod_lt _ (by decide)
      have := (nI_eq (a := s / 2 ^ (q % 4) % 2) (b := 0) (by omega) (by decide)).mp hb
      exact this
    have e := nxD_pos hy
    rw [hq] at e
    by_cases hov : 90 * ((q : Int) + 1) ≤ 2147483647
    · rw [bmod_fit (by omega) hov] at e
      exact hn hb0 (nxD y) (by rw [e]; omega) (by rw [e]; omega)
    · have ry := i32_rg y
      have hq2 : (q : Int) = 23860929 := by omega
      refine neg (by omega) (nxD y) ?_
      rw [e, hq2]
      decide
  obtain ⟨q, hq⟩ : ∃ q : Nat, x.toInt / 90 = (q : Int) := ⟨(x.toInt / 90).toNat, by omega⟩
  refine step q x (by omega) hx hq (fun b0 y1 e1 p1 => ?_)
  refine step (q + 1) y1 (by omega) p1 (by omega) (fun b1 y2 e2 p2 => ?_)
  refine step (q + 2) y2 (by omega) p2 (by omega) (fun b2 y3 e3 p3 => ?_)
  refine step (q + 3) y3 (by omega) p3 (by omega) (fun b3 y4 e4 p4 => ?_)
  exfalso
  have := bit_some s hs.2 hs.1 (q % 4) (Nat.mod_lt _ (by decide))
  have f1 : (q % 4 + 1) % 4 = (q + 1) % 4 := by omega
  have f2 : (q % 4 + 2) % 4 = (q + 2) % 4 := by omega
  have f3 : (q % 4 + 3) % 4 = (q + 3) % 4 := by omega
  rw [f1, f2, f3] at this
  omega
theorem so_neg {Q : Option zV → zH → Prop} (s0 : zsh h 196 = some (12, 39)) (s1 : zsh h 199 = some (14, 363)) (r1 : h.2.2.2.1 196 15 = some 199) (hk : k < 12) (ho : h.2.1 199 (62 + 4 * k) = nI s) (hs : 0 < s ∧ s < 16) (hQ : ∀ y, Q (some (.inl y)) h) :
    ∀ (n : Nat) (x : Int32), x.toInt < 0 → (-x.toInt).toNat ≤ n → zEx none (d + 1) mX12_setsOut (8, soL x (nI k) kind day, [], h) Q := by
  intro n
  induction n with
  | zero => intro x hx hn; omega
  | succ n ih =>
    intro x hx hn
    refine so_it s0 s1 r1 hk ho (hQ x) (fun _ => ?_)
    obtain ⟨b1, b2⟩ := nxD_neg hx
    rcases Int.lt_or_le (nxD x).toInt 0 with q | q
    · exact ih (nxD x) q (by omega)
    · exact so_up s0 s1 r1 hk ho hs hQ (nxD x) q (fun z => by omega)
theorem so_all {Q : Option zV → zH → Prop} (s0 : zsh h 196 = some (12, 39)) (s1 : zsh h 199 = some (14, 363)) (r1 : h.2.2.2.1 196 15 = some 199) (hk : k < 12) (ho : h.2.1 199 (62 + 4 * k) = nI s) (hs : 0 < s ∧ s < 16) (hQ : ∀ y, Q (some (.inl y)) h) (x : Int32) : zEx none (d + 1) mX12_setsOut (8, soL x (nI k) kind day, [], h) Q := by
  rcases Int.lt_or_le x.toInt 0 with q | q
  · exact so_neg s0 s1 r1 hk ho hs hQ _ x q (Nat.le_refl _)
  · exact so_up s0 s1 r1 hk ho hs hQ x q (fun _ y hy => so_neg s0 s1 r1 hk ho hs hQ _ y hy (Nat.le_refl _))
end HSO
def soChk (w : aWd) (k : Nat) : Bool := Nat.blt k 12 && w.2.2.2.any (fun i => Nat.beq i.2.1.1 199 && (Nat.beq i.2.1.2 (62 + 4 * k) && (aLe i.2.2 [(1, 15, 1)] && i.1.all (fun c => Nat.beq c.1.1 199 && (Nat.beq c.1.2 5 && aLe [((k : Int) + 1, 12, 1)] c.2)))))
theorem S_sets {k D : Nat} {A B : aI} {md : aMd} (hD : 1 ≤ D) (hck : soChk wd k = true) : aSpec wd (mX12_setsOut, [.inr (.inl [196]), .inl [((k : Int), (k : Int), 1)], .inl A, .inl B], ([((199, 5), [((k : Int) + 1, 12, 1)])], []), [(some (.inl aTop), [], [], [])], md, [], D) := by
  intro d hd vs h hargs hok hpre
  match vs, hargs with
  | [v0, v1, v2, v3], ⟨⟨q0, m0, e0⟩, ⟨x1, e1, i1⟩, ⟨x2, e2, i2⟩, ⟨x3, e3, i3⟩, _⟩ =>
    have m0 : q0 = 196 := by simpa using m0
    subst e0; subst e1; subst e2; subst e3; subst m0
    simp only [soChk, Bool.and_eq_true, List.any_eq_true, List.all_eq_true, Nat.beq_eq, Nat.blt_eq] at hck
    obtain ⟨hk, i, him, c1, c2, c3, c4⟩ := hck
    have hx1 : x1 = nI k := nI_at (aIn_eq i1)
    subst hx1
    have s0 : zsh h 196 = some (12, 39) := hok.1 196 (12, 39) (by decide +kernel)
    have s1 : zsh h 199 = some (14, 363) := hok.1 199 (14, 363) (by decide +kernel)
    have r1 : h.2.2.2.1 196 15 = some 199 := hok.2.2.1 196 15 199 (by decide +kernel)
    have h5 := hpre.1 _ List.mem_cons_self
    have him2 := hok.2.2.2.1 i him (fun c hc => by
      obtain ⟨a1, a2, a3⟩ := c4 c hc
      rw [a1, a2]
      exact aLe_in a3 h5)
    rw [c1, c2] at him2
    have hh := aHull_in (aLe_in c3 him2)
    have b1 : (1 : Int) ≤ (h.2.1 199 (62 + 4 * k)).toInt := hh.1
    have b2 : (h.2.1 199 (62 + 4 * k)).toInt ≤ (15 : Int) := hh.2
    obtain ⟨d', rfl⟩ : ∃ d', d = d' + 1 := ⟨d - 1, by have : D ≤ d := hd; omega⟩
    have hQ : ∀ y : Int32, (fun (v : Option zV) (h' : zH) => hOK wd h' ∧ hFr md [] h h' ∧ ∃ p ∈ [((some (.inl aTop), [], [], []) : aPo)], aPst [.inr (.inr (some 196)), .inl (nI k), .inl x2, .inl x3] v h' p) (some (.inl y)) h := fun y => ⟨hok, ⟨rfl, rfl, fun _ _ _ => rfl, fun _ _ _ => rfl, fun _ => hMn.rf⟩, _, List.mem_cons_self, ⟨y, rfl, aIn_top y⟩, trivial, (fun q hq => nomatch hq), (fun q hq => nomatch hq)⟩
    show zEx none (d' + 1) mX12_setsOut (0, [(0, .inr (.inr (some 196))), (1, .inl (nI k)), (2, .inl x2), (3, .inl x3)], [], h) _
    refine ex_iload_n (pc' := 1) dX12_setsOut_0 rfl rfl ?_
    refine ex_istore (pc' := 3) (ls' := soL x3 (nI k) x2 x3) dX12_setsOut_1 (by decide) rfl rfl ?_
    refine ex_iload_n (pc' := 4) dX12_setsOut_3 rfl rfl ?_
    refine ex_iconst (v := 3) (pc' := 5) dX12_setsOut_4 (by decide) rfl ?_
    refine ex_icmp (pc' := 47) (pc2 := 8) dX12_setsOut_5 (by decide) rfl (fun _ => ?_) (fun _ => ?_)
    · refine ex_iload (pc' := 49) dX12_setsOut_47 rfl rfl ?_
      exact ex_iret dX12_setsOut_49 rfl rfl (hQ x3)
    · exact so_all s0 s1 r1 hk (nI_at (k := (h.2.1 199 (62 + 4 * k)).toInt.toNat) (by omega)) ⟨by omega, by omega⟩ hQ x3
