section Pk0
/-! by hand: setsOut ends -/
theorem sOf_toInt {x : Int32} (hx : 0 ≤ x.toInt) : (x / 90).toInt = x.toInt / 90 ∧ (sOf x).toInt = x.toInt / 90 % 4 := by
  have e1 : (x / 90).toInt = x.toInt / 90 := div_pos hx (by decide)
  refine ⟨e1, ?_⟩
  unfold sOf
  rw [rem_pos (by decide), e1]
  show (x.toInt / 90).tmod 4 = _
  rw [Int.tmod_eq_emod_of_nonneg (by omega)]
theorem hBit4 : ∀ s : Nat, s < 16 → ∀ k : Nat, k < 4 → hBit (nI s) (nI k) = nI (s / 2 ^ k % 2) := by decide +kernel
theorem hBitNeg : ∀ s : Nat, s < 16 → ∀ k : Nat, k < 4 → (hBit (nI s) (-(nI k)) = 0 ∨ k = 0) := by decide +kernel
theorem bit_some : ∀ s : Nat, s < 16 → 0 < s → ∀ q : Nat, q < 4 → s / 2 ^ q % 2 = 1 ∨ s / 2 ^ ((q + 1) % 4) % 2 = 1 ∨ s / 2 ^ ((q + 2) % 4) % 2 = 1 ∨ s / 2 ^ ((q + 3) % 4) % 2 = 1 := by decide +kernel
def nxD (x : Int32) : Int32 := 90 * (x / 90 + 1)
abbrev soL (x way kind day : Int32) : zL := [(4, .inl x), (0, .inr (.inr (some 196))), (1, .inl way), (2, .inl kind), (3, .inl day)]
section HSO
variable {d k s : Nat} {h : zH} {kind day : Int32}
theorem so_it {x : Int32} {Q : Option zV → zH → Prop} (s0 : zsh h 196 = some (12, 39)) (s1 : zsh h 199 = some (14, 363)) (r1 : h.2.2.2.1 196 15 = some 199) (hk : k < 12) (ho : h.2.1 199 (62 + 4 * k) = nI s)
    (hq : Q (some (.inl x)) h) (hn : hBit (nI s) (sOf x) = 0 → zEx none (d + 1) mX12_setsOut (8, soL (nxD x) (nI k) kind day, [], h) Q) : zEx none (d + 1) mX12_setsOut (8, soL x (nI k) kind day, [], h) Q := by
  refine ex_aload_n (pc' := 9) dX12_setsOut_8 rfl rfl ?_
  refine ex_getR (pc' := 12) (n := 39) (r := 199) dX12_setsOut_9 fl_12_20 s0 (by decide) r1 rfl ?_
  refine ex_bipush (v := nI 59) (pc' := 14) dX12_setsOut_12 (by decide) rfl ?_
  refine ex_iconst (v := nI 4) (pc' := 15) dX12_setsOut_14 (by decide) rfl ?_
  refine ex_iload_n (pc' := 16) dX12_setsOut_15 rfl rfl ?_
  have em : nI 4 * nI k = nI (4 * k) := by
    refine Int32.toInt_inj.mp ?_
    rw [Int32.toInt_mul, nI_toInt (by omega), nI_toInt (by omega), nI_toInt (by omega)]
    rw [bmod_fit (by omega) (by omega)]
    omega
  refine ex_imul (pc' := 17) (v := nI (4 * k)) dX12_setsOut_16 em rfl ?_
  refine ex_iadd (pc' := 18) (v := nI (59 + 4 * k)) dX12_setsOut_17 (nI_add _ _) rfl ?_
  refine ex_iconst (v := nI 3) (pc' := 19) dX12_setsOut_18 (by decide) rfl ?_
  refine ex_iadd (pc' := 20) (v := nI (62 + 4 * k)) dX12_setsOut_19 (by rw [nI_add]; congr 1; omega) rfl ?_
  refine ex_iald (pc' := 21) (n := 363) (v := nI s) dX12_setsOut_20 s1 (zn_in (by omega) (by omega)) (by rw [nI_clamp (by omega)]; exact ho) rfl ?_
  refine ex_iload (pc' := 23) dX12_setsOut_21 rfl rfl ?_
  refine en_callsI (pc' := 26) (v := sOf x) (h2 := h) (vs := [.inl x]) (rest := [.inl (nI s)]) dX12_setsOut_23 ml_12_337 (Or.inl rfl) ⟨zble rfl, zble rfl⟩ rfl rfl (zble rfl) rfl k_season ?_
  refine en_callsI (pc' := 29) (v := hBit (nI s) (sOf x)) (h2 := h) (vs := [.inl (nI s), .inl (sOf x)]) (rest := []) dX12_setsOut_26 ml_12_298 (Or.inl rfl) ⟨zble rfl, zble rfl⟩ rfl rfl (zble rfl) rfl k_hasBit ?_
  refine ex_if (pc' := 47) (pc2 := 32) dX12_setsOut_29 (by decide) rfl (fun c => ?_) (fun c => ?_)
  · refine ex_iload (pc' := 49) dX12_setsOut_47 rfl rfl ?_
    exact ex_iret dX12_setsOut_49 rfl rfl hq
  · simp only [zcond, decide_eq_false_iff_not, Decidable.not_not] at c
    refine ex_bipush (v := 90) (pc' := 34) dX12_setsOut_32 (by decide) rfl ?_
    refine ex_iload (pc' := 36) dX12_setsOut_34 rfl rfl ?_
    refine ex_bipush (v := 90) (pc' := 38) dX12_setsOut_36 (by decide) rfl ?_
    refine ex_idiv (pc' := 39) dX12_setsOut_38 (by decide) rfl rfl ?_
    refine ex_iconst (v := 1) (pc' := 40) dX12_setsOut_39 (by decide) rfl ?_
    refine ex_iadd (pc' := 41) dX12_setsOut_40 rfl rfl ?_
    refine ex_imul (pc' := 42) (v := nxD x) dX12_setsOut_41 rfl rfl ?_
    refine ex_istore (pc' := 44) (ls' := soL (nxD x) (nI k) kind day) dX12_setsOut_42 (by decide) rfl rfl ?_
    refine ex_goto (pc' := 8) dX12_setsOut_44 (by decide) ?_
    exact hn c
theorem nxD_pos {x : Int32} (hx : 0 ≤ x.toInt) : (nxD x).toInt = (90 * (x.toInt / 90 + 1)).bmod (2 ^ 32) := by
  unfold nxD
  have e1 := (sOf_toInt hx).1
  have r1 := i32_rg x
  have e2 : (x / 90 + 1).toInt = x.toInt / 90 + 1 := by
    rw [Int32.toInt_add, e1]
    exact bmod_fit (by show -2147483648 ≤ x.toInt / 90 + 1; omega) (by show x.toInt / 90 + 1 ≤ 2147483647; omega)
  rw [Int32.toInt_mul, e2]
  rfl
theorem nxD_neg {x : Int32} (hx : x.toInt < 0) : x.toInt < (nxD x).toInt ∧ (nxD x).toInt ≤ 90 := by
  have r1 := i32_rg x
  have e1 : (x / 90).toInt = -((-x.toInt) / 90) := by
    rw [Int32.toInt_div]
    have e : x.toInt.tdiv (90 : Int32).toInt = -((-x.toInt) / 90) := by
      show x.toInt.tdiv 90 = _
      have := Int.neg_tdiv (-x.toInt) 90
      rw [Int.neg_neg] at this
      rw [this, Int.tdiv_eq_ediv_of_nonneg (by omega)]
    rw [e]
    exact bmod_fit (by omega) (by omega)
  have e2 : (x / 90 + 1).toInt = -((-x.toInt) / 90) + 1 := by
    rw [Int32.toInt_add, e1]
    exact bmod_fit (by show -2147483648 ≤ -((-x.toInt) / 90) + 1; omega) (by show -((-x.toInt) / 90) + 1 ≤ 2147483647; omega)
  have e3 : (nxD x).toInt = 90 * (-((-x.toInt) / 90) + 1) := by
    unfold nxD
    rw [Int32.toInt_mul, e2]
    show (90 * (-((-x.toInt) / 90) + 1)).bmod (2 ^ 32) = _
    exact bmod_fit (by omega) (by omega)
  omega
theorem sOf_nI {x : Int32} (hx : 0 ≤ x.toInt) : sOf x = nI (x.toInt / 90 % 4).toNat := nI_at (by rw [(sOf_toInt hx).2]; omega)
/-- from a day that isn't negative: one of four seasons is open, unless the count runs over -/
theorem so_up {Q : Option zV → zH → Prop} (s0 : zsh h 196 = some (12, 39)) (s1 : zsh h 199 = some (14, 363)) (r1 : h.2.2.2.1 196 15 = some 199) (hk : k < 12) (ho : h.2.1 199 (62 + 4 * k) = nI s) (hs : 0 < s ∧ s < 16) (hQ : ∀ y, Q (some (.inl y)) h)
    (x : Int32) (hx : 0 ≤ x.toInt) (neg : 10000 ≤ x.toInt → ∀ y : Int32, y.toInt < 0 → zEx none (d + 1) mX12_setsOut (8, soL y (nI k) kind day, [], h) Q) : zEx none (d + 1) mX12_setsOut (8, soL x (nI k) kind day, [], h) Q := by
  have step : ∀ (q : Nat) (y : Int32), (q : Int) ≤ x.toInt / 90 + 3 → 0 ≤ y.toInt → y.toInt / 90 = (q : Int) → (s / 2 ^ (q % 4) % 2 = 0 → ∀ z : Int32, z.toInt / 90 = (q : Int) + 1 → 0 ≤ z.toInt → zEx none (d + 1) mX12_setsOut (8, soL z (nI k) kind day, [], h) Q) → zEx none (d + 1) mX12_setsOut (8, soL y (nI k) kind day, [], h) Q := by
    intro q y hqx hy hq hn
    refine so_it s0 s1 r1 hk ho (hQ y) (fun hb => ?_)
    rw [sOf_nI hy, hq] at hb
    have e4 : ((q : Int) % 4).toNat = q % 4 := by omega
    rw [e4, hBit4 s hs.2 (q % 4) (Nat.mod_lt _ (by decide))] at hb
    have hb0 : s / 2 ^ (q % 4) % 2 = 0 := by
      have h2 : s / 2 ^ (q % 4) % 2 < 2 := Nat.mod_lt _ (by decide)
      have := (nI_eq (a := s / 2 ^ (q % 4) % 2) (b := 0) (by omega) (by decide)).mp hb
      exact this
    have e := nxD_pos hy
    rw [hq] at e
    by_cases hov : 90 * ((q : Int) + 1) ≤ 2147483647
    · rw [bmod_fit (by omega) hov] at e
      exact hn hb0 (nxD y) (by rw [e]; omega) (by rw [e]; omega)
    · have ry := i32_rg y
      have hq2 : (q : Int) = 23860929 := by omega
      refine neg (by omega) (nxD y) ?_
      rw [e, hq2]
      decide
  obtain ⟨q, hq⟩ : ∃ q : Nat, x.toInt / 90 = (q : Int) := ⟨(x.toInt / 90).toNat, by omega⟩
  refine step q x (by omega) hx hq (fun b0 y1 e1 p1 => ?_)
  refine step (q + 1) y1 (by omega) p1 (by omega) (fun b1 y2 e2 p2 => ?_)
  refine step (q + 2) y2 (by omega) p2 (by omega) (fun b2 y3 e3 p3 => ?_)
  refine step (q + 3) y3 (by omega) p3 (by omega) (fun b3 y4 e4 p4 => ?_)
  exfalso
  have := bit_some s hs.2 hs.1 (q % 4) (Nat.mod_lt _ (by decide))
  have f1 : (q % 4 + 1) % 4 = (q + 1) % 4 := by omega
  have f2 : (q % 4 + 2) % 4 = (q + 2) % 4 := by omega
  have f3 : (q % 4 + 3) % 4 = (q + 3) % 4 := by omega
  rw [f1, f2, f3] at this
  omega
theorem so_neg {Q : Option zV → zH → Prop} (s0 : zsh h 196 = some (12, 39)) (s1 : zsh h 199 = some (14, 363)) (r1 : h.2.2.2.1 196 15 = some 199) (hk : k < 12) (ho : h.2.1 199 (62 + 4 * k) = nI s) (hs : 0 < s ∧ s < 16) (hQ : ∀ y, Q (some (.inl y)) h) :
    ∀ (n : Nat) (x : Int32), x.toInt < 0 → (-x.toInt).toNat ≤ n → zEx none (d + 1) mX12_setsOut (8, soL x (nI k) kind day, [], h) Q := by
  intro n
  induction n with
  | zero => intro x hx hn; omega
  | succ n ih =>
    intro x hx hn
    refine so_it s0 s1 r1 hk ho (hQ x) (fun _ => ?_)
    obtain ⟨b1, b2⟩ := nxD_neg hx
    rcases Int.lt_or_le (nxD x).toInt 0 with q | q
    · exact ih (nxD x) q (by omega)
    · exact so_up s0 s1 r1 hk ho hs hQ (nxD x) q (fun z => by omega)
theorem so_all {Q : Option zV → zH → Prop} (s0 : zsh h 196 = some (12, 39)) (s1 : zsh h 199 = some (14, 363)) (r1 : h.2.2.2.1 196 15 = some 199) (hk : k < 12) (ho : h.2.1 199 (62 + 4 * k) = nI s) (hs : 0 < s ∧ s < 16) (hQ : ∀ y, Q (some (.inl y)) h) (x : Int32) : zEx none (d + 1) mX12_setsOut (8, soL x (nI k) kind day, [], h) Q := by
  rcases Int.lt_or_le x.toInt 0 with q | q
  · exact so_neg s0 s1 r1 hk ho hs hQ _ x q (Nat.le_refl _)
  · exact so_up s0 s1 r1 hk ho hs hQ x q (fun _ y hy => so_neg s0 s1 r1 hk ho hs hQ _ y hy (Nat.le_refl _))
end HSO
def soChk (w : aWd) (k : Nat) : Bool := Nat.blt k 12 && w.2.2.2.any (fun i => Nat.beq i.2.1.1 199 && (Nat.beq i.2.1.2 (62 + 4 * k) && (aLe i.2.2 [(1, 15, 1)] && i.1.all (fun c => Nat.beq c.1.1 199 && (Nat.beq c.1.2 5 && aLe [((k : Int) + 1, 12, 1)] c.2)))))
theorem S_sets {k D : Nat} {A B : aI} {md : aMd} (hD : 1 ≤ D) (hck : soChk wd k = true) : aSpec wd (mX12_setsOut, [.inr (.inl [196]), .inl [((k : Int), (k : Int), 1)], .inl A, .inl B], ([((199, 5), [((k : Int) + 1, 12, 1)])], []), [(some (.inl aTop), [], [], [])], md, [], D) := by
  intro d hd vs h hargs hok hpre
  obtain ⟨v0, ta0, rfl, ga0, ha0⟩ := ags_c hargs
  obtain ⟨v1, ta1, rfl, ga1, ha1⟩ := ags_c ha0
  obtain ⟨v2, ta2, rfl, ga2, ha2⟩ := ags_c ha1
  obtain ⟨v3, ta3, rfl, ga3, ha3⟩ := ags_c ha2
  obtain rfl := ags_n ha3
  obtain ⟨q0, m0, e0⟩ := ga0
  obtain ⟨x1, e1, i1⟩ := ga1
  obtain ⟨x2, e2, i2⟩ := ga2
  obtain ⟨x3, e3, i3⟩ := ga3
  have m0 : q0 = 196 := by simpa using m0
  subst e0; subst e1; subst e2; subst e3; subst m0
  simp only [soChk, Bool.and_eq_true, List.any_eq_true, List.all_eq_true, Nat.beq_eq, Nat.blt_eq] at hck
  obtain ⟨hk, i, him, c1, c2, c3, c4⟩ := hck
  have hx1 : x1 = nI k := nI_at (aIn_eq i1)
  subst hx1
  have s0 : zsh h 196 = some (12, 39) := hok.1 196 (12, 39) (by decide +kernel)
  have s1 : zsh h 199 = some (14, 363) := hok.1 199 (14, 363) (by decide +kernel)
  have r1 : h.2.2.2.1 196 15 = some 199 := hok.2.2.1 196 15 199 (by decide +kernel)
  have h5 := hpre.1 _ List.mem_cons_self
  have him2 := hok.2.2.2.1 i him (fun c hc => by
    obtain ⟨a1, a2, a3⟩ := c4 c hc
    rw [a1, a2]
    exact aLe_in a3 h5)
  rw [c1, c2] at him2
  have hh := aHull_in (aLe_in c3 him2)
  have b1 : (1 : Int) ≤ (h.2.1 199 (62 + 4 * k)).toInt := hh.1
  have b2 : (h.2.1 199 (62 + 4 * k)).toInt ≤ (15 : Int) := hh.2
  obtain ⟨d', rfl⟩ : ∃ d', d = d' + 1 := ⟨d - 1, by have : D ≤ d := hd; omega⟩
  have hQ : ∀ y : Int32, (fun (v : Option zV) (h' : zH) => hOK wd h' ∧ hFr md [] h h' ∧ ∃ p ∈ [((some (.inl aTop), [], [], []) : aPo)], aPst [.inr (.inr (some 196)), .inl (nI k), .inl x2, .inl x3] v h' p) (some (.inl y)) h := fun y => ⟨hok, ⟨rfl, rfl, fun _ _ _ => rfl, fun _ _ _ => rfl, fun _ => hMn.rf⟩, _, List.mem_cons_self, ⟨y, rfl, aIn_top y⟩, trivial, (fun q hq => nomatch hq), (fun q hq => nomatch hq)⟩
  show zEx none (d' + 1) mX12_setsOut (0, [(0, .inr (.inr (some 196))), (1, .inl (nI k)), (2, .inl x2), (3, .inl x3)], [], h) _
  refine ex_iload_n (pc' := 1) dX12_setsOut_0 rfl rfl ?_
  refine ex_istore (pc' := 3) (ls' := soL x3 (nI k) x2 x3) dX12_setsOut_1 (by decide) rfl rfl ?_
  refine ex_iload_n (pc' := 4) dX12_setsOut_3 rfl rfl ?_
  refine ex_iconst (v := 3) (pc' := 5) dX12_setsOut_4 (by decide) rfl ?_
  refine ex_icmp (pc' := 47) (pc2 := 8) dX12_setsOut_5 (by decide) rfl (fun _ => ?_) (fun _ => ?_)
  · refine ex_iload (pc' := 49) dX12_setsOut_47 rfl rfl ?_
    exact ex_iret dX12_setsOut_49 rfl rfl (hQ x3)
  · exact so_all s0 s1 r1 hk (nI_at (k := (h.2.1 199 (62 + 4 * k)).toInt.toNat) (by omega)) ⟨by omega, by omega⟩ hQ x3
end Pk0
section Pk1
/-! next: 'end' never falls, and grows where the token isn't 0 -/
theorem zEx.and {scr : Option (Nat × (Nat → Int32))} {d : Nat} {m : zM} {g : zC} {Q Q' : Option zV → zH → Prop} (h1 : zEx scr d m g Q) (h2 : zEx scr d m g Q') : zEx scr d m g (fun v h' => Q v h' ∧ Q' v h') := by
  obtain ⟨n1, v1, x1, a1, b1⟩ := h1
  obtain ⟨n2, v2, x2, a2, b2⟩ := h2
  have e1 := zrun_le (Nat.le_max_left n1 n2) a1
  have e2 := zrun_le (Nat.le_max_right n1 n2) a2
  have e := e1.symm.trans e2
  have e := Option.some.inj e
  have ev : v1 = v2 := congrArg Prod.fst e
  have eh : x1 = x2 := congrArg Prod.snd e
  subst ev; subst eh
  exact ⟨_, v1, x1, a1, b1, b2⟩
section HNX
def lkF (sz : Int32) (tp : Nat → Int32) (i : Int32) : Int32 := if i < sz then tp i.toNatClampNeg else -1
def btw (lo hi x : Int32) : Int32 := if x < lo then 0 else if hi < x then 0 else 1
variable {d : Nat} {h : zH} {sz e0 : Int32} {tp : Nat → Int32} {Q : Option zV → zH → Prop}
theorem k_look {i : Int32} (s0 : zsh h 196 = some (12, 39)) (s1 : zsh h 197 = some (14, 1000)) (r1 : h.2.2.2.1 196 1 = some 197) (hz : h.2.1 196 3 = sz) (ht : h.2.1 197 = tp) (hi : 0 ≤ i.toInt) (hs : sz.toInt ≤ 1000) : zCi d mX12_look [.inr (.inr (some 196)), .inl i] h (fun y h' => y = lkF sz tp i ∧ h' = h) := by
  show zEx none d mX12_look (0, [(0, .inr (.inr (some 196))), (1, .inl i)], [], h) _
  subst hz; subst ht
  refine ex_iload_n (pc' := 1) dX12_look_0 rfl rfl ?_
  refine ex_aload_n (pc' := 2) dX12_look_1 rfl rfl ?_
  refine ex_getI (pc' := 5) (n := 39) dX12_look_2 fl_12_71 s0 (by decide) rfl rfl ?_
  refine ex_icmp (pc' := 17) (pc2 := 8) dX12_look_5 (by decide) rfl (fun c => ?_) (fun c => ?_)
  · refine ex_iconst (v := (-1)) (pc' := 18) dX12_look_17 (by decide) rfl ?_
    refine ex_iretI dX12_look_18 rfl rfl ⟨?_, rfl⟩
    have c : h.2.1 196 3 ≤ i := by simpa [zcond] using c
    have : ¬ i < h.2.1 196 3 := by rw [Int32.lt_iff_toInt_lt]; rw [Int32.le_iff_toInt_le] at c; omega
    unfold lkF
    rw [if_neg this]
  · have c : ¬ h.2.1 196 3 ≤ i := by simpa [zcond] using c
    have c : i < h.2.1 196 3 := by rw [Int32.lt_iff_toInt_lt]; rw [Int32.le_iff_toInt_le] at c; omega
    have c' := Int32.lt_iff_toInt_lt.mp c
    obtain ⟨k, hk⟩ : ∃ k : Nat, i.toInt = (k : Int) := ⟨i.toInt.toNat, by omega⟩
    have ei : i = nI k := nI_at hk
    refine ex_aload_n (pc' := 9) dX12_look_8 rfl rfl ?_
    refine ex_getR (pc' := 12) (n := 39) (r := 197) dX12_look_9 fl_12_7 s0 (by decide) r1 rfl ?_
    refine ex_iload_n (pc' := 13) dX12_look_12 rfl rfl ?_
    refine ex_iald (pc' := 14) (n := 1000) (v := h.2.1 197 i.toNatClampNeg) dX12_look_13 s1 (by rw [ei]; exact zn_in (by omega) (by omega)) rfl rfl ?_
    refine ex_goto (pc' := 18) dX12_look_14 (by decide) ?_
    refine ex_iretI dX12_look_18 rfl rfl ⟨?_, rfl⟩
    unfold lkF
    rw [if_pos c]
theorem k_small {x : Int32} : zCi d mX12_isSmall [.inl x] h (fun y h' => y = btw 97 122 x ∧ h' = h) := by
  show zEx none d mX12_isSmall (0, [(0, .inl x)], [], h) _
  refine ex_iload_n (pc' := 1) dX12_isSmall_0 rfl rfl ?_
  refine ex_bipush (v := 97) (pc' := 3) dX12_isSmall_1 (by decide) rfl ?_
  refine ex_icmp (pc' := 16) (pc2 := 6) dX12_isSmall_3 (by decide) rfl (fun c => ?_) (fun c => ?_)
  · refine ex_iconst (v := 0) (pc' := 17) dX12_isSmall_16 (by decide) rfl ?_
    refine ex_iretI dX12_isSmall_17 rfl (by decide) ⟨?_, rfl⟩
    have c : x < 97 := by simpa [zcond] using c
    unfold btw
    rw [if_pos c]
  have c1 : ¬ x < 97 := by simpa [zcond] using c
  refine ex_iload_n (pc' := 7) dX12_isSmall_6 rfl rfl ?_
  refine ex_bipush (v := 122) (pc' := 9) dX12_isSmall_7 (by decide) rfl ?_
  refine ex_icmp (pc' := 16) (pc2 := 12) dX12_isSmall_9 (by decide) rfl (fun c => ?_) (fun c => ?_)
  · refine ex_iconst (v := 0) (pc' := 17) dX12_isSmall_16 (by decide) rfl ?_
    refine ex_iretI dX12_isSmall_17 rfl (by decide) ⟨?_, rfl⟩
    have c : 122 < x := by simpa [zcond] using c
    unfold btw
    rw [if_neg c1, if_pos c]
  · refine ex_iconst (v := 1) (pc' := 13) dX12_isSmall_12 (by decide) rfl ?_
    refine ex_goto (pc' := 17) dX12_isSmall_13 (by decide) ?_
    refine ex_iretI dX12_isSmall_17 rfl (by decide) ⟨?_, rfl⟩
    have c : ¬ 122 < x := by simpa [zcond] using c
    unfold btw
    rw [if_neg c1, if_neg c]
theorem k_digit {x : Int32} : zCi d mX12_isDigit [.inl x] h (fun y h' => y = btw 48 57 x ∧ h' = h) := by
  show zEx none d mX12_isDigit (0, [(0, .inl x)], [], h) _
  refine ex_iload_n (pc' := 1) dX12_isDigit_0 rfl rfl ?_
  refine ex_bipush (v := 48) (pc' := 3) dX12_isDigit_1 (by decide) rfl ?_
  refine ex_icmp (pc' := 16) (pc2 := 6) dX12_isDigit_3 (by decide) rfl (fun c => ?_) (fun c => ?_)
  · refine ex_iconst (v := 0) (pc' := 17) dX12_isDigit_16 (by decide) rfl ?_
    refine ex_iretI dX12_isDigit_17 rfl (by decide) ⟨?_, rfl⟩
    have c : x < 48 := by simpa [zcond] using c
    unfold btw
    rw [if_pos c]
  have c1 : ¬ x < 48 := by simpa [zcond] using c
  refine ex_iload_n (pc' := 7) dX12_isDigit_6 rfl rfl ?_
  refine ex_bipush (v := 57) (pc' := 9) dX12_isDigit_7 (by decide) rfl ?_
  refine ex_icmp (pc' := 16) (pc2 := 12) dX12_isDigit_9 (by decide) rfl (fun c => ?_) (fun c => ?_)
  · refine ex_iconst (v := 0) (pc' := 17) dX12_isDigit_16 (by decide) rfl ?_
    refine ex_iretI dX12_isDigit_17 rfl (by decide) ⟨?_, rfl⟩
    have c : 57 < x := by simpa [zcond] using c
    unfold btw
    rw [if_neg c1, if_pos c]
  · refine ex_iconst (v := 1) (pc' := 13) dX12_isDigit_12 (by decide) rfl ?_
    refine ex_goto (pc' := 17) dX12_isDigit_13 (by decide) ?_
    refine ex_iretI dX12_isDigit_17 rfl (by decide) ⟨?_, rfl⟩
    have c : ¬ 57 < x := by simpa [zcond] using c
    unfold btw
    rw [if_neg c1, if_neg c]
def nxH (h : zH) (sz e0 : Int32) (tp : Nat → Int32) : Prop := zsh h 196 = some (12, 39) ∧ zsh h 197 = some (14, 1000) ∧ zsh h 198 = some (14, 8) ∧ h.2.2.2.1 196 1 = some 197 ∧ h.2.2.2.1 196 12 = some 198 ∧ h.2.1 196 3 = sz ∧ h.2.1 197 = tp ∧ h.2.1 196 5 = e0
theorem nxH.s {f : Nat} {v : Int32} (n : nxH h sz e0 tp) (h3 : f ≠ 3) (h5 : f ≠ 5) : nxH (zsI h 196 f v) sz e0 tp := by
  obtain ⟨a, b, c, e, g, k, l, m⟩ := n
  refine ⟨a, b, c, e, g, ?_, ?_, ?_⟩
  · rw [zsI_no (by omega)]; exact k
  · rw [← l]; funext j; exact zsI_no (by omega)
  · rw [zsI_no (by omega)]; exact m
theorem nxH.l {f : Nat} {v : Int32} (n : nxH h sz e0 tp) : nxH (zsI h 198 f v) sz e0 tp := by
  obtain ⟨a, b, c, e, g, k, l, m⟩ := n
  refine ⟨a, b, c, e, g, ?_, ?_, ?_⟩
  · rw [zsI_no (by omega)]; exact k
  · rw [← l]; funext j; exact zsI_no (by omega)
  · rw [zsI_no (by omega)]; exact m
theorem i32_suc {i : Int32} (h0 : 0 ≤ i.toInt) (h1 : i.toInt ≤ 100000) : (i + Int32.ofInt 1).toInt = i.toInt + 1 := by
  rw [Int32.toInt_add]
  show (i.toInt + 1).bmod (2 ^ 32) = _
  exact bmod_fit (by omega) (by omega)
theorem i32_suc1 {i : Int32} (h0 : 0 ≤ i.toInt) (h1 : i.toInt ≤ 100000) : (i + 1).toInt = i.toInt + 1 := i32_suc h0 h1
theorem lk_lt {lo hi i : Int32} (hb : btw lo hi (lkF sz tp i) ≠ 0) (hlo : btw lo hi (-1) = 0) : i.toInt < sz.toInt := by
  by_cases c : i < sz
  · exact Int32.lt_iff_toInt_lt.mp c
  · unfold lkF at hb
    rw [if_neg c] at hb
    exact absurd hlo hb
variable {h0 : zH} {ls : zL} {i : Int32}
theorem nx_t117 (hn : nxH h sz e0 tp) (hl0 : zget ls 0 = some (.inr (.inr (some 196)))) (hl1 : zget ls 1 = some (.inl i)) (he : h0.2.1 196 5 = e0) (hi : e0.toInt < i.toInt) : zEx none (d + 1) mX12_next (117, ls, [], h) (fun _ h' => hMn h0 h') := by
  obtain ⟨s0, s1, s2, r1, r12, hz, ht, h5⟩ := hn
  have fin : ∀ v : Int32, hMn h0 (zsI (zsI h 196 5 i) 196 6 v) := fun v => by
    have e : (zsI (zsI h 196 5 i) 196 6 v).2.1 196 5 = i := rfl
    unfold hMn
    rw [e, he]
    exact ⟨by omega, .inl hi⟩
  refine ex_aload_n (pc' := 118) dX12_next_117 hl0 rfl ?_
  refine ex_iload_n (pc' := 119) dX12_next_118 hl1 rfl ?_
  refine ex_putI (pc' := 122) (n := 39) dX12_next_119 fl_12_74 s0 (Or.inl rfl) (Or.inl rfl) rfl ?_
  refine ex_aload_n (pc' := 123) dX12_next_122 hl0 rfl ?_
  refine ex_aload_n (pc' := 124) dX12_next_123 hl0 rfl ?_
  refine ex_getI (pc' := 127) (n := 39) dX12_next_124 fl_12_84 s0 (by decide) rfl rfl ?_
  refine ex_bipush (v := 8) (pc' := 129) dX12_next_127 (by decide) rfl ?_
  refine ex_icmp (pc' := 136) (pc2 := 132) dX12_next_129 (by decide) rfl (fun c => ?_) (fun c => ?_)
  · refine ex_iconst (v := 2) (pc' := 137) dX12_next_136 (by decide) rfl ?_
    refine ex_putI (pc' := 140) (n := 39) dX12_next_137 fl_12_90 s0 (Or.inl rfl) (Or.inl rfl) rfl ?_
    refine ex_goto (pc' := 241) dX12_next_140 (by decide) ?_
    exact ex_vret dX12_next_241 rfl (fin _)
  · refine ex_iconst (v := 1) (pc' := 133) dX12_next_132 (by decide) rfl ?_
    refine ex_goto (pc' := 137) dX12_next_133 (by decide) ?_
    refine ex_putI (pc' := 140) (n := 39) dX12_next_137 fl_12_90 s0 (Or.inl rfl) (Or.inl rfl) rfl ?_
    refine ex_goto (pc' := 241) dX12_next_140 (by decide) ?_
    exact ex_vret dX12_next_241 rfl (fin _)
theorem nx_t197 {c3 : Int32} (hn : nxH h sz e0 tp) (hl0 : zget ls 0 = some (.inr (.inr (some 196)))) (hl1 : zget ls 1 = some (.inl i)) (hl3 : zget ls 3 = some (.inl c3)) (he : h0.2.1 196 5 = e0) (hi : e0.toInt < i.toInt) : zEx none (d + 1) mX12_next (197, ls, [], h) (fun _ h' => hMn h0 h') := by
  obtain ⟨s0, s1, s2, r1, r12, hz, ht, h5⟩ := hn
  have fin : ∀ v : Int32, hMn h0 (zsI (zsI h 196 5 i) 196 6 v) := fun v => by
    have e : (zsI (zsI h 196 5 i) 196 6 v).2.1 196 5 = i := rfl
    unfold hMn
    rw [e, he]
    exact ⟨by omega, .inl hi⟩
  refine ex_aload_n (pc' := 198) dX12_next_197 hl0 rfl ?_
  refine ex_iload_n (pc' := 199) dX12_next_198 hl1 rfl ?_
  refine ex_putI (pc' := 202) (n := 39) dX12_next_199 fl_12_74 s0 (Or.inl rfl) (Or.inl rfl) rfl ?_
  refine ex_aload_n (pc' := 203) dX12_next_202 hl0 rfl ?_
  refine ex_iload_n (pc' := 204) dX12_next_203 hl3 rfl ?_
  refine ex_iconst (v := 4) (pc' := 205) dX12_next_204 (by decide) rfl ?_
  refine ex_icmp (pc' := 212) (pc2 := 208) dX12_next_205 (by decide) rfl (fun c => ?_) (fun c => ?_)
  · refine ex_iconst (v := 3) (pc' := 213) dX12_next_212 (by decide) rfl ?_
    refine ex_putI (pc' := 216) (n := 39) dX12_next_213 fl_12_90 s0 (Or.inl rfl) (Or.inl rfl) rfl ?_
    refine ex_goto (pc' := 241) dX12_next_216 (by decide) ?_
    exact ex_vret dX12_next_241 rfl (fin _)
  · refine ex_iconst (v := 1) (pc' := 209) dX12_next_208 (by decide) rfl ?_
    refine ex_goto (pc' := 213) dX12_next_209 (by decide) ?_
    refine ex_putI (pc' := 216) (n := 39) dX12_next_213 fl_12_90 s0 (Or.inl rfl) (Or.inl rfl) rfl ?_
    refine ex_goto (pc' := 241) dX12_next_216 (by decide) ?_
    exact ex_vret dX12_next_241 rfl (fin _)
theorem nx_t219 {c2 : Int32} (hn : nxH h sz e0 tp) (hl0 : zget ls 0 = some (.inr (.inr (some 196)))) (hl1 : zget ls 1 = some (.inl i)) (hl2 : zget ls 2 = some (.inl c2)) (he : h0.2.1 196 5 = e0) (h00 : 0 ≤ e0.toInt) (hi : e0.toInt ≤ i.toInt) (hi2 : i.toInt ≤ 1000) : zEx none (d + 1) mX12_next (219, ls, [], h) (fun _ h' => hMn h0 h') := by
  obtain ⟨s0, s1, s2, r1, r12, hz, ht, h5⟩ := hn
  have fin : ∀ v : Int32, hMn h0 (zsI (zsI h 196 5 (i + 1)) 196 6 v) := fun v => by
    have e : (zsI (zsI h 196 5 (i + 1)) 196 6 v).2.1 196 5 = i + 1 := rfl
    unfold hMn
    rw [e, he, i32_suc1 (by omega) (by omega)]
    exact ⟨by omega, .inl (by omega)⟩
  refine ex_aload_n (pc' := 220) dX12_next_219 hl0 rfl ?_
  refine ex_iload_n (pc' := 221) dX12_next_220 hl1 rfl ?_
  refine ex_iconst (v := 1) (pc' := 222) dX12_next_221 (by decide) rfl ?_
  refine ex_iadd (pc' := 223) dX12_next_222 rfl rfl ?_
  refine ex_putI (pc' := 226) (n := 39) dX12_next_223 fl_12_74 s0 (Or.inl rfl) (Or.inl rfl) rfl ?_
  refine ex_aload_n (pc' := 227) dX12_next_226 hl0 rfl ?_
  refine ex_iload_n (pc' := 228) dX12_next_227 hl2 rfl ?_
  refine ex_bipush (v := 59) (pc' := 230) dX12_next_228 (by decide) rfl ?_
  refine ex_icmp (pc' := 237) (pc2 := 233) dX12_next_230 (by decide) rfl (fun c => ?_) (fun c => ?_)
  · refine ex_iconst (v := 1) (pc' := 238) dX12_next_237 (by decide) rfl ?_
    refine ex_putI (pc' := 241) (n := 39) dX12_next_238 fl_12_90 s0 (Or.inl rfl) (Or.inl rfl) rfl ?_
    exact ex_vret dX12_next_241 rfl (fin _)
  · refine ex_iload_n (pc' := 234) dX12_next_233 hl2 rfl ?_
    refine ex_goto (pc' := 238) dX12_next_234 (by decide) ?_
    refine ex_putI (pc' := 241) (n := 39) dX12_next_238 fl_12_90 s0 (Or.inl rfl) (Or.inl rfl) rfl ?_
    exact ex_vret dX12_next_241 rfl (fin _)
theorem nx_t47 (hn : nxH h sz e0 tp) (hl0 : zget ls 0 = some (.inr (.inr (some 196)))) (hl1 : zget ls 1 = some (.inl i)) (he : h0.2.1 196 5 = e0) (hi : e0.toInt ≤ i.toInt) : zEx none (d + 1) mX12_next (47, ls, [], h) (fun _ h' => hMn h0 h') := by
  obtain ⟨s0, s1, s2, r1, r12, hz, ht, h5⟩ := hn
  refine ex_aload_n (pc' := 48) dX12_next_47 hl0 rfl ?_
  refine ex_iconst (v := 0) (pc' := 49) dX12_next_48 (by decide) rfl ?_
  refine ex_putI (pc' := 52) (n := 39) dX12_next_49 fl_12_90 s0 (Or.inl rfl) (Or.inl rfl) rfl ?_
  refine ex_aload_n (pc' := 53) dX12_next_52 hl0 rfl ?_
  refine ex_iload_n (pc' := 54) dX12_next_53 hl1 rfl ?_
  refine ex_putI (pc' := 57) (n := 39) dX12_next_54 fl_12_74 s0 (Or.inl rfl) (Or.inl rfl) rfl ?_
  refine ex_goto (pc' := 241) dX12_next_57 (by decide) ?_
  refine ex_vret dX12_next_241 rfl ?_
  have e : (zsI (zsI h 196 6 0) 196 5 i).2.1 196 5 = i := rfl
  have e6 : (zsI (zsI h 196 6 0) 196 5 i).2.1 196 6 = 0 := rfl
  unfold hMn
  rw [e, he]
  exact ⟨hi, .inr (.inl e6)⟩
theorem nx_l2 (he : h0.2.1 196 5 = e0) (h00 : 0 ≤ e0.toInt) (hs : sz.toInt ≤ 1000) : ∀ (n : Nat) (i ns : Int32) (h : zH) (ls : zL), nxH h sz e0 tp → zget ls 0 = some (.inr (.inr (some 196))) → zget ls 1 = some (.inl i) → e0.toInt ≤ i.toInt → (e0.toInt < i.toInt ∨ btw 97 122 (lkF sz tp i) ≠ 0) → i.toInt ≤ 1000 → 1001 - i.toInt ≤ (n : Int) → h.2.1 196 8 = ns → 0 ≤ ns.toInt → ns.toInt ≤ i.toInt → zEx none (d + 1) mX12_next (67, ls, [], h) (fun _ h' => hMn h0 h') := by
  intro n
  induction n with
  | zero => intro i ns h ls _ _ _ _ _ a b; omega
  | succ n ih =>
    intro i ns h ls hn hl0 hl1 hi1 hdis hi2 hm hns hns0 hns1
    have hn' := hn
    obtain ⟨s0, s1, s2, r1, r12, hz, ht, h5⟩ := hn
    have hi : 0 ≤ i.toInt := by omega
    refine ex_aload_n (pc' := 68) dX12_next_67 hl0 rfl ?_
    refine ex_iload_n (pc' := 69) dX12_next_68 hl1 rfl ?_
    refine en_callvI (pc' := 72) (v := lkF sz tp i) (h2 := h) (vs := [.inl i]) (rest := []) (n := 39) dX12_next_69 ml_12_77 ⟨zble rfl, zble rfl⟩ rfl rfl s0 (by decide) (zble rfl) rfl (k_look s0 s1 r1 hz ht hi hs) ?_
    refine en_callsI (pc' := 75) (v := btw 97 122 (lkF sz tp i)) (h2 := h) (vs := [.inl (lkF sz tp i)]) (rest := []) dX12_next_72 ml_12_93 (Or.inl rfl) ⟨zble rfl, zble rfl⟩ rfl rfl (zble rfl) rfl k_small ?_
    refine ex_if (pc' := 117) (pc2 := 78) dX12_next_75 (by decide) rfl (fun c => ?_) (fun c => ?_)
    · have c : btw 97 122 (lkF sz tp i) = 0 := by simpa [zcond] using c
      exact nx_t117 hn' hl0 hl1 he (by rcases hdis with z | z; exact z; exact absurd c z)
    have c : btw 97 122 (lkF sz tp i) ≠ 0 := by simpa [zcond] using c
    have hlt := lk_lt c (by decide)
    have es := i32_suc hi (by omega)
    have go : ∀ h2 : zH, nxH h2 sz e0 tp → h2.2.1 196 8 = ns → zEx none (d + 1) mX12_next (101, ls, [], h2) (fun _ h' => hMn h0 h') := by
      intro h2 hn2 hns2
      have hn3 := hn2
      obtain ⟨s0, s1, s2, r1, r12, hz, ht, h5⟩ := hn2
      refine ex_aload_n (pc' := 102) dX12_next_101 hl0 rfl ?_
      refine ex_dup (pc' := 103) dX12_next_102 rfl rfl ?_
      refine ex_getI (pc' := 106) (n := 39) dX12_next_103 fl_12_84 s0 (by decide) rfl rfl ?_
      refine ex_iconst (v := 1) (pc' := 107) dX12_next_106 (by decide) rfl ?_
      refine ex_iadd (pc' := 108) dX12_next_107 rfl rfl ?_
      refine ex_putI (pc' := 111) (n := 39) dX12_next_108 fl_12_84 s0 (Or.inl rfl) (Or.inl rfl) rfl ?_
      refine ex_iinc (pc' := 114) dX12_next_111 hl1 (by decide) rfl rfl rfl ?_
      refine ex_goto (pc' := 67) dX12_next_114 (by decide) ?_
      have en := i32_suc1 hns0 (by omega)
      refine ih (i + Int32.ofInt 1) (ns + 1) _ _ (hn3.s (by decide) (by decide)) (zget_s1 hl0 (by decide) (by decide)) zget_s1e (by omega) (.inl (by omega)) (by omega) (by omega) ?_ (by omega) (by omega)
      rw [zsI_at, if_pos ⟨rfl, rfl⟩, hns2]
    refine ex_aload_n (pc' := 79) dX12_next_78 hl0 rfl ?_
    refine ex_getI (pc' := 82) (n := 39) dX12_next_79 fl_12_84 s0 (by decide) rfl rfl ?_
    refine ex_bipush (v := 8) (pc' := 84) dX12_next_82 (by decide) rfl ?_
    refine ex_icmp (pc' := 101) (pc2 := 87) dX12_next_84 (by decide) rfl (fun c => ?_) (fun c => ?_)
    · exact go h hn' hns
    · have c : ¬ (8 : Int32) ≤ h.2.1 196 8 := by simpa [zcond] using c
      rw [hns, Int32.le_iff_toInt_le] at c
      have c : ¬ (8 : Int) ≤ ns.toInt := c
      obtain ⟨k, hk⟩ : ∃ k : Nat, ns.toInt = (k : Int) := ⟨ns.toInt.toNat, by omega⟩
      have ek : ns = nI k := nI_at hk
      refine ex_aload_n (pc' := 88) dX12_next_87 hl0 rfl ?_
      refine ex_getR (pc' := 91) (n := 39) (r := 198) dX12_next_88 fl_12_17 s0 (by decide) r12 rfl ?_
      refine ex_aload_n (pc' := 92) dX12_next_91 hl0 rfl ?_
      refine ex_getI (pc' := 95) (n := 39) dX12_next_92 fl_12_84 s0 (by decide) rfl rfl ?_
      refine ex_aload_n (pc' := 96) dX12_next_95 hl0 rfl ?_
      refine ex_iload_n (pc' := 97) dX12_next_96 hl1 rfl ?_
      refine en_callvI (pc' := 100) (v := lkF sz tp i) (h2 := h) (vs := [.inl i]) (rest := [.inl (h.2.1 196 8), .inr (.inr (some 198))]) (n := 39) dX12_next_97 ml_12_77 ⟨zble rfl, zble rfl⟩ rfl rfl s0 (by decide) (zble rfl) rfl (k_look s0 s1 r1 hz ht hi hs) ?_
      refine ex_iast (pc' := 101) (n := 8) dX12_next_100 s2 (by rw [hns, ek]; exact zn_in (by omega) (by omega)) rfl ?_
      exact go _ hn'.l (by rw [zsI_no (by omega)]; exact hns)
theorem nx_l3 (he : h0.2.1 196 5 = e0) (h00 : 0 ≤ e0.toInt) (hs : sz.toInt ≤ 1000) : ∀ (n : Nat) (i c3 : Int32) (h : zH) (ls : zL), nxH h sz e0 tp → zget ls 0 = some (.inr (.inr (some 196))) → zget ls 1 = some (.inl i) → zget ls 3 = some (.inl c3) → e0.toInt ≤ i.toInt → (e0.toInt < i.toInt ∨ btw 48 57 (lkF sz tp i) ≠ 0) → i.toInt ≤ 1000 → 1001 - i.toInt ≤ (n : Int) → zEx none (d + 1) mX12_next (152, ls, [], h) (fun _ h' => hMn h0 h') := by
  intro n
  induction n with
  | zero => intro i c3 h ls _ _ _ _ _ _ a b; omega
  | succ n ih =>
    intro i c3 h ls hn hl0 hl1 hl3 hi1 hdis hi2 hm
    have hn' := hn
    obtain ⟨s0, s1, s2, r1, r12, hz, ht, h5⟩ := hn
    have hi : 0 ≤ i.toInt := by omega
    refine ex_aload_n (pc' := 153) dX12_next_152 hl0 rfl ?_
    refine ex_iload_n (pc' := 154) dX12_next_153 hl1 rfl ?_
    refine en_callvI (pc' := 157) (v := lkF sz tp i) (h2 := h) (vs := [.inl i]) (rest := []) (n := 39) dX12_next_154 ml_12_77 ⟨zble rfl, zble rfl⟩ rfl rfl s0 (by decide) (zble rfl) rfl (k_look s0 s1 r1 hz ht hi hs) ?_
    refine en_callsI (pc' := 160) (v := btw 48 57 (lkF sz tp i)) (h2 := h) (vs := [.inl (lkF sz tp i)]) (rest := []) dX12_next_157 ml_12_97 (Or.inl rfl) ⟨zble rfl, zble rfl⟩ rfl rfl (zble rfl) rfl k_digit ?_
    refine ex_if (pc' := 197) (pc2 := 163) dX12_next_160 (by decide) rfl (fun c => ?_) (fun c => ?_)
    · have c : btw 48 57 (lkF sz tp i) = 0 := by simpa [zcond] using c
      exact nx_t197 hn' hl0 hl1 hl3 he (by rcases hdis with z | z; exact z; exact absurd c z)
    have c : btw 48 57 (lkF sz tp i) ≠ 0 := by simpa [zcond] using c
    have hlt := lk_lt c (by decide)
    have es := i32_suc hi (by omega)
    have go : ∀ (h2 : zH) (ls : zL) (c3 : Int32), nxH h2 sz e0 tp → zget ls 0 = some (.inr (.inr (some 196))) → zget ls 1 = some (.inl i) → zget ls 3 = some (.inl c3) → zEx none (d + 1) mX12_next (191, ls, [], h2) (fun _ h' => hMn h0 h') := by
      intro h2 ls c3 hn2 hl0 hl1 hl3
      refine ex_iinc (pc' := 194) dX12_next_191 hl1 (by decide) rfl rfl rfl ?_
      refine ex_goto (pc' := 152) dX12_next_194 (by decide) ?_
      exact ih (i + Int32.ofInt 1) c3 _ _ hn2 (zget_s1 hl0 (by decide) (by decide)) zget_s1e (zget_s1 hl3 (by decide) (by omega)) (by omega) (.inl (by omega)) (by omega) (by omega)
    refine ex_iload_n (pc' := 164) dX12_next_163 hl3 rfl ?_
    refine ex_iconst (v := 4) (pc' := 165) dX12_next_164 (by decide) rfl ?_
    refine ex_icmp (pc' := 188) (pc2 := 168) dX12_next_165 (by decide) rfl (fun c => ?_) (fun c => ?_)
    · refine ex_iinc (pc' := 191) dX12_next_188 hl3 (by decide) rfl rfl rfl ?_
      exact go _ _ _ hn' (zget_s1 hl0 (by decide) (by omega)) (zget_s1 hl1 (by decide) (by omega)) zget_s1e
    · refine ex_aload_n (pc' := 169) dX12_next_168 hl0 rfl ?_
      refine ex_bipush (v := 10) (pc' := 171) dX12_next_169 (by decide) rfl ?_
      refine ex_aload_n (pc' := 172) dX12_next_171 hl0 rfl ?_
      refine ex_getI (pc' := 175) (n := 39) dX12_next_172 fl_12_87 s0 (by decide) rfl rfl ?_
      refine ex_imul (pc' := 176) dX12_next_175 rfl rfl ?_
      refine ex_aload_n (pc' := 177) dX12_next_176 hl0 rfl ?_
      refine ex_iload_n (pc' := 178) dX12_next_177 hl1 rfl ?_
      refine en_callvI (pc' := 181) (v := lkF sz tp i) (h2 := h) (vs := [.inl i]) (rest := [.inl (10 * h.2.1 196 7), .inr (.inr (some 196))]) (n := 39) dX12_next_178 ml_12_77 ⟨zble rfl, zble rfl⟩ rfl rfl s0 (by decide) (zble rfl) rfl (k_look s0 s1 r1 hz ht hi hs) ?_
      refine ex_iadd (pc' := 182) dX12_next_181 rfl rfl ?_
      refine ex_bipush (v := 48) (pc' := 184) dX12_next_182 (by decide) rfl ?_
      refine ex_isub (pc' := 185) dX12_next_184 rfl rfl ?_
      refine ex_putI (pc' := 188) (n := 39) dX12_next_185 fl_12_87 s0 (Or.inl rfl) (Or.inl rfl) rfl ?_
      refine ex_iinc (pc' := 191) dX12_next_188 hl3 (by decide) rfl rfl rfl ?_
      exact go _ _ _ (hn'.s (by decide) (by decide)) (zget_s1 hl0 (by decide) (by omega)) (zget_s1 hl1 (by decide) (by omega)) zget_s1e
theorem nx_21 (hn : nxH h sz e0 tp) (he : h0.2.1 196 5 = e0) (h00 : 0 ≤ e0.toInt) (hs : sz.toInt ≤ 1000) (hi1 : e0.toInt ≤ i.toInt) (hi2 : i.toInt ≤ 1000 ∨ sz.toInt ≤ i.toInt) (hi3 : i.toInt ≤ 1001) : zEx none (d + 1) mX12_next (21, [(1, .inl i), (0, .inr (.inr (some 196)))], [], h) (fun _ h' => hMn h0 h') := by
  have hn0 := hn.s (f := 4) (v := i) (by decide) (by decide)
  have hn1 : nxH (zsI (zsI (zsI h 196 4 i) 196 8 0) 196 7 0) sz e0 tp := (hn0.s (by decide) (by decide)).s (by decide) (by decide)
  obtain ⟨s0, s1, s2, r1, r12, hz, ht, h5⟩ := hn
  have hi : 0 ≤ i.toInt := by omega
  refine ex_aload_n (pc' := 22) dX12_next_21 rfl rfl ?_
  refine ex_iload_n (pc' := 23) dX12_next_22 rfl rfl ?_
  refine ex_putI (pc' := 26) (n := 39) dX12_next_23 fl_12_81 s0 (Or.inl rfl) (Or.inl rfl) rfl ?_
  refine ex_aload_n (pc' := 27) dX12_next_26 rfl rfl ?_
  refine ex_iload_n (pc' := 28) dX12_next_27 rfl rfl ?_
  obtain ⟨s0, s1, s2, r1, r12, hz, ht, h5⟩ := hn0
  refine en_callvI (pc' := 31) (v := lkF sz tp i) (h2 := zsI h 196 4 i) (vs := [.inl i]) (rest := []) (n := 39) dX12_next_28 ml_12_77 ⟨zble rfl, zble rfl⟩ rfl rfl s0 (by decide) (zble rfl) rfl (k_look s0 s1 r1 hz ht hi hs) ?_
  refine ex_istore_n (pc' := 32) dX12_next_31 (by decide) rfl rfl ?_
  refine ex_aload_n (pc' := 33) dX12_next_32 rfl rfl ?_
  refine ex_iconst (v := 0) (pc' := 34) dX12_next_33 (by decide) rfl ?_
  refine ex_putI (pc' := 37) (n := 39) dX12_next_34 fl_12_84 s0 (Or.inl rfl) (Or.inl rfl) rfl ?_
  refine ex_aload_n (pc' := 38) dX12_next_37 rfl rfl ?_
  refine ex_iconst (v := 0) (pc' := 39) dX12_next_38 (by decide) rfl ?_
  refine ex_putI (pc' := 42) (n := 39) dX12_next_39 fl_12_87 s0 (Or.inl rfl) (Or.inl rfl) rfl ?_
  refine ex_iload_n (pc' := 43) dX12_next_42 rfl rfl ?_
  refine ex_iconst (v := (-1)) (pc' := 44) dX12_next_43 (by decide) rfl ?_
  refine ex_icmp (pc' := 60) (pc2 := 47) dX12_next_44 (by decide) rfl (fun c => ?_) (fun c => ?_)
  · have c : lkF sz tp i ≠ -1 := by simpa [zcond] using c
    have hlt : i.toInt < sz.toInt := by
      by_cases z : i < sz
      · exact Int32.lt_iff_toInt_lt.mp z
      · unfold lkF at c
        rw [if_neg z] at c
        exact absurd rfl c
    refine ex_iload_n (pc' := 61) dX12_next_60 rfl rfl ?_
    refine en_callsI (pc' := 64) (v := btw 97 122 (lkF sz tp i)) (vs := [.inl (lkF sz tp i)]) (rest := []) dX12_next_61 ml_12_93 (Or.inl rfl) ⟨zble rfl, zble rfl⟩ rfl rfl (zble rfl) rfl k_small ?_
    refine ex_if (pc' := 143) (pc2 := 67) dX12_next_64 (by decide) rfl (fun c => ?_) (fun c => ?_)
    · refine ex_iload_n (pc' := 144) dX12_next_143 rfl rfl ?_
      refine en_callsI (pc' := 147) (v := btw 48 57 (lkF sz tp i)) (vs := [.inl (lkF sz tp i)]) (rest := []) dX12_next_144 ml_12_97 (Or.inl rfl) ⟨zble rfl, zble rfl⟩ rfl rfl (zble rfl) rfl k_digit ?_
      refine ex_if (pc' := 219) (pc2 := 150) dX12_next_147 (by decide) rfl (fun c => ?_) (fun c => ?_)
      · exact nx_t219 hn1 rfl rfl rfl he h00 hi1 (by omega)
      · have c : btw 48 57 (lkF sz tp i) ≠ 0 := by simpa [zcond] using c
        refine ex_iconst (v := 0) (pc' := 151) dX12_next_150 (by decide) rfl ?_
        refine ex_istore_n (pc' := 152) dX12_next_151 (by decide) rfl rfl ?_
        exact nx_l3 he h00 hs 1001 i _ _ _ hn1 rfl rfl rfl hi1 (.inr c) (by omega) (by omega)
    · have c : btw 97 122 (lkF sz tp i) ≠ 0 := by simpa [zcond] using c
      exact nx_l2 he h00 hs 1001 i 0 _ _ hn1 rfl rfl hi1 (.inr c) (by omega) (by omega) rfl (by decide) hi
  · exact nx_t47 hn1 rfl rfl he hi1
theorem nx_l1 (hn : nxH h sz e0 tp) (he : h0.2.1 196 5 = e0) (h00 : 0 ≤ e0.toInt) (hs : sz.toInt ≤ 1000) : ∀ (n : Nat) (i : Int32), e0.toInt ≤ i.toInt → i.toInt ≤ 1001 → 1002 - i.toInt ≤ (n : Int) → zEx none (d + 1) mX12_next (5, [(1, .inl i), (0, .inr (.inr (some 196)))], [], h) (fun _ h' => hMn h0 h') := by
  intro n
  induction n with
  | zero => intro i a b c; omega
  | succ n ih =>
    intro i hi1 hi3 hm
    have hn' := hn
    obtain ⟨s0, s1, s2, r1, r12, hz, ht, h5⟩ := hn
    have hi : 0 ≤ i.toInt := by omega
    refine ex_aload_n (pc' := 6) dX12_next_5 rfl rfl ?_
    refine ex_iload_n (pc' := 7) dX12_next_6 rfl rfl ?_
    refine en_callvI (pc' := 10) (v := lkF sz tp i) (h2 := h) (vs := [.inl i]) (rest := []) (n := 39) dX12_next_7 ml_12_77 ⟨zble rfl, zble rfl⟩ rfl rfl s0 (by decide) (zble rfl) rfl (k_look s0 s1 r1 hz ht hi hs) ?_
    refine ex_bipush (v := 32) (pc' := 12) dX12_next_10 (by decide) rfl ?_
    refine ex_icmp (pc' := 21) (pc2 := 15) dX12_next_12 (by decide) rfl (fun c => ?_) (fun c => ?_)
    · exact nx_21 hn' he h00 hs hi1 (by omega) hi3
    · have c : lkF sz tp i = 32 := by simpa [zcond] using c
      have hlt : i.toInt < sz.toInt := by
        by_cases z : i < sz
        · exact Int32.lt_iff_toInt_lt.mp z
        · unfold lkF at c
          rw [if_neg z] at c
          exact absurd c (by decide)
      have es := i32_suc hi (by omega)
      refine ex_iinc (pc' := 18) dX12_next_15 rfl (by decide) rfl rfl rfl ?_
      refine ex_goto (pc' := 5) dX12_next_18 (by decide) ?_
      exact ih (i + Int32.ofInt 1) (by omega) (by omega) (by omega)
end HNX
theorem N_next {d : Nat} {h : zH} (ho : hOK wd h) : zEx none (d + 1) mX12_next (0, zargs 0 [.inr (.inr (some 196))], [], h) (fun _ h' => hMn h h') := by
  have s0 : zsh h 196 = some (12, 39) := ho.1 196 (12, 39) (by decide +kernel)
  have s1 : zsh h 197 = some (14, 1000) := ho.1 197 (14, 1000) (by decide +kernel)
  have s2 : zsh h 198 = some (14, 8) := ho.1 198 (14, 8) (by decide +kernel)
  have r1 : h.2.2.2.1 196 1 = some 197 := ho.2.2.1 196 1 197 (by decide +kernel)
  have r12 : h.2.2.2.1 196 12 = some 198 := ho.2.2.1 196 12 198 (by decide +kernel)
  have h3 := aHull_in (aLe_in (B := [(0, 1000, 1)]) (by decide +kernel) (ho.2.1 196 3))
  have h5 := aHull_in (aLe_in (B := [(0, 1001, 1)]) (by decide +kernel) (ho.2.1 196 5))
  simp only [aHull] at h3 h5
  show zEx none (d + 1) mX12_next (0, [(0, .inr (.inr (some 196)))], [], h) _
  refine ex_aload_n (pc' := 1) dX12_next_0 rfl rfl ?_
  refine ex_getI (pc' := 4) (n := 39) dX12_next_1 fl_12_74 s0 (by decide) rfl rfl ?_
  refine ex_istore_n (pc' := 5) dX12_next_4 (by decide) rfl rfl ?_
  exact nx_l1 (sz := h.2.1 196 3) (tp := h.2.1 197) (e0 := h.2.1 196 5) ⟨s0, s1, s2, r1, r12, rfl, rfl, rfl⟩ rfl h5.1 (by omega) 1002 (h.2.1 196 5) (Int.le_refl _) (by omega) (by omega)
theorem S_nxt {pre : List ((Nat × Nat) × aI) × aU} {ps : List aPo} {md rm : aMd} {D : Nat} (hD : 1 ≤ D) (hb : aSpec wd (mX12_next, [.inr (.inl [196])], pre, ps, md, rm, D)) : aSpec wd (mX12_next, [.inr (.inl [196])], pre, ps, md ++ [(1000002, 0, 0)], rm, D) := by
  intro d hd vs h hargs hok hpre
  have base := hb d hd vs h hargs hok hpre
  have hd : D ≤ d := hd
  obtain ⟨d, rfl⟩ : ∃ d', d = d' + 1 := ⟨d - 1, by omega⟩
  match vs, hargs with
  | [v0], ⟨⟨q0, m0, e0⟩, _⟩ =>
    have m0 : q0 = 196 := by simpa using m0
    subst e0; subst m0
    refine zEx.mono (zEx.and base (N_next hok)) (fun v h' hq => ?_)
    obtain ⟨⟨a, ⟨b1, b2, b3, b4, _⟩, c⟩, hm⟩ := hq
    refine ⟨a, ⟨b1, b2, fun x k hx => b3 x k ?_, b4, fun _ => hm⟩, c⟩
    have hx : inM (md ++ [(1000002, 0, 0)]) x k = false := hx
    unfold inM at hx ⊢
    rw [List.any_append] at hx
    exact (Bool.or_eq_false_iff.mp hx).1
end Pk1
section Pk2
/-! the copy of the fresh post into the post's own row: all ranges and implications are mirrored -/
def cpRM (w : aWd) : Bool :=
  (List.range 363).all (fun j => aLe (gSeg (w.2.1 200) j) (gSeg (w.2.1 199) j)) &&
  w.2.2.2.all (fun i => (!(Nat.beq i.2.1.1 199) && i.1.all (fun c => !(Nat.beq c.1.1 199)))
    || ((Nat.beq i.2.1.1 199 && (Nat.blt i.2.1.2 363 && w.2.2.2.any (fun k => Nat.beq k.2.1.1 200 && (Nat.beq k.2.1.2 i.2.1.2 && (aLe k.2.2 i.2.2 && k.1.all (fun e => Nat.beq e.1.1 200 && i.1.any (fun c => Nat.beq c.1.1 199 && (Nat.beq c.1.2 e.1.2 && (Nat.blt c.1.2 363 && aLe c.2 e.2)))))))))
    || (Nat.beq i.2.1.1 199 && (Nat.blt i.2.1.2 363 && [((200, 0), ([(2, 4, 1)] : aI)), ((200, 4), [(1, 7, 1)])].any (fun p => Nat.beq p.1.1 200 && (Nat.beq p.1.2 i.2.1.2 && aLe p.2 i.2.2))))))
theorem cpRM_wd : cpRM wd = true := by decide +kernel
def cpRChk (pre tells : List ((Nat × Nat) × aI)) : Bool :=
  pre.any (fun p => Nat.beq p.1.1 200 && (Nat.beq p.1.2 0 && aLe p.2 [(2, 4, 1)])) && (pre.any (fun p => Nat.beq p.1.1 200 && (Nat.beq p.1.2 4 && aLe p.2 [(1, 7, 1)]))
  && tells.all (fun t => Nat.beq t.1.1 199 && (Nat.blt t.1.2 363 && pre.any (fun p => Nat.beq p.1.1 200 && (Nat.beq p.1.2 t.1.2 && aLe p.2 t.2)))))
theorem S_cpR {pre tells : List ((Nat × Nat) × aI)} {D : Nat} (hck : cpRChk pre tells = true) : aSpec wd (mX12_copy, [.inr (.inl [200]), .inl [(0, 0, 1)], .inr (.inl [199]), .inl [(0, 0, 1)], .inl [(363, 363, 1)]], (pre, []), [(none, [], tells, [])], [(199, 0, 363)], [], D) := by
  intro d hd vs h hargs hok hpre
  obtain ⟨v0, ta0, rfl, ga0, ha0⟩ := ags_c hargs
  obtain ⟨v1, ta1, rfl, ga1, ha1⟩ := ags_c ha0
  obtain ⟨v2, ta2, rfl, ga2, ha2⟩ := ags_c ha1
  obtain ⟨v3, ta3, rfl, ga3, ha3⟩ := ags_c ha2
  obtain ⟨v4, ta4, rfl, ga4, ha4⟩ := ags_c ha3
  obtain rfl := ags_n ha4
  obtain ⟨q0, m0, e0⟩ := ga0
  obtain ⟨x1, e1, i1⟩ := ga1
  obtain ⟨q2, m2, e2⟩ := ga2
  obtain ⟨x3, e3, i3⟩ := ga3
  obtain ⟨x4, e4, i4⟩ := ga4
  have m0 : q0 = 200 := by simpa using m0
  have m2 : q2 = 199 := by simpa using m2
  subst e0; subst e1; subst e2; subst e3; subst e4; subst m0; subst m2
  have hw1 : wd.1 200 = some (14, 363) := by decide +kernel
  have hw2 : wd.1 199 = some (14, 363) := by decide +kernel
  have hcm := cpRM_wd
  simp only [cpRM, Bool.and_eq_true, List.all_eq_true] at hcm
  obtain ⟨k1, k2⟩ := hcm
  simp only [cpRChk, Bool.and_eq_true, List.all_eq_true] at hck
  obtain ⟨p0, p4, k3⟩ := hck
  have ex1 : x1 = nI 0 := nI_at (aIn_eq i1)
  have ex3 : x3 = nI 0 := nI_at (aIn_eq i3)
  have ex4 : x4 = nI 363 := nI_at (aIn_eq i4)
  subst ex1; subst ex3; subst ex4
  refine zEx.mono (k_copy (d := d) (hok.1 _ _ hw1) (hok.1 _ _ hw2) (by decide) (by decide) (by decide) (by decide) (by decide)) (fun v h' hq => ?_)
  obtain ⟨rfl, rfl⟩ := hq
  have at9 : ∀ j : Nat, j < 363 → (cpyH h 200 0 199 0 363).2.1 199 j = h.2.1 200 j := fun j hj => by
    rw [cpyH_at, if_pos ⟨rfl, by omega, by omega⟩]
    rw [Nat.zero_add, Nat.sub_zero]
  have atn : ∀ x j : Nat, x ≠ 199 → (cpyH h 200 0 199 0 363).2.1 x j = h.2.1 x j := fun x j hx => by rw [cpyH_at, if_neg (fun z => hx z.1)]
  have atp : ∀ (j : Nat) (B : aI), (pre.any (fun p => Nat.beq p.1.1 200 && (Nat.beq p.1.2 j && aLe p.2 B))) = true → aIn (h.2.1 200 j).toInt B := by
    intro j B hany
    obtain ⟨p, hp, hz⟩ := List.any_eq_true.mp hany
    simp only [Bool.and_eq_true, Nat.beq_eq] at hz
    have := aLe_in hz.2.2 (hpre.1 p hp)
    rw [hz.1, hz.2.1] at this
    exact this
  refine ⟨⟨hok.1, fun x j => ?_, hok.2.2.1, fun i hi => ?_, hok.2.2.2.2⟩, ⟨rfl, rfl, fun x j hm => ?_, fun _ _ _ => rfl, fun hm => ?_⟩, _, List.mem_cons_self, rfl, trivial, (fun q hq => ?_), (fun q hq => nomatch hq)⟩
  · by_cases e : x = 199
    · subst e
      by_cases e2 : j < 363
      · rw [at9 j e2]
        exact aLe_in (k1 j (List.mem_range.mpr e2)) (hok.2.1 200 j)
      · rw [cpyH_at, if_neg (by omega)]
        exact hok.2.1 199 j
    · rw [atn x j e]
      exact hok.2.1 x j
  · have hc := k2 i hi
    have ho := hok.2.2.2.1 i hi
    intro hcond
    simp only [Bool.or_eq_true, Bool.and_eq_true, Bool.not_eq_true', List.all_eq_true] at hc
    rcases hc with ⟨n1, n2⟩ | ⟨n1, n2, n3⟩ | ⟨n1, n2, n3⟩
    · rw [atn _ _ (fun z => nbeq_f n1 z)]
      refine ho (fun c hcm => ?_)
      have := hcond c hcm
      rw [atn _ _ (fun z => nbeq_f (n2 c hcm) z)] at this
      exact this
    · have n1 : i.2.1.1 = 199 := by simpa using n1
      have n2 : i.2.1.2 < 363 := by simpa using n2
      obtain ⟨k, hk, hz⟩ := List.any_eq_true.mp n3
      simp only [Bool.and_eq_true, Nat.beq_eq, List.all_eq_true, List.any_eq_true, Nat.blt_eq] at hz
      obtain ⟨z1, z2, z3, z4⟩ := hz
      have hk2 := hok.2.2.2.1 k hk (fun e he => by
        obtain ⟨y1, c, hcm, y2, y3, y4, y5⟩ := z4 e he
        have := hcond c hcm
        rw [y2, at9 _ y4, y3] at this
        rw [y1]
        exact aLe_in y5 this)
      rw [z1, z2] at hk2
      rw [n1, at9 _ n2]
      exact aLe_in z3 hk2
    · have n1 : i.2.1.1 = 199 := by simpa using n1
      have n2 : i.2.1.2 < 363 := by simpa using n2
      rw [n1, at9 _ n2]
      obtain ⟨p, hp, hz⟩ := List.any_eq_true.mp n3
      simp only [Bool.and_eq_true, Nat.beq_eq] at hz
      obtain ⟨-, z2, z3⟩ := hz
      rw [← z2]
      simp only [List.mem_cons, List.not_mem_nil, or_false] at hp
      rcases hp with rfl | rfl
      · exact aLe_in z3 (atp _ _ p0)
      · exact aLe_in z3 (atp _ _ p4)
  · have hx : ¬ (x = 199 ∧ j < 363) := fun z => by
      rw [z.1] at hm
      have : inM [(199, 0, 363)] 199 j = true := by
        refine List.any_eq_true.mpr ⟨_, List.mem_cons_self, ?_⟩
        simp only [Bool.and_eq_true, Nat.beq_eq, Nat.ble_eq, Nat.blt_eq]
        exact ⟨trivial, by omega, z.2⟩
      rw [this] at hm
      cases hm
    rw [cpyH_at, if_neg (fun z => hx ⟨z.1, by omega⟩)]
  · exact absurd (show aMono [(199, 0, 363)] = true from hm) (by decide)
  · have ht := k3 q hq
    simp only [Bool.and_eq_true, Nat.beq_eq, Nat.blt_eq] at ht
    obtain ⟨t1, t2, t3⟩ := ht
    rw [t1, at9 _ t2]
    exact atp _ _ t3
end Pk2
section Pk3
/-! words: X12_isWord, X5_isToken -/
def strOk (as : List Nat) : Bool := as.all (fun a => match zsc a with
  | some bs => Nat.ble 1 bs.length && Nat.ble bs.length 8
  | none => false)
theorem strOk_in {as : List Nat} {a : Nat} (h : strOk as = true) (ha : a ∈ as) : ∃ bs, zsc a = some bs ∧ 1 ≤ bs.length ∧ bs.length ≤ 8 := by
  have := List.all_eq_true.mp h a ha
  revert this
  cases zsc a with
  | none => intro z; cases z
  | some bs =>
    intro z
    simp only [Bool.and_eq_true, Nat.ble_eq] at z
    exact ⟨bs, rfl, z⟩
section HIW
variable {d : Nat} {h : zH} {a : Nat} {bs : List Int32}
def iwQ (h : zH) (L : Nat) (v : Option zV) (h' : zH) : Prop := h' = h ∧ (v = some (.inl 0) ∨ (v = some (.inl 1) ∧ h.2.1 196 13 = 0 ∧ h.2.1 196 6 = 2 ∧ h.2.1 196 8 = nI L))
theorem iw_loop (s0 : zsh h 196 = some (12, 39)) (s2 : zsh h 198 = some (14, 8)) (r12 : h.2.2.2.1 196 12 = some 198) (hb : zsc a = some bs) (hL : bs.length ≤ 8) (hns : h.2.1 196 8 = nI bs.length) (hf : h.2.1 196 13 = 0) (ht : h.2.1 196 6 = 2) :
    ∀ (r k : Nat) (b : Int32) (ls : zL), k + r = bs.length → zget ls 0 = some (.inr (.inr (some 196))) → zget ls 1 = some (.inr (.inr (some a))) → zget ls 2 = some (.inl b) → zget ls 3 = some (.inl (nI k)) → (b = 0 ∨ b = 1) → zEx none d mX12_isWord (32, ls, [], h) (iwQ h bs.length) := by
  intro r
  induction r with
  | zero =>
    intro k b ls hk hl0 hl1 hl2 hl3 hb01
    refine ex_iload_n (pc' := 33) dX12_isWord_32 hl3 rfl ?_
    refine ex_aload_n (pc' := 34) dX12_isWord_33 hl0 rfl ?_
    refine ex_getI (pc' := 37) (n := 39) dX12_isWord_34 fl_12_84 s0 (by decide) rfl rfl ?_
    refine ex_icmp_t (pc' := 70) dX12_isWord_37 (by rw [hns]; exact zn_ge (by omega) (by omega)) (by decide) ?_
    refine ex_iload_n (pc' := 71) dX12_isWord_70 hl2 rfl ?_
    refine ex_iret dX12_isWord_71 rfl (by rcases hb01 with e | e <;> subst e <;> decide) ⟨rfl, ?_⟩
    rcases hb01 with e | e
    · exact .inl (by rw [e])
    · exact .inr ⟨by rw [e], hf, ht, hns⟩
  | succ r ih =>
    intro k b ls hk hl0 hl1 hl2 hl3 hb01
    have go : ∀ (v : Int32), (v = 0 ∨ v = 1) → zEx none d mX12_isWord (63, ls, [.inl v], h) (iwQ h bs.length) := by
      intro v hv
      refine ex_istore_n (pc' := 64) dX12_isWord_63 (by decide) rfl rfl ?_
      refine ex_iinc (pc' := 67) (v := nI (k + 1)) dX12_isWord_64 (zget_s1 hl3 (by decide) (by simp [zcat])) (by decide) (nI_1 k) rfl rfl ?_
      refine ex_goto (pc' := 32) dX12_isWord_67 (by decide) ?_
      exact ih (k + 1) v _ (by omega) (zget_s1 (zget_s1 hl0 (by decide) (by decide)) (by decide) (by decide)) (zget_s1 (zget_s1 hl1 (by decide) (by simp [zcat])) (by decide) (by simp [zcat])) (zget_s1 zget_s1e (by decide) (by simp [zcat])) zget_s1e hv
    refine ex_iload_n (pc' := 33) dX12_isWord_32 hl3 rfl ?_
    refine ex_aload_n (pc' := 34) dX12_isWord_33 hl0 rfl ?_
    refine ex_getI (pc' := 37) (n := 39) dX12_isWord_34 fl_12_84 s0 (by decide) rfl rfl ?_
    refine ex_icmp_f (pc' := 40) dX12_isWord_37 (by rw [hns]; exact zn_nge (by omega) (by omega)) (by decide) rfl ?_
    refine ex_iload_n (pc' := 41) dX12_isWord_40 hl2 rfl ?_
    refine ex_if (pc' := 62) (pc2 := 44) dX12_isWord_41 (by decide) rfl (fun c => ?_) (fun c => ?_)
    · refine ex_iconst (v := 0) (pc' := 63) dX12_isWord_62 (by decide) rfl ?_
      exact go 0 (.inl rfl)
    · refine ex_aload_n (pc' := 45) dX12_isWord_44 hl0 rfl ?_
      refine ex_getR (pc' := 48) (n := 39) (r := 198) dX12_isWord_45 fl_12_17 s0 (by decide) r12 rfl ?_
      refine ex_iload_n (pc' := 49) dX12_isWord_48 hl3 rfl ?_
      refine ex_iald (pc' := 50) (n := 8) dX12_isWord_49 s2 (zn_in (by omega) (by omega)) rfl rfl ?_
      refine ex_aload_n (pc' := 51) dX12_isWord_50 hl1 rfl ?_
      refine ex_iload_n (pc' := 52) dX12_isWord_51 hl3 rfl ?_
      refine ex_strchar (pc' := 55) dX12_isWord_52 ml_12_113 hb (zble rfl) (zn_in (by omega) (by omega)) rfl ?_
      refine ex_icmp (pc' := 62) (pc2 := 58) dX12_isWord_55 (by decide) rfl (fun c => ?_) (fun c => ?_)
      · refine ex_iconst (v := 0) (pc' := 63) dX12_isWord_62 (by decide) rfl ?_
        exact go 0 (.inl rfl)
      · refine ex_iconst (v := 1) (pc' := 59) dX12_isWord_58 (by decide) rfl ?_
        refine ex_goto (pc' := 63) dX12_isWord_59 (by decide) ?_
        exact go 1 (.inr rfl)
theorem iw_run (s0 : zsh h 196 = some (12, 39)) (s2 : zsh h 198 = some (14, 8)) (r12 : h.2.2.2.1 196 12 = some 198) (hb : zsc a = some bs) (hL : bs.length ≤ 8) : zEx none d mX12_isWord (0, [(0, .inr (.inr (some 196))), (1, .inr (.inr (some a)))], [], h) (iwQ h bs.length) := by
  have no : zEx none d mX12_isWord (26, [(0, .inr (.inr (some 196))), (1, .inr (.inr (some a)))], [], h) (iwQ h bs.length) := by
    refine ex_iconst (v := 0) (pc' := 27) dX12_isWord_26 (by decide) rfl ?_
    exact ex_iret dX12_isWord_27 rfl (by decide) ⟨rfl, .inl rfl⟩
  refine ex_aload_n (pc' := 1) dX12_isWord_0 rfl rfl ?_
  refine ex_getI (pc' := 4) (n := 39) dX12_isWord_1 fl_12_100 s0 (by decide) rfl rfl ?_
  refine ex_if (pc' := 26) (pc2 := 7) dX12_isWord_4 (by decide) rfl (fun c => no) (fun c => ?_)
  have hf : h.2.1 196 13 = 0 := by simpa [zcond] using c
  refine ex_aload_n (pc' := 8) dX12_isWord_7 rfl rfl ?_
  refine ex_getI (pc' := 11) (n := 39) dX12_isWord_8 fl_12_90 s0 (by decide) rfl rfl ?_
  refine ex_iconst (v := 2) (pc' := 12) dX12_isWord_11 (by decide) rfl ?_
  refine ex_icmp (pc' := 26) (pc2 := 15) dX12_isWord_12 (by decide) rfl (fun c => no) (fun c => ?_)
  have ht : h.2.1 196 6 = 2 := by simpa [zcond] using c
  refine ex_aload_n (pc' := 16) dX12_isWord_15 rfl rfl ?_
  refine ex_getI (pc' := 19) (n := 39) dX12_isWord_16 fl_12_84 s0 (by decide) rfl rfl ?_
  refine ex_aload_n (pc' := 20) dX12_isWord_19 rfl rfl ?_
  refine ex_strlen (pc' := 23) dX12_isWord_20 ml_12_107 hb (zble rfl) rfl ?_
  refine ex_icmp (pc' := 28) (pc2 := 26) dX12_isWord_23 (by decide) rfl (fun c => ?_) (fun c => no)
  have hns : h.2.1 196 8 = nI bs.length := by simpa [zcond] using c
  refine ex_iconst (v := 1) (pc' := 29) dX12_isWord_28 (by decide) rfl ?_
  refine ex_istore_n (pc' := 30) dX12_isWord_29 (by decide) rfl rfl ?_
  refine ex_iconst (v := 0) (pc' := 31) dX12_isWord_30 (by decide) rfl ?_
  refine ex_istore_n (pc' := 32) dX12_isWord_31 (by decide) rfl rfl ?_
  exact iw_loop s0 s2 r12 hb hL hns hf ht bs.length 0 1 _ (by omega) rfl rfl rfl rfl (.inr rfl)
end HIW
theorem iw_all {h : zH} {d : Nat} {as : List Nat} {a : Nat} (ho : hOK wd h) (hs : strOk as = true) (ha : a ∈ as) : ∃ L : Nat, 1 ≤ L ∧ L ≤ 8 ∧ zEx none d mX12_isWord (0, [(0, .inr (.inr (some 196))), (1, .inr (.inr (some a)))], [], h) (iwQ h L) := by
  obtain ⟨bs, hb, h1, h8⟩ := strOk_in hs ha
  exact ⟨bs.length, h1, h8, iw_run (ho.1 196 (12, 39) (by decide +kernel)) (ho.1 198 (14, 8) (by decide +kernel)) (ho.2.2.1 196 12 198 (by decide +kernel)) hb h8⟩
theorem S_iw {as : List Nat} {pre : List ((Nat × Nat) × aI) × aU} {D : Nat} {md : aMd} (hs : strOk as = true) : aSpec wd (mX12_isWord, [.inr (.inl [196]), .inr (.inl as)], pre, [(some (.inl [(0, 0, 1)]), [], [], []), (some (.inl [(1, 1, 1)]), [], [((196, 6), [(2, 2, 1)]), ((196, 13), [(0, 0, 1)]), ((196, 8), [(1, 8, 1)])], [])], md, [], D) := by
  intro d hd vs h hargs hok hpre
  match vs, hargs with
  | [v0, v1], ⟨⟨q0, m0, e0⟩, ⟨q1, m1, e1⟩, _⟩ =>
    have m0 : q0 = 196 := by simpa using m0
    subst e0; subst e1; subst m0
    obtain ⟨L, l1, l8, hr⟩ := iw_all (d := d) hok hs m1
    refine zEx.mono hr (fun v h' hq => ?_)
    obtain ⟨rfl, hv⟩ := hq
    refine ⟨hok, hFr.rf, ?_⟩
    rcases hv with e | ⟨e, f1, f2, f3⟩
    · exact ⟨_, List.mem_cons_self, ⟨0, e, aR1_in (lo := 0) (hi := 0) (by decide) (by decide)⟩, trivial, (fun q hq => nomatch hq), (fun q hq => nomatch hq)⟩
    · refine ⟨_, List.mem_cons_of_mem _ List.mem_cons_self, ⟨1, e, aR1_in (lo := 1) (hi := 1) (by decide) (by decide)⟩, trivial, (fun q hq => ?_), (fun q hq => nomatch hq)⟩
      simp only [List.mem_cons, List.not_mem_nil, or_false] at hq
      rcases hq with rfl | rfl | rfl
      · show aIn (h'.2.1 196 6).toInt [(2, 2, 1)]
        rw [f2]
        exact aR1_in (lo := 2) (hi := 2) (by decide) (by decide)
      · show aIn (h'.2.1 196 13).toInt [(0, 0, 1)]
        rw [f1]
        exact aR1_in (lo := 0) (hi := 0) (by decide) (by decide)
      · show aIn (h'.2.1 196 8).toInt [(1, 8, 1)]
        rw [f3, nI_toInt (by omega)]
        exact aR1_in (lo := 1) (hi := 8) (by omega) (by omega)
theorem S_iw0 {as : List Nat} {A : aI} {D : Nat} {md : aMd} (hs : strOk as = true) (hA : aDis A [(2, 2, 1)] = true) : aSpec wd (mX12_isWord, [.inr (.inl [196]), .inr (.inl as)], ([((196, 6), A)], []), [(some (.inl [(0, 0, 1)]), [], [], [])], md, [], D) := by
  intro d hd vs h hargs hok hpre
  match vs, hargs with
  | [v0, v1], ⟨⟨q0, m0, e0⟩, ⟨q1, m1, e1⟩, _⟩ =>
    have m0 : q0 = 196 := by simpa using m0
    subst e0; subst e1; subst m0
    obtain ⟨L, l1, l8, hr⟩ := iw_all (d := d) hok hs m1
    refine zEx.mono hr (fun v h' hq => ?_)
    obtain ⟨rfl, hv⟩ := hq
    refine ⟨hok, hFr.rf, ?_⟩
    rcases hv with e | ⟨e, f1, f2, f3⟩
    · exact ⟨_, List.mem_cons_self, ⟨0, e, aR1_in (lo := 0) (hi := 0) (by decide) (by decide)⟩, trivial, (fun q hq => nomatch hq), (fun q hq => nomatch hq)⟩
    · have := hpre.1 _ List.mem_cons_self
      rw [show h'.2.1 ((196, 6), A).1.1 ((196, 6), A).1.2 = 2 from f2] at this
      exact (aDis_no hA this (aR1_in (lo := 2) (hi := 2) (by decide) (by decide))).elim
section HIT
variable {d : Nat} {h : zH} {a : Nat} {bs : List Int32} {s : Nat}
theorem it_loop (s0 : zsh h 82 = some (5, 13)) (s1 : zsh h 1 = some (13, 1000)) (r0 : h.2.2.2.1 82 0 = some 1) (hb : zsc a = some bs) (hL : bs.length ≤ 8) (hst : h.2.1 82 4 = nI s) (hs : s + bs.length ≤ 1000) :
    ∀ (r k : Nat) (ls : zL), k + r = bs.length → zget ls 0 = some (.inr (.inr (some 82))) → zget ls 1 = some (.inr (.inr (some a))) → zget ls 2 = some (.inl (nI k)) → zEx none d mX5_isToken (28, ls, [], h) (fun v h' => h' = h ∧ (v = some (.inl 0) ∨ v = some (.inl 1))) := by
  intro r
  induction r with
  | zero =>
    intro k ls hk hl0 hl1 hl2
    refine ex_iload_n (pc' := 29) dX5_isToken_28 hl2 rfl ?_
    refine ex_aload_n (pc' := 30) dX5_isToken_29 hl1 rfl ?_
    refine ex_strlen (pc' := 33) dX5_isToken_30 ml_5_269 hb (zble rfl) rfl ?_
    refine ex_icmp_t (pc' := 63) dX5_isToken_33 (zn_ge (by omega) (by omega)) (by decide) ?_
    refine ex_iconst (v := 1) (pc' := 64) dX5_isToken_63 (by decide) rfl ?_
    exact ex_iret dX5_isToken_64 rfl (by decide) ⟨rfl, .inr rfl⟩
  | succ r ih =>
    intro k ls hk hl0 hl1 hl2
    refine ex_iload_n (pc' := 29) dX5_isToken_28 hl2 rfl ?_
    refine ex_aload_n (pc' := 30) dX5_isToken_29 hl1 rfl ?_
    refine ex_strlen (pc' := 33) dX5_isToken_30 ml_5_269 hb (zble rfl) rfl ?_
    refine ex_icmp_f (pc' := 36) dX5_isToken_33 (zn_nge (by omega) (by omega)) (by decide) rfl ?_
    refine ex_aload_n (pc' := 37) dX5_isToken_36 hl0 rfl ?_
    refine ex_getR (pc' := 40) (n := 13) (r := 1) dX5_isToken_37 fl_5_47 s0 (by decide) r0 rfl ?_
    refine ex_aload_n (pc' := 41) dX5_isToken_40 hl0 rfl ?_
    refine ex_getI (pc' := 44) (n := 13) (v := nI s) dX5_isToken_41 fl_5_21 s0 (by decide) hst rfl ?_
    refine ex_iload_n (pc' := 45) dX5_isToken_44 hl2 rfl ?_
    refine ex_iadd (pc' := 46) (v := nI (s + k)) dX5_isToken_45 (nI_add _ _) rfl ?_
    refine ex_bald (pc' := 47) (n := 1000) dX5_isToken_46 s1 (zn_in (by omega) (by omega)) rfl rfl ?_
    refine ex_aload_n (pc' := 48) dX5_isToken_47 hl1 rfl ?_
    refine ex_iload_n (pc' := 49) dX5_isToken_48 hl2 rfl ?_
    refine ex_strchar (pc' := 52) dX5_isToken_49 ml_5_274 hb (zble rfl) (zn_in (by omega) (by omega)) rfl ?_
    refine ex_icmp (pc' := 57) (pc2 := 55) dX5_isToken_52 (by decide) rfl (fun c => ?_) (fun c => ?_)
    · refine ex_iinc (pc' := 60) (v := nI (k + 1)) dX5_isToken_57 hl2 (by decide) (nI_1 k) rfl rfl ?_
      refine ex_goto (pc' := 28) dX5_isToken_60 (by decide) ?_
      exact ih (k + 1) _ (by omega) (zget_s1 hl0 (by decide) (by decide)) (zget_s1 hl1 (by decide) (by simp [zcat])) zget_s1e
    · refine ex_iconst (v := 0) (pc' := 56) dX5_isToken_55 (by decide) rfl ?_
      exact ex_iret dX5_isToken_56 rfl (by decide) ⟨rfl, .inl rfl⟩
end HIT
theorem S_it {as : List Nat} {D : Nat} {pre : List ((Nat × Nat) × aI) × aU} (hs : strOk as = true) : aSpec wd (mX5_isToken, [.inr (.inl [82]), .inr (.inl as)], pre, [(some (.inl [(0, 0, 1)]), [], [], []), (some (.inl [(1, 1, 1)]), [], [], [])], [], [], D) := by
  intro d hd vs h hargs hok hpre
  match vs, hargs with
  | [v0, v1], ⟨⟨q0, m0, e0⟩, ⟨a, m1, e1⟩, _⟩ =>
    have m0 : q0 = 82 := by simpa using m0
    subst e0; subst e1; subst m0
    obtain ⟨bs, hb, h1, h8⟩ := strOk_in hs m1
    have s0 : zsh h 82 = some (5, 13) := hok.1 82 (5, 13) (by decide +kernel)
    have s1 : zsh h 1 = some (13, 1000) := hok.1 1 (13, 1000) (by decide +kernel)
    have r0 : h.2.2.2.1 82 0 = some 1 := hok.2.2.1 82 0 1 (by decide +kernel)
    have h2 := aHull_in (aLe_in (B := [(0, 1000, 1)]) (by decide +kernel) (hok.2.1 82 2))
    have h4 := aHull_in (aLe_in (B := [(0, 1000, 1)]) (by decide +kernel) (hok.2.1 82 4))
    simp only [aHull] at h2 h4
    have main : zEx none d mX5_isToken (0, [(0, .inr (.inr (some 82))), (1, .inr (.inr (some a)))], [], h) (fun v h' => h' = h ∧ (v = some (.inl 0) ∨ v = some (.inl 1))) := by
      have no : zEx none d mX5_isToken (24, [(0, .inr (.inr (some 82))), (1, .inr (.inr (some a)))], [], h) (fun v h' => h' = h ∧ (v = some (.inl 0) ∨ v = some (.inl 1))) := by
        refine ex_iconst (v := 0) (pc' := 25) dX5_isToken_24 (by decide) rfl ?_
        exact ex_iret dX5_isToken_25 rfl (by decide) ⟨rfl, .inl rfl⟩
      refine ex_aload_n (pc' := 1) dX5_isToken_0 rfl rfl ?_
      refine ex_getI (pc' := 4) (n := 13) dX5_isToken_1 fl_5_18 s0 (by decide) rfl rfl ?_
      refine ex_iconst (v := 1) (pc' := 5) dX5_isToken_4 (by decide) rfl ?_
      refine ex_icmp (pc' := 24) (pc2 := 8) dX5_isToken_5 (by decide) rfl (fun c => no) (fun c => ?_)
      refine ex_aload_n (pc' := 9) dX5_isToken_8 rfl rfl ?_
      refine ex_getI (pc' := 12) (n := 13) dX5_isToken_9 fl_5_15 s0 (by decide) rfl rfl ?_
      refine ex_aload_n (pc' := 13) dX5_isToken_12 rfl rfl ?_
      refine ex_getI (pc' := 16) (n := 13) dX5_isToken_13 fl_5_21 s0 (by decide) rfl rfl ?_
      refine ex_isub (pc' := 17) dX5_isToken_16 rfl rfl ?_
      refine ex_aload_n (pc' := 18) dX5_isToken_17 rfl rfl ?_
      refine ex_strlen (pc' := 21) dX5_isToken_18 ml_5_269 hb (zble rfl) rfl ?_
      refine ex_icmp (pc' := 26) (pc2 := 24) dX5_isToken_21 (by decide) rfl (fun c => ?_) (fun c => no)
      have c : h.2.1 82 2 - h.2.1 82 4 = nI bs.length := by simpa [zcond] using c
      have c2 := congrArg Int32.toInt c
      rw [Int32.toInt_sub, bmod_fit (by omega) (by omega), nI_toInt (by omega)] at c2
      refine ex_iconst (v := 0) (pc' := 27) dX5_isToken_26 (by decide) rfl ?_
      refine ex_istore_n (pc' := 28) dX5_isToken_27 (by decide) rfl rfl ?_
      exact it_loop (s := (h.2.1 82 4).toInt.toNat) s0 s1 r0 hb h8 (nI_at (by omega)) (by omega) bs.length 0 _ (by omega) rfl rfl rfl
    refine zEx.mono main (fun v h' hq => ?_)
    obtain ⟨rfl, hv⟩ := hq
    refine ⟨hok, hFr.rf, ?_⟩
    rcases hv with e | e
    · exact ⟨_, List.mem_cons_self, ⟨0, e, aR1_in (lo := 0) (hi := 0) (by decide) (by decide)⟩, trivial, (fun q hq => nomatch hq), (fun q hq => nomatch hq)⟩
    · exact ⟨_, List.mem_cons_of_mem _ List.mem_cons_self, ⟨1, e, aR1_in (lo := 1) (hi := 1) (by decide) (by decide)⟩, trivial, (fun q hq => nomatch hq), (fun q hq => nomatch hq)⟩
end Pk3
section Pk4
/-! doLead: the set of islands grows until it is the same -/
theorem nI_or (a b : Nat) : nI a ||| nI b = nI (a ||| b) := by
  refine Int32.toBitVec_inj.mp ?_
  rw [Int32.toBitVec_or]
  exact BitVec.ofNat_or.symm
theorem nI_m4 {q : Nat} (h : q < 1000) : nI 4 * nI q = nI (4 * q) := by
  refine Int32.toInt_inj.mp ?_
  rw [Int32.toInt_mul, nI_toInt (by omega), nI_toInt (by omega), nI_toInt (by omega)]
  rw [bmod_fit (by omega) (by omega)]
  omega
theorem shl7 : ∀ x : Fin 7, (1 : Int32) <<< (nI x.val &&& 31) = nI (2 ^ x.val) := by decide
section HDL
variable {d : Nat} {h : zH} {jj mask : Int32} {n b : Nat} {Q : Option zV → zH → Prop}
theorem k_closed {k : Int32} (s0 : zsh h 196 = some (12, 39)) (s3 : zsh h 201 = some (14, 76)) (r17 : h.2.2.2.1 196 17 = some 201) : zCi (d + 1) mX12_isClosed [.inr (.inr (some 196)), .inl k] h (fun y h' => y = hBit (h.2.1 201 1) k ∧ h' = h) := by
  show zEx none (d + 1) mX12_isClosed (0, [(0, .inr (.inr (some 196))), (1, .inl k)], [], h) _
  refine ex_aload_n (pc' := 1) dX12_isClosed_0 rfl rfl ?_
  refine ex_getR (pc' := 4) (n := 39) (r := 201) dX12_isClosed_1 fl_12_26 s0 (by decide) r17 rfl ?_
  refine ex_iconst (v := 1) (pc' := 5) dX12_isClosed_4 (by decide) rfl ?_
  refine ex_iald (pc' := 6) (n := 76) (v := h.2.1 201 1) dX12_isClosed_5 s3 (by decide) rfl rfl ?_
  refine ex_iload_n (pc' := 7) dX12_isClosed_6 rfl rfl ?_
  refine en_callsI (pc' := 10) (v := hBit (h.2.1 201 1) k) (h2 := h) (vs := [.inl (h.2.1 201 1), .inl k]) (rest := []) dX12_isClosed_7 ml_12_298 (Or.inl rfl) ⟨zble rfl, zble rfl⟩ rfl rfl (zble rfl) rfl k_hasBit ?_
  refine ex_iretI dX12_isClosed_10 rfl ?_ ⟨rfl, rfl⟩
  unfold hBit
  split <;> decide
theorem ld_in (s0 : zsh h 196 = some (12, 39)) (s1 : zsh h 199 = some (14, 363)) (s3 : zsh h 201 = some (14, 76)) (r15 : h.2.2.2.1 196 15 = some 199) (r17 : h.2.2.2.1 196 17 = some 201) (hn : h.2.1 199 5 = nI n) (hn12 : n ≤ 12)
    (hx : ∀ q : Nat, q < 12 → ∃ x : Nat, x < 7 ∧ h.2.1 199 (59 + 4 * q) = nI x) (hy : ∀ q : Nat, q < 12 → ∃ x : Nat, x < 7 ∧ h.2.1 199 (60 + 4 * q) = nI x)
    (K : ∀ (a : Nat) (ls : zL), b ≤ a → a < 128 → zget ls 0 = some (.inr (.inr (some 196))) → zget ls 2 = some (.inl jj) → zget ls 3 = some (.inl mask) → zget ls 4 = some (.inl (nI a)) → zget ls 5 = some (.inl (nI b)) → zEx none (d + 2) mX12_doLead (112, ls, [], h) Q) :
    ∀ (r q a : Nat) (ls : zL), q + r = n → b ≤ a → a < 128 → zget ls 0 = some (.inr (.inr (some 196))) → zget ls 2 = some (.inl jj) → zget ls 3 = some (.inl mask) → zget ls 4 = some (.inl (nI a)) → zget ls 5 = some (.inl (nI b)) → zget ls 6 = some (.inl (nI q)) → zEx none (d + 2) mX12_doLead (22, ls, [], h) Q := by
  intro r
  induction r with
  | zero =>
    intro q a ls hq hba ha hl0 hl2 hl3 hl4 hl5 hl6
    refine ex_iload (pc' := 24) dX12_doLead_22 hl6 rfl ?_
    refine ex_aload_n (pc' := 25) dX12_doLead_24 hl0 rfl ?_
    refine ex_getR (pc' := 28) (n := 39) (r := 199) dX12_doLead_25 fl_12_20 s0 (by decide) r15 rfl ?_
    refine ex_iconst (v := 5) (pc' := 29) dX12_doLead_28 (by decide) rfl ?_
    refine ex_iald (pc' := 30) (n := 363) (v := nI n) dX12_doLead_29 s1 (by decide) hn rfl ?_
    refine ex_icmp_t (pc' := 112) dX12_doLead_30 (zn_ge (by omega) (by omega)) (by decide) ?_
    exact K a ls hba ha hl0 hl2 hl3 hl4 hl5
  | succ r ih =>
    intro q a ls hq hba ha hl0 hl2 hl3 hl4 hl5 hl6
    have go : ∀ (a : Nat) (ls : zL), b ≤ a → a < 128 → zget ls 0 = some (.inr (.inr (some 196))) → zget ls 2 = some (.inl jj) → zget ls 3 = some (.inl mask) → zget ls 4 = some (.inl (nI a)) → zget ls 5 = some (.inl (nI b)) → zget ls 6 = some (.inl (nI q)) → zEx none (d + 2) mX12_doLead (106, ls, [], h) Q := by
      intro a ls hba ha hl0 hl2 hl3 hl4 hl5 hl6
      refine ex_iinc (pc' := 109) (v := nI (q + 1)) dX12_doLead_106 hl6 (by decide) (nI_1 q) rfl rfl ?_
      refine ex_goto (pc' := 22) dX12_doLead_109 (by decide) ?_
      exact ih (q + 1) a _ (by omega) hba ha (zget_s1 hl0 (by decide) (by simp [zcat])) (zget_s1 hl2 (by decide) (by simp [zcat])) (zget_s1 hl3 (by decide) (by simp [zcat])) (zget_s1 hl4 (by decide) (by simp [zcat])) (zget_s1 hl5 (by decide) (by simp [zcat])) zget_s1e
    refine ex_iload (pc' := 24) dX12_doLead_22 hl6 rfl ?_
    refine ex_aload_n (pc' := 25) dX12_doLead_24 hl0 rfl ?_
    refine ex_getR (pc' := 28) (n := 39) (r := 199) dX12_doLead_25 fl_12_20 s0 (by decide) r15 rfl ?_
    refine ex_iconst (v := 5) (pc' := 29) dX12_doLead_28 (by decide) rfl ?_
    refine ex_iald (pc' := 30) (n := 363) (v := nI n) dX12_doLead_29 s1 (by decide) hn rfl ?_
    refine ex_icmp_f (pc' := 33) dX12_doLead_30 (zn_nge (by omega) (by omega)) (by decide) rfl ?_
    refine ex_aload_n (pc' := 34) dX12_doLead_33 hl0 rfl ?_
    refine ex_iload (pc' := 36) dX12_doLead_34 hl6 rfl ?_
    refine en_callvI (pc' := 39) (v := hBit (h.2.1 201 1) (nI q)) (h2 := h) (vs := [.inl (nI q)]) (rest := []) (n := 39) dX12_doLead_36 ml_12_302 ⟨zble rfl, zble rfl⟩ rfl rfl s0 (by decide) (zble rfl) rfl (k_closed s0 s3 r17) ?_
    refine ex_if (pc' := 106) (pc2 := 42) dX12_doLead_39 (by decide) rfl (fun c => go a ls hba ha hl0 hl2 hl3 hl4 hl5 hl6) (fun c => ?_)
    refine ex_iload_n (pc' := 43) dX12_doLead_42 hl3 rfl ?_
    refine ex_iload (pc' := 45) dX12_doLead_43 hl6 rfl ?_
    refine en_callsI (pc' := 48) (v := hBit mask (nI q)) (h2 := h) (vs := [.inl mask, .inl (nI q)]) (rest := []) dX12_doLead_45 ml_12_298 (Or.inl rfl) ⟨zble rfl, zble rfl⟩ rfl rfl (zble rfl) rfl k_hasBit ?_
    refine ex_if (pc' := 54) (pc2 := 51) dX12_doLead_48 (by decide) rfl (fun c => ?_) (fun c => ?_)
    · obtain ⟨x, hx7, ex⟩ := hx q (by omega)
      obtain ⟨y, hy7, ey⟩ := hy q (by omega)
      refine ex_iconst (v := 1) (pc' := 55) dX12_doLead_54 (by decide) rfl ?_
      refine ex_aload_n (pc' := 56) dX12_doLead_55 hl0 rfl ?_
      refine ex_getR (pc' := 59) (n := 39) (r := 199) dX12_doLead_56 fl_12_20 s0 (by decide) r15 rfl ?_
      refine ex_bipush (v := 59) (pc' := 61) dX12_doLead_59 (by decide) rfl ?_
      refine ex_iconst (v := 4) (pc' := 62) dX12_doLead_61 (by decide) rfl ?_
      refine ex_iload (pc' := 64) dX12_doLead_62 hl6 rfl ?_
      refine ex_imul (pc' := 65) (v := nI (4 * q)) dX12_doLead_64 (nI_m4 (by omega)) rfl ?_
      refine ex_iadd (pc' := 66) (v := nI (59 + 4 * q)) dX12_doLead_65 (nI_add _ _) rfl ?_
      refine ex_iald (pc' := 67) (n := 363) (v := nI x) dX12_doLead_66 s1 (zn_in (by omega) (by omega)) (by rw [nI_clamp (by omega)]; exact ex) rfl ?_
      refine ex_ishl (pc' := 68) (v := nI (2 ^ x)) dX12_doLead_67 (shl7 ⟨x, hx7⟩) rfl ?_
      refine ex_iconst (v := 1) (pc' := 69) dX12_doLead_68 (by decide) rfl ?_
      refine ex_aload_n (pc' := 70) dX12_doLead_69 hl0 rfl ?_
      refine ex_getR (pc' := 73) (n := 39) (r := 199) dX12_doLead_70 fl_12_20 s0 (by decide) r15 rfl ?_
      refine ex_bipush (v := 59) (pc' := 75) dX12_doLead_73 (by decide) rfl ?_
      refine ex_iconst (v := 4) (pc' := 76) dX12_doLead_75 (by decide) rfl ?_
      refine ex_iload (pc' := 78) dX12_doLead_76 hl6 rfl ?_
      refine ex_imul (pc' := 79) (v := nI (4 * q)) dX12_doLead_78 (nI_m4 (by omega)) rfl ?_
      refine ex_iadd (pc' := 80) (v := nI (59 + 4 * q)) dX12_doLead_79 (nI_add _ _) rfl ?_
      refine ex_iconst (v := nI 1) (pc' := 81) dX12_doLead_80 (by decide) rfl ?_
      refine ex_iadd (pc' := 82) (v := nI (60 + 4 * q)) dX12_doLead_81 (by rw [nI_add]; congr 1; omega) rfl ?_
      refine ex_iald (pc' := 83) (n := 363) (v := nI y) dX12_doLead_82 s1 (zn_in (by omega) (by omega)) (by rw [nI_clamp (by omega)]; exact ey) rfl ?_
      refine ex_ishl (pc' := 84) (v := nI (2 ^ y)) dX12_doLead_83 (shl7 ⟨y, hy7⟩) rfl ?_
      refine ex_ior (pc' := 85) (v := nI (2 ^ x ||| 2 ^ y)) dX12_doLead_84 (nI_or _ _) rfl ?_
      have hm : 2 ^ x ||| 2 ^ y < 2 ^ 7 := Nat.or_lt_two_pow (Nat.pow_lt_pow_right (by decide) hx7) (Nat.pow_lt_pow_right (by decide) hy7)
      generalize hmm : 2 ^ x ||| 2 ^ y = m at hm
      refine ex_istore (pc' := 87) dX12_doLead_85 (by decide) rfl rfl ?_
      have g0 := zget_s1 (k := 7) (v := .inl (nI m)) hl0 (by decide) (by simp [zcat])
      have g2 := zget_s1 (k := 7) (v := .inl (nI m)) hl2 (by decide) (by simp [zcat])
      have g3 := zget_s1 (k := 7) (v := .inl (nI m)) hl3 (by decide) (by simp [zcat])
      have g4 := zget_s1 (k := 7) (v := .inl (nI m)) hl4 (by decide) (by simp [zcat])
      have g5 := zget_s1 (k := 7) (v := .inl (nI m)) hl5 (by decide) (by simp [zcat])
      have g6 := zget_s1 (k := 7) (v := .inl (nI m)) hl6 (by decide) (by simp [zcat])
      have g7 : zget (zset1 ls 7 (.inl (nI m))) 7 = some (.inl (nI m)) := zget_s1e
      have go2 : ∀ u : Nat, u < 2 ^ 7 → zEx none (d + 2) mX12_doLead (103, zset1 ls 7 (.inl (nI m)), [.inl (nI u), .inl (nI a)], h) Q := by
        intro u hu
        refine ex_ior (pc' := 104) (v := nI (a ||| u)) dX12_doLead_103 (nI_or _ _) rfl ?_
        refine ex_istore (pc' := 106) dX12_doLead_104 (by decide) rfl rfl ?_
        have h1 : a ≤ a ||| u := Nat.left_le_or
        have h2 : a ||| u < 2 ^ 7 := Nat.or_lt_two_pow (by omega) hu
        exact go (a ||| u) _ (by omega) h2 (zget_s1 g0 (by decide) (by simp [zcat])) (zget_s1 g2 (by decide) (by simp [zcat])) (zget_s1 g3 (by decide) (by simp [zcat])) zget_s1e (zget_s1 g5 (by decide) (by simp [zcat])) (zget_s1 g6 (by decide) (by simp [zcat]))
      refine ex_iload (pc' := 89) dX12_doLead_87 g4 rfl ?_
      refine ex_iload (pc' := 91) dX12_doLead_89 g4 rfl ?_
      refine ex_iload (pc' := 93) dX12_doLead_91 g7 rfl ?_
      refine ex_iand (pc' := 94) dX12_doLead_93 rfl rfl ?_
      refine ex_if (pc' := 102) (pc2 := 97) dX12_doLead_94 (by decide) rfl (fun c => ?_) (fun c => ?_)
      · refine ex_iconst (v := nI 0) (pc' := 103) dX12_doLead_102 (by decide) rfl ?_
        exact go2 0 (by decide)
      · refine ex_iload (pc' := 99) dX12_doLead_97 g7 rfl ?_
        refine ex_goto (pc' := 103) dX12_doLead_99 (by decide) ?_
        exact go2 m hm
    · refine ex_goto (pc' := 106) dX12_doLead_51 (by decide) ?_
      exact go a ls hba ha hl0 hl2 hl3 hl4 hl5 hl6
theorem ld_out (s0 : zsh h 196 = some (12, 39)) (s1 : zsh h 199 = some (14, 363)) (s3 : zsh h 201 = some (14, 76)) (r15 : h.2.2.2.1 196 15 = some 199) (r17 : h.2.2.2.1 196 17 = some 201) (hn : h.2.1 199 5 = nI n) (hn12 : n ≤ 12)
    (hx : ∀ q : Nat, q < 12 → ∃ x : Nat, x < 7 ∧ h.2.1 199 (59 + 4 * q) = nI x) (hy : ∀ q : Nat, q < 12 → ∃ x : Nat, x < 7 ∧ h.2.1 199 (60 + 4 * q) = nI x) (hQ : ∀ x : Int32, (x = 0 ∨ x = 1) → Q (some (.inl x)) h) :
    ∀ (N b a : Nat) (ls : zL), 128 - b ≤ N → b ≤ a → a < 128 → zget ls 0 = some (.inr (.inr (some 196))) → zget ls 2 = some (.inl jj) → zget ls 3 = some (.inl mask) → zget ls 4 = some (.inl (nI a)) → zget ls 5 = some (.inl (nI b)) → zEx none (d + 2) mX12_doLead (8, ls, [], h) Q := by
  intro N
  induction N with
  | zero => intro b a ls h1 h2 h3; omega
  | succ N ih =>
    intro b a ls hN hba ha hl0 hl2 hl3 hl4 hl5
    refine ex_iload (pc' := 10) dX12_doLead_8 hl5 rfl ?_
    refine ex_iload (pc' := 12) dX12_doLead_10 hl4 rfl ?_
    refine ex_icmp (pc' := 115) (pc2 := 15) dX12_doLead_12 (by decide) rfl (fun c => ?_) (fun c => ?_)
    · refine ex_iload (pc' := 117) dX12_doLead_115 hl4 rfl ?_
      refine ex_iload_n (pc' := 118) dX12_doLead_117 hl2 rfl ?_
      refine en_callsI (pc' := 121) (v := hBit (nI a) jj) (h2 := h) (vs := [.inl (nI a), .inl jj]) (rest := []) dX12_doLead_118 ml_12_298 (Or.inl rfl) ⟨zble rfl, zble rfl⟩ rfl rfl (zble rfl) rfl k_hasBit ?_
      have hb : hBit (nI a) jj = 0 ∨ hBit (nI a) jj = 1 := by unfold hBit; split; exact .inr rfl; exact .inl rfl
      exact ex_iret dX12_doLead_121 rfl (by rcases hb with e | e <;> rw [e] <;> decide) (hQ _ hb)
    · have c : ¬ nI b = nI a := by simpa [zcond] using c
      have hlt : b < a := by
        rcases Nat.lt_or_ge b a with z | z
        · exact z
        · exact absurd (congrArg nI (show b = a by omega)) c
      refine ex_iload (pc' := 17) dX12_doLead_15 hl4 rfl ?_
      refine ex_istore (pc' := 19) dX12_doLead_17 (by decide) rfl rfl ?_
      refine ex_iconst (v := nI 0) (pc' := 20) dX12_doLead_19 (by decide) rfl ?_
      refine ex_istore (pc' := 22) dX12_doLead_20 (by decide) rfl rfl ?_
      refine ld_in (n := n) (b := a) (jj := jj) (mask := mask) s0 s1 s3 r15 r17 hn hn12 hx hy (fun a' ls' h1 h2 k0 k2 k3 k4 k5 => ?_) n 0 a _ (by omega) (Nat.le_refl _) ha ?_ ?_ ?_ ?_ ?_ zget_s1e
      · refine ex_goto (pc' := 8) dX12_doLead_112 (by decide) ?_
        exact ih a a' ls' (by omega) h1 h2 k0 k2 k3 k4 k5
      · exact zget_s1 (zget_s1 hl0 (by decide) (by simp [zcat])) (by decide) (by simp [zcat])
      · exact zget_s1 (zget_s1 hl2 (by decide) (by simp [zcat])) (by decide) (by simp [zcat])
      · exact zget_s1 (zget_s1 hl3 (by decide) (by simp [zcat])) (by decide) (by simp [zcat])
      · exact zget_s1 (zget_s1 hl4 (by decide) (by simp [zcat])) (by decide) (by simp [zcat])
      · exact zget_s1 zget_s1e (by decide) (by simp [zcat])
end HDL
theorem S_lead : aSpec wd (mX12_doLead, [.inr (.inl [196]), .inl [(0, 6, 1)], .inl [(0, 6, 1)], .inl aTop], ([], []), [(some (.inl [(0, 1, 1)]), [], [], [])], [], [], 3) := by
  intro d hd vs h hargs hok hpre
  obtain ⟨v0, ta0, rfl, ga0, ha0⟩ := ags_c hargs
  obtain ⟨v1, ta1, rfl, ga1, ha1⟩ := ags_c ha0
  obtain ⟨v2, ta2, rfl, ga2, ha2⟩ := ags_c ha1
  obtain ⟨v3, ta3, rfl, ga3, ha3⟩ := ags_c ha2
  obtain rfl := ags_n ha3
  obtain ⟨q0, m0, e0⟩ := ga0
  obtain ⟨x1, e1, i1⟩ := ga1
  obtain ⟨x2, e2, i2⟩ := ga2
  obtain ⟨x3, e3, i3⟩ := ga3
  have m0 : q0 = 196 := by simpa using m0
  subst e0; subst e1; subst e2; subst e3; subst m0
  have hd : 3 ≤ d := hd
  obtain ⟨d, rfl⟩ : ∃ d', d = d' + 2 := ⟨d - 2, by omega⟩
  have s0 : zsh h 196 = some (12, 39) := hok.1 196 (12, 39) (by decide +kernel)
  have s1 : zsh h 199 = some (14, 363) := hok.1 199 (14, 363) (by decide +kernel)
  have s3 : zsh h 201 = some (14, 76) := hok.1 201 (14, 76) (by decide +kernel)
  have r15 : h.2.2.2.1 196 15 = some 199 := hok.2.2.1 196 15 199 (by decide +kernel)
  have r17 : h.2.2.2.1 196 17 = some 201 := hok.2.2.1 196 17 201 (by decide +kernel)
  have h5 := aHull_in (aLe_in (B := [(0, 12, 1)]) (by decide +kernel) (hok.2.1 199 5))
  have i1 := aHull_in i1
  simp only [aHull] at h5 i1
  have hxx : ∀ o : Nat, o < 2 → ∀ q : Nat, q < 12 → ∃ x : Nat, x < 7 ∧ h.2.1 199 (59 + o + 4 * q) = nI x := by
    intro o ho q hq
    have hall : ((List.range 2).all (fun o => (List.range 12).all (fun q => aLe (gSeg (wd.2.1 199) (59 + o + 4 * q)) [(0, 6, 1)]))) = true := by decide +kernel
    have := List.all_eq_true.mp (List.all_eq_true.mp hall o (List.mem_range.mpr ho)) q (List.mem_range.mpr hq)
    have := aHull_in (aLe_in this (hok.2.1 199 (59 + o + 4 * q)))
    simp only [aHull] at this
    exact ⟨(h.2.1 199 (59 + o + 4 * q)).toInt.toNat, by omega, nI_at (by omega)⟩
  obtain ⟨i, hi7, ei⟩ : ∃ i : Nat, i < 7 ∧ x1 = nI i := ⟨x1.toInt.toNat, by omega, nI_at (by omega)⟩
  have hp7 : 2 ^ i < 2 ^ 7 := Nat.pow_lt_pow_right (by decide) hi7
  show zEx none (d + 2) mX12_doLead (0, [(0, .inr (.inr (some 196))), (1, .inl x1), (2, .inl x2), (3, .inl x3)], [], h) _
  refine ex_iconst (v := 1) (pc' := 1) dX12_doLead_0 (by decide) rfl ?_
  refine ex_iload_n (pc' := 2) dX12_doLead_1 rfl rfl ?_
  refine ex_ishl (pc' := 3) (v := nI (2 ^ i)) dX12_doLead_2 (by rw [ei]; exact shl7 ⟨i, hi7⟩) rfl ?_
  refine ex_istore (pc' := 5) dX12_doLead_3 (by decide) rfl rfl ?_
  refine ex_iconst (v := nI 0) (pc' := 6) dX12_doLead_5 (by decide) rfl ?_
  refine ex_istore (pc' := 8) dX12_doLead_6 (by decide) rfl rfl ?_
  refine ld_out (n := (h.2.1 199 5).toInt.toNat) s0 s1 s3 r15 r17 (nI_at (by omega)) (by omega) (fun q hq => hxx 0 (by decide) q hq) (fun q hq => hxx 1 (by decide) q hq) (fun x hx => ?_) 128 0 (2 ^ i) _ (by omega) (Nat.zero_le _) hp7 rfl rfl rfl rfl rfl
  refine ⟨hok, hFr.rf, _, List.mem_cons_self, ⟨x, rfl, ?_⟩, trivial, (fun q hq => nomatch hq), (fun q hq => nomatch hq)⟩
  rcases hx with e | e <;> subst e
  · exact aR1_in (lo := 0) (hi := 1) (by decide) (by decide)
  · exact aR1_in (lo := 0) (hi := 1) (by decide) (by decide)
end Pk4
