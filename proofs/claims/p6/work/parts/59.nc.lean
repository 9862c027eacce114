/-! by hand: lowest, setsOut -/
theorem i64_rg (x : Int64) : -9223372036854775808 ≤ x.toInt ∧ x.toInt ≤ 9223372036854775807 := by
  have h1 := Int64.le_toInt x
  have h2 := Int64.toInt_lt x
  omega
theorem rem64 {x y : Int64} (hy : y ≠ 0) : (x - x / y * y).toInt.natAbs < y.toInt.natAbs := by
  have ry := i64_rg y
  have hy0 : y.toInt ≠ 0 := fun e => hy (Int64.toInt_inj.mp e)
  have e0 : x.toInt.tdiv y.toInt * y.toInt + x.toInt.tmod y.toInt = x.toInt := Int.tdiv_mul_add_tmod _ _
  have hm : (x.toInt.tmod y.toInt).natAbs < y.toInt.natAbs := by
    rw [Int.natAbs_tmod]
    exact Nat.mod_lt _ (by omega)
  have e1 : (x - x / y * y).toInt = (x.toInt.tmod y.toInt).bmod (2 ^ 64) := by
    rw [Int64.toInt_sub, Int64.toInt_mul, Int64.toInt_div, Int.bmod_mul_bmod, Int.sub_bmod_bmod]
    congr 1
    omega
  have e2 : (x.toInt.tmod y.toInt).bmod (2 ^ 64) = x.toInt.tmod y.toInt := by
    rw [Int.bmod_eq_of_le] <;> omega
  rw [e1, e2]
  exact hm
theorem lg_cmp0 {y : Int64} : (lg_cmp y 0 = 0) ↔ y = 0 := by
  unfold lg_cmp
  split
  · next q => exact ⟨fun e => absurd e (by decide), fun e => by subst e; exact absurd q (by decide)⟩
  · split
    · next q => exact ⟨fun _ => q, fun _ => rfl⟩
    · next q => exact ⟨fun e => absurd e (by decide), fun e => absurd e q⟩
theorem lp_low {d : Nat} {h : zH} {up down : Int64} {lw : Int32} : ∀ (N : Nat) (x y : Int64) (ls : zL), y.toInt.natAbs ≤ N → (y = 0 → x ≠ 0) → zget ls 5 = some (.inr (.inl x)) → zget ls 7 = some (.inr (.inl y)) → zget ls 0 = some (.inr (.inl up)) → zget ls 2 = some (.inr (.inl down)) → zget ls 4 = some (.inl lw) →
    zEx none d mX12_lowest (6, ls, [], h) (fun v h' => (∃ r : Int64, v = some (.inr (.inl r))) ∧ h' = h) := by
  intro N
  induction N with
  | zero =>
    intro x y ls hN hx g5 g7 g0 g2 g4
    have hy : y = 0 := Int64.toInt_inj.mp (by have e : (0 : Int64).toInt = 0 := rfl; omega)
    have hx := hx hy
    refine ex_lload (pc' := 8) dX12_lowest_6 g7 rfl ?_
    refine ex_lconst (v := 0) (pc' := 9) dX12_lowest_8 rfl rfl ?_
    refine ex_lcmp (pc' := 10) (v := 0) dX12_lowest_9 (lg_cmp0.mpr hy) rfl ?_
    refine ex_if_t (pc' := 31) dX12_lowest_10 (by decide) (by decide) ?_
    refine ex_iload (pc' := 33) dX12_lowest_31 g4 rfl ?_
    refine ex_if (pc' := 40) (pc2 := 36) dX12_lowest_33 (by decide) rfl (fun _ => ?_) (fun _ => ?_)
    · refine ex_lload_n (pc' := 41) dX12_lowest_40 g0 rfl ?_
      refine ex_lload (pc' := 43) dX12_lowest_41 g5 rfl ?_
      refine ex_ldiv (pc' := 44) dX12_lowest_43 hx rfl rfl ?_
      exact ex_lret dX12_lowest_44 rfl ⟨⟨_, rfl⟩, rfl⟩
    · refine ex_lload_n (pc' := 37) dX12_lowest_36 g2 rfl ?_
      refine ex_goto (pc' := 41) dX12_lowest_37 (by decide) ?_
      refine ex_lload (pc' := 43) dX12_lowest_41 g5 rfl ?_
      refine ex_ldiv (pc' := 44) dX12_lowest_43 hx rfl rfl ?_
      exact ex_lret dX12_lowest_44 rfl ⟨⟨_, rfl⟩, rfl⟩
  | succ N ih =>
    intro x y ls hN hx g5 g7 g0 g2 g4
    by_cases hy : y = 0
    · exact ih x y ls (by rw [hy]; exact Nat.zero_le _) hx g5 g7 g0 g2 g4
    · refine ex_lload (pc' := 8) dX12_lowest_6 g7 rfl ?_
      refine ex_lconst (v := 0) (pc' := 9) dX12_lowest_8 rfl rfl ?_
      refine ex_lcmp (pc' := 10) dX12_lowest_9 rfl rfl ?_
      refine ex_if_f (pc' := 13) dX12_lowest_10 ?_ (by decide) rfl ?_
      · simp only [zcond, decide_eq_false_iff_not]
        exact fun e => hy (lg_cmp0.mp e)
      refine ex_lload (pc' := 15) dX12_lowest_13 g5 rfl ?_
      refine ex_lload (pc' := 17) dX12_lowest_15 g7 rfl ?_
      refine ex_lrem (pc' := 18) dX12_lowest_17 hy rfl rfl ?_
      refine ex_lstore (pc' := 20) dX12_lowest_18 (by decide) rfl rfl ?_
      refine ex_lload (pc' := 22) (v := y) dX12_lowest_20 (zget_s2 g7 (by decide) (by decide) (by omega)) rfl ?_
      refine ex_lstore (pc' := 24) dX12_lowest_22 (by decide) rfl rfl ?_
      refine ex_lload (pc' := 26) (v := x - x / y * y) dX12_lowest_24 (zget_s2 zget_s2e (by decide) (by decide) (by omega)) rfl ?_
      refine ex_lstore (pc' := 28) dX12_lowest_26 (by decide) rfl rfl ?_
      refine ex_goto (pc' := 6) dX12_lowest_28 (by decide) ?_
      have hr := rem64 (x := x) hy
      refine ih y (x - x / y * y) _ (by omega) (fun _ => hy) ?_ zget_s2e ?_ ?_ ?_
      · exact zget_s2 zget_s2e (by decide) (by decide) (by omega)
      · exact zget_s2 (zget_s2 (zget_s2 g0 (by decide) (by decide) (by omega)) (by decide) (by decide) (by omega)) (by decide) (by decide) (by omega)
      · exact zget_s2 (zget_s2 (zget_s2 g2 (by decide) (by decide) (by omega)) (by decide) (by decide) (by omega)) (by decide) (by decide) (by omega)
      · exact zget_s2 (zget_s2 (zget_s2 g4 (by decide) (by decide) (by omega)) (by decide) (by decide) (fun z => absurd (show (1 : Nat) = 2 from z.2) (by decide))) (by decide) (by decide) (by omega)
theorem k_lowest {d : Nat} {h : zH} {up down : Int64} {lw : Int32} (hd : down ≠ 0) : zEx none d mX12_lowest (0, zargs 0 [.inr (.inl up), .inr (.inl down), .inl lw], [], h) (fun v h' => (∃ r : Int64, v = some (.inr (.inl r))) ∧ h' = h) := by
  show zEx none d mX12_lowest (0, [(0, .inr (.inl up)), (2, .inr (.inl down)), (4, .inl lw)], [], h) _
  refine ex_lload_n (pc' := 1) dX12_lowest_0 rfl rfl ?_
  refine ex_lstore (pc' := 3) dX12_lowest_1 (by decide) rfl rfl ?_
  refine ex_lload_n (pc' := 4) (v := up) dX12_lowest_3 rfl rfl ?_
  refine ex_lstore (pc' := 6) dX12_lowest_4 (by decide) rfl rfl ?_
  exact lp_low _ down up _ (Nat.le_refl _) (fun _ => hd) rfl rfl rfl rfl rfl
/-- lowest, whatever is known -/
theorem S_low {w : aWd} {A : aI} {b : Bool} {pre : List ((Nat × Nat) × aI) × aU} {D : Nat} {md : aMd} : aSpec w (mX12_lowest, [.inr (.inr b), .inr (.inr true), .inl A], pre, [(some (.inr ()), [], [], [])], md, [], D) := by
  intro d hd vs h hargs hok hpre
  match vs, hargs with
  | [v0, v1, v2], ⟨⟨x0, e0, _⟩, ⟨x1, e1, n1⟩, ⟨x2, e2, i2⟩, _⟩ =>
    subst e0; subst e1; subst e2
    refine zEx.mono (k_lowest (d := d) (n1 rfl)) (fun v h' hq => ?_)
    obtain ⟨⟨r, rfl⟩, rfl⟩ := hq
    exact ⟨hok, ⟨rfl, rfl, fun _ _ _ => rfl, fun _ _ _ => rfl, fun _ => hMn.rf⟩, _, List.mem_cons_self, ⟨r, rfl⟩, trivial, (fun q hq => nomatch hq), (fun q hq => nomatch hq)⟩
/-! setsOut: it ends, whatever the day -/
def sOf (x : Int32) : Int32 := x / 90 - x / 90 / 4 * 4
def hBit (s k : Int32) : Int32 := if ((s >>> (k &&& 31)) &&& 1) = 1 then 1 else 0
theorem k_season {d : Nat} {h : zH} {x : Int32} : zCi d mX12_seasonOf [.inl x] h (fun y h' => y = sOf x ∧ h' = h) := by
  show zEx none d mX12_seasonOf (0, [(0, .inl x)], [], h) _
  refine ex_iload_n (pc' := 1) dX12_seasonOf_0 rfl rfl ?_
  refine ex_bipush (v := 90) (pc' := 3) dX12_seasonOf_1 (by decide) rfl ?_
  refine ex_idiv (pc' := 4) dX12_seasonOf_3 (by decide) rfl rfl ?_
  refine ex_iconst (v := 4) (pc' := 5) dX12_seasonOf_4 (by decide) rfl ?_
  refine ex_irem (pc' := 6) dX12_seasonOf_5 (by decide) rfl rfl ?_
  exact ex_iretI dX12_seasonOf_6 rfl rfl ⟨rfl, rfl⟩
theorem k_hasBit {d : Nat} {h : zH} {s k : Int32} : zCi d mX12_hasBit [.inl s, .inl k] h (fun y h' => y = hBit s k ∧ h' = h) := by
  show zEx none d mX12_hasBit (0, [(0, .inl s), (1, .inl k)], [], h) _
  refine ex_iload_n (pc' := 1) dX12_hasBit_0 rfl rfl ?_
  refine ex_iload_n (pc' := 2) dX12_hasBit_1 rfl rfl ?_
  refine ex_ishr (pc' := 3) dX12_hasBit_2 rfl rfl ?_
  refine ex_iconst (v := 1) (pc' := 4) dX12_hasBit_3 (by decide) rfl ?_
  refine ex_iand (pc' := 5) dX12_hasBit_4 rfl rfl ?_
  refine ex_iconst (v := 1) (pc' := 6) dX12_hasBit_5 (by decide) rfl ?_
  refine ex_icmp (pc' := 13) (pc2 := 9) dX12_hasBit_6 (by decide) rfl (fun c => ?_) (fun c => ?_)
  · refine ex_iconst (v := 0) (pc' := 14) dX12_hasBit_13 (by decide) rfl ?_
    refine ex_iretI dX12_hasBit_14 rfl (by decide) ⟨?_, rfl⟩
    simp only [zcond, decide_eq_true_eq] at c
    unfold hBit
    rw [if_neg c]
  · refine ex_iconst (v := 1) (pc' := 10) dX12_hasBit_9 (by decide) rfl ?_
    refine ex_goto (pc' := 14) dX12_hasBit_10 (by decide) ?_
    refine ex_iretI dX12_hasBit_14 rfl (by decide) ⟨?_, rfl⟩
    simp only [zcond, decide_eq_false_iff_not, Decidable.not_not] at c
    unfold hBit
    rw [if_pos c]
