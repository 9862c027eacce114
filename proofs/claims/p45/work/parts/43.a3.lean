/-! shifts, division, and all that takes two ints -/
theorem shl_nat {x y : Int32} {k : Nat} (hk : k < 32) (hy : y.toInt = (k : Int)) (hx : 0 ≤ x.toInt) (hf : x.toInt * (2 ^ k : Nat) ≤ 2147483647) : (x <<< (y &&& 31)).toInt = x.toInt * (2 ^ k : Nat) := by
  have ey : y = nI k := by
    apply Int32.toInt_inj.mp
    rw [hy, nI_toInt (by omega)]
  subst ey
  have h1 := i32_nat hx
  have es : ((nI k &&& 31).toBitVec.smod 32).toNat = k := by
    have : ∀ j : Fin 32, ((nI j.val &&& 31).toBitVec.smod 32).toNat = j.val := by decide
    exact this ⟨k, hk⟩
  have e : (x <<< (nI k &&& 31)).toBitVec = x.toBitVec <<< ((nI k &&& 31).toBitVec.smod 32) := rfl
  have e2 : (x <<< (nI k &&& 31)).toBitVec.toNat = x.toBitVec.toNat * 2 ^ k := by
    rw [e, BitVec.shiftLeft_eq', BitVec.toNat_shiftLeft, es, Nat.shiftLeft_eq]
    have : x.toBitVec.toNat * 2 ^ k < 2 ^ 32 := by
      rw [h1] at hf
      have : ((x.toBitVec.toNat * 2 ^ k : Nat) : Int) ≤ 2147483647 := by rw [Int.natCast_mul]; exact hf
      omega
    exact Nat.mod_eq_of_lt this
  rw [h1] at hf ⊢
  have hlt : x.toBitVec.toNat * 2 ^ k < 2147483648 := by
    have : ((x.toBitVec.toNat * 2 ^ k : Nat) : Int) ≤ 2147483647 := by rw [Int.natCast_mul]; exact hf
    omega
  rw [i32_of (by rw [e2]; exact hlt), e2, Int.natCast_mul]
def aShl (A B : aI) : aI :=
  if ile 0 (aHull A).1 && (ile 0 (aHull B).1 && (ile (aHull B).2 30 && ile ((aHull A).2 * (2 ^ (aHull B).2.toNat : Nat)) 2147483647)) then aR1 ((aHull A).1 * (2 ^ (aHull B).1.toNat : Nat)) ((aHull A).2 * (2 ^ (aHull B).2.toNat : Nat)) else aTop
theorem aShl_in {A B : aI} {x y : Int32} (hx : aIn x.toInt A) (hy : aIn y.toInt B) : aIn (x <<< (y &&& 31)).toInt (aShl A B) := by
  have h1 := aHull_in hx
  have h2 := aHull_in hy
  unfold aShl
  split
  · next q =>
    simp only [Bool.and_eq_true, ile_iff] at q
    obtain ⟨q1, q2, q3, q4⟩ := q
    have hk : y.toInt = (y.toInt.toNat : Int) := (Int.toNat_of_nonneg (by omega)).symm
    have p1 : (2 ^ y.toInt.toNat : Nat) ≤ (2 ^ (aHull B).2.toNat : Nat) := Nat.pow_le_pow_right (by decide) (by omega)
    have p2 : (2 ^ (aHull B).1.toNat : Nat) ≤ (2 ^ y.toInt.toNat : Nat) := Nat.pow_le_pow_right (by decide) (by omega)
    have u1 : x.toInt * (2 ^ y.toInt.toNat : Nat) ≤ (aHull A).2 * (2 ^ (aHull B).2.toNat : Nat) := Int.mul_le_mul h1.2 (by omega) (Int.natCast_nonneg _) (by omega)
    have u2 : (aHull A).1 * (2 ^ (aHull B).1.toNat : Nat) ≤ x.toInt * (2 ^ y.toInt.toNat : Nat) := Int.mul_le_mul h1.1 (by omega) (Int.natCast_nonneg _) (by omega)
    rw [shl_nat (k := y.toInt.toNat) (by omega) hk (by omega) (by omega)]
    exact aR1_in u2 u1
  · exact aIn_top _
theorem shr_bnd {x s : Int32} (hx : 0 ≤ x.toInt) : 0 ≤ (x >>> s).toInt ∧ (x >>> s).toInt ≤ x.toInt := by
  have h1 := i32_nat hx
  have hr := (i32_rg x).2
  have e : (x >>> s).toBitVec = x.toBitVec.sshiftRight' (s.toBitVec.smod 32) := rfl
  have hm : x.toBitVec.msb = false := by
    rw [BitVec.msb_eq_decide]
    simp only [decide_eq_false_iff_not]
    omega
  have e2 : (x >>> s).toBitVec.toNat = x.toBitVec.toNat >>> (s.toBitVec.smod 32).toNat := by
    rw [e, BitVec.sshiftRight_eq', BitVec.sshiftRight_eq_of_msb_false hm, BitVec.toNat_ushiftRight]
  have hle : x.toBitVec.toNat >>> (s.toBitVec.smod 32).toNat ≤ x.toBitVec.toNat := Nat.shiftRight_le _ _
  rw [i32_of (by rw [e2]; omega), e2]
  omega
def aShr (A : aI) : aI := if ile 0 (aHull A).1 then aR1 0 (aHull A).2 else aTop
theorem aShr_in {A : aI} {x s : Int32} (hx : aIn x.toInt A) : aIn (x >>> s).toInt (aShr A) := by
  have h1 := aHull_in hx
  unfold aShr
  split
  · next q =>
    have q := ile_iff.mp q
    have := shr_bnd (x := x) (s := s) (by omega)
    exact aR1_in this.1 (by omega)
  · exact aIn_top _
/-- 0 is none of them -/
def aNz (A : aI) : Bool := A.all (fun p => ile 1 p.1 || ile p.2.1 (-1))
theorem aNz_in {A : aI} {x : Int} (h : aNz A = true) (hx : aIn x A) : x ≠ 0 := by
  obtain ⟨p, hp, h1, h2, -⟩ := hx
  have := List.all_eq_true.mp h p hp
  simp only [Bool.or_eq_true, ile_iff] at this
  omega
theorem div_pos {x y : Int32} (hx : 0 ≤ x.toInt) (hy : 0 < y.toInt) : (x / y).toInt = x.toInt / y.toInt := by
  rw [Int32.toInt_div]
  have e : x.toInt.tdiv y.toInt = x.toInt / y.toInt := Int.tdiv_eq_ediv_of_nonneg hx
  rw [e]
  have h1 : 0 ≤ x.toInt / y.toInt := Int.ediv_nonneg hx (by omega)
  have h2 : x.toInt / y.toInt ≤ x.toInt := Int.ediv_le_self _ hx
  have := (i32_rg x).2
  exact bmod_fit (by omega) (by omega)
def aDiv (A B : aI) : aI := if ile 0 (aHull A).1 && ile 1 (aHull B).1 then aR1 ((aHull A).1 / (aHull B).2) ((aHull A).2 / (aHull B).1) else aTop
theorem aDiv_in {A B : aI} {x y : Int32} (hx : aIn x.toInt A) (hy : aIn y.toInt B) : aIn (x / y).toInt (aDiv A B) := by
  have h1 := aHull_in hx
  have h2 := aHull_in hy
  unfold aDiv
  split
  · next q =>
    simp only [Bool.and_eq_true, ile_iff] at q
    rw [div_pos (by omega) (by omega)]
    refine aR1_in ?_ ?_
    · have u1 : (aHull A).1 / (aHull B).2 ≤ x.toInt / (aHull B).2 := Int.ediv_le_ediv (by omega) h1.1
      have u2 : x.toInt / (aHull B).2 ≤ x.toInt / y.toInt := by
        apply Int.le_ediv_of_mul_le (by omega)
        have a1 : x.toInt / (aHull B).2 * y.toInt ≤ x.toInt / (aHull B).2 * (aHull B).2 := Int.mul_le_mul_of_nonneg_left h2.2 (Int.ediv_nonneg (by omega) (by omega))
        have a2 : x.toInt / (aHull B).2 * (aHull B).2 ≤ x.toInt := Int.ediv_mul_le _ (by omega)
        omega
      omega
    · have u1 : x.toInt / y.toInt ≤ x.toInt / (aHull B).1 := by
        apply Int.le_ediv_of_mul_le (by omega)
        have a1 : x.toInt / y.toInt * (aHull B).1 ≤ x.toInt / y.toInt * y.toInt := Int.mul_le_mul_of_nonneg_left h2.1 (Int.ediv_nonneg (by omega) (by omega))
        have a2 : x.toInt / y.toInt * y.toInt ≤ x.toInt := Int.ediv_mul_le _ (by omega)
        omega
      have u2 : x.toInt / (aHull B).1 ≤ (aHull A).2 / (aHull B).1 := Int.ediv_le_ediv (by omega) h1.2
      omega
  · exact aIn_top _
theorem rem_pos {x y : Int32} (hy : 0 < y.toInt) : (x - x / y * y).toInt = x.toInt.tmod y.toInt := by
  have rx := i32_rg x
  have ry := i32_rg y
  have e0 : x.toInt.tdiv y.toInt * y.toInt + x.toInt.tmod y.toInt = x.toInt := Int.tdiv_mul_add_tmod _ _
  have hab : (x.toInt.tdiv y.toInt).natAbs ≤ x.toInt.natAbs := Int.natAbs_tdiv_le_natAbs _ _
  have hq : -2147483648 ≤ x.toInt.tdiv y.toInt ∧ x.toInt.tdiv y.toInt ≤ 2147483647 := by
    rcases Int.le_total 0 x.toInt with hx | hx
    · have := Int.tdiv_nonneg hx (Int.le_of_lt hy)
      omega
    · have := Int.tdiv_nonneg (a := -x.toInt) (b := y.toInt) (by omega) (Int.le_of_lt hy)
      rw [Int.neg_tdiv] at this
      omega
  have d1 : (x / y).toInt = x.toInt.tdiv y.toInt := by rw [Int32.toInt_div]; exact bmod_fit hq.1 hq.2
  have hm : (x.toInt.tmod y.toInt).natAbs < y.toInt.natAbs := by
    rw [Int.natAbs_tmod]
    exact Nat.mod_lt _ (by omega)
  have hs : (0 ≤ x.toInt → 0 ≤ x.toInt.tmod y.toInt) ∧ (x.toInt ≤ 0 → x.toInt.tmod y.toInt ≤ 0) := by
    refine ⟨fun h => Int.tmod_nonneg _ h, fun h => ?_⟩
    have e : x.toInt.tmod y.toInt = -((-x.toInt).tmod y.toInt) := by rw [Int.neg_tmod, Int.neg_neg]
    have := Int.tmod_nonneg (a := -x.toInt) y.toInt (by omega)
    omega
  have d2 : (x / y * y).toInt = x.toInt.tdiv y.toInt * y.toInt := by
    rw [Int32.toInt_mul, d1]
    exact bmod_fit (by omega) (by omega)
  rw [Int32.toInt_sub, d2]
  have e3 : x.toInt - x.toInt.tdiv y.toInt * y.toInt = x.toInt.tmod y.toInt := by omega
  rw [e3]
  exact bmod_fit (by omega) (by omega)
def aRem (A B : aI) : aI := if ile 1 (aHull B).1 then (if ile 0 (aHull A).1 then aR1 0 (imin (aHull A).2 ((aHull B).2 - 1)) else aR1 (1 - (aHull B).2) ((aHull B).2 - 1)) else aTop
theorem aRem_in {A B : aI} {x y : Int32} (hx : aIn x.toInt A) (hy : aIn y.toInt B) : aIn (x - x / y * y).toInt (aRem A B) := by
  have h1 := aHull_in hx
  have h2 := aHull_in hy
  unfold aRem
  split
  · next q =>
    have q := ile_iff.mp q
    rw [rem_pos (by omega)]
    have hm : (x.toInt.tmod y.toInt).natAbs < y.toInt.natAbs := by
      rw [Int.natAbs_tmod]
      exact Nat.mod_lt _ (by omega)
    split
    · next q2 =>
      have q2 := ile_iff.mp q2
      have g1 := Int.tmod_nonneg (a := x.toInt) y.toInt (by omega)
      have g2 : x.toInt.tmod y.toInt ≤ x.toInt := by
        have e1 : (x.toInt.tmod y.toInt).natAbs = x.toInt.natAbs % y.toInt.natAbs := Int.natAbs_tmod _ _
        have e2 := Nat.mod_le x.toInt.natAbs y.toInt.natAbs
        omega
      refine aR1_in g1 ?_
      rcases imin_cs (aHull A).2 ((aHull B).2 - 1) with e | e <;> rw [e] <;> omega
    · exact aR1_in (by omega) (by omega)
  · exact aIn_top _
/-- two ints -/
def aBin (i : Instr) (A B : aI) : Option aI := match i with
  | .iadd => some (aClip (aAdd A B))
  | .isub => some (aClip (aSub A B))
  | .imul => some (aClip (aMul A B))
  | .iand => some (aAnd A B)
  | .ior => some (aOr A B)
  | .ixor => some (aOr A B)
  | .ishl => some (aShl A B)
  | .ishr => some (aShr A)
  | .iushr => some aTop
  | .idiv => if aNz B then some (aDiv A B) else none
  | .irem => if aNz B then some (aRem A B) else none
  | _ => none
theorem aBin_in {i : Instr} {A B C : aI} {x y : Int32} (hx : aIn x.toInt A) (hy : aIn y.toInt B) (h : aBin i A B = some C) : ∃ v, zbin i x y = some v ∧ aIn v.toInt C := by
  unfold aBin at h
  split at h
  · cases h; exact ⟨_, rfl, aClip_in (aAdd_in hx hy) (Int32.toInt_add x y)⟩
  · cases h; exact ⟨_, rfl, aClip_in (aSub_in hx hy) (Int32.toInt_sub x y)⟩
  · cases h; exact ⟨_, rfl, aClip_in (aMul_in hx hy) (Int32.toInt_mul x y)⟩
  · cases h; exact ⟨_, rfl, aAnd_in hx hy⟩
  · cases h; exact ⟨_, rfl, aOr_in hx hy (fun k h1 h2 => Nat.or_lt_two_pow h1 h2)⟩
  · cases h; exact ⟨_, rfl, aOr_in hx hy (fun k h1 h2 => Nat.xor_lt_two_pow h1 h2)⟩
  · cases h; exact ⟨_, rfl, aShl_in hx hy⟩
  · cases h; exact ⟨_, rfl, aShr_in hx⟩
  · cases h; exact ⟨_, rfl, aIn_top _⟩
  · split at h
    · next q =>
      cases h
      have hn : ¬ y = 0 := fun e => aNz_in q hy (by rw [e]; rfl)
      exact ⟨x / y, by simp only [zbin]; rw [if_neg hn], aDiv_in hx hy⟩
    · cases h
  · split at h
    · next q =>
      cases h
      have hn : ¬ y = 0 := fun e => aNz_in q hy (by rw [e]; rfl)
      exact ⟨x - x / y * y, by simp only [zbin]; rw [if_neg hn], aRem_in hx hy⟩
    · cases h
  · cases h
/-- one int -/
def aNar (lo hi : Int) (A : aI) : aI := if ile lo (aHull A).1 && ile (aHull A).2 hi then A else aR1 lo hi
def aUn (i : Instr) (A : aI) : Option aI := match i with
  | .ineg => some (aClip (aSub [(0, 0, 0)] A))
  | .i2b => some (aNar (-128) 127 A)
  | .i2c => some (aNar 0 65535 A)
  | _ => none
theorem i2b_in {x : Int32} : -128 ≤ x.toInt8.toInt32.toInt ∧ x.toInt8.toInt32.toInt ≤ 127 ∧ (-128 ≤ x.toInt → x.toInt ≤ 127 → x.toInt8.toInt32.toInt = x.toInt) := by
  have e : x.toInt8.toInt32.toInt = x.toInt8.toInt := Int8.toInt_toInt32 _
  have h1 := Int8.le_toInt x.toInt8
  have h2 := Int8.toInt_lt x.toInt8
  refine ⟨by omega, by omega, fun g1 g2 => ?_⟩
  rw [e, Int32.toInt_toInt8, Int.bmod_eq_of_le] <;> omega
theorem i2c_in {x : Int32} : 0 ≤ ((x.toUInt32 % 65536).toInt32).toInt ∧ ((x.toUInt32 % 65536).toInt32).toInt ≤ 65535 ∧ (0 ≤ x.toInt → x.toInt ≤ 65535 → ((x.toUInt32 % 65536).toInt32).toInt = x.toInt) := by
  have e : ((x.toUInt32 % 65536).toInt32).toBitVec.toNat = x.toBitVec.toNat % 65536 := rfl
  have hl : x.toBitVec.toNat % 65536 < 65536 := Nat.mod_lt _ (by decide)
  rw [i32_of (by rw [e]; omega), e]
  refine ⟨by omega, by omega, fun g1 g2 => ?_⟩
  have := i32_nat g1
  omega
theorem aUn_in {i : Instr} {A C : aI} {x : Int32} (hx : aIn x.toInt A) (h : aUn i A = some C) : ∃ v, zun i x = some (.inl v) ∧ aIn v.toInt C := by
  have hh := aHull_in hx
  unfold aUn at h
  split at h
  · cases h
    refine ⟨-x, rfl, aClip_in (n := 0 - x.toInt) (aSub_in aIn_one hx) ?_⟩
    rw [Int32.toInt_neg]
    congr 1
    omega
  · cases h
    refine ⟨_, rfl, ?_⟩
    unfold aNar
    split
    · next q =>
      simp only [Bool.and_eq_true, ile_iff] at q
      rw [i2b_in.2.2 (by omega) (by omega)]
      exact hx
    · exact aR1_in i2b_in.1 i2b_in.2.1
  · cases h
    refine ⟨_, rfl, ?_⟩
    unfold aNar
    split
    · next q =>
      simp only [Bool.and_eq_true, ile_iff] at q
      rw [i2c_in.2.2 (by omega) (by omega)]
      exact hx
    · exact aR1_in i2c_in.1 i2c_in.2.1
  · cases h
