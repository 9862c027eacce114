/-! arithmetic on ranges -/
theorem bmod_fit {n : Int} (h1 : -2147483648 ≤ n) (h2 : n ≤ 2147483647) : n.bmod (2 ^ 32) = n := by
  rw [Int.bmod_eq_of_le] <;> omega
def aFit (A : aI) : Bool := ile (-2147483648) (aHull A).1 && ile (aHull A).2 2147483647
theorem aFit_in {A : aI} {x : Int} (h : aFit A = true) (hx : aIn x A) : -2147483648 ≤ x ∧ x ≤ 2147483647 := by
  simp only [aFit, Bool.and_eq_true, ile_iff] at h
  have := aHull_in hx
  omega
/-- a range that an int's value lies in, if what was counted fits -/
def aClip (A : aI) : aI := if aFit A then A else aTop
theorem aClip_in {A : aI} {n : Int} {v : Int32} (h : aIn n A) (hv : v.toInt = n.bmod (2 ^ 32)) : aIn v.toInt (aClip A) := by
  unfold aClip
  split
  · next q =>
    have := aFit_in q h
    rw [hv, bmod_fit this.1 this.2]
    exact h
  · exact aIn_top v
def aAdd (A B : aI) : aI := A.flatMap (fun p => B.map (fun q => (p.1 + q.1, p.2.1 + q.2.1, Nat.gcd p.2.2 q.2.2)))
theorem aAdd_in {A B : aI} {x y : Int} (hx : aIn x A) (hy : aIn y B) : aIn (x + y) (aAdd A B) := by
  obtain ⟨p, hp, a1, a2, a3⟩ := hx
  obtain ⟨q, hq, b1, b2, b3⟩ := hy
  refine ⟨_, List.mem_flatMap.mpr ⟨p, hp, List.mem_map.mpr ⟨q, hq, rfl⟩⟩, ?_, ?_, ?_⟩
  · show p.1 + q.1 ≤ x + y; omega
  · show x + y ≤ p.2.1 + q.2.1; omega
  · show ((Nat.gcd p.2.2 q.2.2 : Nat) : Int) ∣ x + y - (p.1 + q.1)
    have e : x + y - (p.1 + q.1) = (x - p.1) + (y - q.1) := by omega
    rw [e]
    exact Int.dvd_add (Int.dvd_trans (Int.natCast_dvd_natCast.mpr (Nat.gcd_dvd_left _ _)) a3) (Int.dvd_trans (Int.natCast_dvd_natCast.mpr (Nat.gcd_dvd_right _ _)) b3)
def aSub1 (p q : aP) : aP := if Nat.beq q.2.2 0 then (p.1 - q.1, p.2.1 - q.1, p.2.2) else (p.1 - q.2.1, p.2.1 - q.1, 1)
def aSub (A B : aI) : aI := A.flatMap (fun p => B.map (fun q => aSub1 p q))
theorem aSub_in {A B : aI} {x y : Int} (hx : aIn x A) (hy : aIn y B) : aIn (x - y) (aSub A B) := by
  obtain ⟨p, hp, a1, a2, a3⟩ := hx
  obtain ⟨q, hq, b1, b2, b3⟩ := hy
  refine ⟨_, List.mem_flatMap.mpr ⟨p, hp, List.mem_map.mpr ⟨q, hq, rfl⟩⟩, ?_⟩
  unfold aSub1
  split
  · next e =>
    have e : q.2.2 = 0 := by simpa using e
    rw [e] at b3
    have hz := Int.zero_dvd.mp b3
    refine ⟨?_, ?_, ?_⟩
    · show p.1 - q.1 ≤ x - y; omega
    · show x - y ≤ p.2.1 - q.1; omega
    · show (p.2.2 : Int) ∣ x - y - (p.1 - q.1)
      have e2 : x - y - (p.1 - q.1) = x - p.1 := by omega
      rw [e2]; exact a3
  · refine ⟨?_, ?_, ?_⟩
    · show p.1 - q.2.1 ≤ x - y; omega
    · show x - y ≤ p.2.1 - q.1; omega
    · show ((1 : Nat) : Int) ∣ _
      simp
def aMul1 (p q : aP) : aP :=
  if Nat.beq q.2.2 0 && ile 0 q.1 then (p.1 * q.1, p.2.1 * q.1, p.2.2 * q.1.toNat)
  else if Nat.beq p.2.2 0 && ile 0 p.1 then (p.1 * q.1, p.1 * q.2.1, q.2.2 * p.1.toNat)
  else (imin (imin (p.1 * q.1) (p.1 * q.2.1)) (imin (p.2.1 * q.1) (p.2.1 * q.2.1)), imax (imax (p.1 * q.1) (p.1 * q.2.1)) (imax (p.2.1 * q.1) (p.2.1 * q.2.1)), 1)
def aMul (A B : aI) : aI := A.flatMap (fun p => B.map (fun q => aMul1 p q))
theorem mul_bnd {x a b y c d : Int} (h1 : a ≤ x) (h2 : x ≤ b) (h3 : c ≤ y) (h4 : y ≤ d) : (a * c ≤ x * y ∨ a * d ≤ x * y ∨ b * c ≤ x * y ∨ b * d ≤ x * y) ∧ (x * y ≤ a * c ∨ x * y ≤ a * d ∨ x * y ≤ b * c ∨ x * y ≤ b * d) := by
  have key : ∀ {u v w z : Int}, u ≤ v → (0 ≤ z → u * z ≤ v * z) ∧ (z ≤ 0 → v * z ≤ u * z) := by
    intro u v w z h
    exact ⟨fun hz => Int.mul_le_mul_of_nonneg_right h hz, fun hz => Int.mul_le_mul_of_nonpos_right h hz⟩
  have key2 : ∀ {u v z : Int}, u ≤ v → (0 ≤ z → z * u ≤ z * v) ∧ (z ≤ 0 → z * v ≤ z * u) := by
    intro u v z h
    exact ⟨fun hz => Int.mul_le_mul_of_nonneg_left h hz, fun hz => Int.mul_le_mul_of_nonpos_left hz h⟩
  rcases Int.le_total 0 y with hy | hy
  · have k1 := (key (w := 0) (z := y) h1).1 hy
    have k2 := (key (w := 0) (z := y) h2).1 hy
    rcases Int.le_total 0 a with ha | ha
    · rcases Int.le_total 0 b with hb | hb
      · have := (key2 (z := a) h3).1 ha
        have := (key2 (z := b) h4).1 hb
        exact ⟨Or.inl (by omega), Or.inr (Or.inr (Or.inr (by omega)))⟩
      · have := (key2 (z := a) h3).1 ha
        have := (key2 (z := b) h3).2 hb
        exact ⟨Or.inl (by omega), Or.inr (Or.inr (Or.inl (by omega)))⟩
    · rcases Int.le_total 0 b with hb | hb
      · have := (key2 (z := a) h4).2 ha
        have := (key2 (z := b) h4).1 hb
        exact ⟨Or.inr (Or.inl (by omega)), Or.inr (Or.inr (Or.inr (by omega)))⟩
      · have := (key2 (z := a) h4).2 ha
        have := (key2 (z := b) h3).2 hb
        exact ⟨Or.inr (Or.inl (by omega)), Or.inr (Or.inr (Or.inl (by omega)))⟩
  · have k1 := (key (w := 0) (z := y) h1).2 hy
    have k2 := (key (w := 0) (z := y) h2).2 hy
    rcases Int.le_total 0 a with ha | ha
    · rcases Int.le_total 0 b with hb | hb
      · have := (key2 (z := a) h4).1 ha
        have := (key2 (z := b) h3).1 hb
        exact ⟨Or.inr (Or.inr (Or.inl (by omega))), Or.inr (Or.inl (by omega))⟩
      · have := (key2 (z := a) h4).1 ha
        have := (key2 (z := b) h4).2 hb
        exact ⟨Or.inr (Or.inr (Or.inr (by omega))), Or.inr (Or.inl (by omega))⟩
    · rcases Int.le_total 0 b with hb | hb
      · have := (key2 (z := a) h3).2 ha
        have := (key2 (z := b) h3).1 hb
        exact ⟨Or.inr (Or.inr (Or.inl (by omega))), Or.inl (by omega)⟩
      · have := (key2 (z := a) h3).2 ha
        have := (key2 (z := b) h4).2 hb
        exact ⟨Or.inr (Or.inr (Or.inr (by omega))), Or.inl (by omega)⟩
theorem aMul_in {A B : aI} {x y : Int} (hx : aIn x A) (hy : aIn y B) : aIn (x * y) (aMul A B) := by
  obtain ⟨p, hp, a1, a2, a3⟩ := hx
  obtain ⟨q, hq, b1, b2, b3⟩ := hy
  refine ⟨_, List.mem_flatMap.mpr ⟨p, hp, List.mem_map.mpr ⟨q, hq, rfl⟩⟩, ?_⟩
  unfold aMul1
  split
  · next e =>
    simp only [Bool.and_eq_true, Nat.beq_eq, ile_iff] at e
    obtain ⟨e, e0⟩ := e
    rw [e] at b3
    have hz : y = q.1 := by have := Int.zero_dvd.mp b3; omega
    subst hz
    refine ⟨Int.mul_le_mul_of_nonneg_right a1 e0, Int.mul_le_mul_of_nonneg_right a2 e0, ?_⟩
    show ((p.2.2 * q.1.toNat : Nat) : Int) ∣ x * q.1 - p.1 * q.1
    rw [← Int.sub_mul, Int.natCast_mul, Int.toNat_of_nonneg e0]
    exact Int.mul_dvd_mul a3 (Int.dvd_refl _)
  · split
    · next e =>
      simp only [Bool.and_eq_true, Nat.beq_eq, ile_iff] at e
      obtain ⟨e, e0⟩ := e
      rw [e] at a3
      have hz : x = p.1 := by have := Int.zero_dvd.mp a3; omega
      subst hz
      refine ⟨Int.mul_le_mul_of_nonneg_left b1 e0, Int.mul_le_mul_of_nonneg_left b2 e0, ?_⟩
      show ((q.2.2 * p.1.toNat : Nat) : Int) ∣ p.1 * y - p.1 * q.1
      rw [← Int.mul_sub, Int.natCast_mul, Int.toNat_of_nonneg e0, Int.mul_comm]
      exact Int.mul_dvd_mul (Int.dvd_refl _) b3
    · obtain ⟨m1, m2⟩ := mul_bnd a1 a2 b1 b2
      have i1 := @imin_le (p.1 * q.1) (p.1 * q.2.1)
      have i2 := @imin_le (p.2.1 * q.1) (p.2.1 * q.2.1)
      have i3 := @imin_le (imin (p.1 * q.1) (p.1 * q.2.1)) (imin (p.2.1 * q.1) (p.2.1 * q.2.1))
      have j1 := @imax_le (p.1 * q.1) (p.1 * q.2.1)
      have j2 := @imax_le (p.2.1 * q.1) (p.2.1 * q.2.1)
      have j3 := @imax_le (imax (p.1 * q.1) (p.1 * q.2.1)) (imax (p.2.1 * q.1) (p.2.1 * q.2.1))
      refine ⟨?_, ?_, ?_⟩
      · show imin (imin (p.1 * q.1) (p.1 * q.2.1)) (imin (p.2.1 * q.1) (p.2.1 * q.2.1)) ≤ x * y
        rcases m1 with m | m | m | m <;> omega
      · show x * y ≤ imax (imax (p.1 * q.1) (p.1 * q.2.1)) (imax (p.2.1 * q.1) (p.2.1 * q.2.1))
        rcases m2 with m | m | m | m <;> omega
      · show ((1 : Nat) : Int) ∣ _
        simp
/-! bits -/
theorem i32_nat {x : Int32} (h : 0 ≤ x.toInt) : x.toInt = (x.toBitVec.toNat : Int) := by
  have e : x.toInt = x.toBitVec.toInt := rfl
  rw [e] at h ⊢
  rw [BitVec.toInt_eq_toNat_cond] at h ⊢
  split at h
  · next q => rw [if_pos q]
  · next q =>
    have := x.toBitVec.isLt
    omega
theorem i32_of {x : Int32} (h : x.toBitVec.toNat < 2147483648) : x.toInt = (x.toBitVec.toNat : Int) := by
  have e : x.toInt = x.toBitVec.toInt := rfl
  rw [e, BitVec.toInt_eq_toNat_cond, if_pos (by omega)]
def aR1 (lo hi : Int) : aI := [(lo, hi, 1)]
theorem aR1_in {x lo hi : Int} (h1 : lo ≤ x) (h2 : x ≤ hi) : aIn x (aR1 lo hi) := ⟨_, List.mem_cons_self, h1, h2, by show ((1 : Nat) : Int) ∣ _; simp⟩
def aAnd (A B : aI) : aI :=
  if ile 0 (aHull A).1 then (if ile 0 (aHull B).1 then aR1 0 (imin (aHull A).2 (aHull B).2) else aR1 0 (aHull A).2)
  else if ile 0 (aHull B).1 then aR1 0 (aHull B).2 else aTop
theorem and_bnd {x y : Int32} (h : 0 ≤ y.toInt) : 0 ≤ (x &&& y).toInt ∧ (x &&& y).toInt ≤ y.toInt := by
  have e : (x &&& y).toBitVec.toNat = x.toBitVec.toNat &&& y.toBitVec.toNat := rfl
  have h1 := i32_nat h
  have hy := (i32_rg y).2
  have hle : x.toBitVec.toNat &&& y.toBitVec.toNat ≤ y.toBitVec.toNat := Nat.and_le_right
  rw [i32_of (by rw [e]; omega), e]
  omega
theorem and_bnd2 {x y : Int32} (h : 0 ≤ x.toInt) : 0 ≤ (x &&& y).toInt ∧ (x &&& y).toInt ≤ x.toInt := by
  have e : (x &&& y).toBitVec.toNat = x.toBitVec.toNat &&& y.toBitVec.toNat := rfl
  have h1 := i32_nat h
  have hy := (i32_rg x).2
  have hle : x.toBitVec.toNat &&& y.toBitVec.toNat ≤ x.toBitVec.toNat := Nat.and_le_left
  rw [i32_of (by rw [e]; omega), e]
  omega
theorem aAnd_in {A B : aI} {x y : Int32} (hx : aIn x.toInt A) (hy : aIn y.toInt B) : aIn (x &&& y).toInt (aAnd A B) := by
  have h1 := aHull_in hx
  have h2 := aHull_in hy
  unfold aAnd
  split
  · next q =>
    have q := ile_iff.mp q
    have b1 := and_bnd2 (x := x) (y := y) (by omega)
    split
    · next q2 =>
      have q2 := ile_iff.mp q2
      have b2 := and_bnd (x := x) (y := y) (by omega)
      refine aR1_in b1.1 ?_
      rcases imin_cs (aHull A).2 (aHull B).2 with e | e <;> rw [e] <;> omega
    · exact aR1_in b1.1 (by omega)
  · split
    · next q2 =>
      have q2 := ile_iff.mp q2
      have b2 := and_bnd (x := x) (y := y) (by omega)
      exact aR1_in b2.1 (by omega)
    · exact aIn_top _
/-- up to the next power of two, less one -/
def aUp (n : Int) : Int := (2 ^ (n.toNat.log2 + 1) : Nat) - 1
theorem aUp_lt {m : Nat} {n : Int} (h : (m : Int) ≤ n) : m < 2 ^ (n.toNat.log2 + 1) := by
  have h1 : m ≤ n.toNat := by omega
  exact Nat.lt_of_le_of_lt h1 Nat.lt_log2_self
def aOr (A B : aI) : aI := if ile 0 (aHull A).1 && ile 0 (aHull B).1 then (if ile (aUp (imax (aHull A).2 (aHull B).2)) 2147483647 then aR1 0 (aUp (imax (aHull A).2 (aHull B).2)) else aTop) else aTop
theorem aOr_in {A B : aI} {x y z : Int32} (hx : aIn x.toInt A) (hy : aIn y.toInt B) (hz : ∀ k, x.toBitVec.toNat < 2 ^ k → y.toBitVec.toNat < 2 ^ k → z.toBitVec.toNat < 2 ^ k) : aIn z.toInt (aOr A B) := by
  have h1 := aHull_in hx
  have h2 := aHull_in hy
  unfold aOr
  split
  · next q =>
    simp only [Bool.and_eq_true, ile_iff] at q
    split
    · next q2 =>
      have q2 := ile_iff.mp q2
      have n1 := i32_nat (x := x) (by omega)
      have n2 := i32_nat (x := y) (by omega)
      have m := @imax_le (aHull A).2 (aHull B).2
      have l1 := aUp_lt (m := x.toBitVec.toNat) (n := imax (aHull A).2 (aHull B).2) (by omega)
      have l2 := aUp_lt (m := y.toBitVec.toNat) (n := imax (aHull A).2 (aHull B).2) (by omega)
      have l3 := hz _ l1 l2
      unfold aUp at q2 ⊢
      have hlt : z.toBitVec.toNat < 2147483648 := by omega
      rw [i32_of hlt]
      exact aR1_in (by omega) (by omega)
    · exact aIn_top _
  · exact aIn_top _
