/-! a line keeps what is known of what was told -/
section RD6
variable {R0 : Nat → Nat → Int32} {y : Nat → Int32} {n p q : Nat} {A A' : pA} {nm : Nat → List Int32}
theorem sNew_nm {i : Nat} (hn : nmI nm) (hi : i < 20) (hp : p ≤ n) (e : sNew y n nm p = .inr q) : nmI (upA nm i (tW y n p)) := by
  unfold sNew at e
  split at e
  · next z =>
    split at e
    · cases e
    · next w =>
      exact hn.new hi hp (isNb_n.mp z).1 (by
        cases h : nFind nm (tW y n p) with
        | none => rfl
        | some x => rw [h] at w; exact absurd rfl w)
  · cases e
theorem inr_pI {B : pA} {r : Nat} (e : (.inr (B, r) : sR) = .inr (A', q)) (h : pI B) : pI A' := by
  have e := congrArg Prod.fst (Sum.inr.inj e)
  dsimp only at e
  rw [← e]
  exact h
theorem sHead_pI (hI : pI A) (h0 : A.1 = 0) (e : sHead y n A p = .inr (A', q)) : pI A' := by
  unfold sHead at e
  split at e
  · cases e
  next t p1 e1 =>
  split at e
  · cases e
  next x2 p2 e2 =>
  split at e
  · cases e
  next x3 p3 e3 =>
  split at e
  · cases e
  next x4 p4 e4 =>
  unfold sWN at e1
  split at e1
  · cases e1
  · exact inr_pI e ((hI.head (sNum_24 e1) h0).songs (fun i hi => xS3 hi))
theorem sIsland_pI (hI : pI A) (h1 : A.1 ≠ 0) (h7 : cI A < 7) (hp : p ≤ n) (e : sIsland y n A p = .inr (A', q)) : pI A' := by
  unfold sIsland at e
  split at e
  · cases e
  next p1 e1 =>
  have a1 := sNew_ge hp e1
  split at e
  · next t2 =>
    split at e
    · next ok =>
      split at e
      · cases e
      · exact inr_pI e (hI.landed h1 h7 (sNew_nm hI.2.2.2.2.1 (by omega) hp e1) (sNew_w hp e1) ⟨ok, (tW_ok a1.2 t2).1⟩)
    · cases e
  · cases e
theorem sWay_pI (hI : pI A) (h1 : A.1 ≠ 0) (h7 : cW A < 12) (e : sWay y n A p = .inr (A', q)) : pI A' := by
  unfold sWay at e
  split at e
  · cases e
  next x1 p1 e1 =>
  split at e
  · cases e
  next x2 p2 e2 =>
  split at e
  · cases e
  split at e
  · cases e
  next x3 p3 e3 =>
  split at e
  · cases e
  next x4 p4 e4 =>
  exact inr_pI e (hI.wayed (fun i hi => xS2 hi) h1 h7 (sOld_6 e1) (sOld_6 e2))
theorem sWhale_pI (hI : pI A) (h1 : A.1 ≠ 0) (h7 : cH A < 5) (hp : p ≤ n) (e : sWhale y n A p = .inr (A', q)) : pI A' := by
  unfold sWhale at e
  split at e
  · cases e
  next p1 e1 =>
  split at e
  · split at e
    · cases e
    next p2 e2 =>
    split at e
    · cases e
    next x3 p3 e3 =>
    split at e
    · cases e
    next x4 p4 e4 =>
    split at e
    · cases e
    next x5 p5 e5 =>
    exact inr_pI e (hI.whaled (fun i hi => xS4 hi) h1 h7 (sNew_nm hI.2.2.2.2.1 (by omega) hp e1) (sNew_w hp e1))
  · cases e
theorem sBox_pI (hI : pI A) (h1 : A.1 ≠ 0) (h7 : cB A < 8) (hp : p ≤ n) (e : sBox y n A p = .inr (A', q)) : pI A' := by
  unfold sBox at e
  split at e
  · cases e
  next p1 e1 =>
  split at e
  · cases e
  split at e
  · cases e
  split at e
  · cases e
  split at e
  · cases e
  split at e
  · cases e
  split at e
  · cases e
  exact inr_pI e (hI.boxed (fun i hi => xS4 hi) h1 h7 (sNew_nm hI.2.2.2.2.1 (by omega) hp e1) (sNew_w hp e1))
theorem sSpout_pI (hI : pI A) (h1 : A.1 ≠ 0) (h7 : cS A < 8) (e : sSpout y n A p = .inr (A', q)) : pI A' := by
  unfold sSpout at e
  split at e
  · cases e
  next x1 p1 e1 =>
  split at e
  · cases e
  next x2 p2 e2 =>
  split at e
  · cases e
  exact inr_pI e (hI.spouted (fun i hi => xS1 hi) h1 h7 (sOld_11 e1))
theorem sLine_pI (hI : pI A) (hp : p ≤ n) (e : sLine y n A p = .inr (A', q)) : pI A' := by
  have a := tE_ge (y := y) hp
  unfold sLine at e
  split at e
  · split at e
    · next h0 => exact sHead_pI hI h0 e
    · cases e
  split at e
  · split at e
    · cases e
    next h1 =>
    split at e
    · next h7 => exact sIsland_pI hI h1 h7 a.2 e
    · cases e
  split at e
  · split at e
    · cases e
    next h1 =>
    split at e
    · next h7 => exact sWay_pI hI h1 h7 e
    · cases e
  split at e
  · split at e
    · cases e
    next h1 =>
    split at e
    · next h7 => exact sWhale_pI hI h1 h7 a.2 e
    · cases e
  split at e
  · split at e
    · cases e
    next h1 =>
    split at e
    · next h7 => exact sBox_pI hI h1 h7 a.2 e
    · cases e
  split at e
  · split at e
    · cases e
    next h1 =>
    split at e
    · next h7 => exact sSpout_pI hI h1 h7 e
    · cases e
  · cases e
end RD6
