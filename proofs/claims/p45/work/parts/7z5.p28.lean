/-! every number of a post is told -/
def tA (A : pA) : Prop := (A.1 ≠ 0 → ∀ s, 1 ≤ s → s ≤ 3 → A.2.2.1 (1000 + s) ≠ []) ∧ (∀ k, k < cW A → A.2.2.1 (1000 + (61 + 4 * k)) ≠ [] ∧ A.2.2.1 (1000 + (62 + 4 * k)) ≠ []) ∧ (∀ k, k < cH A → ∀ s, s < 4 → A.2.2.1 (1000 + (107 + 4 * k + s)) ≠ []) ∧ (∀ k, k < cB A → ∀ s, s < 4 → A.2.2.1 (1000 + (127 + 4 * k + s)) ≠ []) ∧ (∀ k, k < cS A → A.2.2.1 (1000 + (160 + 3 * k)) ≠ [])
theorem xS_at {S : Nat → List Int32} {i j : Nat} {x : Int32} (e : j = i) : xS S i x (1000 + j) ≠ [] := by
  rw [upX, if_pos e]
  exact List.cons_ne_nil _ _
theorem xS_ne {S : Nat → List Int32} {i j : Nat} {x : Int32} (e : S (1000 + j) ≠ []) : xS S i x (1000 + j) ≠ [] := by
  rw [upX]
  split
  · exact List.cons_ne_nil _ _
  · exact e
section RD7
variable {y : Nat → Int32} {n p q : Nat} {A A' : pA}
theorem inr_tA {r : sR} {B : pA} {q' : Nat} (e : (Sum.inr (B, q') : sR) = .inr (A', q)) (k : tA B) : tA A' := by
  have := congrArg Prod.fst (Sum.inr.inj e)
  dsimp only at this
  rw [← this]
  exact k
theorem sHead_tA (hI : pI A) (k : tA A) (h0 : A.1 = 0) (e : sHead y n A p = .inr (A', q)) : tA A' := by
  have z := hI.2.1 h0
  unfold sHead at e
  split at e
  · cases e
  split at e
  · cases e
  split at e
  · cases e
  split at e
  · cases e
  refine inr_tA (r := .inl (0, 0)) e ⟨fun _ s h1 h2 => ?_, fun k hk => ?_, fun k hk => ?_, fun k hk => ?_, fun k hk => ?_⟩
  · have : s = 1 ∨ s = 2 ∨ s = 3 := by omega
    rcases this with e | e | e
    · exact xS_ne (xS_ne (xS_at e))
    · exact xS_ne (xS_at e)
    · exact xS_at e
  · have hk : k < cW A := hk
    omega
  · have hk : k < cH A := hk
    omega
  · have hk : k < cB A := hk
    omega
  · have hk : k < cS A := hk
    omega
theorem sIsland_tA (k : tA A) (hi : cI A < 7) (e : sIsland y n A p = .inr (A', q)) : tA A' := by
  obtain ⟨k1, k2, k3, k4, k5⟩ := k
  unfold sIsland at e
  split at e
  · cases e
  split at e
  · split at e
    · split at e
      · cases e
      · refine inr_tA (r := .inl (0, 0)) e ⟨fun h0 s h1 h2 => ?_, fun k hk => ?_, fun k hk s hs => ?_, fun k hk s hs => ?_, fun k hk => ?_⟩
        · show upA A.2.2.1 (cI A) _ (1000 + s) ≠ []
          rw [upI_hi (by omega)]
          exact k1 h0 s h1 h2
        · show upA A.2.2.1 (cI A) _ (1000 + (61 + 4 * k)) ≠ [] ∧ upA A.2.2.1 (cI A) _ (1000 + (62 + 4 * k)) ≠ []
          rw [upI_hi (by omega), upI_hi (by omega)]
          exact k2 k hk
        · show upA A.2.2.1 (cI A) _ (1000 + (107 + 4 * k + s)) ≠ []
          rw [upI_hi (by omega)]
          exact k3 k hk s hs
        · show upA A.2.2.1 (cI A) _ (1000 + (127 + 4 * k + s)) ≠ []
          rw [upI_hi (by omega)]
          exact k4 k hk s hs
        · show upA A.2.2.1 (cI A) _ (1000 + (160 + 3 * k)) ≠ []
          rw [upI_hi (by omega)]
          exact k5 k hk
    · cases e
  · cases e
theorem sWay_tA (k : tA A) (e : sWay y n A p = .inr (A', q)) : tA A' := by
  obtain ⟨k1, k2, k3, k4, k5⟩ := k
  unfold sWay at e
  split at e
  · cases e
  split at e
  · cases e
  split at e
  · cases e
  split at e
  · cases e
  split at e
  · cases e
  refine inr_tA (r := .inl (0, 0)) e ⟨fun h0 s h1 h2 => xS_ne (xS_ne (k1 h0 s h1 h2)), fun k hk => ?_, fun k hk s hs => xS_ne (xS_ne (k3 k hk s hs)), fun k hk s hs => xS_ne (xS_ne (k4 k hk s hs)), fun k hk => xS_ne (xS_ne (k5 k hk))⟩
  have hk : k < cW A + 1 := hk
  by_cases z : k = cW A
  · exact ⟨xS_ne (xS_at (by rw [z])), xS_at (by rw [z])⟩
  · have := k2 k (by omega)
    exact ⟨xS_ne (xS_ne this.1), xS_ne (xS_ne this.2)⟩
theorem x4_ne {S : Nat → List Int32} {b j : Nat} {x0 x1 x2 x3 : Int32} (e : S (1000 + j) ≠ [] ∨ (b ≤ j ∧ j < b + 4)) : xS (xS (xS (xS S b x0) (1 + b) x1) (2 + b) x2) (3 + b) x3 (1000 + j) ≠ [] := by
  rcases e with e | e
  · exact xS_ne (xS_ne (xS_ne (xS_ne e)))
  · have : j = b ∨ j = 1 + b ∨ j = 2 + b ∨ j = 3 + b := by omega
    rcases this with z | z | z | z
    · exact xS_ne (xS_ne (xS_ne (xS_at z)))
    · exact xS_ne (xS_ne (xS_at z))
    · exact xS_ne (xS_at z)
    · exact xS_at z
theorem sWhale_tA (k : tA A) (e : sWhale y n A p = .inr (A', q)) : tA A' := by
  obtain ⟨k1, k2, k3, k4, k5⟩ := k
  unfold sWhale at e
  split at e
  · cases e
  split at e
  · split at e
    · cases e
    split at e
    · cases e
    split at e
    · cases e
    split at e
    · cases e
    have e1 : 108 + 4 * cH A = 1 + (107 + 4 * cH A) := by omega
    have e2 : 109 + 4 * cH A = 2 + (107 + 4 * cH A) := by omega
    have e3 : 110 + 4 * cH A = 3 + (107 + 4 * cH A) := by omega
    rw [e1, e2, e3] at e
    refine inr_tA (r := .inl (0, 0)) e ⟨fun h0 s h1 h2 => x4_ne (.inl (k1 h0 s h1 h2)), fun k hk => ⟨x4_ne (.inl (k2 k hk).1), x4_ne (.inl (k2 k hk).2)⟩, fun k hk s hs => ?_, fun k hk s hs => x4_ne (.inl (k4 k hk s hs)), fun k hk => x4_ne (.inl (k5 k hk))⟩
    have hk : k < cH A + 1 := hk
    by_cases z : k = cH A
    · exact x4_ne (.inr (by omega))
    · exact x4_ne (.inl (k3 k (by omega) s hs))
  · cases e
theorem sBox_tA (k : tA A) (e : sBox y n A p = .inr (A', q)) : tA A' := by
  obtain ⟨k1, k2, k3, k4, k5⟩ := k
  unfold sBox at e
  split at e
  · cases e
  split at e
  · cases e
  split at e
  · cases e
  split at e
  · cases e
  split at e
  · cases e
  split at e
  · cases e
  split at e
  · cases e
  have e1 : 128 + 4 * cB A = 1 + (127 + 4 * cB A) := by omega
  have e2 : 129 + 4 * cB A = 2 + (127 + 4 * cB A) := by omega
  have e3 : 130 + 4 * cB A = 3 + (127 + 4 * cB A) := by omega
  rw [e1, e2, e3] at e
  refine inr_tA (r := .inl (0, 0)) e ⟨fun h0 s h1 h2 => x4_ne (.inl (k1 h0 s h1 h2)), fun k hk => ⟨x4_ne (.inl (k2 k hk).1), x4_ne (.inl (k2 k hk).2)⟩, fun k hk s hs => x4_ne (.inl (k3 k hk s hs)), fun k hk s hs => ?_, fun k hk => x4_ne (.inl (k5 k hk))⟩
  have hk : k < cB A + 1 := hk
  by_cases z : k = cB A
  · exact x4_ne (.inr (by omega))
  · exact x4_ne (.inl (k4 k (by omega) s hs))
theorem sSpout_tA (k : tA A) (e : sSpout y n A p = .inr (A', q)) : tA A' := by
  obtain ⟨k1, k2, k3, k4, k5⟩ := k
  unfold sSpout at e
  split at e
  · cases e
  split at e
  · cases e
  split at e
  · cases e
  refine inr_tA (r := .inl (0, 0)) e ⟨fun h0 s h1 h2 => xS_ne (k1 h0 s h1 h2), fun k hk => ⟨xS_ne (k2 k hk).1, xS_ne (k2 k hk).2⟩, fun k hk s hs => xS_ne (k3 k hk s hs), fun k hk s hs => xS_ne (k4 k hk s hs), fun k hk => ?_⟩
  have hk : k < cS A + 1 := hk
  by_cases z : k = cS A
  · exact xS_at (by rw [z])
  · exact xS_ne (k5 k (by omega))
theorem sLine_tA (hI : pI A) (k : tA A) (e : sLine y n A p = .inr (A', q)) : tA A' := by
  unfold sLine at e
  split at e
  · split at e
    · next h0 => exact sHead_tA hI k h0 e
    · cases e
  split at e
  · split at e
    · cases e
    split at e
    · next h7 => exact sIsland_tA k h7 e
    · cases e
  split at e
  · split at e
    · cases e
    split at e
    · exact sWay_tA k e
    · cases e
  split at e
  · split at e
    · cases e
    split at e
    · exact sWhale_tA k e
    · cases e
  split at e
  · split at e
    · cases e
    split at e
    · exact sBox_tA k e
    · cases e
  split at e
  · split at e
    · cases e
    split at e
    · exact sSpout_tA k e
    · cases e
  · cases e
theorem sText_tA : ∀ (f : Nat) (A : pA) (p : Nat) {B : pA}, pI A → tA A → p ≤ n → sText y n f A p = .inr B → tA B := by
  intro f
  induction f with
  | zero => intro A p B _ _ _ e; cases e
  | succ f ih =>
    intro A p B hI k hp e
    rw [sText_fin] at e
    cases er : sLine y n A p with
    | inl z =>
      rw [er] at e
      cases e
    | inr z =>
      obtain ⟨A', q'⟩ := z
      rw [er] at e
      have k' := sLine_tA hI k er
      have hI' := sLine_pI hI hp er
      have ge := sLine_ge hp er
      unfold sFin at e
      dsimp only at e
      split at e
      · split at e
        · cases e
        · cases e
          exact k'
      · split at e
        · next t59 => exact ih A' _ hI' k' (t59_gt (y := y) ge.2 t59).2 e
        · cases e
theorem tA_0 : tA pA0 := ⟨fun z => absurd rfl z, fun k hk => absurd hk (Nat.not_lt_zero k), fun k hk => absurd hk (Nat.not_lt_zero k), fun k hk => absurd hk (Nat.not_lt_zero k), fun k hk => absurd hk (Nat.not_lt_zero k)⟩
end RD7
