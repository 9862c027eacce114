/-! ways and days: arrays that are sound and closed are one -/
/-- ways: how many, their ends, which may be gone, when one is there -/
abbrev gW : Type := Nat × (Nat → Nat) × (Nat → Nat) × (Nat → Bool) × (Nat → Nat → Nat)
def gE (G : gW) (k i j : Nat) : Prop := k < G.1 ∧ G.2.2.2.1 k = true ∧ ((G.2.1 k = i ∧ G.2.2.1 k = j) ∨ (G.2.2.1 k = i ∧ G.2.1 k = j))
def gR (G : gW) : Prop := (∀ k d e, d ≤ e → G.2.2.2.2 k d ≤ G.2.2.2.2 k e) ∧ ∀ k d, d < G.2.2.2.2 k d
/-- walks of at most so many ways -/
def gN (G : gW) (fr dy : Nat) : Nat → Nat → Nat → Prop
  | 0, i, d => i = fr ∧ d = dy
  | t + 1, j, e => gN G fr dy t j e ∨ ∃ i d k, gN G fr dy t i d ∧ gE G k i j ∧ e = G.2.2.2.2 k d
abbrev gX : Type := Nat → Option Nat
/-- what was found is a walk's; each way's end is no later than by that way; the start -/
def gS (G : gW) (fr dy : Nat) (X : gX) : Prop := ∀ i d, X i = some d → ∃ t, gN G fr dy t i d
def gC (G : gW) (X : gX) : Prop := ∀ k i j d, X i = some d → gE G k i j → ∃ e, X j = some e ∧ e ≤ G.2.2.2.2 k d
section GWD
variable {G : gW} {fr dy : Nat} {X Y : gX}
theorem gN_le (hG : gR G) (hC : gC G X) (h0 : ∃ d, X fr = some d ∧ d ≤ dy) : ∀ t i d, gN G fr dy t i d → ∃ e, X i = some e ∧ e ≤ d
  | 0, i, d, h => by
    obtain ⟨h1, h2⟩ := h
    rw [h1, h2]
    exact h0
  | t + 1, j, e, h => by
    rcases h with h | ⟨i, d, k, h, he, rfl⟩
    · exact gN_le hG hC h0 t j e h
    · obtain ⟨d', e1, l1⟩ := gN_le hG hC h0 t i d h
      obtain ⟨e', e2, l2⟩ := hC k i j d' e1 he
      exact ⟨e', e2, Nat.le_trans l2 (hG.1 k d' d l1)⟩
theorem gX_le (hG : gR G) (hC : gC G X) (h0 : ∃ d, X fr = some d ∧ d ≤ dy) (hS : gS G fr dy Y) {i d : Nat} (hi : Y i = some d) : ∃ e, X i = some e ∧ e ≤ d := by
  obtain ⟨t, ht⟩ := hS i d hi
  exact gN_le hG hC h0 t i d ht
/-- two arrays that are sound and closed are one -/
theorem gX_eq (hG : gR G) (cX : gC G X) (x0 : ∃ d, X fr = some d ∧ d ≤ dy) (sX : gS G fr dy X) (cY : gC G Y) (y0 : ∃ d, Y fr = some d ∧ d ≤ dy) (sY : gS G fr dy Y) : X = Y := by
  funext i
  cases ex : X i with
  | none =>
    cases ey : Y i with
    | none => rfl
    | some d =>
      obtain ⟨e, e1, -⟩ := gX_le hG cX x0 sY ey
      rw [ex] at e1
      cases e1
  | some d =>
    obtain ⟨e, e1, l1⟩ := gX_le hG cY y0 sX ex
    obtain ⟨d', e2, l2⟩ := gX_le hG cX x0 sY e1
    rw [ex] at e2
    cases e2
    rw [e1, Nat.le_antisymm l1 l2]
/-! the class: a way is tried, all ways are tried -/
def gGo (G : gW) (k i j : Nat) (X : gX) : gX := match X i with
  | none => X
  | some d => match X j with
    | none => upA X j (some (G.2.2.2.2 k d))
    | some e => if G.2.2.2.2 k d < e then upA X j (some (G.2.2.2.2 k d)) else X
/-- no later anywhere -/
def gL (X Y : gX) : Prop := ∀ i d, X i = some d → ∃ e, Y i = some e ∧ e ≤ d
theorem gL.rf : gL X X := fun _ d h => ⟨d, h, Nat.le_refl d⟩
theorem gL.tr {Z : gX} (a : gL X Y) (b : gL Y Z) : gL X Z := fun i d h => by
  obtain ⟨e, e1, l1⟩ := a i d h
  obtain ⟨f, e2, l2⟩ := b i e e1
  exact ⟨f, e2, Nat.le_trans l2 l1⟩
theorem gGo_le {k i j : Nat} : gL X (gGo G k i j X) := by
  unfold gGo
  split
  · exact gL.rf
  · next d hd =>
    split
    · next hj =>
      intro a e ha
      refine ⟨e, ?_, Nat.le_refl e⟩
      rw [upA_at, if_neg (fun z => by rw [z, hj] at ha; cases ha)]
      exact ha
    · next e he =>
      split
      · next lt =>
        intro a f ha
        by_cases z : a = j
        · rw [z, he] at ha
          cases ha
          exact ⟨_, by rw [z, upA_at, if_pos rfl], Nat.le_of_lt lt⟩
        · exact ⟨f, by rw [upA_at, if_neg z]; exact ha, Nat.le_refl f⟩
      · exact gL.rf
theorem gGo_by {k i j d : Nat} (hd : X i = some d) : ∃ e, gGo G k i j X j = some e ∧ e ≤ G.2.2.2.2 k d := by
  unfold gGo
  rw [hd]
  dsimp only
  cases hj : X j with
  | none =>
    dsimp only
    exact ⟨_, by rw [upA_at, if_pos rfl], Nat.le_refl _⟩
  | some e =>
    dsimp only
    by_cases lt : G.2.2.2.2 k d < e
    · rw [if_pos lt]
      exact ⟨_, by rw [upA_at, if_pos rfl], Nat.le_refl _⟩
    · rw [if_neg lt]
      exact ⟨e, hj, by omega⟩
theorem gGo_S {k i j : Nat} (hS : gS G fr dy X) (hE : gE G k i j) : gS G fr dy (gGo G k i j X) := by
  have key : ∀ d, X i = some d → gS G fr dy (upA X j (some (G.2.2.2.2 k d))) := by
    intro d hd a e ha
    rw [upA_at] at ha
    split at ha
    · next z =>
      cases ha
      obtain ⟨t, ht⟩ := hS i d hd
      exact ⟨t + 1, .inr ⟨i, d, k, ht, by rw [z]; exact hE, rfl⟩⟩
    · exact hS a e ha
  unfold gGo
  split
  · exact hS
  · next d hd =>
    split
    · exact key d hd
    · split
      · exact key d hd
      · exact hS
/-- a way, there and back -/
def gSt (G : gW) (k : Nat) (X : gX) : gX := if G.2.2.2.1 k = true then gGo G k (G.2.2.1 k) (G.2.1 k) (gGo G k (G.2.1 k) (G.2.2.1 k) X) else X
def gTn (G : gW) : Nat → gX → gX
  | 0, X => X
  | k + 1, X => gSt G k (gTn G k X)
def gIt (G : gW) : Nat → gX → gX
  | 0, X => X
  | t + 1, X => gTn G G.1 (gIt G t X)
theorem gSt_le {k : Nat} : gL X (gSt G k X) := by
  unfold gSt
  split
  · exact gGo_le.tr gGo_le
  · exact gL.rf
theorem gTn_le : ∀ k, gL X (gTn G k X)
  | 0 => gL.rf
  | k + 1 => (gTn_le k).tr gSt_le
theorem gSt_S {k : Nat} (hk : k < G.1) (hS : gS G fr dy X) : gS G fr dy (gSt G k X) := by
  unfold gSt
  split
  · next z => exact gGo_S (gGo_S hS ⟨hk, z, .inl ⟨rfl, rfl⟩⟩) ⟨hk, z, .inr ⟨rfl, rfl⟩⟩
  · exact hS
theorem gTn_S (hS : gS G fr dy X) : ∀ k, k ≤ G.1 → gS G fr dy (gTn G k X)
  | 0, _ => hS
  | k + 1, h => gSt_S (by omega) (gTn_S hS k (by omega))
theorem gSt_by (hG : gR G) {k i j d : Nat} (hE : gE G k i j) (hd : X i = some d) : ∃ e, gSt G k X j = some e ∧ e ≤ G.2.2.2.2 k d := by
  obtain ⟨hk, hok, hE⟩ := hE
  unfold gSt
  rw [if_pos hok]
  rcases hE with ⟨e1, e2⟩ | ⟨e1, e2⟩
  · rw [e1, e2]
    obtain ⟨e, h1, l1⟩ := gGo_by (G := G) (k := k) (j := j) hd
    obtain ⟨f, h2, l2⟩ := gGo_le (G := G) (k := k) (i := j) (j := i) j e h1
    exact ⟨f, h2, Nat.le_trans l2 l1⟩
  · rw [e1, e2]
    obtain ⟨d', h1, l1⟩ := gGo_le (G := G) (X := X) (k := k) (i := j) (j := i) i d hd
    obtain ⟨f, h2, l2⟩ := gGo_by (G := G) (k := k) (j := j) h1
    exact ⟨f, h2, Nat.le_trans l2 (hG.1 k d' d l1)⟩
theorem gTn_by (hG : gR G) {k i j d : Nat} (hE : gE G k i j) (hd : X i = some d) : ∀ m, k < m → ∃ e, gTn G m X j = some e ∧ e ≤ G.2.2.2.2 k d
  | 0, h => absurd h (Nat.not_lt_zero k)
  | m + 1, h => by
    by_cases z : k = m
    · subst z
      obtain ⟨d', h1, l1⟩ := gTn_le (G := G) (X := X) k i d hd
      obtain ⟨e, h2, l2⟩ := gSt_by hG hE h1
      exact ⟨e, h2, Nat.le_trans l2 (hG.1 k d' d l1)⟩
    · obtain ⟨e, h1, l1⟩ := gTn_by hG hE hd m (by omega)
      obtain ⟨f, h2, l2⟩ := gSt_le (G := G) (k := m) j e h1
      exact ⟨f, h2, Nat.le_trans l2 l1⟩
theorem gIt_S (hS : gS G fr dy X) : ∀ t, gS G fr dy (gIt G t X)
  | 0 => hS
  | t + 1 => gTn_S (gIt_S hS t) _ (Nat.le_refl _)
/-- an order in which each island comes by an earlier one: behind t turns the first t + 1 are right -/
theorem gIt_ord (hG : gR G) {D : gX} {s : Nat → Nat} {r : Nat} (h0 : s 0 = fr) (hD0 : ∃ d, D fr = some d ∧ ∃ e, X fr = some e ∧ e ≤ d) (hp : ∀ q, 0 < q → q < r → ∃ q' k d, q' < q ∧ D (s q') = some d ∧ gE G k (s q') (s q) ∧ D (s q) = some (G.2.2.2.2 k d)) : ∀ t q, q ≤ t → q < r → ∃ d e, D (s q) = some d ∧ gIt G t X (s q) = some e ∧ e ≤ d := by
  intro t
  induction t with
  | zero =>
    intro q hq hr
    have : q = 0 := by omega
    subst this
    obtain ⟨d, h1, e, h2, l⟩ := hD0
    exact ⟨d, e, by rw [h0]; exact h1, by rw [h0]; exact h2, l⟩
  | succ t ih =>
    intro q hq hr
    by_cases z : q = 0
    · subst z
      obtain ⟨d, e, h1, h2, l⟩ := ih 0 (Nat.zero_le _) hr
      obtain ⟨f, h3, l2⟩ := gTn_le (G := G) (X := gIt G t X) G.1 (s 0) e h2
      exact ⟨d, f, h1, h3, Nat.le_trans l2 l⟩
    · obtain ⟨q', k, d, h1, h2, h3, h4⟩ := hp q (by omega) hr
      obtain ⟨d2, e, g1, g2, l⟩ := ih q' (by omega) (by omega)
      rw [h2] at g1
      cases g1
      obtain ⟨f, h5, l2⟩ := gTn_by hG h3 g2 G.1 h3.1
      exact ⟨_, f, h4, h5, Nat.le_trans l2 (hG.1 k e d l)⟩
end GWD
/-! the reference: the nearest island that isn't done, again and again -/
def dPk (X : gX) (O : Nat → Bool) : Nat → Option Nat
  | 0 => none
  | i + 1 => match dPk X O i with
    | none => if O i = false then (match X i with | none => none | some _ => some i) else none
    | some a => if O i = false then (match X i, X a with | some d, some e => if d < e then some i else some a | _, _ => some a) else some a
def dSt (G : gW) (a k : Nat) (X : gX) : gX := if G.2.2.2.1 k = true then (if G.2.1 k = a then gGo G k a (G.2.2.1 k) X else if G.2.2.1 k = a then gGo G k a (G.2.1 k) X else X) else X
def dRl (G : gW) (a : Nat) : Nat → gX → gX
  | 0, X => X
  | k + 1, X => dSt G a k (dRl G a k X)
def dLp (G : gW) (n : Nat) : Nat → gX → (Nat → Bool) → gX
  | 0, X, _ => X
  | f + 1, X, O => match dPk X O n with
    | none => X
    | some a => dLp G n f (dRl G a G.1 X) (upA O a true)
section DIJ
variable {G : gW} {fr dy n : Nat} {X : gX} {O : Nat → Bool}
theorem dPk_no : ∀ n, dPk X O n = none → ∀ i, i < n → O i = false → X i = none
  | 0, _, i, hi, _ => absurd hi (Nat.not_lt_zero i)
  | n + 1, h, i, hi, ho => by
    unfold dPk at h
    split at h
    · next e =>
      by_cases z : i = n
      · subst z
        rw [if_pos ho] at h
        split at h
        · next q => exact q
        · cases h
      · exact dPk_no n e i (by omega) ho
    · next a e =>
      split at h
      · split at h
        · split at h <;> cases h
        · cases h
      · cases h
theorem dPk_at : ∀ n a, dPk X O n = some a → a < n ∧ O a = false ∧ ∃ d, X a = some d ∧ ∀ i, i < n → O i = false → ∀ e, X i = some e → d ≤ e
  | 0, a, h => by cases h
  | n + 1, a, h => by
    unfold dPk at h
    split at h
    · next e =>
      split at h
      · next ho =>
        split at h
        · cases h
        · next d hd =>
          cases h
          refine ⟨by omega, ho, d, hd, fun i hi hio e' he' => ?_⟩
          by_cases z : i = n
          · subst z
            rw [hd] at he'
            cases he'
            exact Nat.le_refl _
          · rw [dPk_no n e i (by omega) hio] at he'
            cases he'
      · cases h
    · next b e =>
      obtain ⟨b1, b2, d, b3, b4⟩ := dPk_at n b e
      have old : a = b → (∀ e', O n = false → X n = some e' → d ≤ e') → a < n + 1 ∧ O a = false ∧ ∃ d, X a = some d ∧ ∀ i, i < n + 1 → O i = false → ∀ e, X i = some e → d ≤ e := by
        intro ea hl
        subst ea
        refine ⟨by omega, b2, d, b3, fun i hi hio e' he' => ?_⟩
        by_cases z : i = n
        · subst z
          exact hl e' hio he'
        · exact b4 i (by omega) hio e' he'
      split at h
      · next ho =>
        rw [b3] at h
        split at h
        · next d1 e1 hd1 he1 =>
          cases he1
          split at h
          · next lt =>
            cases h
            refine ⟨by omega, ho, d1, hd1, fun i hi hio e' he' => ?_⟩
            by_cases z : i = n
            · subst z
              rw [hd1] at he'
              cases he'
              exact Nat.le_refl _
            · exact Nat.le_trans (Nat.le_of_lt lt) (b4 i (by omega) hio e' he')
          · next lt =>
            cases h
            refine old rfl (fun e' _ he' => ?_)
            rw [hd1] at he'
            cases he'
            omega
        · next hno =>
          cases h
          refine old rfl (fun e' _ he' => ?_)
          exact absurd rfl (hno e' d he')
      · next ho =>
        cases h
        exact old rfl (fun e' hio _ => absurd hio ho)
/-- what trying the ways of one island leaves alone: whatever is no later than it -/
theorem gGo_old {k i j a d e : Nat} (hG : gR G) (hi : X i = some d) (ha : X a = some e) (hl : e ≤ d) : gGo G k i j X a = some e := by
  unfold gGo
  rw [hi]
  dsimp only
  have lt := hG.2 k d
  cases hj : X j with
  | none =>
    dsimp only
    rw [upA_at, if_neg (fun z => by rw [z, hj] at ha; cases ha)]
    exact ha
  | some f =>
    dsimp only
    by_cases l2 : G.2.2.2.2 k d < f
    · rw [if_pos l2, upA_at, if_neg (fun z => by
        rw [z, hj] at ha
        cases ha
        omega)]
      exact ha
    · rw [if_neg l2]
      exact ha
theorem dSt_old {k a b d e : Nat} (hG : gR G) (hi : X a = some d) (hb : X b = some e) (hl : e ≤ d) : dSt G a k X b = some e := by
  unfold dSt
  split
  · split
    · exact gGo_old hG hi hb hl
    · split
      · exact gGo_old hG hi hb hl
      · exact hb
  · exact hb
theorem dRl_old {a b d e : Nat} (hG : gR G) (hi : X a = some d) (hb : X b = some e) (hl : e ≤ d) : ∀ k, dRl G a k X b = some e
  | 0 => hb
  | k + 1 => dSt_old hG (dRl_old hG hi hi (Nat.le_refl d) k) (dRl_old hG hi hb hl k) hl
theorem dSt_le {k a : Nat} : gL X (dSt G a k X) := by
  unfold dSt
  split
  · split
    · exact gGo_le
    · split
      · exact gGo_le
      · exact gL.rf
  · exact gL.rf
theorem dRl_le {a : Nat} : ∀ k, gL X (dRl G a k X)
  | 0 => gL.rf
  | k + 1 => (dRl_le k).tr dSt_le
theorem dSt_by {k a j d : Nat} (hE : gE G k a j) (hi : X a = some d) (hne : G.2.1 k ≠ G.2.2.1 k) : ∃ e, dSt G a k X j = some e ∧ e ≤ G.2.2.2.2 k d := by
  obtain ⟨hk, hok, hE⟩ := hE
  unfold dSt
  rw [if_pos hok]
  rcases hE with ⟨e1, e2⟩ | ⟨e1, e2⟩
  · rw [if_pos e1, e2]
    exact gGo_by hi
  · rw [if_neg (fun z => hne (z.trans e1.symm)), if_pos e1, e2]
    exact gGo_by hi
theorem dRl_by (hG : gR G) {k a j d : Nat} (hE : gE G k a j) (hi : X a = some d) (hne : G.2.1 k ≠ G.2.2.1 k) : ∀ m, k < m → ∃ e, dRl G a m X j = some e ∧ e ≤ G.2.2.2.2 k d
  | 0, h => absurd h (Nat.not_lt_zero k)
  | m + 1, h => by
    by_cases z : k = m
    · subst z
      exact dSt_by hE (dRl_old hG hi hi (Nat.le_refl d) k) hne
    · obtain ⟨e, h1, l1⟩ := dRl_by hG hE hi hne m (by omega)
      obtain ⟨f, h2, l2⟩ := dSt_le (G := G) (a := a) (k := m) j e h1
      exact ⟨f, h2, Nat.le_trans l2 l1⟩
/-- where a value comes from -/
theorem gGo_fr {k i j a d e : Nat} (hi : X i = some d) (h : gGo G k i j X a = some e) : X a = some e ∨ (a = j ∧ e = G.2.2.2.2 k d) := by
  have up : upA X j (some (G.2.2.2.2 k d)) a = some e → X a = some e ∨ (a = j ∧ e = G.2.2.2.2 k d) := fun h => by
    rw [upA_at] at h
    by_cases z : a = j
    · rw [if_pos z] at h
      cases h
      exact .inr ⟨z, rfl⟩
    · rw [if_neg z] at h
      exact .inl h
  unfold gGo at h
  rw [hi] at h
  dsimp only at h
  cases hj : X j with
  | none =>
    rw [hj] at h
    exact up h
  | some f =>
    rw [hj] at h
    dsimp only at h
    by_cases l2 : G.2.2.2.2 k d < f
    · rw [if_pos l2] at h
      exact up h
    · rw [if_neg l2] at h
      exact .inl h
theorem dSt_fr {k a b d e : Nat} (hk : k < G.1) (hi : X a = some d) (h : dSt G a k X b = some e) : X b = some e ∨ (gE G k a b ∧ e = G.2.2.2.2 k d) := by
  unfold dSt at h
  split at h
  · next ok =>
    split at h
    · next e1 => exact (gGo_fr hi h).imp id (fun z => ⟨⟨hk, ok, .inl ⟨e1, z.1.symm⟩⟩, z.2⟩)
    · split at h
      · next e1 => exact (gGo_fr hi h).imp id (fun z => ⟨⟨hk, ok, .inr ⟨e1, z.1.symm⟩⟩, z.2⟩)
      · exact .inl h
  · exact .inl h
theorem dRl_fr (hG : gR G) {a b d e : Nat} (hi : X a = some d) : ∀ m, m ≤ G.1 → dRl G a m X b = some e → X b = some e ∨ ∃ k, gE G k a b ∧ e = G.2.2.2.2 k d
  | 0, _, h => .inl h
  | m + 1, hm, h => by
    rcases dSt_fr (by omega) (dRl_old hG hi hi (Nat.le_refl d) m) h with z | z
    · exact dRl_fr hG hi m (by omega) z
    · exact .inr ⟨m, z⟩
end DIJ
/-! both ways of finding the days are one -/
def dU (O : Nat → Bool) : Nat → Nat
  | 0 => 0
  | i + 1 => (if O i = false then 1 else 0) + dU O i
/-- what holds between two islands: s, the islands that are done, in their order; r, how many -/
def dJ (G : gW) (fr dy n : Nat) (X : gX) (O : Nat → Bool) (s : Nat → Nat) (r : Nat) : Prop :=
  (∀ i, O i = true ↔ ∃ q, q < r ∧ s q = i) ∧
  (∀ q, q < r → ∃ d, X (s q) = some d) ∧
  (∀ q i d e, q < r → O i = false → X (s q) = some d → X i = some e → d ≤ e) ∧
  (∀ q k j d, q < r → X (s q) = some d → gE G k (s q) j → ∃ e, X j = some e ∧ e ≤ G.2.2.2.2 k d) ∧
  (∀ i e, O i = false → X i = some e → (i = fr ∧ r = 0) ∨ ∃ q k d, q < r ∧ X (s q) = some d ∧ gE G k (s q) i ∧ e = G.2.2.2.2 k d) ∧
  (∀ q, 0 < q → q < r → ∃ q' k d, q' < q ∧ X (s q') = some d ∧ gE G k (s q') (s q) ∧ X (s q) = some (G.2.2.2.2 k d)) ∧
  (X fr = some dy ∧ (0 < r → s 0 = fr)) ∧
  (∀ i d, X i = some d → i < n) ∧ gS G fr dy X
section DIK
variable {G : gW} {fr dy n : Nat} {X : gX} {O : Nat → Bool} {s : Nat → Nat} {r : Nat}
theorem dU_hi {a : Nat} : ∀ n, n ≤ a → dU (upA O a true) n = dU O n
  | 0, _ => rfl
  | n + 1, h => by
    show (if upA O a true n = false then 1 else 0) + dU (upA O a true) n = (if O n = false then 1 else 0) + dU O n
    have e : upA O a true n = O n := by rw [upA_at, if_neg (by omega)]
    rw [dU_hi n (by omega), e]
theorem dU_up {a : Nat} (ho : O a = false) : ∀ n, a < n → dU (upA O a true) n + 1 = dU O n
  | 0, h => absurd h (Nat.not_lt_zero a)
  | n + 1, h => by
    show (if upA O a true n = false then 1 else 0) + dU (upA O a true) n + 1 = (if O n = false then 1 else 0) + dU O n
    by_cases z : a = n
    · subst z
      rw [dU_hi a (Nat.le_refl a), upA_at, if_pos rfl, if_neg (by decide), if_pos ho]
      omega
    · have := dU_up ho n (by omega)
      have e : upA O a true n = O n := by rw [upA_at, if_neg (fun w => z w.symm)]
      rw [e]
      omega
theorem dU_0 : ∀ n, dU O n = 0 → ∀ i, i < n → O i = true
  | 0, _, i, h => absurd h (Nat.not_lt_zero i)
  | n + 1, e, i, h => by
    have e : (if O n = false then 1 else 0) + dU O n = 0 := e
    by_cases z : i = n
    · subst z
      cases q : O i with
      | true => rfl
      | false =>
        rw [if_pos q] at e
        omega
    · exact dU_0 n (by omega) i (by omega)
theorem dJ.st (hG : gR G) (hne : ∀ k, k < G.1 → G.2.1 k ≠ G.2.2.1 k ∧ G.2.1 k < n ∧ G.2.2.1 k < n) (K : dJ G fr dy n X O s r) {a : Nat} (hp : dPk X O n = some a) : dJ G fr dy n (dRl G a G.1 X) (upA O a true) (upA s r a) (r + 1) := by
  obtain ⟨j1, j2, j3, j4, j5, j6, ⟨j7, j8⟩, j9, j10⟩ := K
  obtain ⟨p1, p2, d, p3, p4⟩ := dPk_at n a hp
  have sq : ∀ q, q < r → upA s r a q = s q := fun q hq => by rw [upA_at, if_neg (by omega)]
  have sr : upA s r a r = a := by rw [upA_at, if_pos rfl]
  have xa : dRl G a G.1 X a = some d := dRl_old hG p3 p3 (Nat.le_refl d) _
  have xq : ∀ q e, q < r → X (s q) = some e → dRl G a G.1 X (s q) = some e := fun q e hq he => dRl_old hG p3 he (j3 q a e d hq p2 he p3) _
  have xe : ∀ q e, q < r → dRl G a G.1 X (s q) = some e → X (s q) = some e := fun q e hq he => by
    obtain ⟨f, hf⟩ := j2 q hq
    rw [xq q f hq hf] at he
    cases he
    exact hf
  have fr2 : ∀ i e, dRl G a G.1 X i = some e → X i = some e ∨ ∃ k, gE G k a i ∧ e = G.2.2.2.2 k d := fun i e h => dRl_fr hG p3 _ (Nat.le_refl _) h
  have on : ∀ i, upA O a true i = false → i ≠ a ∧ O i = false := fun i h => by
    rw [upA_at] at h
    by_cases z : i = a
    · rw [if_pos z] at h
      cases h
    · rw [if_neg z] at h
      exact ⟨z, h⟩
  refine ⟨fun i => ?_, fun q hq => ?_, fun q i d1 e hq ho h1 h2 => ?_, fun q k j d1 hq h1 hE => ?_, fun i e ho h => ?_, fun q h0 hq => ?_, ⟨?_, fun _ => ?_⟩, fun i d1 h => ?_, fun i e h => ?_⟩
  · rw [upA_at]
    by_cases z : i = a
    · rw [if_pos z]
      exact ⟨fun _ => ⟨r, by omega, by rw [sr]; exact z.symm⟩, fun _ => rfl⟩
    · rw [if_neg z, j1 i]
      constructor
      · rintro ⟨q, hq, e⟩
        exact ⟨q, by omega, by rw [sq q hq]; exact e⟩
      · rintro ⟨q, hq, e⟩
        by_cases w : q = r
        · rw [w, sr] at e
          exact absurd e.symm z
        · exact ⟨q, by omega, by rw [← sq q (by omega)]; exact e⟩
  · by_cases w : q = r
    · rw [w, sr]
      exact ⟨d, xa⟩
    · obtain ⟨e, he⟩ := j2 q (by omega)
      rw [sq q (by omega)]
      exact ⟨e, xq q e (by omega) he⟩
  · obtain ⟨ia, io⟩ := on i ho
    have l1 : d1 ≤ d := by
      by_cases w : q = r
      · rw [w, sr, xa] at h1
        cases h1
        exact Nat.le_refl _
      · rw [sq q (by omega)] at h1
        exact j3 q a d1 d (by omega) p2 (xe q d1 (by omega) h1) p3
    rcases fr2 i e h2 with z | ⟨k, -, z⟩
    · by_cases w : q = r
      · exact Nat.le_trans l1 (p4 i (j9 i e z) io e z)
      · rw [sq q (by omega)] at h1
        exact j3 q i d1 e (by omega) io (xe q d1 (by omega) h1) z
    · have := hG.2 k d
      omega
  · by_cases w : q = r
    · rw [w, sr] at h1 hE
      rw [xa] at h1
      cases h1
      exact dRl_by hG hE p3 (hne k hE.1).1 _ hE.1
    · rw [sq q (by omega)] at h1 hE
      obtain ⟨e, e1, l1⟩ := j4 q k j d1 (by omega) (xe q d1 (by omega) h1) hE
      obtain ⟨f, e2, l2⟩ := dRl_le (G := G) (a := a) G.1 j e e1
      exact ⟨f, e2, Nat.le_trans l2 l1⟩
  · obtain ⟨ia, io⟩ := on i ho
    rcases fr2 i e h with z | ⟨k, hE, z⟩
    · rcases j5 i e io z with ⟨w, w2⟩ | ⟨q, k, d1, hq, h1, hE, w⟩
      · refine absurd ?_ ia
        rcases j5 a d p2 p3 with ⟨u, -⟩ | ⟨q, _, _, hq, _⟩
        · rw [w, u]
        · omega
      · exact .inr ⟨q, k, d1, by omega, by rw [sq q hq]; exact xq q d1 hq h1, by rw [sq q hq]; exact hE, w⟩
    · exact .inr ⟨r, k, d, by omega, by rw [sr]; exact xa, by rw [sr]; exact hE, z⟩
  · by_cases w : q = r
    · rcases j5 a d p2 p3 with ⟨-, u⟩ | ⟨q', k, d1, hq', h1, hE, u⟩
      · omega
      · refine ⟨q', k, d1, by omega, by rw [sq q' hq']; exact xq q' d1 hq' h1, ?_, ?_⟩
        · rw [sq q' hq', w, sr]
          exact hE
        · rw [w, sr, xa, u]
    · obtain ⟨q', k, d1, hq', h1, hE, u⟩ := j6 q h0 (by omega)
      exact ⟨q', k, d1, hq', by rw [sq q' (by omega)]; exact xq q' d1 (by omega) h1, by rw [sq q' (by omega), sq q (by omega)]; exact hE, by rw [sq q (by omega)]; exact xq q _ (by omega) u⟩
  · by_cases w : 0 < r
    · have := xq 0 dy w (by rw [j8 w]; exact j7)
      rw [j8 w] at this
      exact this
    · rcases j5 a d p2 p3 with ⟨u, -⟩ | ⟨q, _, _, hq, _⟩
      · subst u
        rw [j7] at p3
        cases p3
        exact xa
      · omega
  · by_cases w : 0 < r
    · rw [sq 0 w]
      exact j8 w
    · have : r = 0 := by omega
      rcases j5 a d p2 p3 with ⟨u, -⟩ | ⟨q, _, _, hq, _⟩
      · rw [← this, sr]
        exact u
      · omega
  · rcases fr2 i d1 h with z | ⟨k, hE, -⟩
    · exact j9 i d1 z
    · obtain ⟨hk, -, hE⟩ := hE
      obtain ⟨-, n1, n2⟩ := hne k hk
      rcases hE with ⟨-, u⟩ | ⟨-, u⟩
      · rw [← u]; exact n2
      · rw [← u]; exact n1
  · rcases fr2 i e h with z | ⟨k, hE, z⟩
    · exact j10 i e z
    · obtain ⟨t, ht⟩ := j10 a d p3
      exact ⟨t + 1, .inr ⟨a, d, k, ht, hE, z⟩⟩
/-- the end -/
def dE (G : gW) (fr dy n : Nat) (D : gX) : Prop := gC G D ∧ gS G fr dy D ∧ D fr = some dy ∧ ∃ (s : Nat → Nat) (r : Nat), r ≤ n ∧ (0 < r → s 0 = fr) ∧ (∀ i d, D i = some d → ∃ q, q < r ∧ s q = i) ∧ ∀ q, 0 < q → q < r → ∃ q' k d, q' < q ∧ D (s q') = some d ∧ gE G k (s q') (s q) ∧ D (s q) = some (G.2.2.2.2 k d)
theorem dJ.en (K : dJ G fr dy n X O s r) (hr : r ≤ n) (hd : ∀ i d, X i = some d → O i = true) : dE G fr dy n X := by
  obtain ⟨j1, j2, j3, j4, j5, j6, ⟨j7, j8⟩, j9, j10⟩ := K
  refine ⟨fun k i j d hi hE => ?_, j10, j7, s, r, hr, j8, fun i d hi => (j1 i).mp (hd i d hi), j6⟩
  obtain ⟨q, hq, e⟩ := (j1 i).mp (hd i d hi)
  rw [← e] at hi hE
  exact j4 q k j d hq hi hE
theorem dLp_ok (hG : gR G) (hne : ∀ k, k < G.1 → G.2.1 k ≠ G.2.2.1 k ∧ G.2.1 k < n ∧ G.2.2.1 k < n) : ∀ (f : Nat) (X : gX) (O : Nat → Bool) (s : Nat → Nat) (r : Nat), dJ G fr dy n X O s r → dU O n ≤ f → r + dU O n = n → dE G fr dy n (dLp G n f X O)
  | 0, X, O, s, r, K, hu, hr => K.en (by omega) (fun i d hi => dU_0 n (by omega) i (K.2.2.2.2.2.2.2.1 i d hi))
  | f + 1, X, O, s, r, K, hu, hr => by
    unfold dLp
    cases hp : dPk X O n with
    | none =>
      refine K.en (by omega) (fun i d hi => ?_)
      cases q : O i with
      | true => rfl
      | false =>
        rw [dPk_no n hp i (K.2.2.2.2.2.2.2.1 i d hi) q] at hi
        cases hi
    | some a =>
      obtain ⟨p1, p2, -⟩ := dPk_at n a hp
      have := dU_up (O := O) p2 n p1
      exact dLp_ok hG hne f _ _ _ _ (K.st hG hne hp) (by omega) (by omega)
/-- what both begin with -/
def gB (fr dy : Nat) : gX := upA (fun _ => none) fr (some dy)
theorem dU_f : ∀ n, dU (fun _ => false) n = n
  | 0 => rfl
  | n + 1 => by
    show (if false = false then 1 else 0) + dU (fun _ => false) n = n + 1
    rw [dU_f n, if_pos rfl]
    omega
theorem gB_S : gS G fr dy (gB fr dy) := fun i d h => by
  unfold gB at h
  rw [upA_at] at h
  by_cases z : i = fr
  · rw [if_pos z] at h
    cases h
    exact ⟨0, z, rfl⟩
  · rw [if_neg z] at h
    cases h
theorem gB_J (hf : fr < n) : dJ G fr dy n (gB fr dy) (fun _ => false) (fun _ => 0) 0 := by
  have at_ : ∀ i d, gB fr dy i = some d → i = fr ∧ d = dy := fun i d h => by
    unfold gB at h
    rw [upA_at] at h
    by_cases z : i = fr
    · rw [if_pos z] at h
      cases h
      exact ⟨z, rfl⟩
    · rw [if_neg z] at h
      cases h
  refine ⟨fun i => ⟨fun z => (nomatch z), fun ⟨q, hq, _⟩ => absurd hq (Nat.not_lt_zero q)⟩, fun q hq => absurd hq (Nat.not_lt_zero q), fun q _ _ _ hq => absurd hq (Nat.not_lt_zero q), fun q _ _ _ hq => absurd hq (Nat.not_lt_zero q), fun i e _ h => .inl ⟨(at_ i e h).1, rfl⟩, fun q _ hq => absurd hq (Nat.not_lt_zero q), ⟨?_, fun z => absurd z (Nat.not_lt_zero 0)⟩, fun i d h => by rw [(at_ i d h).1]; exact hf, gB_S⟩
  unfold gB
  rw [upA_at, if_pos rfl]
theorem dij_ok (hG : gR G) (hne : ∀ k, k < G.1 → G.2.1 k ≠ G.2.2.1 k ∧ G.2.1 k < n ∧ G.2.2.1 k < n) (hf : fr < n) : dE G fr dy n (dLp G n n (gB fr dy) (fun _ => false)) :=
  dLp_ok hG hne n _ _ _ _ (gB_J hf) (by rw [dU_f]; exact Nat.le_refl n) (by rw [dU_f]; omega)
/-- as many turns as there are islands find what the reference finds -/
theorem turns_ok (hG : gR G) (hne : ∀ k, k < G.1 → G.2.1 k ≠ G.2.2.1 k ∧ G.2.1 k < n ∧ G.2.2.1 k < n) (hf : fr < n) : gIt G n (gB fr dy) = dLp G n n (gB fr dy) (fun _ => false) := by
  obtain ⟨dC, dS, d0, s, r, hr, hs0, hdn, hor⟩ := dij_ok (dy := dy) hG hne hf
  generalize dLp G n n (gB fr dy) (fun _ => false) = D at dC dS d0 hdn hor ⊢
  have bf : gB fr dy fr = some dy := by unfold gB; rw [upA_at, if_pos rfl]
  have sI := gIt_S (G := G) (fr := fr) (dy := dy) (X := gB fr dy) gB_S n
  funext i
  cases ei : gIt G n (gB fr dy) i with
  | none =>
    cases ed : D i with
    | none => rfl
    | some d =>
      obtain ⟨q, hq, e⟩ := hdn i d ed
      obtain ⟨_, e2, -, g2, -⟩ := gIt_ord (X := gB fr dy) hG (hs0 (by omega)) ⟨dy, d0, dy, bf, Nat.le_refl dy⟩ hor n q (by omega) hq
      rw [e, ei] at g2
      cases g2
  | some e =>
    obtain ⟨d, ed, l1⟩ := gX_le hG dC ⟨dy, d0, Nat.le_refl dy⟩ sI ei
    obtain ⟨q, hq, es⟩ := hdn i d ed
    obtain ⟨d2, e2, g1, g2, l2⟩ := gIt_ord (X := gB fr dy) hG (hs0 (by omega)) ⟨dy, d0, dy, bf, Nat.le_refl dy⟩ hor n q (by omega) hq
    rw [es, ei] at g2
    rw [es, ed] at g1
    cases g1
    cases g2
    rw [ed, Nat.le_antisymm l2 l1]
/-- a turn that changes nothing: no later one does -/
theorem gIt_fix {t : Nat} {X : gX} (h : gTn G G.1 (gIt G t X) = gIt G t X) : ∀ u, gIt G (t + u) X = gIt G t X
  | 0 => rfl
  | u + 1 => by
    show gTn G G.1 (gIt G (t + u) X) = _
    rw [gIt_fix h u]
    exact h
end DIK
/-! the day of leaving -/
def lvS (b : Nat → Bool) (d : Nat) : Nat := if b (d / 90) = true then d else if b (d / 90 + 1) = true then (d / 90 + 1) * 90 else if b (d / 90 + 2) = true then (d / 90 + 2) * 90 else if b (d / 90 + 3) = true then (d / 90 + 3) * 90 else d
theorem lvS_ge {b : Nat → Bool} {d : Nat} : d ≤ lvS b d := by
  unfold lvS
  split
  · exact Nat.le_refl d
  · split
    · omega
    · split
      · omega
      · split <;> omega
theorem lvS_hi {b : Nat → Bool} {d : Nat} : lvS b d ≤ (d / 90 + 3) * 90 ∨ lvS b d = d := by
  unfold lvS
  split
  · exact .inr rfl
  · split
    · exact .inl (by omega)
    · split
      · exact .inl (by omega)
      · split
        · exact .inl (Nat.le_refl _)
        · exact .inr rfl
theorem lvS_mono {b : Nat → Bool} (hb : ∀ s, b s = true ∨ b (s + 1) = true ∨ b (s + 2) = true ∨ b (s + 3) = true) {d e : Nat} (h : d ≤ e) : lvS b d ≤ lvS b e := by
  have ge := lvS_ge (b := b) (d := e)
  have hle : d / 90 ≤ e / 90 := Nat.div_le_div_right h
  by_cases far : d / 90 + 3 ≤ e / 90
  · rcases lvS_hi (b := b) (d := d) with z | z <;> omega
  · have hs := hb (d / 90)
    have key : e / 90 = d / 90 ∨ e / 90 = d / 90 + 1 ∨ e / 90 = d / 90 + 2 := by omega
    generalize hsd : d / 90 = s at hs key hle far
    unfold lvS at ge ⊢
    rw [hsd]
    rcases key with q | q | q
    · rw [q]
      split
      · exact h
      · split
        · exact Nat.le_refl _
        · split
          · exact Nat.le_refl _
          · split
            · exact Nat.le_refl _
            · exact h
    · rw [q, show s + 1 + 1 = s + 2 from rfl, show s + 1 + 2 = s + 3 from rfl] at ge ⊢
      by_cases b0 : b s = true
      · rw [if_pos b0]
        exact Nat.le_trans h ge
      · rw [if_neg b0]
        by_cases b1 : b (s + 1) = true
        · rw [if_pos b1, if_pos b1]
          omega
        · rw [if_neg b1, if_neg b1]
          by_cases b2 : b (s + 2) = true
          · rw [if_pos b2, if_pos b2]
            exact Nat.le_refl _
          · rw [if_neg b2, if_neg b2]
            have b3 : b (s + 3) = true := by
              rcases hs with z | z | z | z
              · exact absurd z b0
              · exact absurd z b1
              · exact absurd z b2
              · exact z
            rw [if_pos b3, if_pos b3]
            exact Nat.le_refl _
    · rw [q, show s + 2 + 1 = s + 3 from rfl] at ge ⊢
      by_cases b0 : b s = true
      · rw [if_pos b0]
        exact Nat.le_trans h ge
      · rw [if_neg b0]
        by_cases b1 : b (s + 1) = true
        · rw [if_pos b1]
          refine Nat.le_trans ?_ ge
          omega
        · rw [if_neg b1]
          by_cases b2 : b (s + 2) = true
          · rw [if_pos b2, if_pos b2]
            omega
          · rw [if_neg b2, if_neg b2]
            have b3 : b (s + 3) = true := by
              rcases hs with z | z | z | z
              · exact absurd z b0
              · exact absurd z b1
              · exact absurd z b2
              · exact z
            rw [if_pos b3, if_pos b3]
            exact Nat.le_refl _
/-! the class's day of leaving -/
theorem nI_div {a b : Nat} (ha : a ≤ 2147483647) (hb : b ≤ 2147483647) : nI a / nI b = nI (a / b) := by
  have hd : a / b ≤ a := Nat.div_le_self a b
  refine Int32.toInt_inj.mp ?_
  rw [Int32.toInt_div, nI_toInt (by omega), nI_toInt (by omega), nI_toInt (by omega), ← Int.ofNat_tdiv]
  generalize a / b = q at hd ⊢
  exact bmod_fit (by omega) (by omega)
theorem nI_rem {a b : Nat} (ha : a ≤ 2147483647) (hb : b ≤ 2147483647) : nI a - nI a / nI b * nI b = nI (a % b) := by
  have h1 : a / b * b ≤ a := Nat.div_mul_le_self a b
  rw [nI_div ha hb, nI_mul, nI_sub h1]
  congr 1
  have := Nat.div_add_mod a b
  rw [Nat.mul_comm] at this
  omega
/-- the season's bit -/
def opB (op : Int32) (s : Nat) : Bool := decide (¬ (op >>> (nI (s % 4) &&& 31)) &&& 1 = 0)
section LVE
variable {d N : Nat} {h : zH} {op kd : Int32} {x : Nat}
theorem N_leave (hk : kd ≠ 3) (hx : x ≤ 1000000) {r : Option Nat} : zPa d mX6_dayOfLeaving [.inr (.inr r), .inl kd, .inl op, .inl (nI x)] h (fun v h' => v = some (.inl (nI (lvS (opB op) x))) ∧ h' = h) := by
  intro N
  have step : ∀ (N k : Nat) (ls : zL), k < 4 → zget ls 2 = some (.inl op) → zget ls 3 = some (.inl (nI x)) → zget ls 4 = some (.inl (nI (x / 90))) → zget ls 5 = some (.inl (nI k)) → (opB op (x / 90 + k) = true → nI (if k = 0 then x else (x / 90 + k) * 90) = nI (lvS (opB op) x)) → (opB op (x / 90 + k) = false → ∀ ls', zget ls' 2 = some (.inl op) → zget ls' 3 = some (.inl (nI x)) → zget ls' 4 = some (.inl (nI (x / 90))) → zget ls' 5 = some (.inl (nI (k + 1))) → zPn N none d mX6_dayOfLeaving (16, ls', [], h) (fun v h' => v = some (.inl (nI (lvS (opB op) x))) ∧ h' = h)) → zPn (N + 1) none d mX6_dayOfLeaving (16, ls, [], h) (fun v h' => v = some (.inl (nI (lvS (opB op) x))) ∧ h' = h) := by
    intro N k ls hk4 hl2 hl3 hl4 hl5 yes no
    refine pa_iload (pc' := 18) dX6_dayOfLeaving_16 hl5 rfl ?_
    refine pa_iconst (v := nI 4) (pc' := 19) dX6_dayOfLeaving_18 (by decide) rfl ?_
    refine pa_icmp_f (pc' := 22) dX6_dayOfLeaving_19 (zk_lt_ge (b := true) (zj_lt (by rw [nI_toInt (by omega), nI_toInt (by omega)]; omega))) (by decide) rfl ?_
    refine pa_iload_n (pc' := 23) dX6_dayOfLeaving_22 hl2 rfl ?_
    refine pa_iload (pc' := 25) dX6_dayOfLeaving_23 hl4 rfl ?_
    refine pa_iload (pc' := 27) dX6_dayOfLeaving_25 hl5 rfl ?_
    refine pa_iadd (pc' := 28) (v := nI (x / 90 + k)) dX6_dayOfLeaving_27 (nI_add _ _) rfl ?_
    refine pa_iconst (v := nI 4) (pc' := 29) dX6_dayOfLeaving_28 (by decide) rfl ?_
    refine pa_irem (pc' := 30) (v := nI ((x / 90 + k) % 4)) dX6_dayOfLeaving_29 (by decide) (nI_rem (by omega) (by omega)) rfl ?_
    refine pa_ishr (pc' := 31) dX6_dayOfLeaving_30 rfl rfl ?_
    refine pa_iconst (v := 1) (pc' := 32) dX6_dayOfLeaving_31 (by decide) rfl ?_
    refine pa_iand (pc' := 33) dX6_dayOfLeaving_32 rfl rfl ?_
    cases eb : opB op (x / 90 + k) with
    | true =>
      have eb2 := of_decide_eq_true eb
      refine pa_if_f (pc' := 36) dX6_dayOfLeaving_33 (decide_eq_false eb2) (by decide) rfl ?_
      refine pa_iload (pc' := 38) dX6_dayOfLeaving_36 hl5 rfl ?_
      by_cases k0 : k = 0
      · have yes2 := yes eb
        rw [if_pos k0] at yes2
        subst k0
        refine pa_if_f (pc' := 41) dX6_dayOfLeaving_38 (by decide) (by decide) rfl ?_
        refine pa_iload_n (pc' := 42) dX6_dayOfLeaving_41 hl3 rfl ?_
        refine pa_goto (pc' := 53) dX6_dayOfLeaving_42 (by decide) ?_
        exact pa_iret dX6_dayOfLeaving_53 rfl rfl ⟨by rw [yes2], rfl⟩
      · have yes := yes eb
        rw [if_neg k0] at yes
        refine pa_if_t (pc' := 45) dX6_dayOfLeaving_38 (decide_eq_true (fun z => k0 (by
          have := congrArg Int32.toInt z
          rw [nI_toInt (by omega), show (0 : Int32).toInt = 0 by decide] at this
          omega))) (by decide) ?_
        refine pa_iload (pc' := 47) dX6_dayOfLeaving_45 hl4 rfl ?_
        refine pa_iload (pc' := 49) dX6_dayOfLeaving_47 hl5 rfl ?_
        refine pa_iadd (pc' := 50) (v := nI (x / 90 + k)) dX6_dayOfLeaving_49 (nI_add _ _) rfl ?_
        refine pa_bipush (v := nI 90) (pc' := 52) dX6_dayOfLeaving_50 (by decide) rfl ?_
        refine pa_imul (pc' := 53) (v := nI ((x / 90 + k) * 90)) dX6_dayOfLeaving_52 (nI_mul _ _) rfl ?_
        exact pa_iret dX6_dayOfLeaving_53 rfl rfl ⟨by rw [yes], rfl⟩
    | false =>
      have eb2 : (op >>> (nI ((x / 90 + k) % 4) &&& 31)) &&& 1 = 0 := Decidable.not_not.mp (of_decide_eq_false eb)
      refine pa_if_t (pc' := 54) dX6_dayOfLeaving_33 (decide_eq_true eb2) (by decide) ?_
      refine pa_iinc (pc' := 57) (v := nI (k + 1)) dX6_dayOfLeaving_54 hl5 (by decide) (nI_add k 1) rfl rfl ?_
      refine pa_gotos (pc' := 16) dX6_dayOfLeaving_57 (by decide) ?_
      exact no eb _ (zget_s1 hl2 (by decide) (by simp [zcat])) (zget_s1 hl3 (by decide) (by simp [zcat])) (zget_s1 hl4 (by decide) (by simp [zcat])) zget_s1e
  have st2 : ∀ (N k : Nat) (ls : zL), k < 4 → zget ls 2 = some (.inl op) → zget ls 3 = some (.inl (nI x)) → zget ls 4 = some (.inl (nI (x / 90))) → zget ls 5 = some (.inl (nI k)) → (opB op (x / 90 + k) = true → nI (if k = 0 then x else (x / 90 + k) * 90) = nI (lvS (opB op) x)) → (opB op (x / 90 + k) = false → ∀ N ls', zget ls' 2 = some (.inl op) → zget ls' 3 = some (.inl (nI x)) → zget ls' 4 = some (.inl (nI (x / 90))) → zget ls' 5 = some (.inl (nI (k + 1))) → zPn N none d mX6_dayOfLeaving (16, ls', [], h) (fun v h' => v = some (.inl (nI (lvS (opB op) x))) ∧ h' = h)) → zPn N none d mX6_dayOfLeaving (16, ls, [], h) (fun v h' => v = some (.inl (nI (lvS (opB op) x))) ∧ h' = h) := by
    intro N k ls hk4 hl2 hl3 hl4 hl5 yes no
    cases N with
    | zero => exact zPn.zero
    | succ N => exact step N k ls hk4 hl2 hl3 hl4 hl5 yes (fun e => no e N)
  show zPn N none d mX6_dayOfLeaving (0, [(0, .inr (.inr r)), (1, .inl kd), (2, .inl op), (3, .inl (nI x))], [], h) _
  refine pa_iload_n (pc' := 1) dX6_dayOfLeaving_0 rfl rfl ?_
  refine pa_iconst (v := 3) (pc' := 2) dX6_dayOfLeaving_1 (by decide) rfl ?_
  refine pa_icmp_t (pc' := 7) dX6_dayOfLeaving_2 (decide_eq_true hk) (by decide) ?_
  refine pa_iload_n (pc' := 8) dX6_dayOfLeaving_7 rfl rfl ?_
  refine pa_bipush (v := nI 90) (pc' := 10) dX6_dayOfLeaving_8 (by decide) rfl ?_
  refine pa_idiv (pc' := 11) (v := nI (x / 90)) dX6_dayOfLeaving_10 (by decide) (nI_div (by omega) (by omega)) rfl ?_
  refine pa_istore (pc' := 13) dX6_dayOfLeaving_11 (by decide) rfl rfl ?_
  refine pa_iconst (v := nI 0) (pc' := 14) dX6_dayOfLeaving_13 (by decide) rfl ?_
  refine pa_istore (pc' := 16) dX6_dayOfLeaving_14 (by decide) rfl rfl ?_
  refine st2 N 0 _ (by decide) rfl rfl rfl rfl (fun e => ?_) (fun e0 N ls a2 a3 a4 a5 => ?_)
  · have e : opB op (x / 90) = true := e
    rw [if_pos rfl]
    unfold lvS
    rw [if_pos e]
  have e0 : ¬ opB op (x / 90) = true := by rw [show opB op (x / 90) = false from e0]; decide
  refine st2 N 1 _ (by decide) a2 a3 a4 a5 (fun e => ?_) (fun e1 N ls a2 a3 a4 a5 => ?_)
  · rw [if_neg (by decide)]
    unfold lvS
    rw [if_neg e0, if_pos e]
  have e1 : ¬ opB op (x / 90 + 1) = true := by rw [e1]; decide
  refine st2 N 2 _ (by decide) a2 a3 a4 a5 (fun e => ?_) (fun e2 N ls a2 a3 a4 a5 => ?_)
  · rw [if_neg (by decide)]
    unfold lvS
    rw [if_neg e0, if_neg e1, if_pos e]
  have e2 : ¬ opB op (x / 90 + 2) = true := by rw [e2]; decide
  refine st2 N 3 _ (by decide) a2 a3 a4 a5 (fun e => ?_) (fun e3 N ls a2 a3 a4 a5 => ?_)
  · rw [if_neg (by decide)]
    unfold lvS
    rw [if_neg e0, if_neg e1, if_neg e2, if_pos e]
  have e3 : ¬ opB op (x / 90 + 3) = true := by rw [e3]; decide
  refine pa_iload (pc' := 18) dX6_dayOfLeaving_16 a5 rfl ?_
  refine pa_iconst (v := nI 4) (pc' := 19) dX6_dayOfLeaving_18 (by decide) rfl ?_
  refine pa_icmp_t (pc' := 60) dX6_dayOfLeaving_19 (by decide) (by decide) ?_
  refine pa_iload_n (pc' := 61) dX6_dayOfLeaving_60 a3 rfl ?_
  refine pa_iret dX6_dayOfLeaving_61 rfl rfl ⟨?_, rfl⟩
  unfold lvS
  rw [if_neg e0, if_neg e1, if_neg e2, if_neg e3]
end LVE
/-! the reference's day of leaving -/
theorem lvS_next {b : Nat → Bool} (hb : ∀ s, b s = true ∨ b (s + 1) = true ∨ b (s + 2) = true ∨ b (s + 3) = true) {d : Nat} (h0 : ¬ b (d / 90) = true) : lvS b ((d / 90 + 1) * 90) = lvS b d := by
  have e : (d / 90 + 1) * 90 / 90 = d / 90 + 1 := Nat.mul_div_cancel _ (by decide)
  unfold lvS
  rw [e]
  generalize d / 90 = s at h0 ⊢
  rw [if_neg h0, show s + 1 + 1 = s + 2 from rfl, show s + 1 + 2 = s + 3 from rfl]
  by_cases b1 : b (s + 1) = true
  · rw [if_pos b1, if_pos b1]
  · rw [if_neg b1, if_neg b1]
    by_cases b2 : b (s + 2) = true
    · rw [if_pos b2, if_pos b2]
    · rw [if_neg b2, if_neg b2]
      have b3 : b (s + 3) = true := by
        rcases hb s with z | z | z | z
        · exact absurd z h0
        · exact absurd z b1
        · exact absurd z b2
        · exact z
      rw [if_pos b3, if_pos b3]
theorem and1 (z : Int32) : z &&& 1 = 0 ∨ z &&& 1 = 1 := by
  have h : (z &&& 1).toBitVec = z.toBitVec &&& 1#32 := rfl
  have k : (z.toBitVec &&& 1#32).toNat = z.toBitVec.toNat % 2 := by
    rw [BitVec.toNat_and]
    exact Nat.and_one_is_mod _
  have c : z.toBitVec.toNat % 2 = 0 ∨ z.toBitVec.toNat % 2 = 1 := by omega
  rcases c with c | c
  · exact .inl (Int32.toBitVec_inj.mp (BitVec.eq_of_toNat_eq (by rw [h, k, c]; rfl)))
  · exact .inr (Int32.toBitVec_inj.mp (BitVec.eq_of_toNat_eq (by rw [h, k, c]; rfl)))
section LVF
variable {d N : Nat} {h : zH} {op kd : Int32} {x k : Nat}
theorem M_seasonOf (hx : x ≤ 2000000) : zPa d mX12_seasonOf [.inl (nI x)] h (fun v h' => v = some (.inl (nI (x / 90 % 4))) ∧ h' = h) := by
  intro N
  show zPn N none d mX12_seasonOf (0, [(0, .inl (nI x))], [], h) _
  have hq : x / 90 ≤ x := Nat.div_le_self x 90
  refine pa_iload_n (pc' := 1) dX12_seasonOf_0 rfl rfl ?_
  refine pa_bipush (v := nI 90) (pc' := 3) dX12_seasonOf_1 (by decide) rfl ?_
  refine pa_idiv (pc' := 4) (v := nI (x / 90)) dX12_seasonOf_3 (by decide) (nI_div (by omega) (by omega)) rfl ?_
  refine pa_iconst (v := nI 4) (pc' := 5) dX12_seasonOf_4 (by decide) rfl ?_
  refine pa_irem (pc' := 6) (v := nI (x / 90 % 4)) dX12_seasonOf_5 (by decide) (nI_rem (by omega) (by omega)) rfl ?_
  exact pa_iret dX12_seasonOf_6 rfl rfl ⟨rfl, rfl⟩
theorem M_hasBit {s : Nat} : zPa d mX12_hasBit [.inl op, .inl (nI (s % 4))] h (fun v h' => v = some (.inl (if opB op s = true then 1 else 0)) ∧ h' = h) := by
  intro N
  show zPn N none d mX12_hasBit (0, [(0, .inl op), (1, .inl (nI (s % 4)))], [], h) _
  refine pa_iload_n (pc' := 1) dX12_hasBit_0 rfl rfl ?_
  refine pa_iload_n (pc' := 2) dX12_hasBit_1 rfl rfl ?_
  refine pa_ishr (pc' := 3) dX12_hasBit_2 rfl rfl ?_
  refine pa_iconst (v := 1) (pc' := 4) dX12_hasBit_3 (by decide) rfl ?_
  refine pa_iand (pc' := 5) dX12_hasBit_4 rfl rfl ?_
  refine pa_iconst (v := 1) (pc' := 6) dX12_hasBit_5 (by decide) rfl ?_
  rcases and1 (op >>> (nI (s % 4) &&& 31)) with z | z
  · have e : ¬ opB op s = true := by unfold opB; rw [z]; decide
    rw [if_neg e, z]
    refine pa_icmp_t (pc' := 13) dX12_hasBit_6 (by decide) (by decide) ?_
    refine pa_iconst (v := 0) (pc' := 14) dX12_hasBit_13 (by decide) rfl ?_
    exact pa_iret dX12_hasBit_14 rfl rfl ⟨rfl, rfl⟩
  · have e : opB op s = true := by unfold opB; rw [z]; decide
    rw [if_pos e, z]
    refine pa_icmp_f (pc' := 9) dX12_hasBit_6 (by decide) (by decide) rfl ?_
    refine pa_iconst (v := 1) (pc' := 10) dX12_hasBit_9 (by decide) rfl ?_
    refine pa_goto (pc' := 14) dX12_hasBit_10 (by decide) ?_
    exact pa_iret dX12_hasBit_14 rfl rfl ⟨rfl, rfl⟩
end LVF
/-! the reference's day of leaving: the loop -/
theorem M_setsOut {d : Nat} {h : zH} {op kd : Int32} {x k : Nat} (h1 : h.1 = hh_487.1) (r15 : h.2.2.2.1 196 15 = some 199) (hk : k < 12) (ho : h.2.1 199 (59 + 4 * k + 3) = op) (hb : ∀ s, opB op s = true ∨ opB op (s + 1) = true ∨ opB op (s + 2) = true ∨ opB op (s + 3) = true) (hkd : kd ≠ 3) (hx : x ≤ 1000000) : zPa d mX12_setsOut [.inr (.inr (some 196)), .inl (nI k), .inl kd, .inl (nI x)] h (fun v h' => v = some (.inl (nI (lvS (opB op) x))) ∧ h' = h) := by
  intro N
  have zs : ∀ {a : Nat} {q : Option (Nat × Nat)}, zsh hh_487 a = q → zsh h a = q := fun e => by unfold zsh at *; rw [h1]; exact e
  have s196 : zsh h 196 = some (12, 39) := zs (by decide +kernel)
  have s199 : zsh h 199 = some (14, 363) := zs (by decide +kernel)
  have lp : ∀ (N y : Nat) (ls : zL), y ≤ lvS (opB op) x → lvS (opB op) y = lvS (opB op) x → zget ls 0 = some (.inr (.inr (some 196))) → zget ls 1 = some (.inl (nI k)) → zget ls 4 = some (.inl (nI y)) → zPn N none d mX12_setsOut (8, ls, [], h) (fun v h' => v = some (.inl (nI (lvS (opB op) x))) ∧ h' = h) := by
    intro N
    induction N with
    | zero => intro y ls _ _ _ _ _; exact zPn.zero
    | succ N ih =>
      intro y ls hy he hl0 hl1 hl4
      have hy2 : y ≤ 1000300 := by
        rcases lvS_hi (b := opB op) (d := x) with z | z <;> omega
      have hq : y / 90 ≤ y := Nat.div_le_self y 90
      refine pa_aload_n (pc' := 9) dX12_setsOut_8 hl0 rfl ?_
      refine pa_getR (pc' := 12) (n := 39) (r := 199) dX12_setsOut_9 fl_12_20 s196 (by decide) r15 rfl ?_
      refine pa_bipush (v := nI 59) (pc' := 14) dX12_setsOut_12 (by decide) rfl ?_
      refine pa_iconst (v := nI 4) (pc' := 15) dX12_setsOut_14 (by decide) rfl ?_
      refine pa_iload_n (pc' := 16) dX12_setsOut_15 hl1 rfl ?_
      refine pa_imul (pc' := 17) (v := nI (4 * k)) dX12_setsOut_16 (nI_mul 4 k) rfl ?_
      refine pa_iadd (pc' := 18) (v := nI (59 + 4 * k)) dX12_setsOut_17 (nI_add _ _) rfl ?_
      refine pa_iconst (v := nI 3) (pc' := 19) dX12_setsOut_18 (by decide) rfl ?_
      refine pa_iadd (pc' := 20) (v := nI (59 + 4 * k + 3)) dX12_setsOut_19 (nI_add _ _) rfl ?_
      refine pa_iald (pc' := 21) (n := 363) dX12_setsOut_20 s199 rfl (fun _ => ?_)
      rw [nI_clamp (by omega), ho]
      refine pa_iload (pc' := 23) dX12_setsOut_21 hl4 rfl ?_
      refine pa_calls (pc' := 26) (kd := 1) (vs := [.inl (nI y)]) (rest := [.inl op]) dX12_setsOut_23 ml_12_337 (.inl rfl) rfl rfl rfl (fun d' _ => M_seasonOf (by omega)) (fun v g hq => ?_)
      obtain ⟨ev, eh⟩ := hq
      subst ev
      rw [eh]
      show zPn (N + 1) none d mX12_setsOut (26, ls, [.inl (nI (y / 90 % 4)), .inl op], h) _
      refine pa_calls (pc' := 29) (kd := 1) (vs := [.inl op, .inl (nI (y / 90 % 4))]) (rest := []) dX12_setsOut_26 ml_12_298 (.inl rfl) rfl rfl rfl (fun d' _ => M_hasBit) (fun v g hq => ?_)
      obtain ⟨ev, eh⟩ := hq
      subst ev
      rw [eh]
      by_cases b0 : opB op (y / 90) = true
      · rw [if_pos b0]
        show zPn (N + 1) none d mX12_setsOut (29, ls, [.inl 1], h) _
        refine pa_if_t (pc' := 47) dX12_setsOut_29 (by decide) (by decide) ?_
        refine pa_iload (pc' := 49) dX12_setsOut_47 hl4 rfl ?_
        refine pa_iret dX12_setsOut_49 rfl rfl ⟨?_, rfl⟩
        rw [← he]
        unfold lvS
        rw [if_pos b0]
      · rw [if_neg b0]
        show zPn (N + 1) none d mX12_setsOut (29, ls, [.inl 0], h) _
        refine pa_if_f (pc' := 32) dX12_setsOut_29 (by decide) (by decide) rfl ?_
        refine pa_bipush (v := nI 90) (pc' := 34) dX12_setsOut_32 (by decide) rfl ?_
        refine pa_iload (pc' := 36) dX12_setsOut_34 hl4 rfl ?_
        refine pa_bipush (v := nI 90) (pc' := 38) dX12_setsOut_36 (by decide) rfl ?_
        refine pa_idiv (pc' := 39) (v := nI (y / 90)) dX12_setsOut_38 (by decide) (nI_div (by omega) (by omega)) rfl ?_
        refine pa_iconst (v := nI 1) (pc' := 40) dX12_setsOut_39 (by decide) rfl ?_
        refine pa_iadd (pc' := 41) (v := nI (y / 90 + 1)) dX12_setsOut_40 (nI_add _ _) rfl ?_
        refine pa_imul (pc' := 42) (v := nI (90 * (y / 90 + 1))) dX12_setsOut_41 (nI_mul _ _) rfl ?_
        refine pa_istore (pc' := 44) dX12_setsOut_42 (by decide) rfl rfl ?_
        refine pa_gotos (pc' := 8) dX12_setsOut_44 (by decide) ?_
        have nx := lvS_next hb b0
        rw [Nat.mul_comm] at nx
        have ge := lvS_ge (b := opB op) (d := 90 * (y / 90 + 1))
        exact ih (90 * (y / 90 + 1)) _ (by rw [nx, he] at ge; exact ge) (nx.trans he) (zget_s1 hl0 (by decide) (by simp [zcat])) (zget_s1 hl1 (by decide) (by simp [zcat])) zget_s1e
  show zPn N none d mX12_setsOut (0, [(0, .inr (.inr (some 196))), (1, .inl (nI k)), (2, .inl kd), (3, .inl (nI x))], [], h) _
  refine pa_iload_n (pc' := 1) dX12_setsOut_0 rfl rfl ?_
  refine pa_istore (pc' := 3) dX12_setsOut_1 (by decide) rfl rfl ?_
  refine pa_iload_n (pc' := 4) dX12_setsOut_3 rfl rfl ?_
  refine pa_iconst (v := 3) (pc' := 5) dX12_setsOut_4 (by decide) rfl ?_
  refine pa_icmp_f (pc' := 8) dX12_setsOut_5 (decide_eq_false hkd) (by decide) rfl ?_
  exact lp N x _ lvS_ge rfl rfl rfl rfl
