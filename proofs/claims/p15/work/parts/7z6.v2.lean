section Pk0
/-! the law's loop: what holds between two calls -/
/-- the tapes are alike -/
def lT (h : zH) : Prop := ∀ k : Nat, (k : Int) < (h.2.1 196 2).toInt → TB (h.2.1 1 k) (h.2.1 197 k)
/-- the post of the class beside the reference's -/
def lPA (A : pA) (c : Nat) (h : zH) : Prop := pI A ∧ cc2 c ∧ h.2.2.2.1 0 3 = some c ∧ rcC A c h ∧ ((h.2.1 196 14 = 0 ∧ A = pA0) ∨ (h.2.1 196 14 = 1 ∧ cI A ≠ 0 ∧ rmC A (shR h)))
def lP (h : zH) : Prop := ∃ A c, lPA A c h ∧ tA A
/-- faults, troubles, images -/
def lW (h : zH) : Prop := (h.2.1 0 2 = 4 ↔ h.2.1 196 11 = 4) ∧ (h.2.1 196 11 = 4 → h.2.1 82 12 = h.2.1 196 10)
def lY (h : zH) : Prop := lP h ∧ h.2.1 82 11 = h.2.1 196 9 ∧ lW h ∧ h.2.1 0 15 = h.2.1 196 21
def lInv (t : Nat) (h : zH) : Prop := hOK wd h ∧ (lV h rv0 ∨ lV h rv1) ∧ h.2.1 0 1 = h.2.1 196 2 ∧ h.2.2.2.2 ≤ t ∧ h.1 = hh_487.1 ∧ lT h ∧ lY h
def lIn0 (t : Nat) (h : zH) : Prop := hOK wd h ∧ (lV h rv0 ∨ lV h rv1) ∧ h.2.2.2.2 ≤ t ∧ h.1 = hh_487.1
theorem lT.fr {h h' : zH} (k : lT h) (e2 : h'.2.1 196 2 = h.2.1 196 2) (e1 : ∀ k, h'.2.1 1 k = h.2.1 1 k) (e3 : ∀ k, h'.2.1 197 k = h.2.1 197 k) : lT h' := by
  intro j hj
  rw [e1, e3]
  rw [e2] at hj
  exact k j hj
theorem rcC.frB {A : pA} {c : Nat} {h h' : zH} (hI : pI A) (e : ∀ a k, c ≤ a → a < c + 40 → h'.2.1 a k = h.2.1 a k) (K : rcC A c h) : rcC A c h' := by
  obtain ⟨q0, q4, q5, q6, q7, q8, qs, qw, qp, qx⟩ := K
  obtain ⟨b1, b2, b3, b4, b5⟩ := hI.2.2.1
  refine ⟨?_, ?_, ?_, ?_, ?_, ?_, fun i hi => ?_, fun i hi => ?_, fun i hi => ?_, fun j hj => ⟨(qx j hj).1, (e _ _ (by omega) (by have := oX_le (qx j hj).1 b2 b3 b4 b5; omega)).trans (qx j hj).2⟩⟩
  · rw [e _ _ (by omega) (by omega)]; exact q0
  · rw [e _ _ (by omega) (by omega)]; exact q4
  · rw [e _ _ (by omega) (by omega)]; exact q5
  · rw [e _ _ (by omega) (by omega)]; exact q6
  · rw [e _ _ (by omega) (by omega)]; exact q7
  · rw [e _ _ (by omega) (by omega)]; exact q8
  · rw [e _ _ (by omega) (by omega), e _ _ (by omega) (by omega)]; exact qs i hi
  · rw [e _ _ (by omega) (by omega), e _ _ (by omega) (by omega)]; exact qw i hi
  · rw [e _ _ (by omega) (by omega), e _ _ (by omega) (by omega)]; exact qp i hi
theorem lPA.fr {A : pA} {c : Nat} {h h' : zH} (k : lPA A c h) (e : ∀ a k, c ≤ a → a < c + 40 → h'.2.1 a k = h.2.1 a k) (e2 : ∀ k, h'.2.1 199 k = h.2.1 199 k) (e3 : h'.2.1 196 14 = h.2.1 196 14) (e4 : h'.2.2.2.1 0 3 = h.2.2.2.1 0 3) : lPA A c h' := by
  obtain ⟨hI, hc, hr, hC, hm⟩ := k
  refine ⟨hI, hc, e4.trans hr, rcC.frB hI e hC, ?_⟩
  rw [e3]
  exact hm.imp id (fun z => ⟨z.1, z.2.1, rmC.frB (h := shR h) (h' := shR h') hI z.2.2 (fun j _ => e2 j)⟩)
theorem cc2.rg {c : Nat} (hc : cc2 c) {a : Nat} (h1 : c ≤ a) (h2 : a < c + 40) : 2 ≤ a ∧ a < 82 := by
  have hc : c = 2 ∨ c = 42 := hc
  omega
theorem lP.fr {h h' : zH} (k : lP h) (e : ∀ a k, 2 ≤ a → a < 82 → h'.2.1 a k = h.2.1 a k) (e2 : ∀ k, h'.2.1 199 k = h.2.1 199 k) (e3 : h'.2.1 196 14 = h.2.1 196 14) (e4 : h'.2.2.2.1 0 3 = h.2.2.2.1 0 3) : lP h' := by
  obtain ⟨A, c, k, kT⟩ := k
  exact ⟨A, c, k.fr (fun a j h1 h2 => e a j (k.2.1.rg h1 h2).1 (k.2.1.rg h1 h2).2) e2 e3 e4, kT⟩
/-- a told number is the same on both sides -/
theorem lPA.num {A : pA} {c j : Nat} {h : zH} (k : lPA A c h) (e : A.1 ≠ 0) (hj : A.2.2.1 (1000 + j) ≠ []) : h.2.1 (c + oX j) (sX j) = h.2.1 199 j := by
  rcases k.2.2.2.2 with ⟨-, b⟩ | ⟨-, -, K⟩
  · exact absurd (by rw [b]; rfl) e
  · exact (k.2.2.2.1.2.2.2.2.2.2.2.2.2 j hj).2.trans (K.2.2.2.2.2.2.2.2.2.2 j hj).2.symm
theorem lY.fr {h h' : zH} (k : lY h) (e : ∀ a k, 2 ≤ a → a < 83 → h'.2.1 a k = h.2.1 a k) (e1 : ∀ k, h'.2.1 199 k = h.2.1 199 k) (e2 : h'.2.1 0 2 = h.2.1 0 2) (e3 : h'.2.1 0 15 = h.2.1 0 15) (e9 : h'.2.1 196 9 = h.2.1 196 9) (e10 : h'.2.1 196 10 = h.2.1 196 10) (e11 : h'.2.1 196 11 = h.2.1 196 11) (e14 : h'.2.1 196 14 = h.2.1 196 14) (e21 : h'.2.1 196 21 = h.2.1 196 21) (er : h'.2.2.2.1 0 3 = h.2.2.2.1 0 3) : lY h' := by
  obtain ⟨k1, k2, ⟨k3, k4⟩, k5⟩ := k
  refine ⟨k1.fr (fun a j h1 h2 => e a j h1 (by omega)) e1 e14 er, ?_, ⟨?_, ?_⟩, ?_⟩
  · rw [e 82 11 (by omega) (by omega), e9]; exact k2
  · rw [e2, e11]; exact k3
  · rw [e11, e 82 12 (by omega) (by omega), e10]; exact k4
  · rw [e3, e21]; exact k5
/-- what a call of the class leaves alone; k: trouble too, else it isn't 4; i: the images then -/
def hC0 (k : Bool) (h h' : zH) : Prop := (∀ a j, (1 ≤ a ∧ a < 86) ∨ 196 ≤ a → h'.2.1 a j = h.2.1 a j) ∧ h'.2.1 0 1 = h.2.1 0 1 ∧ (∀ a j, h'.2.2.2.1 a j = h.2.2.2.1 a j) ∧ (if k then h'.2.1 0 2 = h.2.1 0 2 else h'.2.1 0 2 ≠ 4)
def hC (k : Bool) (i : Int32) (h h' : zH) : Prop := hC0 k h h' ∧ h'.2.1 0 15 = i
def hM0 (k : Bool) (h h' : zH) : Prop := (∀ a j, a < 196 ∨ a = 197 ∨ a = 199 → h'.2.1 a j = h.2.1 a j) ∧ (h'.2.1 196 2 = h.2.1 196 2 ∧ h'.2.1 196 9 = h.2.1 196 9 ∧ h'.2.1 196 10 = h.2.1 196 10 ∧ h'.2.1 196 14 = h.2.1 196 14) ∧ (∀ a j, h'.2.2.2.1 a j = h.2.2.2.1 a j) ∧ (if k then h'.2.1 196 11 = h.2.1 196 11 else h'.2.1 196 11 ≠ 4)
def hM (k : Bool) (i : Int32) (h h' : zH) : Prop := hM0 k h h' ∧ h'.2.1 196 21 = i
/-- between the two calls -/
def lMid (k : Bool) (i : Int32) (t : Nat) (h h' : zH) : Prop := lInv t h ∧ lIn0 t h' ∧ hC k i h h'
theorem lInv.dn {t : Nat} {h : zH} (hi : lInv t h) : lIn0 t h := ⟨hi.1, hi.2.1, hi.2.2.2.1, hi.2.2.2.2.1⟩
theorem lInv.tp {t : Nat} {h : zH} (hi : lInv t h) : lT h := hi.2.2.2.2.2.1
theorem lInv.ys {t : Nat} {h : zH} (hi : lInv t h) : lY h := hi.2.2.2.2.2.2
theorem lInv.mid {t : Nat} {h : zH} (hi : lInv t h) : lMid true (h.2.1 0 15) t h h := ⟨hi, hi.dn, ⟨fun _ _ _ => rfl, rfl, fun _ _ => rfl, rfl⟩, rfl⟩
theorem lMid.pa {k : Bool} {i : Int32} {t c : Nat} {A : pA} {h h' : zH} (m : lMid k i t h h') (hA : lPA A c h) : lPA A c h' := hA.fr (fun a j h1 h2 => m.2.2.1.1 a j (.inl ⟨by have := hA.2.1.rg h1 h2; omega, by have := hA.2.1.rg h1 h2; omega⟩)) (fun j => m.2.2.1.1 199 j (.inr (by decide))) (m.2.2.1.1 196 14 (.inr (by decide))) (m.2.2.1.2.2.1 0 3)
theorem lMid.to {k : Bool} {i : Int32} {t : Nat} {h h' g : zH} (m : lMid k i t h g) (h0 : lIn0 t h') (e : hM k i g h') : lInv t h' := by
  obtain ⟨hi, -, ⟨c1, c2, c4, c5⟩, c3⟩ := m
  obtain ⟨⟨m1, ⟨m2, m9, m10, m14⟩, m4, m5⟩, m21⟩ := e
  obtain ⟨yP, yF, ⟨yW, yp⟩, yN⟩ := hi.ys
  have f1 : ∀ a j, 1 ≤ a → a < 86 → h'.2.1 a j = h.2.1 a j := fun a j h1 h2 => (m1 a j (by omega)).trans (c1 a j (.inl ⟨h1, h2⟩))
  refine ⟨h0.1, h0.2.1, ?_, h0.2.2.1, h0.2.2.2, ?_, ?_, ?_, ?_, ?_⟩
  · rw [m1 0 1 (by omega), m2, c2, c1 196 2 (by omega)]
    exact hi.2.2.1
  · exact hi.tp.fr (m2.trans (c1 196 2 (by omega))) (fun j => f1 1 j (by omega) (by omega)) (fun j => (m1 197 j (by omega)).trans (c1 197 j (by omega)))
  · exact yP.fr (fun a j h1 h2 => f1 a j (by omega) (by omega)) (fun j => (m1 199 j (by omega)).trans (c1 199 j (by omega))) (m14.trans (c1 196 14 (by omega))) ((m4 0 3).trans (c4 0 3))
  · rw [f1 82 11 (by omega) (by omega), m9, c1 196 9 (by omega)]
    exact yF
  · cases k with
    | true =>
      have c5 : g.2.1 0 2 = h.2.1 0 2 := c5
      have m5 : h'.2.1 196 11 = g.2.1 196 11 := m5
      constructor
      · rw [m1 0 2 (by omega), c5, m5, c1 196 11 (by omega)]
        exact yW
      · rw [m5, c1 196 11 (by omega), f1 82 12 (by omega) (by omega), m10, c1 196 10 (by omega)]
        exact yp
    | false =>
      have c5 : g.2.1 0 2 ≠ 4 := c5
      have m5 : h'.2.1 196 11 ≠ 4 := m5
      constructor
      · rw [m1 0 2 (by omega)]
        exact ⟨fun z => absurd z c5, fun z => absurd z m5⟩
      · exact fun z => absurd z m5
  · rw [m1 0 15 (by omega), m21, c3]
def lLoc (ls : zL) (i : Nat) : Prop := zget ls 0 = some (.inr (.inr (some 1000000))) ∧ zget ls 1 = some (.inr (.inr (some 0))) ∧ zget ls 2 = some (.inr (.inr (some 196))) ∧ zget ls 3 = some (.inr (.inr (some 213))) ∧ zget ls 4 = some (.inl (nI i))
def zQL (v : Option zV) (h' : zH) : Prop := v = some (.inl 1) ∧ h'.1.1 ≤ 1000 ∧ h'.1.2.2 ≤ 100000 ∧ h'.2.2.2.2 ≤ 1000
def pCk (a : Nat) : Bool := Nat.beq a 0 || (Nat.ble 86 a && Nat.ble a 195)
def pMk (a : Nat) : Bool := Nat.ble 196 a && (!(Nat.beq a 197) && !(Nat.beq a 199))
theorem ble_f {a b : Nat} (h : b < a) : Nat.ble a b = false := by
  cases e : Nat.ble a b with
  | false => rfl
  | true => have := Nat.le_of_ble_eq_true e; omega
theorem beq_f {a b : Nat} (h : a ≠ b) : Nat.beq a b = false := by
  cases e : Nat.beq a b with
  | false => rfl
  | true => exact absurd (Nat.eq_of_beq_eq_true e) h
theorem pCk_f {a : Nat} (h : (1 ≤ a ∧ a < 86) ∨ 196 ≤ a) : pCk a = false := by
  unfold pCk
  rw [beq_f (by omega)]
  rcases h with h | h
  · rw [ble_f (show a < 86 by omega)]; rfl
  · rw [ble_f (a := a) (b := 195) (by omega), Bool.and_false]; rfl
theorem pMk_f {a : Nat} (h : a < 196 ∨ a = 197 ∨ a = 199) : pMk a = false := by
  unfold pMk
  rcases h with h | h | h
  · rw [ble_f (show a < 196 by omega)]; rfl
  · subst h; rfl
  · subst h; rfl
/-- every end tells of the slot that it isn't 4 -/
def en4 (c : aCt) (a k : Nat) : Bool := c.2.2.2.1.all (fun p => p.2.2.1.any (fun q => decide (q.1 = (a, k)) && q.2.all (fun r => ile r.2.1 3 || ile 5 r.1)))
theorem en4_in {c : aCt} {a k : Nat} {p : aPo} {h' : zH} (hk : en4 c a k = true) (hp : p ∈ c.2.2.2.1) (hs : ∀ q ∈ p.2.2.1, aIn (h'.2.1 q.1.1 q.1.2).toInt q.2) : h'.2.1 a k ≠ 4 := by
  intro z
  obtain ⟨q, hq, e⟩ := List.any_eq_true.mp (List.all_eq_true.mp hk p hp)
  rw [Bool.and_eq_true] at e
  have e1 := of_decide_eq_true e.1
  obtain ⟨r, hr, a1, a2, -⟩ := hs q hq
  have := List.all_eq_true.mp e.2 r hr
  rw [Bool.or_eq_true, ile_iff, ile_iff] at this
  rw [e1] at a1 a2
  dsimp only at a1 a2
  rw [z, show (4 : Int32).toInt = 4 by decide] at a1 a2
  omega
def lkC0 (k : Bool) (c : aCt) : Bool := c.2.2.2.2.1.all (fun q => pCk q.1) && (!(inM c.2.2.2.2.1 0 1) && (c.2.2.2.2.2.1.isEmpty && (if k then !(inM c.2.2.2.2.1 0 2) else en4 c 0 2)))
def lkC (k : Bool) (c : aCt) : Bool := lkC0 k c && !(inM c.2.2.2.2.1 0 15)
def lkM0 (k : Bool) (c : aCt) : Bool := c.2.2.2.2.1.all (fun q => pMk q.1) && (!(inM c.2.2.2.2.1 196 2) && (!(inM c.2.2.2.2.1 196 9) && (!(inM c.2.2.2.2.1 196 10) && (!(inM c.2.2.2.2.1 196 14) && (c.2.2.2.2.2.1.isEmpty && (if k then !(inM c.2.2.2.2.1 196 11) else en4 c 196 11))))))
def lkM (k : Bool) (c : aCt) : Bool := lkM0 k c && !(inM c.2.2.2.2.1 196 21)
def lkI (c : aCt) : Bool := c.2.2.2.1.all (fun p => match p.1 with | some (.inl _) => true | _ => false)
def lkL (c : aCt) : Bool := c.2.2.2.1.all (fun p => match p.1 with | some (.inr _) => true | _ => false)
def lkP (c : aCt) (rv : aU) : Bool := c.2.2.1.1.isEmpty && c.2.2.1.2.all (fun q => rv.any (fun r => decide (r = q)))
def lkD (c : aCt) : Bool := Nat.ble c.2.2.2.2.2.2 1004
section HLW
variable {t i L : Nat} {h h' g : zH} {xs : Nat → Int32} {ls : zL} {vs : List zV} {c c0 c1 : aCt} {k : Bool} {im : Int32}
theorem lInv.sh (hi : lInv t h) {a : Nat} {q : Option (Nat × Nat)} (e : zsh hh_487 a = q) : zsh h a = q := by
  unfold zsh
  rw [hi.2.2.2.2.1]
  exact e
theorem lIn0.sh (hi : lIn0 t h) {a : Nat} {q : Option (Nat × Nat)} (e : zsh hh_487 a = q) : zsh h a = q := by
  unfold zsh
  rw [hi.2.2.2]
  exact e
theorem lMid.sh (m : lMid k im t h h') {a : Nat} {q : Option (Nat × Nat)} (e : zsh hh_487 a = q) : zsh h' a = q := m.2.1.sh e
theorem lIn0.kp (hi : lIn0 t h) (ho : hOK wd h') (e1 : h'.1 = h.1) (e2 : h'.2.2.2.2 = h.2.2.2.2) (er : ∀ a k, h'.2.2.2.1 a k = h.2.2.2.1 a k) : lIn0 t h' := ⟨ho, hi.2.1.imp (fun z q hq => (er _ _).trans (z q hq)) (fun z q hq => (er _ _).trans (z q hq)), by rw [e2]; exact hi.2.2.1, e1.trans hi.2.2.2⟩
theorem lkC0_in {p : aPo} (hk : lkC0 k c = true) (hf : hFr c.2.2.2.2.1 c.2.2.2.2.2.1 h h') (hp : p ∈ c.2.2.2.1) (hs : ∀ q ∈ p.2.2.1, aIn (h'.2.1 q.1.1 q.1.2).toInt q.2) : hC0 k h h' := by
  unfold lkC0 at hk
  rw [Bool.and_eq_true, Bool.and_eq_true, Bool.and_eq_true, Bool.not_eq_true', List.isEmpty_iff] at hk
  obtain ⟨k1, k2, k4, k5⟩ := hk
  refine ⟨fun a j ha => hf.2.2.1 a j (inM_by pCk k1 (pCk_f ha)), hf.2.2.1 0 1 k2, fun a j => hf.2.2.2.1 a j (by rw [k4]; rfl), ?_⟩
  cases k with
  | true =>
    have k5 : (!(inM c.2.2.2.2.1 0 2)) = true := k5
    rw [Bool.not_eq_true'] at k5
    exact hf.2.2.1 0 2 k5
  | false => exact en4_in (k := 2) k5 hp hs
theorem lkC_in {p : aPo} (hk : lkC k c = true) (hf : hFr c.2.2.2.2.1 c.2.2.2.2.2.1 h h') (hp : p ∈ c.2.2.2.1) (hs : ∀ q ∈ p.2.2.1, aIn (h'.2.1 q.1.1 q.1.2).toInt q.2) : hC k (h.2.1 0 15) h h' := by
  unfold lkC at hk
  rw [Bool.and_eq_true, Bool.not_eq_true'] at hk
  exact ⟨lkC0_in hk.1 hf hp hs, hf.2.2.1 0 15 hk.2⟩
theorem lkM0_in {p : aPo} (hk : lkM0 k c = true) (hf : hFr c.2.2.2.2.1 c.2.2.2.2.2.1 h h') (hp : p ∈ c.2.2.2.1) (hs : ∀ q ∈ p.2.2.1, aIn (h'.2.1 q.1.1 q.1.2).toInt q.2) : hM0 k h h' := by
  unfold lkM0 at hk
  rw [Bool.and_eq_true, Bool.and_eq_true, Bool.and_eq_true, Bool.and_eq_true, Bool.and_eq_true, Bool.and_eq_true, Bool.not_eq_true', Bool.not_eq_true', Bool.not_eq_true', Bool.not_eq_true', List.isEmpty_iff] at hk
  obtain ⟨k1, k2, k3, k4, k5, k7, k8⟩ := hk
  refine ⟨fun a j ha => hf.2.2.1 a j (inM_by pMk k1 (pMk_f ha)), ⟨hf.2.2.1 196 2 k2, hf.2.2.1 196 9 k3, hf.2.2.1 196 10 k4, hf.2.2.1 196 14 k5⟩, fun a j => hf.2.2.2.1 a j (by rw [k7]; rfl), ?_⟩
  cases k with
  | true =>
    have k8 : (!(inM c.2.2.2.2.1 196 11)) = true := k8
    rw [Bool.not_eq_true'] at k8
    exact hf.2.2.1 196 11 k8
  | false => exact en4_in (k := 11) k8 hp hs
theorem lkM_in {p : aPo} (hk : lkM k c = true) (hf : hFr c.2.2.2.2.1 c.2.2.2.2.2.1 h h') (hp : p ∈ c.2.2.2.1) (hs : ∀ q ∈ p.2.2.1, aIn (h'.2.1 q.1.1 q.1.2).toInt q.2) : hM k (h.2.1 196 21) h h' := by
  unfold lkM at hk
  rw [Bool.and_eq_true, Bool.not_eq_true'] at hk
  exact ⟨lkM0_in hk.1 hf hp hs, hf.2.2.1 196 21 hk.2⟩
theorem l_goC (hS : aSpec wd c) (hk : (lkC k c && lkD c) = true) (ha : aArgs vs c.2.1) (hi : lInv t h) (hp : aPre h c.2.2.1) : zCt 1004 c.1 vs h (fun v h' => lMid k (h.2.1 0 15) t h h' ∧ ∃ p ∈ c.2.2.2.1, aRet v p.1) := by
  rw [Bool.and_eq_true] at hk
  refine zEx.mono (hS 1004 (Nat.le_of_ble_eq_true hk.2) vs h ha hi.1 hp) (fun v h' hq => ?_)
  obtain ⟨ho, hf, p, hp, hr, -, hs, -⟩ := hq
  have e := lkC_in hk.1 hf hp hs
  exact ⟨⟨hi, hi.dn.kp ho hf.1 hf.2.1 e.1.2.2.1, e⟩, p, hp, hr⟩
theorem l_goM (hS : aSpec wd c) (hk : (lkM k c && lkD c) = true) (ha : aArgs vs c.2.1) (m : lMid k (g.2.1 0 15) t g h) (hp : aPre h c.2.2.1) : zCt 1004 c.1 vs h (fun v h' => lInv t h' ∧ ∃ p ∈ c.2.2.2.1, aRet v p.1) := by
  rw [Bool.and_eq_true] at hk
  refine zEx.mono (hS 1004 (Nat.le_of_ble_eq_true hk.2) vs h ha m.2.1.1 hp) (fun v h' hq => ?_)
  obtain ⟨ho, hf, p, hp, hr, -, hs, -⟩ := hq
  have e := lkM_in hk.1 hf hp hs
  have ei : h.2.1 196 21 = g.2.1 0 15 := (m.2.2.1.1 196 21 (.inr (by decide))).trans m.1.ys.2.2.2.symm
  rw [ei] at e
  exact ⟨m.to (m.2.1.kp ho hf.1 hf.2.1 e.1.2.2.1) e, p, hp, hr⟩
theorem lkI_in {v : Option zV} (hk : lkI c = true) (h : ∃ p ∈ c.2.2.2.1, aRet v p.1) : ∃ x : Int32, v = some (.inl x) := by
  obtain ⟨p, hp, hr⟩ := h
  have hb := List.all_eq_true.mp hk p hp
  obtain ⟨p1, p2⟩ := p
  match p1, hb, hr with
  | some (.inl A), _, ⟨y, e, _⟩ => exact ⟨y, e⟩
theorem lkL_in {v : Option zV} (hk : lkL c = true) (h : ∃ p ∈ c.2.2.2.1, aRet v p.1) : ∃ x : Int64, v = some (.inr (.inl x)) := by
  obtain ⟨p, hp, hr⟩ := h
  have hb := List.all_eq_true.mp hk p hp
  obtain ⟨p1, p2⟩ := p
  match p1, hb, hr with
  | some (.inr _), _, ⟨y, e⟩ => exact ⟨y, e⟩
theorem lkP_in {rv : aU} (hk : lkP c rv = true) (hv : lV h rv) : aPre h c.2.2.1 := by
  unfold lkP at hk
  simp only [Bool.and_eq_true, List.isEmpty_iff] at hk
  refine ⟨fun q hq => ?_, fun q hq => ?_⟩
  · rw [hk.1] at hq
    cases hq
  · obtain ⟨r, hr, er⟩ := List.any_eq_true.mp (List.all_eq_true.mp hk.2 q hq)
    have er := of_decide_eq_true er
    subst er
    exact hv r hr
def lkX (f : aCt → Bool) (c : aCt) (rv : aU) : Bool := (f c && lkD c) && lkP c rv
theorem l_modM (hS : aSpec wd c) (hk : (lkX (lkM k) c [] && lkI c) = true) (ha : aArgs vs c.2.1) (m : lMid k (g.2.1 0 15) t g h) : zCi 1004 c.1 vs h (fun _ h' => lInv t h') := by
  unfold lkX at hk
  rw [Bool.and_eq_true, Bool.and_eq_true] at hk
  refine zEx.mono (l_goM hS hk.1.1 ha m (lkP_in hk.1.2 (fun q hq => nomatch hq))) (fun v h' hq => ?_)
  obtain ⟨x, e⟩ := lkI_in hk.2 hq.2
  exact ⟨x, e, hq.1⟩
theorem l_modML (hS : aSpec wd c) (hk : (lkX (lkM k) c [] && lkL c) = true) (ha : aArgs vs c.2.1) (m : lMid k (g.2.1 0 15) t g h) : zCl 1004 c.1 vs h (fun _ h' => lInv t h') := by
  unfold lkX at hk
  rw [Bool.and_eq_true, Bool.and_eq_true] at hk
  refine zEx.mono (l_goM hS hk.1.1 ha m (lkP_in hk.1.2 (fun q hq => nomatch hq))) (fun v h' hq => ?_)
  obtain ⟨x, e⟩ := lkL_in hk.2 hq.2
  exact ⟨x, e, hq.1⟩
theorem l_clsG {m : zM} (hS0 : aSpec wd c0) (hS1 : aSpec wd c1) (hk : (lkX (lkC k) c0 rv0 && lkX (lkC k) c1 rv1) = true) (hm : c0.1 = m) (hm1 : c1.1 = m) (ha : aArgs vs c0.2.1) (ha1 : c1.2.1 = c0.2.1) (hi : lInv t h) : zCt 1004 m vs h (fun v h' => lMid k (h.2.1 0 15) t h h' ∧ ((∃ p ∈ c0.2.2.2.1, aRet v p.1) ∨ ∃ p ∈ c1.2.2.2.1, aRet v p.1)) := by
  unfold lkX at hk
  simp only [Bool.and_eq_true] at hk
  rcases hi.2.1 with hv | hv
  · subst hm
    exact zEx.mono (l_goC hS0 (by simp only [Bool.and_eq_true]; exact hk.1.1) ha hi (lkP_in hk.1.2 hv)) (fun v h' hq => ⟨hq.1, .inl hq.2⟩)
  · subst hm1
    exact zEx.mono (l_goC hS1 (by simp only [Bool.and_eq_true]; exact hk.2.1) (by rw [ha1]; exact ha) hi (lkP_in hk.2.2 hv)) (fun v h' hq => ⟨hq.1, .inr hq.2⟩)
theorem l_cls {m : zM} (hS0 : aSpec wd c0) (hS1 : aSpec wd c1) (hk : (lkX (lkC k) c0 rv0 && lkX (lkC k) c1 rv1) = true) (hv : (lkI c0 && lkI c1) = true) (hm : c0.1 = m) (hm1 : c1.1 = m) (ha : aArgs vs c0.2.1) (ha1 : c1.2.1 = c0.2.1) (hi : lInv t h) : zCi 1004 m vs h (fun _ h' => lMid k (h.2.1 0 15) t h h') := by
  rw [Bool.and_eq_true] at hv
  refine zEx.mono (l_clsG hS0 hS1 hk hm hm1 ha ha1 hi) (fun v h' hq => ?_)
  obtain ⟨x, e⟩ := hq.2.elim (lkI_in hv.1) (lkI_in hv.2)
  exact ⟨x, e, hq.1⟩
theorem l_clsL {m : zM} (hS0 : aSpec wd c0) (hS1 : aSpec wd c1) (hk : (lkX (lkC k) c0 rv0 && lkX (lkC k) c1 rv1) = true) (hv : (lkL c0 && lkL c1) = true) (hm : c0.1 = m) (hm1 : c1.1 = m) (ha : aArgs vs c0.2.1) (ha1 : c1.2.1 = c0.2.1) (hi : lInv t h) : zCl 1004 m vs h (fun _ h' => lMid k (h.2.1 0 15) t h h') := by
  rw [Bool.and_eq_true] at hv
  refine zEx.mono (l_clsG hS0 hS1 hk hm hm1 ha ha1 hi) (fun v h' hq => ?_)
  obtain ⟨x, e⟩ := hq.2.elim (lkL_in hv.1) (lkL_in hv.2)
  exact ⟨x, e, hq.1⟩
theorem l_sz (hi : lInv t h) : ∃ s : Nat, s ≤ 1000 ∧ h.2.1 0 1 = nI s ∧ h.2.1 196 2 = nI s := by
  obtain ⟨s, hs, e⟩ := nI_rg (n := 1000) (aLe_in (A := gSeg (wd.2.1 0) 1) (by decide +kernel) (hi.1.2.1 0 1)) (by decide)
  exact ⟨s, hs, e, by rw [← hi.2.2.1]; exact e⟩
theorem sin (hL : L ≤ 3072) {k : Nat} (hk : i + k < L) : zin (nI (i + k)) L = true := zn_in hk (by omega)
theorem sxs (hL : L ≤ 3072) {k : Nat} (hk : i + k < L) : xs (nI (i + k)).toNatClampNeg = xs (i + k) := by rw [nI_clamp (by omega)]
theorem lInv.up (hi : lInv t h) : lInv (t + 1) h := ⟨hi.1, hi.2.1, hi.2.2.1, Nat.le_succ_of_le hi.2.2.2.1, hi.2.2.2.2⟩
theorem lLoc.st {k : Nat} {v : Int32} (hl : lLoc ls i) (hk : 4 < k) : lLoc (zset1 ls k (.inl v)) i :=
  ⟨zget_s1 hl.1 (by omega) (by simp [zcat]), zget_s1 hl.2.1 (by omega) (by simp [zcat]), zget_s1 hl.2.2.1 (by omega) (by simp [zcat]), zget_s1 hl.2.2.2.1 (by omega) (by simp [zcat]), zget_s1 hl.2.2.2.2 (by omega) (by simp [zcat])⟩
theorem l_decade {x1 x2 : Int32} (m : lMid false (g.2.1 0 15) t g h) : zCi 1004 mX12_decade [.inr (.inr (some 196)), .inl x1, .inl x2] h (fun _ h' => lInv t h') := by
  have key : ∀ c : aCt, aSpec wd c → (lkM false c && lkD c && lkI c) = true → c.1 = mX12_decade → c.2.1 = [.inr (.inl [196]), .inl aTop, .inl aTop] → aPre h c.2.2.1 → zCi 1004 mX12_decade [.inr (.inr (some 196)), .inl x1, .inl x2] h (fun _ h' => lInv t h') := by
    intro c hS hk hm ha hp
    rw [Bool.and_eq_true] at hk
    rw [← hm]
    refine zEx.mono (l_goM hS hk.1 (by rw [ha]; exact ⟨⟨196, List.mem_cons_self, rfl⟩, ⟨_, rfl, aIn_top _⟩, ⟨_, rfl, aIn_top _⟩, trivial⟩) m hp) (fun v h' hq => ?_)
    obtain ⟨x, e⟩ := lkI_in hk.2 hq.2
    exact ⟨x, e, hq.1⟩
  have pre1 : ∀ (a k : Nat) (n : Int), aIn (h.2.1 a k).toInt [(n, n, 1)] → aPre h ([((a, k), [(n, n, 1)])], []) := by
    intro a k n hn
    refine ⟨fun q hq => ?_, fun q hq => nomatch hq⟩
    have e : q = ((a, k), [(n, n, 1)]) := by simpa using hq
    subst e
    exact hn
  have hp : aIn (h.2.1 196 14).toInt [(0, ((1 : Nat) : Int), 1)] := aLe_in (A := gSeg (wd.2.1 196) 14) (by decide +kernel) (m.2.1.1.2.1 196 14)
  obtain ⟨s, hs, e⟩ := nI_rg hp (by decide)
  have hs : s = 0 ∨ s = 1 := by omega
  rcases hs with rfl | rfl
  · exact key ct_1094 S_1094 (by decide +kernel) rfl rfl (pre1 196 14 0 (by rw [e]; exact aR1_in (lo := 0) (hi := 0) (by decide) (by decide)))
  · have hm := m.2.1.1.2.2.2.1 ([((196, 14), [(1, 1, 1)])], ((199, 4), [(1, 7, 1)])) (by decide +kernel) (fun q hq => by
      have eq : q = ((196, 14), [(1, 1, 1)]) := by simpa using (show q ∈ [(((196, 14), [(1, 1, 1)]) : (Nat × Nat) × aI)] from hq)
      subst eq
      rw [e]
      exact aR1_in (lo := 1) (hi := 1) (by decide) (by decide))
    obtain ⟨q, hq, a, b, -⟩ := hm
    have eq : q = (1, 7, 1) := by simpa using hq
    subst eq
    have a : 1 ≤ (h.2.1 199 4).toInt := a
    have b : (h.2.1 199 4).toInt ≤ 7 := b
    have hc : (h.2.1 199 4).toInt = 1 ∨ (h.2.1 199 4).toInt = 2 ∨ (h.2.1 199 4).toInt = 3 ∨ (h.2.1 199 4).toInt = 4 ∨ (h.2.1 199 4).toInt = 5 ∨ (h.2.1 199 4).toInt = 6 ∨ (h.2.1 199 4).toInt = 7 := by omega
    rcases hc with z | z | z | z | z | z | z
    · exact key ct_1113 S_1113 (by decide +kernel) rfl rfl (pre1 199 4 1 (by rw [z]; exact aR1_in (lo := 1) (hi := 1) (by decide) (by decide)))
    · exact key ct_1132 S_1132 (by decide +kernel) rfl rfl (pre1 199 4 2 (by rw [z]; exact aR1_in (lo := 2) (hi := 2) (by decide) (by decide)))
    · exact key ct_1152 S_1152 (by decide +kernel) rfl rfl (pre1 199 4 3 (by rw [z]; exact aR1_in (lo := 3) (hi := 3) (by decide) (by decide)))
    · exact key ct_1173 S_1173 (by decide +kernel) rfl rfl (pre1 199 4 4 (by rw [z]; exact aR1_in (lo := 4) (hi := 4) (by decide) (by decide)))
    · exact key ct_1195 S_1195 (by decide +kernel) rfl rfl (pre1 199 4 5 (by rw [z]; exact aR1_in (lo := 5) (hi := 5) (by decide) (by decide)))
    · exact key ct_1218 S_1218 (by decide +kernel) rfl rfl (pre1 199 4 6 (by rw [z]; exact aR1_in (lo := 6) (hi := 6) (by decide) (by decide)))
    · exact key ct_1242 S_1242 (by decide +kernel) rfl rfl (pre1 199 4 7 (by rw [z]; exact aR1_in (lo := 7) (hi := 7) (by decide) (by decide)))
end HLW
end Pk0
section Pk1
/-! the law's loop: feed, post, led -/
section HLX
variable {t i L : Nat} {h h' g : zH} {xs : Nat → Int32} {ls : zL} {vs : List zV} {c c0 c1 : aCt} {k : Bool} {im : Int32}
theorem lIn0.inv (hi : lIn0 t h) (e : h.2.1 0 1 = h.2.1 196 2) (a : lT h) (b : lY h) : lInv t h := ⟨hi.1, hi.2.1, e, hi.2.2.1, hi.2.2.2, a, b⟩
def fS (s : Nat) : Nat := if s ≤ 980 then s + 20 else s
def fA (s : Nat) : Int32 := if s ≤ 980 then nI (s + 20) else -1
/-- what feed leaves alone -/
def fC1 (h h' : zH) : Prop := (∀ a j, 2 ≤ a → h'.2.1 a j = h.2.1 a j) ∧ h'.2.1 0 2 = h.2.1 0 2 ∧ h'.2.1 0 15 = h.2.1 0 15 ∧ ∀ a j, h'.2.2.2.1 a j = h.2.2.2.1 a j
def fM1 (h h' : zH) : Prop := (∀ a j, a < 196 ∨ 198 ≤ a → h'.2.1 a j = h.2.1 a j) ∧ (h'.2.1 196 9 = h.2.1 196 9 ∧ h'.2.1 196 10 = h.2.1 196 10 ∧ h'.2.1 196 11 = h.2.1 196 11 ∧ h'.2.1 196 14 = h.2.1 196 14 ∧ h'.2.1 196 21 = h.2.1 196 21) ∧ ∀ a j, h'.2.2.2.1 a j = h.2.2.2.1 a j
theorem lY_fed (k : lY h) (a : fC1 h g) (b : fM1 g h') : lY h' := by
  obtain ⟨a1, a2, a3, a4⟩ := a
  obtain ⟨b1, ⟨b9, b10, b11, b14, b21⟩, b2⟩ := b
  exact k.fr (fun x j h1 h2 => (b1 x j (by omega)).trans (a1 x j (by omega))) (fun j => (b1 199 j (by omega)).trans (a1 199 j (by omega))) ((b1 0 2 (by omega)).trans a2) ((b1 0 15 (by omega)).trans a3) (b9.trans (a1 196 9 (by omega))) (b10.trans (a1 196 10 (by omega))) (b11.trans (a1 196 11 (by omega))) (b14.trans (a1 196 14 (by omega))) (b21.trans (a1 196 21 (by omega))) ((b2 0 3).trans (a4 0 3))
def pF1 (a : Nat) : Bool := Nat.ble a 1
def pF2 (a : Nat) : Bool := Nat.beq a 196 || Nat.beq a 197
theorem pF1_f {a : Nat} (h : 2 ≤ a) : pF1 a = false := ble_f (by omega)
theorem pF2_f {a : Nat} (h : a < 196 ∨ 198 ≤ a) : pF2 a = false := by
  unfold pF2
  rw [beq_f (show a ≠ 196 by omega), beq_f (show a ≠ 197 by omega)]
  rfl
theorem l_feed11 {s : Nat} {x1 x2 x3 x4 x5 : Int32} (hi : lInv t h) (hs : s ≤ 1000) (e1 : h.2.1 0 1 = nI s) (e2 : h.2.1 196 2 = nI s) : zCi 1004 mX11_feed [.inr (.inr (some 0)), .inl x1, .inl x2, .inl x3, .inl x4, .inl x5] h (fun x h' => lIn0 t h' ∧ h'.2.1 196 2 = nI s ∧ h'.2.1 0 1 = nI (fS s) ∧ x = fA s ∧ fdC s x1 x2 x3 x4 x5 h h' ∧ fC1 h h') := by
  have g := S_5 1004 (by decide) [.inr (.inr (some 0)), .inl x1, .inl x2, .inl x3, .inl x4, .inl x5] h ⟨⟨0, List.mem_cons_self, rfl⟩, ⟨_, rfl, aIn_top _⟩, ⟨_, rfl, aIn_top _⟩, ⟨_, rfl, aIn_top _⟩, ⟨_, rfl, aIn_top _⟩, ⟨_, rfl, aIn_top _⟩, trivial⟩ hi.1 ⟨fun q hq => (nomatch hq), fun q hq => (nomatch hq)⟩
  refine zEx.mono (zPa.and (zEx.and g (F_feed11 (d := 1003) (x1 := x1) (x2 := x2) (x3 := x3) (x4 := x4) (x5 := x5) hi.1 e1 hs)) (N_feed11 (x1 := x1) (x2 := x2) (x3 := x3) (x4 := x4) (x5 := x5) hi.1 e1 hs)) (fun v h' hq => ?_)
  obtain ⟨⟨⟨ho, hf, -⟩, hq⟩, hz⟩ := hq
  have hj : lIn0 t h' := ⟨ho, hi.2.1.imp (fun z q hq => (hf.2.2.2.1 _ _ rfl).trans (z q hq)) (fun z q hq => (hf.2.2.2.1 _ _ rfl).trans (z q hq)), by rw [hf.2.1]; exact hi.2.2.2.1, hf.1.trans hi.2.2.2.2.1⟩
  have e3 : h'.2.1 196 2 = nI s := (hf.2.2.1 196 2 (by decide)).trans e2
  have e4 : fC1 h h' := ⟨fun a j ha => hf.2.2.1 a j (inM_by pF1 (by decide +kernel) (pF1_f ha)), hf.2.2.1 0 2 (by decide), hf.2.2.1 0 15 (by decide), fun a j => hf.2.2.2.1 a j rfl⟩
  rcases hq with ⟨c, a, b⟩ | ⟨c, a, b⟩
  · exact ⟨_, b, hj, e3, by rw [a, fS, if_pos c], by rw [fA, if_pos c], hz, e4⟩
  · exact ⟨_, b, hj, e3, by rw [a, fS, if_neg (by omega)], by rw [fA, if_neg (by omega)], hz, e4⟩
theorem l_feed12 {s : Nat} {x1 x2 x3 x4 x5 : Int32} (hi : lIn0 t h) (hs : s ≤ 1000) (e2 : h.2.1 196 2 = nI s) : zCi 1004 mX12_feed [.inr (.inr (some 196)), .inl x1, .inl x2, .inl x3, .inl x4, .inl x5] h (fun x h' => lIn0 t h' ∧ h'.2.1 0 1 = h.2.1 0 1 ∧ h'.2.1 196 2 = nI (fS s) ∧ x = fA s ∧ fdR s x1 x2 x3 x4 x5 h h' ∧ fM1 h h') := by
  have g := S_446 1004 (by decide) [.inr (.inr (some 196)), .inl x1, .inl x2, .inl x3, .inl x4, .inl x5] h ⟨⟨196, List.mem_cons_self, rfl⟩, ⟨_, rfl, aIn_top _⟩, ⟨_, rfl, aIn_top _⟩, ⟨_, rfl, aIn_top _⟩, ⟨_, rfl, aIn_top _⟩, ⟨_, rfl, aIn_top _⟩, trivial⟩ hi.1 ⟨fun q hq => (nomatch hq), fun q hq => (nomatch hq)⟩
  refine zEx.mono (zPa.and (zEx.and g (F_feed12 (d := 1004) (x1 := x1) (x2 := x2) (x3 := x3) (x4 := x4) (x5 := x5) hi.1 e2 hs)) (N_feed12 (x1 := x1) (x2 := x2) (x3 := x3) (x4 := x4) (x5 := x5) hi.1 e2 hs)) (fun v h' hq => ?_)
  obtain ⟨⟨⟨ho, hf, -⟩, hq⟩, hz⟩ := hq
  have hj : lIn0 t h' := ⟨ho, hi.2.1.imp (fun z q hq => (hf.2.2.2.1 _ _ rfl).trans (z q hq)) (fun z q hq => (hf.2.2.2.1 _ _ rfl).trans (z q hq)), by rw [hf.2.1]; exact hi.2.2.1, hf.1.trans hi.2.2.2⟩
  have e3 : h'.2.1 0 1 = h.2.1 0 1 := hf.2.2.1 0 1 (by decide)
  have e4 : fM1 h h' := ⟨fun a j ha => hf.2.2.1 a j (inM_by pF2 (by decide +kernel) (pF2_f ha)), ⟨hf.2.2.1 196 9 (by decide), hf.2.2.1 196 10 (by decide), hf.2.2.1 196 11 (by decide), hf.2.2.1 196 14 (by decide), hf.2.2.1 196 21 (by decide)⟩, fun a j => hf.2.2.2.1 a j rfl⟩
  rcases hq with ⟨c, a, b⟩ | ⟨c, a, b⟩
  · exact ⟨_, b, hj, e3, by rw [a, fS, if_pos c], by rw [fA, if_pos c], hz, e4⟩
  · exact ⟨_, b, hj, e3, by rw [a, fS, if_neg (by omega)], by rw [fA, if_neg (by omega)], hz, e4⟩
/-- both tapes behind feed -/
theorem lT_fed {s : Nat} {g : zH} {x1 x2 x3 x4 x5 : Int32} (hs : s ≤ 1000) (k : lT h) (e2 : h.2.1 196 2 = nI s) (a : fdC s x1 x2 x3 x4 x5 h g) (a2 : ∀ k, g.2.1 197 k = h.2.1 197 k) (b : fdR s x1 x2 x3 x4 x5 g h') (b2 : ∀ k, h'.2.1 1 k = g.2.1 1 k) (e3 : h'.2.1 196 2 = nI (fS s)) : lT h' := by
  intro j hj
  rw [e3] at hj
  unfold fS at hj
  rw [b2]
  have old : j < s → TB (g.2.1 1 j) (h'.2.1 197 j) := fun z => by
    rw [a.1 j z, b.1 j z, a2]
    exact k j (by rw [e2, nI_toInt (by omega)]; omega)
  split at hj
  · next c =>
    rw [nI_toInt (by omega)] at hj
    by_cases z : j < s
    · exact old z
    · obtain ⟨i, rfl⟩ : ∃ i, j = s + i := ⟨j - s, by omega⟩
      rw [a.2 c i (by omega), b.2 c i (by omega)]
      exact tb _ _
  · rw [nI_toInt (by omega)] at hj
    exact old (by omega)
/-- what post says, and what it tells -/
def pOK (x : Int32) (s : Nat) : Prop := 0 ≤ x.toInt ∧ x.toInt ≤ (s : Int)
def pst (y : Nat → Int32) (x : Int32) : sF ⊕ pA := sText y x.toInt.toNat (x.toInt.toNat + 1) pA0 0
theorem pOK.nI {s : Nat} {x : Int32} (hs : s ≤ 1000) (k : pOK x s) : x = nI x.toInt.toNat ∧ x.toInt.toNat ≤ s := by
  have h1 : 0 ≤ x.toInt := k.1
  have h2 : x.toInt ≤ s := k.2
  refine ⟨Int32.toInt_inj.mp ?_, by omega⟩
  rw [nI_toInt (by omega)]
  omega
section PNO
variable {x : Int32} {s d : Nat}
theorem N_no11 (ho : hOK wd h) (ht : h.2.1 0 1 = nI s) (hs : s ≤ 1000) (k : ¬ pOK x s) : zPa d mX11_post [.inr (.inr (some 0)), .inl x] h (fun v h' => v = some (.inl (-1)) ∧ h' = zsI h 0 2 2) := by
  intro N
  have s0 : zsh h 0 = some (11, 16) := ho.1 0 (11, 16) (by decide +kernel)
  have k0 : (0 : Int32).toInt = 0 := by decide
  have e12 : zPn N none d mX11_post (12, [(0, .inr (.inr (some 0))), (1, .inl x)], [], h) (fun v h' => v = some (.inl (-1)) ∧ h' = zsI h 0 2 2) := by
    refine pa_aload_n (pc' := 13) dX11_post_12 rfl rfl ?_
    refine pa_iconst (v := 2) (pc' := 14) dX11_post_13 (by decide) rfl ?_
    refine pa_callv (pc' := 17) (vs := [.inl 2]) (rest := []) dX11_post_14 ml_11_98 (by decide) rfl rfl rfl (fun d' _ => c_ref s0) (fun v g2 hq => ?_)
    obtain ⟨ev, eg⟩ := hq
    subst ev
    exact pa_iret dX11_post_17 rfl rfl ⟨rfl, eg⟩
  show zPn N none d mX11_post (0, [(0, .inr (.inr (some 0))), (1, .inl x)], [], h) _
  refine pa_iload_n (pc' := 1) dX11_post_0 rfl rfl ?_
  refine pa_if (pc' := 12) (pc2 := 4) dX11_post_1 (by decide) rfl (fun c => e12) (fun c => ?_)
  refine pa_iload_n (pc' := 5) dX11_post_4 rfl rfl ?_
  refine pa_aload_n (pc' := 6) dX11_post_5 rfl rfl ?_
  refine pa_getI (pc' := 9) (n := 16) (v := nI s) dX11_post_6 fl_11_13 s0 (by decide) ht rfl ?_
  refine pa_icmp (pc' := 18) (pc2 := 12) dX11_post_9 (by decide) rfl (fun c2 => ?_) (fun c2 => e12)
  have c3 := zi_ngt (zk_le_gt c2)
  rw [nI_toInt (by omega)] at c3
  have c1 := zi_nlt c
  exact absurd ⟨by omega, c3⟩ k
theorem m_good (s196 : zsh h 196 = some (12, 39)) : zPa d mX12_good [.inr (.inr (some 196))] h (fun v h' => v = none ∧ h' = zsI (zsI h 196 0 0) 196 11 0) := by
  intro N
  show zPn N none d mX12_good (0, [(0, .inr (.inr (some 196)))], [], h) _
  refine pa_aload_n (pc' := 1) dX12_good_0 rfl rfl ?_
  refine pa_iconst (v := 0) (pc' := 2) dX12_good_1 (by decide) rfl ?_
  refine pa_putI (pc' := 5) (n := 39) dX12_good_2 fl_12_62 s196 (Or.inl rfl) (Or.inl rfl) rfl ?_
  refine pa_aload_n (pc' := 6) dX12_good_5 rfl rfl ?_
  refine pa_iconst (v := 0) (pc' := 7) dX12_good_6 (by decide) rfl ?_
  refine pa_putI (pc' := 10) (n := 39) dX12_good_7 fl_12_65 s196 (Or.inl rfl) (Or.inl rfl) rfl ?_
  exact pa_vret dX12_good_10 rfl ⟨rfl, rfl⟩
theorem m_no {k : Int32} (s196 : zsh h 196 = some (12, 39)) : zPa d mX12_no [.inr (.inr (some 196)), .inl k] h (fun v h' => v = some (.inl (-1)) ∧ h' = zsI h 196 11 k) := by
  intro N
  show zPn N none d mX12_no (0, [(0, .inr (.inr (some 196))), (1, .inl k)], [], h) _
  refine pa_aload_n (pc' := 1) dX12_no_0 rfl rfl ?_
  refine pa_iload_n (pc' := 2) dX12_no_1 rfl rfl ?_
  refine pa_putI (pc' := 5) (n := 39) dX12_no_2 fl_12_65 s196 (Or.inl rfl) (Or.inl rfl) rfl ?_
  refine pa_iconst (v := (-1)) (pc' := 6) dX12_no_5 (by decide) rfl ?_
  exact pa_iret dX12_no_6 rfl rfl ⟨rfl, rfl⟩
theorem rtR.ch {R0 R1 : Nat → Nat → Int32} {r : sF ⊕ pA} {v : Option zV} (e : ∀ a j, mKp a j → R1 a j = R0 a j) (k : rtR R1 r v h) : rtR R0 r v h := by
  unfold rtR at *
  split at k
  · exact ⟨k.1, k.2.1, k.2.2.1, k.2.2.2.1, fun a j hk => (k.2.2.2.2 a j hk).trans (e a j hk)⟩
  · exact k
theorem N_post12 (ho : hOK wd h) (e1 : h.1 = hh_487.1) (ht : h.2.1 196 2 = nI s) (hs : s ≤ 1000) {y : Nat → Int32} (hy : ∀ k : Nat, (k : Int) < (nI s).toInt → TB (y k) (h.2.1 197 k)) : zPa (d + 1) mX12_post [.inr (.inr (some 196)), .inl x] h (fun v h' => (¬ pOK x s ∧ v = some (.inl (-1)) ∧ h' = zsI (zsI (zsI h 196 0 0) 196 11 0) 196 11 2) ∨ (pOK x s ∧ rtR h.2.1 (pst y x) v h')) := by
  intro N
  have s196 : zsh h 196 = some (12, 39) := ho.1 196 (12, 39) (by decide +kernel)
  show zPn N none (d + 1) mX12_post (0, [(0, .inr (.inr (some 196))), (1, .inl x)], [], h) _
  refine pa_aload_n (pc' := 1) dX12_post_0 rfl rfl ?_
  refine pa_callv (pc' := 4) (vs := []) (rest := []) dX12_post_1 ml_12_167 (by decide) rfl rfl rfl (fun d' _ => m_good s196) (fun v g hq => ?_)
  obtain ⟨er, eg⟩ := hq
  subst er
  have e2 : g.2.1 196 2 = nI s := by rw [eg, zsI_no (by omega), zsI_no (by omega)]; exact ht
  have eg1 : g.1 = h.1 := by rw [eg]; rfl
  have egr : ∀ a k, g.2.2.2.1 a k = h.2.2.2.1 a k := by rw [eg]; exact fun _ _ => rfl
  have e197 : ∀ k, g.2.1 197 k = h.2.1 197 k := fun k => by rw [eg, zsI_no (by omega), zsI_no (by omega)]
  have s196 : zsh g 196 = some (12, 39) := by unfold zsh at *; rw [eg1]; exact s196
  show zPn N none (d + 1) mX12_post (4, [(0, .inr (.inr (some 196))), (1, .inl x)], [], g) _
  refine pa_iload_n (pc' := 5) dX12_post_4 rfl rfl ?_
  refine pa_iconst (v := 0) (pc' := 6) dX12_post_5 (by decide) rfl ?_
  refine pa_aload_n (pc' := 7) dX12_post_6 rfl rfl ?_
  refine pa_getI (pc' := 10) (n := 39) (v := nI s) dX12_post_7 fl_12_68 s196 (by decide) e2 rfl ?_
  refine pa_calls (pc' := 13) (kd := 1) (vs := [.inl x, .inl 0, .inl (nI s)]) (rest := []) dX12_post_10 ml_12_149 (.inl rfl) rfl rfl rfl (fun d' _ => zPa.of in_ex) (fun r h2 hq => ?_)
  obtain ⟨r, er, eh, hq⟩ := hq
  subst er; subst eh
  rw [nI_toInt (by omega)] at hq
  show zPn N none (d + 1) mX12_post (13, [(0, .inr (.inr (some 196))), (1, .inl x)], [.inl r], h2) _
  rcases hq with ⟨e, c⟩ | ⟨e, c⟩
  · subst e
    have c : pOK x s := c
    refine pa_if_t (pc' := 22) dX12_post_13 (by decide) (by decide) ?_
    refine pa_aload_n (pc' := 23) dX12_post_22 rfl rfl ?_
    refine pa_iconst (v := 0) (pc' := 24) dX12_post_23 (by decide) rfl ?_
    refine pa_putI (pc' := 27) (n := 39) dX12_post_24 fl_12_68 s196 (Or.inl rfl) (Or.inl rfl) rfl ?_
    obtain ⟨en, hn⟩ := c.nI hs
    have key := M_text (N := N) (d := d) (n := x.toInt.toNat) (y := y) (h := zsI h2 196 2 0) (eg1.trans e1) (fun a k b hb => (egr a k).trans (ho.2.2.1 a k b hb)) (by omega) (fun k hk => by
      rw [zsI_no (by omega), e197]
      exact hy k (by rw [nI_toInt (by omega)]; omega))
    rw [← en] at key
    exact key.mono (fun v h' hq => .inr ⟨c, rtR.ch (fun a j hk => by
      unfold mKp at hk
      rw [zsI_no (by omega), eg, zsI_no (by omega), zsI_no (by omega)]) hq⟩)
  · subst e
    refine pa_if_f (pc' := 16) dX12_post_13 (by decide) (by decide) rfl ?_
    refine pa_aload_n (pc' := 17) dX12_post_16 rfl rfl ?_
    refine pa_iconst (v := 2) (pc' := 18) dX12_post_17 (by decide) rfl ?_
    refine pa_callv (pc' := 21) (vs := [.inl 2]) (rest := []) dX12_post_18 ml_12_170 (by decide) rfl rfl rfl (fun d' _ => m_no s196) (fun v g2 hq => ?_)
    obtain ⟨ev, eg2⟩ := hq
    subst ev
    exact pa_iret dX12_post_21 rfl rfl (.inl ⟨c, rfl, by rw [eg2, eg]⟩)
end PNO
/-- what post of the class leaves -/
def pQ1 (x : Int32) (s : Nat) (h : zH) (v : Int32) (h' : zH) : Prop := (∀ a j, 196 ≤ a → h'.2.1 a j = h.2.1 a j) ∧ ((¬ pOK x s ∧ v = -1 ∧ h' = zsI h 0 2 2) ∨ (pOK x s ∧ ∃ c b, cc2 c ∧ h.2.2.2.1 0 3 = some b ∧ pcR c b h (pst (h.2.1 1) x) (some (.inl v)) h'))
def pQ2 (y : Nat → Int32) (x : Int32) (s : Nat) (h : zH) (v : Int32) (h' : zH) : Prop := (∀ a j, a < 196 ∨ a = 197 → h'.2.1 a j = h.2.1 a j) ∧ (∀ a j, h'.2.2.2.1 a j = h.2.2.2.1 a j) ∧ (v ≠ -1 → h'.2.1 196 11 = 0 ∧ h'.2.1 196 13 = 0 ∧ h'.2.1 196 21 = 0) ∧ ((¬ pOK x s ∧ v = -1 ∧ h' = zsI (zsI (zsI h 196 0 0) 196 11 0) 196 11 2) ∨ (pOK x s ∧ rtR h.2.1 (pst y x) (some (.inl v)) h'))
theorem l_post11 {s : Nat} {x : Int32} (hi : lInv t h) (hs : s ≤ 1000) (e1 : h.2.1 0 1 = nI s) (e2 : h.2.1 196 2 = nI s) : zCi 1004 mX11_post [.inr (.inr (some 0)), .inl x] h (fun v h' => lIn0 t h' ∧ h'.2.1 196 2 = nI s ∧ h'.2.1 0 1 = pSz x s ∧ pQ1 x s h v h') := by
  have fin : ∀ {c b : Nat}, cc2 c → h.2.2.2.1 0 3 = some b → (pOK x s → zPa 1004 mX11_post [.inr (.inr (some 0)), .inl x] h (pcR c b h (pst (h.2.1 1) x))) → zPa 1004 mX11_post [.inr (.inr (some 0)), .inl x] h (fun v h' => ∀ w, v = some (.inl w) → ((¬ pOK x s ∧ w = -1 ∧ h' = zsI h 0 2 2) ∨ (pOK x s ∧ ∃ c b, cc2 c ∧ h.2.2.2.1 0 3 = some b ∧ pcR c b h (pst (h.2.1 1) x) (some (.inl w)) h'))) := by
    intro c b hc hb hp
    by_cases k : pOK x s
    · refine (hp k).mono (fun v h' hq w ew => .inr ⟨k, c, b, hc, hb, ?_⟩)
      rw [← ew]
      exact hq
    · refine (N_no11 hi.1 e1 hs k).mono (fun v h' hq w ew => .inl ⟨k, ?_, hq.2⟩)
      have := hq.1.symm.trans ew
      cases this
      rfl
  rcases hi.2.1 with hv | hv
  · refine zEx.mono (zPa.and (P_post11_0 (d := 1003) (x := x) hi.1 hv e1 hs (by decide)) (fin (c := 42) (b := 2) (by unfold cc2; decide) (hv ((0, 3), 2) (by decide)) (fun k => ?_))) (fun v h' hq => ?_)
    · obtain ⟨en, hn⟩ := k.nI hs
      have := N_post11_0 (d := 1003) (n := x.toInt.toNat) hi.1 hi.2.2.2.2.1 hv e1 hs hn (by decide)
      rw [← en] at this
      exact this
    · obtain ⟨⟨⟨y, e⟩, ho, a, b, c, f, g, fr⟩, hq⟩ := hq
      exact ⟨y, e, ⟨ho, f, by rw [b]; exact hi.2.2.2.1, a.trans hi.2.2.2.2.1⟩, c.trans e2, g, fr, hq y e⟩
  · refine zEx.mono (zPa.and (P_post11_1 (d := 1003) (x := x) hi.1 hv e1 hs (by decide)) (fin (c := 2) (b := 42) (by unfold cc2; decide) (hv ((0, 3), 42) (by decide)) (fun k => ?_))) (fun v h' hq => ?_)
    · obtain ⟨en, hn⟩ := k.nI hs
      have := N_post11_1 (d := 1003) (n := x.toInt.toNat) hi.1 hi.2.2.2.2.1 hv e1 hs hn (by decide)
      rw [← en] at this
      exact this
    · obtain ⟨⟨⟨y, e⟩, ho, a, b, c, f, g, fr⟩, hq⟩ := hq
      exact ⟨y, e, ⟨ho, f, by rw [b]; exact hi.2.2.2.1, a.trans hi.2.2.2.2.1⟩, c.trans e2, g, fr, hq y e⟩
theorem l_post12 {s : Nat} {x : Int32} {y : Nat → Int32} (hi : lIn0 t h) (hs : s ≤ 1000) (e2 : h.2.1 196 2 = nI s) (hy : ∀ k : Nat, (k : Int) < (nI s).toInt → TB (y k) (h.2.1 197 k)) : zCi 1004 mX12_post [.inr (.inr (some 196)), .inl x] h (fun v h' => lIn0 t h' ∧ h'.2.1 0 1 = h.2.1 0 1 ∧ h'.2.1 196 2 = pSz x s ∧ pQ2 y x s h v h') := by
  refine zEx.mono (zPa.and (P_post12 (d := 1003) (x := x) hi.1 e2 hs (by decide)) (N_post12 (d := 1003) (x := x) (y := y) hi.1 hi.2.2.2 e2 hs hy)) (fun v h' hq => ?_)
  obtain ⟨⟨⟨w, e⟩, ho, a, b, c, f, g, fr, z⟩, hq⟩ := hq
  refine ⟨w, e, ⟨ho, hi.2.1.imp (fun z q hq => (f _ _).trans (z q hq)) (fun z q hq => (f _ _).trans (z q hq)), by rw [b]; exact hi.2.2.1, a.trans hi.2.2.2⟩, c, g, fr, f, z w e, ?_⟩
  subst e
  rcases hq with ⟨k, ev, eh⟩ | ⟨k, hq⟩
  · cases ev
    exact .inl ⟨k, rfl, eh⟩
  · exact .inr ⟨k, hq⟩
/-- both tapes behind post -/
theorem lT_post {s : Nat} {x v w : Int32} {y : Nat → Int32} (k : lT h) (e2 : h.2.1 196 2 = nI s) (a : pQ1 x s h v g) (b : pQ2 y x s g w h') (e3 : h'.2.1 196 2 = pSz x s) : lT h' := by
  intro j hj
  rw [e3] at hj
  unfold pSz at hj
  split at hj
  · have : (0 : Int32).toInt = 0 := by decide
    omega
  · next c =>
    have eg : g = zsI h 0 2 2 := by
      rcases a.2 with ⟨-, -, z⟩ | ⟨z, -⟩
      · exact z
      · exact absurd z c
    rw [b.1 1 j (by omega), b.1 197 j (by omega), eg, zsI_no (by omega), zsI_no (by omega)]
    exact k j (by rw [e2]; exact hj)
/-- the rest behind post -/
theorem lY_post {s : Nat} {x v w : Int32} (k : lY h) (ho : hOK wd h') (a : pQ1 x s h v g) (b : pQ2 (h.2.1 1) x s g w h') : lY h' := by
  obtain ⟨a1, a2⟩ := a
  obtain ⟨b1, b2, b3, b4⟩ := b
  rcases a2 with ⟨a3, a4, a5⟩ | ⟨a3, c, b, hc, hb, a4⟩
  · rcases b4 with ⟨b5, b6, b7⟩ | ⟨b5, -⟩
    · obtain ⟨⟨A, c, kA, kT⟩, k2, ⟨k3, k4⟩, k5⟩ := k
      have f2 : ∀ a j, 1 ≤ a → a < 196 → h'.2.1 a j = h.2.1 a j := fun a j h1 h2 => (b1 a j (.inl h2)).trans (by rw [a5]; exact zsI_no (by omega))
      have f3 : ∀ a j, ¬ (a = 196 ∧ j = 0) → ¬ (a = 196 ∧ j = 11) → 196 ≤ a → h'.2.1 a j = h.2.1 a j := fun a j h1 h2 h3 => by
        rw [b7, zsI_no (by omega), zsI_no (by omega), zsI_no (by omega)]
        exact a1 a j h3
      have t0 : h'.2.1 0 2 = 2 := (b1 0 2 (.inl (by decide))).trans (by rw [a5]; exact zsI_eq)
      have t1 : h'.2.1 196 11 = 2 := by rw [b7]; exact zsI_eq
      refine ⟨⟨A, c, kA.fr (fun a j h1 h2 => f2 a j (by have := kA.2.1.rg h1 h2; omega) (by have := kA.2.1.rg h1 h2; omega)) (fun j => f3 199 j (by omega) (by omega) (by omega)) (f3 196 14 (by omega) (by omega) (by omega)) ((b2 0 3).trans (by rw [a5]; rfl)), kT⟩, ?_, ⟨?_, ?_⟩, ?_⟩
      · rw [f2 82 11 (by omega) (by omega), f3 196 9 (by omega) (by omega) (by omega)]; exact k2
      · rw [t0, t1]
      · rw [t1]
        exact fun z => absurd z (by decide)
      · rw [(b1 0 15 (.inl (by decide))).trans (show g.2.1 0 15 = h.2.1 0 15 by rw [a5]; exact zsI_no (by omega)), f3 196 21 (by omega) (by omega) (by omega)]; exact k5
    · exact absurd b5 a3
  · rcases b4 with ⟨b5, -⟩ | ⟨-, b5⟩
    · exact absurd a3 b5
    · cases er : pst (h.2.1 1) x with
      | inl e =>
        rw [er] at a4 b5
        obtain ⟨-, ⟨f1, f2⟩, f3, f4, f5, f6⟩ := a4
        obtain ⟨-, g9, g10, g11, g4⟩ := b5
        obtain ⟨⟨A, c', kA, kT⟩, k2, ⟨k3, k4⟩, k5⟩ := k
        have ec : c' = b := by
          have := kA.2.2.1.symm.trans hb
          cases this
          rfl
        subst ec
        have k199 : ∀ j, h'.2.1 199 j = h.2.1 199 j := fun j => (g4 199 j (Or.inl (by decide))).trans (a1 199 j (by decide))
        have k196 : ∀ j, 14 ≤ j → h'.2.1 196 j = h.2.1 196 j := fun j hj => (g4 196 j (Or.inr ⟨rfl, hj⟩)).trans (a1 196 j (by decide))
        refine ⟨⟨A, c', kA.fr (fun a j h1 h2 => (b1 a j (.inl (by have := kA.2.1.rg h1 h2; omega))).trans (f4 a j h1 h2)) k199 (k196 14 (by decide)) ((b2 0 3).trans f5), kT⟩, ?_, ⟨?_, ?_⟩, ?_⟩
        · rw [b1 82 11 (.inl (by decide)), f1, g9]
        · rw [b1 0 2 (.inl (by decide)), f3, g11]
        · intro _
          rw [b1 82 12 (.inl (by decide)), f2, g10]
        · rw [b1 0 15 (.inl (by decide)), f6, k196 21 (by decide)]; exact k5
      | inr A =>
        rw [er] at a4 b5
        obtain ⟨-, f1, f2, f3, f4, f5, f6, f7⟩ := a4
        obtain ⟨g1, g2, g3⟩ := b5
        have ew : w ≠ -1 := by
          cases g1
          intro z
          have := congrArg Int32.toInt z
          have b7 := f2.2.2.1.1
          rw [nI_toInt (by omega), show (-1 : Int32).toInt = -1 by decide] at this
          omega
        obtain ⟨z11, z13, z21⟩ := b3 ew
        have z9 : h'.2.1 196 9 = 0 := aIn_0 (ho.2.2.2.1 ([((196, 13), [(0, 0, 1)])], ((196, 9), [(0, 0, 1)])) (by decide +kernel) (fun q hq => by
          have eq : q = ((196, 13), [(0, 0, 1)]) := by simpa using (show q ∈ [(((196, 13), [(0, 0, 1)]) : (Nat × Nat) × aI)] from hq)
          subst eq
          show aIn (h'.2.1 196 13).toInt [(0, 0, 1)]
          rw [z13]
          exact aR1_in (lo := 0) (hi := 0) (by decide) (by decide)))
        refine ⟨⟨A, c, ⟨f2, hc, (b2 0 3).trans f3, rcC.frB f2 (fun a j h1 h2 => b1 a j (.inl (by have := hc.rg h1 h2; omega))) f1, .inr ⟨g3, f7, g2⟩⟩, sText_tA _ _ _ pI_0 tA_0 (Nat.zero_le _) er⟩, ?_, ⟨?_, ?_⟩, ?_⟩
        · rw [b1 82 11 (.inl (by decide)), f4, z9]
        · rw [b1 0 2 (.inl (by decide)), f5, z11]
        · rw [z11]
          exact fun z => absurd z (by decide)
        · rw [b1 0 15 (.inl (by decide)), f6, z21]
theorem l_led {x : Int32} (hi : lInv t h) (ht : t < 1000) : zCt 1004 zledM [.inr (.inr (some 0)), .inl x] h (fun v h' => (∃ b : Int32, v = some (.inl b) ∧ lInv (t + 1) h') ∨ ((∃ y : Int64, v = some (.inr (.inl y))) ∧ lInv (t + 1) h')) := by
  have hr : h.2.2.2.1 0 3 = some 2 ∨ h.2.2.2.1 0 3 = some 42 := hi.2.1.imp (fun z => z ((0, 3), 2) List.mem_cons_self) (fun z => z ((0, 3), 42) List.mem_cons_self)
  refine zEx.mono (S_led (d := 1003) (x := x) hi.1 hr (Nat.lt_of_le_of_lt hi.2.2.2.1 ht)) (fun v h' hq => ?_)
  have kp : ∀ g, ldS h g → lInv t g := fun g hg => ⟨hg.1, hi.2.1.imp (fun z q hq => (hg.2.2.2.1 _ _).trans (z q hq)) (fun z q hq => (hg.2.2.2.1 _ _).trans (z q hq)), by rw [hg.2.2.1, hg.2.2.1]; exact hi.2.2.1, by rw [hg.2.2.2.2]; exact hi.2.2.2.1, hg.2.1.trans hi.2.2.2.2.1, hi.tp.fr (hg.2.2.1 _ _) (fun k => hg.2.2.1 _ _) (fun k => hg.2.2.1 _ _), hi.ys.fr (fun a j _ _ => hg.2.2.1 a j) (fun j => hg.2.2.1 199 j) (hg.2.2.1 _ _) (hg.2.2.1 _ _) (hg.2.2.1 _ _) (hg.2.2.1 _ _) (hg.2.2.1 _ _) (hg.2.2.1 _ _) (hg.2.2.1 _ _) (hg.2.2.2.1 _ _)⟩
  rcases hq with ⟨b, e, hg⟩ | ⟨e, g, hg, eg⟩
  · exact .inl ⟨b, e, (kp _ hg).up⟩
  · have k := kp g hg
    subst eg
    exact .inr ⟨⟨-1, e⟩, k.1, k.2.1, k.2.2.1, Nat.succ_le_succ k.2.2.2.1, k.2.2.2.2⟩
theorem ex_led {scr : Option (Nat × (Nat → Int32))} {d pc pc' : Nat} {m : zM} {Q : Option zV → zH → Prop} {Qc : Option zV → zH → Prop} {k na a o : Nat} {cm : zM} {p : Int32} {rest : List zV} (hd : decode m.1 pc = .ok (.invokestatic k, 3)) (hz : zmth m.2.1 k = some (16, na, cm)) (hsc : scr.isSome = true) (hw : zwd rest ≤ 8 ∧ zsh h a = some (11, 16) ∧ zsh h o = some (15, 1) ∧ h.2.2.2.2 < 1000) (hp : pc + 3 = pc')
    (hc : zCt d zledM [.inr (.inr (some a)), .inl p] h Qc) (kk : ∀ v h', Qc v h' → (∃ b : Int32, v = some (.inl b) ∧ zEx scr (d + 1) m (pc', ls, .inl 0 :: rest, zsL h' o 0 b.toInt64) Q) ∨ ((∃ y : Int64, v = some (.inr (.inl y))) ∧ zEx scr (d + 1) m (pc', ls, .inl 1 :: rest, h') Q)) : zEx scr (d + 1) m (pc, ls, .inr (.inr (some o)) :: .inl p :: .inr (.inr (some a)) :: rest, h) Q := by
  obtain ⟨n1, r, h1, a1, hq⟩ := hc
  have hgo : ∀ (n2 : Nat) (g : zC), (∀ n, n1 ≤ n → zled (zcf n (d + 1)) pc ls (.inr (.inr (some o)) :: .inl p :: .inr (.inr (some a)) :: rest) h = some (.inl g)) → zEx scr (d + 1) m g Q → zEx scr (d + 1) m (pc, ls, .inr (.inr (some o)) :: .inl p :: .inr (.inr (some a)) :: rest, h) Q := by
    intro _ g hg ⟨n2, v, h', b1, b2⟩
    refine ⟨max n1 n2 + 1, v, h', ?_, b2⟩
    rw [zrun_succ]
    have hs : zstep scr (zcf (max n1 n2) (d + 1)) (decide (0 < d + 1)) m (pc, ls, .inr (.inr (some o)) :: .inl p :: .inr (.inr (some a)) :: rest, h) = some (.inl g) := by
      unfold zstep
      rw [hd]
      dsimp only
      have hl : zilen (.invokestatic k) = 0 ∨ 3 = zilen (.invokestatic k) := Or.inr rfl
      rw [if_pos hl]
      have e : decide (0 < d + 1) = true := by simp
      rw [e]
      simp only [zexec, hz]
      rw [if_neg (by decide), if_pos trivial, if_pos ⟨hsc, trivial⟩]
      exact hg _ (Nat.le_max_left _ _)
    rw [hs]
    exact zrun_le (Nat.le_max_right _ _) b1
  have hcf : ∀ n, n1 ≤ n → zcf n (d + 1) zledM [.inr (.inr (some a)), .inl p] h = some (r, h1) := by
    intro n hn
    unfold zcf
    dsimp only
    rw [if_pos (zble rfl)]
    exact zrun_le hn a1
  rcases kk r h1 hq with ⟨b, e, kz⟩ | ⟨⟨y, e⟩, kz⟩
  · subst e
    refine hgo 0 _ (fun n hn => ?_) kz
    unfold zled
    dsimp only
    rw [if_pos hw, hcf n hn, ← hp]
  · subst e
    refine hgo 0 _ (fun n hn => ?_) kz
    unfold zled
    dsimp only
    rw [if_pos hw, hcf n hn, ← hp]
end HLX
end Pk1
section Pk2
/-! the answers that rest on the post alone -/
section HLA
variable {t c n d : Nat} {h h' g : zH} {A : pA} {x : Int32}
theorem lPA.h4 (hA : lPA A c h) : h.2.1 c 4 = nI (cI A) := hA.2.2.2.1.2.1
theorem lPA.le (hA : lPA A c h) : cI A ≤ 7 := hA.1.2.2.1.1
theorem lPA.sc (hA : lPA A c h) (h1 : h.1 = hh_487.1) : zsh h c = some (4, 15) := by
  have hc : c = 2 ∨ c = 42 := hA.2.1
  have e : zsh hh_487 c = some (4, 15) := by rcases hc with e | e <;> subst e <;> decide +kernel
  unfold zsh at *
  rw [h1]
  exact e
theorem lPA.pos (hA : lPA A c h) : (cI A = 0 ∧ h.2.1 196 14 = 0) ∨ (cI A ≠ 0 ∧ h.2.1 196 14 = 1) := by
  rcases hA.2.2.2.2 with ⟨a, b⟩ | ⟨a, b, -⟩
  · exact .inl ⟨by subst b; rfl, a⟩
  · exact .inr ⟨b, a⟩
theorem zsh_by {a : Nat} {q : Option (Nat × Nat)} (h1 : h.1 = hh_487.1) (e : zsh hh_487 a = q) : zsh h a = q := by
  unfold zsh at *
  rw [h1]
  exact e
theorem N_hasPost (hA : lPA A c h) (h1 : h.1 = hh_487.1) : zPa d mX11_hasPost [.inr (.inr (some 0))] h (fun v h' => v = some (.inl (if cI A = 0 then 0 else 1)) ∧ h' = h) := by
  intro N
  have s0 : zsh h 0 = some (11, 16) := zsh_by h1 (by decide +kernel)
  have hle := hA.le
  have k0 : (0 : Int32).toInt = 0 := by decide
  show zPn N none d mX11_hasPost (0, [(0, .inr (.inr (some 0)))], [], h) _
  refine pa_aload_n (pc' := 1) dX11_hasPost_0 rfl rfl ?_
  refine pa_getR (pc' := 4) (n := 16) (r := c) dX11_hasPost_1 fl_11_23 s0 (by decide) hA.2.2.1 rfl ?_
  refine pa_getI (pc' := 7) (n := 15) (v := nI (cI A)) dX11_hasPost_4 fl_11_109 (hA.sc h1) (by decide) hA.h4 rfl ?_
  refine pa_if (pc' := 14) (pc2 := 10) dX11_hasPost_7 (by decide) rfl (fun z => ?_) (fun z => ?_)
  · have z := zi_ngt (zk_le_gt z)
    rw [nI_toInt (by omega), k0] at z
    refine pa_iconst (v := 0) (pc' := 15) dX11_hasPost_14 (by decide) rfl ?_
    exact pa_iret dX11_hasPost_15 rfl rfl ⟨by rw [if_pos (by omega)], rfl⟩
  · have z := zi_gt (zk_le_gt z)
    rw [nI_toInt (by omega), k0] at z
    refine pa_iconst (v := 1) (pc' := 11) dX11_hasPost_10 (by decide) rfl ?_
    refine pa_goto (pc' := 15) dX11_hasPost_11 (by decide) ?_
    exact pa_iret dX11_hasPost_15 rfl rfl ⟨by rw [if_neg (by omega)], rfl⟩
theorem N_isI11 (hA : lPA A c h) (h1 : h.1 = hh_487.1) : zPa d mX11_isIsland [.inr (.inr (some 0)), .inl x] h (fun v h' => v = some (.inl (if 0 ≤ x.toInt ∧ x.toInt < (cI A : Int) then 1 else 0)) ∧ h' = h) := by
  intro N
  have s0 : zsh h 0 = some (11, 16) := zsh_by h1 (by decide +kernel)
  have hle := hA.le
  have k0 : (0 : Int32).toInt = 0 := by decide
  have e19 : ¬ (0 ≤ x.toInt ∧ x.toInt < (cI A : Int)) → zPn N none d mX11_isIsland (19, [(0, .inr (.inr (some 0))), (1, .inl x)], [], h) (fun v h' => v = some (.inl (if 0 ≤ x.toInt ∧ x.toInt < (cI A : Int) then 1 else 0)) ∧ h' = h) := fun z => by
    refine pa_iconst (v := 0) (pc' := 20) dX11_isIsland_19 (by decide) rfl ?_
    exact pa_iret dX11_isIsland_20 rfl rfl ⟨by rw [if_neg z], rfl⟩
  show zPn N none d mX11_isIsland (0, [(0, .inr (.inr (some 0))), (1, .inl x)], [], h) _
  refine pa_iload_n (pc' := 1) dX11_isIsland_0 rfl rfl ?_
  refine pa_if (pc' := 19) (pc2 := 4) dX11_isIsland_1 (by decide) rfl (fun z => e19 (fun w => by have := zi_lt z; omega)) (fun z => ?_)
  refine pa_iload_n (pc' := 5) dX11_isIsland_4 rfl rfl ?_
  refine pa_aload_n (pc' := 6) dX11_isIsland_5 rfl rfl ?_
  refine pa_getR (pc' := 9) (n := 16) (r := c) dX11_isIsland_6 fl_11_23 s0 (by decide) hA.2.2.1 rfl ?_
  refine pa_getI (pc' := 12) (n := 15) (v := nI (cI A)) dX11_isIsland_9 fl_11_109 (hA.sc h1) (by decide) hA.h4 rfl ?_
  refine pa_icmp (pc' := 19) (pc2 := 15) dX11_isIsland_12 (by decide) rfl (fun w => ?_) (fun w => ?_)
  · have w := zi_nlt (zk_ge_lt w)
    rw [nI_toInt (by omega)] at w
    exact e19 (fun q => by omega)
  · have w := zi_lt (zk_ge_lt w)
    rw [nI_toInt (by omega)] at w
    have z := zi_nlt z
    refine pa_iconst (v := 1) (pc' := 16) dX11_isIsland_15 (by decide) rfl ?_
    refine pa_goto (pc' := 20) dX11_isIsland_16 (by decide) ?_
    exact pa_iret dX11_isIsland_20 rfl rfl ⟨by rw [if_pos ⟨by omega, w⟩], rfl⟩
theorem sh_196' (h1 : h.1 = hh_487.1) : zsh h 196 = some (12, 39) := zsh_by h1 (by decide +kernel)
theorem N_isI12 (hA : lPA A c h) (r15 : h.2.2.2.1 196 15 = some 199) (h1 : h.1 = hh_487.1) : zPa d mX12_isIsland [.inr (.inr (some 196)), .inl x] h (fun v h' => v = some (.inl (if 0 ≤ x.toInt ∧ x.toInt < (cI A : Int) then 1 else 0)) ∧ h' = h) := by
  intro N
  have s196 := sh_196' h1
  have s199 : zsh h 199 = some (14, 363) := zsh_by h1 (by decide +kernel)
  have hle := hA.le
  have e27 : ¬ (0 ≤ x.toInt ∧ x.toInt < (cI A : Int)) → zPn N none d mX12_isIsland (27, [(0, .inr (.inr (some 196))), (1, .inl x)], [], h) (fun v h' => v = some (.inl (if 0 ≤ x.toInt ∧ x.toInt < (cI A : Int) then 1 else 0)) ∧ h' = h) := fun z => by
    refine pa_iconst (v := 0) (pc' := 28) dX12_isIsland_27 (by decide) rfl ?_
    exact pa_iret dX12_isIsland_28 rfl rfl ⟨by rw [if_neg z], rfl⟩
  show zPn N none d mX12_isIsland (0, [(0, .inr (.inr (some 196))), (1, .inl x)], [], h) _
  refine pa_aload_n (pc' := 1) dX12_isIsland_0 rfl rfl ?_
  rcases hA.2.2.2.2 with ⟨a, b⟩ | ⟨a, b, K⟩
  · refine pa_getI (pc' := 4) (n := 39) (v := 0) dX12_isIsland_1 fl_12_180 s196 (by decide) a rfl ?_
    refine pa_if_t (pc' := 27) dX12_isIsland_4 (by decide) (by decide) ?_
    exact e27 (fun z => by
      rw [b] at z
      have : (cI pA0 : Int) = 0 := rfl
      omega)
  · refine pa_getI (pc' := 4) (n := 39) (v := 1) dX12_isIsland_1 fl_12_180 s196 (by decide) a rfl ?_
    refine pa_if_f (pc' := 7) dX12_isIsland_4 (by decide) (by decide) rfl ?_
    have k4 : h.2.1 199 4 = nI (cI A) := K.2.2.1
    refine pa_iload_n (pc' := 8) dX12_isIsland_7 rfl rfl ?_
    refine pa_iconst (v := 0) (pc' := 9) dX12_isIsland_8 (by decide) rfl ?_
    refine pa_aload_n (pc' := 10) dX12_isIsland_9 rfl rfl ?_
    refine pa_getR (pc' := 13) (n := 39) (r := 199) dX12_isIsland_10 fl_12_20 s196 (by decide) r15 rfl ?_
    refine pa_iconst (v := nI 4) (pc' := 14) dX12_isIsland_13 (by decide) rfl ?_
    refine pa_iald (pc' := 15) (n := 363) dX12_isIsland_14 s199 rfl (fun _ => ?_)
    rw [nI_clamp (by omega), k4]
    refine pa_iconst (v := 1) (pc' := 16) dX12_isIsland_15 (by decide) rfl ?_
    refine pa_isub (pc' := 17) (v := nI (cI A) - 1) dX12_isIsland_16 rfl rfl ?_
    refine pa_calls (pc' := 20) (kd := 1) (vs := [.inl x, .inl 0, .inl (nI (cI A) - 1)]) (rest := []) dX12_isIsland_17 ml_12_149 (.inl rfl) rfl rfl rfl (fun d' _ => zPa.of in_ex) (fun r h2 hq => ?_)
    obtain ⟨r, er, eh, hq⟩ := hq
    subst er; subst eh
    have e : (nI (cI A) - 1).toInt = (cI A : Int) - 1 := by
      rw [Int32.toInt_sub, nI_toInt (by omega)]
      exact bmod_fit (by have : (1 : Int32).toInt = 1 := by decide
                         omega) (by have : (1 : Int32).toInt = 1 := by decide
                                    omega)
    rw [e] at hq
    show zPn N none d mX12_isIsland (20, [(0, .inr (.inr (some 196))), (1, .inl x)], [.inl r], h2) _
    rcases hq with ⟨er, z⟩ | ⟨er, z⟩
    · subst er
      refine pa_if_f (pc' := 23) dX12_isIsland_20 (by decide) (by decide) rfl ?_
      refine pa_iconst (v := 1) (pc' := 24) dX12_isIsland_23 (by decide) rfl ?_
      refine pa_goto (pc' := 28) dX12_isIsland_24 (by decide) ?_
      exact pa_iret dX12_isIsland_28 rfl rfl ⟨by rw [if_pos (by omega)], rfl⟩
    · subst er
      refine pa_if_t (pc' := 27) dX12_isIsland_20 (by decide) (by decide) ?_
      exact e27 (fun q => z (by omega))
/-! fault, where -/
theorem N_fault11 (ho : hOK wd h) (h1 : h.1 = hh_487.1) : zPa d mX11_fault [.inr (.inr (some 0))] h (fun v _ => v = some (.inl (h.2.1 82 11))) := by
  intro N
  have s0 : zsh h 0 = some (11, 16) := zsh_by h1 (by decide +kernel)
  have r5 : h.2.2.2.1 0 5 = some 82 := ho.2.2.1 0 5 82 (by decide +kernel)
  show zPn N none d mX11_fault (0, [(0, .inr (.inr (some 0)))], [], h) _
  refine pa_aload_n (pc' := 1) dX11_fault_0 rfl rfl ?_
  refine pa_getR (pc' := 4) (n := 16) (r := 82) dX11_fault_1 fl_11_35 s0 (by decide) r5 rfl ?_
  refine pa_getI (pc' := 7) (n := 13) dX11_fault_4 fl_11_115 (zsh_by h1 (by decide +kernel)) (by decide) rfl rfl ?_
  exact pa_iret dX11_fault_7 rfl rfl rfl
theorem N_fault12 (h1 : h.1 = hh_487.1) : zPa d mX12_fault [.inr (.inr (some 196))] h (fun v _ => v = some (.inl (h.2.1 196 9))) := by
  intro N
  have s196 := sh_196' h1
  show zPn N none d mX12_fault (0, [(0, .inr (.inr (some 196)))], [], h) _
  refine pa_aload_n (pc' := 1) dX12_fault_0 rfl rfl ?_
  refine pa_iconst (v := 0) (pc' := 2) dX12_fault_1 (by decide) rfl ?_
  refine pa_putI (pc' := 5) (n := 39) dX12_fault_2 fl_12_62 s196 (Or.inl rfl) (Or.inl rfl) rfl ?_
  refine pa_aload_n (pc' := 6) dX12_fault_5 rfl rfl ?_
  refine pa_getI (pc' := 9) (n := 39) (v := h.2.1 196 9) dX12_fault_6 fl_12_104 s196 (by decide) (zsI_no (by omega)) rfl ?_
  exact pa_iret dX12_fault_9 rfl rfl rfl
theorem N_where11 (ho : hOK wd h) (h1 : h.1 = hh_487.1) : zPa d mX11_where [.inr (.inr (some 0))] h (fun v _ => v = some (.inl (if h.2.1 0 2 = 4 then h.2.1 82 12 else -1))) := by
  intro N
  have s0 : zsh h 0 = some (11, 16) := zsh_by h1 (by decide +kernel)
  have r5 : h.2.2.2.1 0 5 = some 82 := ho.2.2.1 0 5 82 (by decide +kernel)
  show zPn N none d mX11_where (0, [(0, .inr (.inr (some 0)))], [], h) _
  refine pa_aload_n (pc' := 1) dX11_where_0 rfl rfl ?_
  refine pa_getI (pc' := 4) (n := 16) dX11_where_1 fl_11_17 s0 (by decide) rfl rfl ?_
  refine pa_iconst (v := 4) (pc' := 5) dX11_where_4 (by decide) rfl ?_
  by_cases z : h.2.1 0 2 = 4
  · rw [if_pos z]
    refine pa_icmp_f (pc' := 8) dX11_where_5 (by rw [z]; decide) (by decide) rfl ?_
    refine pa_aload_n (pc' := 9) dX11_where_8 rfl rfl ?_
    refine pa_getR (pc' := 12) (n := 16) (r := 82) dX11_where_9 fl_11_35 s0 (by decide) r5 rfl ?_
    refine pa_getI (pc' := 15) (n := 13) dX11_where_12 fl_11_118 (zsh_by h1 (by decide +kernel)) (by decide) rfl rfl ?_
    refine pa_goto (pc' := 19) dX11_where_15 (by decide) ?_
    exact pa_iret dX11_where_19 rfl rfl rfl
  · rw [if_neg z]
    refine pa_icmp_t (pc' := 18) dX11_where_5 (decide_eq_true z) (by decide) ?_
    refine pa_iconst (v := -1) (pc' := 19) dX11_where_18 (by decide) rfl ?_
    exact pa_iret dX11_where_19 rfl rfl rfl
theorem N_where12 (h1 : h.1 = hh_487.1) : zPa d mX12_where [.inr (.inr (some 196))] h (fun v _ => v = some (.inl (if h.2.1 196 11 = 4 then h.2.1 196 10 else -1))) := by
  intro N
  have s196 := sh_196' h1
  show zPn N none d mX12_where (0, [(0, .inr (.inr (some 196)))], [], h) _
  refine pa_aload_n (pc' := 1) dX12_where_0 rfl rfl ?_
  refine pa_iconst (v := 0) (pc' := 2) dX12_where_1 (by decide) rfl ?_
  refine pa_putI (pc' := 5) (n := 39) dX12_where_2 fl_12_62 s196 (Or.inl rfl) (Or.inl rfl) rfl ?_
  refine pa_aload_n (pc' := 6) dX12_where_5 rfl rfl ?_
  refine pa_getI (pc' := 9) (n := 39) (v := h.2.1 196 11) dX12_where_6 fl_12_65 s196 (by decide) (zsI_no (by omega)) rfl ?_
  refine pa_iconst (v := 4) (pc' := 10) dX12_where_9 (by decide) rfl ?_
  by_cases z : h.2.1 196 11 = 4
  · rw [if_pos z]
    refine pa_icmp_f (pc' := 13) dX12_where_10 (by rw [z]; decide) (by decide) rfl ?_
    refine pa_aload_n (pc' := 14) dX12_where_13 rfl rfl ?_
    refine pa_getI (pc' := 17) (n := 39) (v := h.2.1 196 10) dX12_where_14 fl_12_13 s196 (by decide) (zsI_no (by omega)) rfl ?_
    refine pa_goto (pc' := 21) dX12_where_17 (by decide) ?_
    exact pa_iret dX12_where_21 rfl rfl rfl
  · rw [if_neg z]
    refine pa_icmp_t (pc' := 20) dX12_where_10 (decide_eq_true z) (by decide) ?_
    refine pa_iconst (v := -1) (pc' := 21) dX12_where_20 (by decide) rfl ?_
    exact pa_iret dX12_where_21 rfl rfl rfl
end HLA
end Pk2
section Pk3
/-! length, season, image, back -/
section HLB
variable {t c n d : Nat} {h h' g : zH} {A : pA} {x y : Int32} {k : Bool} {im : Int32}
theorem x_nI (h1 : 0 ≤ x.toInt) : x = nI x.toInt.toNat := by
  have h2 : x.toInt ≤ 2147483647 := (i32_rg x).2
  refine Int32.toInt_inj.mp ?_
  rw [nI_toInt (by omega)]
  omega
theorem lPA.gd (hA : lPA A c h) : lPA A c (zsI (zsI h 196 0 0) 196 11 0) := hA.fr (fun a j h1 h2 => by have := hA.2.1.rg h1 h2; rw [zsI_no (by omega), zsI_no (by omega)]) (fun j => by rw [zsI_no (by omega), zsI_no (by omega)]) (by rw [zsI_no (by omega), zsI_no (by omega)]) rfl
def lnA (A : pA) (x : Int32) : Int32 := if 0 ≤ x.toInt ∧ x.toInt < (cI A : Int) then nI (A.2.2.1 x.toInt.toNat).length else -1
theorem N_length11 (hA : lPA A c h) (ho : hOK wd h) (h1 : h.1 = hh_487.1) : zPa d mX11_length [.inr (.inr (some 0)), .inl x] h (fun v _ => v = some (.inl (lnA A x))) := by
  intro N
  have s0 : zsh h 0 = some (11, 16) := zsh_by h1 (by decide +kernel)
  have hc : c = 2 ∨ c = 42 := hA.2.1
  have sl : zsh h (c + 2) = some (14, 7) := zsh_by h1 (by rcases hc with e | e <;> subst e <;> decide +kernel)
  have r10 : h.2.2.2.1 c 10 = some (c + 2) := by
    rcases hc with e | e <;> subst e
    · exact ho.2.2.1 2 10 4 (by decide +kernel)
    · exact ho.2.2.1 42 10 44 (by decide +kernel)
  show zPn N none d mX11_length (0, [(0, .inr (.inr (some 0))), (1, .inl x)], [], h) _
  refine pa_aload_n (pc' := 1) dX11_length_0 rfl rfl ?_
  refine pa_iload_n (pc' := 2) dX11_length_1 rfl rfl ?_
  refine pa_callv (pc' := 5) (vs := [.inl x]) (rest := []) dX11_length_2 ml_11_174 (by decide) rfl rfl rfl (fun d' _ => N_isI11 hA h1) (fun v g2 hq => ?_)
  obtain ⟨er, eh⟩ := hq
  subst er
  rw [eh]
  unfold lnA
  by_cases z : 0 ≤ x.toInt ∧ x.toInt < (cI A : Int)
  · rw [if_pos z, if_pos z]
    show zPn N none d mX11_length (5, [(0, .inr (.inr (some 0))), (1, .inl x)], [.inl 1], h) _
    refine pa_if_f (pc' := 8) dX11_length_5 (by decide) (by decide) rfl ?_
    refine pa_aload_n (pc' := 9) dX11_length_8 rfl rfl ?_
    refine pa_aload_n (pc' := 10) dX11_length_9 rfl rfl ?_
    refine pa_getR (pc' := 13) (n := 16) (r := c) dX11_length_10 fl_11_23 s0 (by decide) hA.2.2.1 rfl ?_
    refine pa_getR (pc' := 16) (n := 15) (r := c + 2) dX11_length_13 fl_11_177 (hA.sc h1) (by decide) r10 rfl ?_
    refine pa_iload_n (pc' := 17) dX11_length_16 rfl rfl ?_
    refine pa_iald (pc' := 18) (n := 7) dX11_length_17 sl rfl (fun _ => ?_)
    have e : h.2.1 (c + 2) x.toNatClampNeg = nI (A.2.2.1 x.toInt.toNat).length := (hA.2.2.2.1.2.2.2.2.2.2.1 x.toInt.toNat (by omega)).1
    rw [e]
    refine pa_callv (pc' := 21) (vs := [.inl (nI (A.2.2.1 x.toInt.toNat).length)]) (rest := []) dX11_length_18 ml_11_112 (by decide) rfl rfl rfl (fun d' _ => c_gra s0) (fun v g3 hq => ?_)
    obtain ⟨er, -⟩ := hq
    subst er
    show zPn N none d mX11_length (21, [(0, .inr (.inr (some 0))), (1, .inl x)], [.inl (nI (A.2.2.1 x.toInt.toNat).length)], g3) _
    refine pa_goto (pc' := 29) dX11_length_21 (by decide) ?_
    exact pa_iret dX11_length_29 rfl rfl rfl
  · rw [if_neg z, if_neg z]
    show zPn N none d mX11_length (5, [(0, .inr (.inr (some 0))), (1, .inl x)], [.inl 0], h) _
    refine pa_if_t (pc' := 24) dX11_length_5 (by decide) (by decide) ?_
    refine pa_aload_n (pc' := 25) dX11_length_24 rfl rfl ?_
    refine pa_iconst (v := 1) (pc' := 26) dX11_length_25 (by decide) rfl ?_
    refine pa_callv (pc' := 29) (vs := [.inl 1]) (rest := []) dX11_length_26 ml_11_98 (by decide) rfl rfl rfl (fun d' _ => c_ref s0) (fun v g3 hq => ?_)
    obtain ⟨er, -⟩ := hq
    subst er
    exact pa_iret dX11_length_29 rfl rfl rfl
theorem N_songLong {i : Nat} (h1 : h.1 = hh_487.1) (r15 : h.2.2.2.1 196 15 = some 199) (hi : i ≤ 7) : zPa d mX12_songLong [.inr (.inr (some 196)), .inl (nI i)] h (fun v h' => v = some (.inl (h.2.1 199 (10 + 7 * i))) ∧ h' = h) := by
  intro N
  have s196 := sh_196' h1
  have s199 : zsh h 199 = some (14, 363) := zsh_by h1 (by decide +kernel)
  show zPn N none d mX12_songLong (0, [(0, .inr (.inr (some 196))), (1, .inl (nI i))], [], h) _
  refine pa_aload_n (pc' := 1) dX12_songLong_0 rfl rfl ?_
  refine pa_getR (pc' := 4) (n := 39) (r := 199) dX12_songLong_1 fl_12_20 s196 (by decide) r15 rfl ?_
  refine pa_bipush (v := nI 10) (pc' := 6) dX12_songLong_4 (by decide) rfl ?_
  refine pa_bipush (v := nI 7) (pc' := 8) dX12_songLong_6 (by decide) rfl ?_
  refine pa_iload_n (pc' := 9) dX12_songLong_8 rfl rfl ?_
  refine pa_imul (pc' := 10) (v := nI (7 * i)) dX12_songLong_9 (nI_mul 7 i) rfl ?_
  refine pa_iadd (pc' := 11) (v := nI (10 + 7 * i)) dX12_songLong_10 (nI_add 10 (7 * i)) rfl ?_
  refine pa_iald (pc' := 12) (n := 363) dX12_songLong_11 s199 rfl (fun _ => ?_)
  rw [nI_clamp (by omega)]
  exact pa_iret dX12_songLong_12 rfl rfl ⟨rfl, rfl⟩
theorem N_length12 (hA : lPA A c h) (ho : hOK wd h) (h1 : h.1 = hh_487.1) : zPa d mX12_length [.inr (.inr (some 196)), .inl x] h (fun v _ => v = some (.inl (lnA A x))) := by
  intro N
  have s196 := sh_196' h1
  have r15 : h.2.2.2.1 196 15 = some 199 := ho.2.2.1 196 15 199 (by decide +kernel)
  show zPn N none d mX12_length (0, [(0, .inr (.inr (some 196))), (1, .inl x)], [], h) _
  refine pa_aload_n (pc' := 1) dX12_length_0 rfl rfl ?_
  refine pa_callv (pc' := 4) (vs := []) (rest := []) dX12_length_1 ml_12_167 (by decide) rfl rfl rfl (fun d' _ => m_good s196) (fun v g hq => ?_)
  obtain ⟨er, eg⟩ := hq
  subst er
  have hB : lPA A c g := by rw [eg]; exact hA.gd
  have g1 : g.1 = hh_487.1 := by rw [eg]; exact h1
  have r15 : g.2.2.2.1 196 15 = some 199 := by rw [eg]; exact r15
  have s196 := sh_196' g1
  show zPn N none d mX12_length (4, [(0, .inr (.inr (some 196))), (1, .inl x)], [], g) _
  refine pa_aload_n (pc' := 5) dX12_length_4 rfl rfl ?_
  refine pa_iload_n (pc' := 6) dX12_length_5 rfl rfl ?_
  refine pa_callv (pc' := 9) (vs := [.inl x]) (rest := []) dX12_length_6 ml_12_277 (by decide) rfl rfl rfl (fun d' _ => N_isI12 hB r15 g1) (fun v g2 hq => ?_)
  obtain ⟨er, eh⟩ := hq
  subst er
  rw [eh]
  unfold lnA
  by_cases z : 0 ≤ x.toInt ∧ x.toInt < (cI A : Int)
  · rw [if_pos z, if_pos z]
    have hle := hA.le
    have ex := x_nI z.1
    have K : g.2.1 199 (10 + 7 * x.toInt.toNat) = nI (A.2.2.1 x.toInt.toNat).length := by
      rcases hB.2.2.2.2 with ⟨-, b⟩ | ⟨-, -, K⟩
      · rw [b] at z
        have : (cI pA0 : Int) = 0 := rfl
        omega
      · exact (K.2.2.2.2.2.2.2.1 x.toInt.toNat (by omega)).1
    show zPn N none d mX12_length (9, [(0, .inr (.inr (some 196))), (1, .inl x)], [.inl 1], g) _
    refine pa_if_f (pc' := 12) dX12_length_9 (by decide) (by decide) rfl ?_
    refine pa_aload_n (pc' := 13) dX12_length_12 rfl rfl ?_
    refine pa_iload_n (pc' := 14) dX12_length_13 rfl rfl ?_
    refine pa_callv (pc' := 17) (vs := [.inl x]) (rest := []) dX12_length_14 ml_12_265 (by decide) rfl rfl rfl (fun d' _ => by
      have := N_songLong (d := d') (i := x.toInt.toNat) g1 r15 (by omega)
      rw [← ex] at this
      exact this) (fun v g3 hq => ?_)
    obtain ⟨er, -⟩ := hq
    rw [K] at er
    subst er
    show zPn N none d mX12_length (17, [(0, .inr (.inr (some 196))), (1, .inl x)], [.inl (nI (A.2.2.1 x.toInt.toNat).length)], g3) _
    refine pa_goto (pc' := 25) dX12_length_17 (by decide) ?_
    exact pa_iret dX12_length_25 rfl rfl rfl
  · rw [if_neg z, if_neg z]
    show zPn N none d mX12_length (9, [(0, .inr (.inr (some 196))), (1, .inl x)], [.inl 0], g) _
    refine pa_if_t (pc' := 20) dX12_length_9 (by decide) (by decide) ?_
    refine pa_aload_n (pc' := 21) dX12_length_20 rfl rfl ?_
    refine pa_iconst (v := 1) (pc' := 22) dX12_length_21 (by decide) rfl ?_
    refine pa_callv (pc' := 25) (vs := [.inl 1]) (rest := []) dX12_length_22 ml_12_170 (by decide) rfl rfl rfl (fun d' _ => m_no s196) (fun v g3 hq => ?_)
    obtain ⟨er, -⟩ := hq
    subst er
    exact pa_iret dX12_length_25 rfl rfl rfl
def ssA (A : pA) (x : Int32) : Int32 := if cI A = 0 then -1 else if 0 ≤ x.toInt ∧ x.toInt ≤ 99999 then x / 90 - x / 90 / 4 * 4 else -1
theorem N_within : zPa d mX11_isWithin [.inl x, .inl y] h (fun v h' => v = some (.inl (if 0 ≤ x.toInt ∧ x.toInt ≤ y.toInt then 1 else 0)) ∧ h' = h) := by
  intro N
  have k0 : (0 : Int32).toInt = 0 := by decide
  have e13 : ¬ (0 ≤ x.toInt ∧ x.toInt ≤ y.toInt) → zPn N none d mX11_isWithin (13, [(0, .inl x), (1, .inl y)], [], h) (fun v h' => v = some (.inl (if 0 ≤ x.toInt ∧ x.toInt ≤ y.toInt then 1 else 0)) ∧ h' = h) := fun z => by
    refine pa_iconst (v := 0) (pc' := 14) dX11_isWithin_13 (by decide) rfl ?_
    exact pa_iret dX11_isWithin_14 rfl rfl ⟨by rw [if_neg z], rfl⟩
  show zPn N none d mX11_isWithin (0, [(0, .inl x), (1, .inl y)], [], h) _
  refine pa_iload_n (pc' := 1) dX11_isWithin_0 rfl rfl ?_
  refine pa_if (pc' := 13) (pc2 := 4) dX11_isWithin_1 (by decide) rfl (fun z => e13 (fun w => by have := zi_lt z; omega)) (fun z => ?_)
  refine pa_iload_n (pc' := 5) dX11_isWithin_4 rfl rfl ?_
  refine pa_iload_n (pc' := 6) dX11_isWithin_5 rfl rfl ?_
  refine pa_icmp (pc' := 13) (pc2 := 9) dX11_isWithin_6 (by decide) rfl (fun w => e13 (fun q => by have := zi_gt w; omega)) (fun w => ?_)
  have w := zi_ngt w
  have z := zi_nlt z
  refine pa_iconst (v := 1) (pc' := 10) dX11_isWithin_9 (by decide) rfl ?_
  refine pa_goto (pc' := 14) dX11_isWithin_10 (by decide) ?_
  exact pa_iret dX11_isWithin_14 rfl rfl ⟨by rw [if_pos ⟨by omega, w⟩], rfl⟩
theorem N_season11 (hA : lPA A c h) (h1 : h.1 = hh_487.1) : zPa d mX11_season [.inr (.inr (some 0)), .inl x] h (fun v _ => v = some (.inl (ssA A x))) := by
  intro N
  have s0 : zsh h 0 = some (11, 16) := zsh_by h1 (by decide +kernel)
  have k9 : (99999 : Int32).toInt = 99999 := by decide
  show zPn N none d mX11_season (0, [(0, .inr (.inr (some 0))), (1, .inl x)], [], h) _
  refine pa_aload_n (pc' := 1) dX11_season_0 rfl rfl ?_
  refine pa_callv (pc' := 4) (vs := []) (rest := []) dX11_season_1 ml_11_222 (by decide) rfl rfl rfl (fun d' _ => N_hasPost hA h1) (fun v g2 hq => ?_)
  obtain ⟨er, eh⟩ := hq
  subst er
  rw [eh]
  unfold ssA
  by_cases z : cI A = 0
  · rw [if_pos z, if_pos z]
    show zPn N none d mX11_season (4, [(0, .inr (.inr (some 0))), (1, .inl x)], [.inl 0], h) _
    refine pa_if_f (pc' := 7) dX11_season_4 (by decide) (by decide) rfl ?_
    refine pa_aload_n (pc' := 8) dX11_season_7 rfl rfl ?_
    refine pa_iconst (v := 1) (pc' := 9) dX11_season_8 (by decide) rfl ?_
    refine pa_callv (pc' := 12) (vs := [.inl 1]) (rest := []) dX11_season_9 ml_11_98 (by decide) rfl rfl rfl (fun d' _ => c_ref s0) (fun v g3 hq => ?_)
    obtain ⟨er, -⟩ := hq
    subst er
    exact pa_iret dX11_season_12 rfl rfl rfl
  · rw [if_neg z, if_neg z]
    show zPn N none d mX11_season (4, [(0, .inr (.inr (some 0))), (1, .inl x)], [.inl 1], h) _
    refine pa_if_t (pc' := 13) dX11_season_4 (by decide) (by decide) ?_
    refine pa_iload_n (pc' := 14) dX11_season_13 rfl rfl ?_
    refine pa_ldc (pc' := 16) dX11_season_14 cl_11_226 rfl rfl ?_
    refine pa_calls (pc' := 19) (kd := 1) (vs := [.inl x, .inl 99999]) (rest := []) dX11_season_16 ml_11_227 (.inl rfl) rfl rfl rfl (fun d' _ => N_within) (fun v g3 hq => ?_)
    obtain ⟨er, eh⟩ := hq
    subst er
    rw [eh, k9]
    by_cases w : 0 ≤ x.toInt ∧ x.toInt ≤ 99999
    · rw [if_pos w, if_pos w]
      show zPn N none d mX11_season (19, [(0, .inr (.inr (some 0))), (1, .inl x)], [.inl 1], h) _
      refine pa_if_t (pc' := 28) dX11_season_19 (by decide) (by decide) ?_
      refine pa_aload_n (pc' := 29) dX11_season_28 rfl rfl ?_
      refine pa_iload_n (pc' := 30) dX11_season_29 rfl rfl ?_
      refine pa_bipush (v := 90) (pc' := 32) dX11_season_30 (by decide) rfl ?_
      refine pa_idiv (pc' := 33) dX11_season_32 (by decide) rfl rfl ?_
      refine pa_iconst (v := 4) (pc' := 34) dX11_season_33 (by decide) rfl ?_
      refine pa_irem (pc' := 35) dX11_season_34 (by decide) rfl rfl ?_
      refine pa_callv (pc' := 38) (vs := [.inl (x / 90 - x / 90 / 4 * 4)]) (rest := []) dX11_season_35 ml_11_112 (by decide) rfl rfl rfl (fun d' _ => c_gra s0) (fun v g3 hq => ?_)
      obtain ⟨er, -⟩ := hq
      subst er
      exact pa_iret dX11_season_38 rfl rfl rfl
    · rw [if_neg w, if_neg w]
      show zPn N none d mX11_season (19, [(0, .inr (.inr (some 0))), (1, .inl x)], [.inl 0], h) _
      refine pa_if_f (pc' := 22) dX11_season_19 (by decide) (by decide) rfl ?_
      refine pa_aload_n (pc' := 23) dX11_season_22 rfl rfl ?_
      refine pa_iconst (v := 2) (pc' := 24) dX11_season_23 (by decide) rfl ?_
      refine pa_callv (pc' := 27) (vs := [.inl 2]) (rest := []) dX11_season_24 ml_11_98 (by decide) rfl rfl rfl (fun d' _ => c_ref s0) (fun v g3 hq => ?_)
      obtain ⟨er, -⟩ := hq
      subst er
      exact pa_iret dX11_season_27 rfl rfl rfl
theorem N_seasonOf : zPa d mX12_seasonOf [.inl x] h (fun v h' => v = some (.inl (x / 90 - x / 90 / 4 * 4)) ∧ h' = h) := by
  intro N
  show zPn N none d mX12_seasonOf (0, [(0, .inl x)], [], h) _
  refine pa_iload_n (pc' := 1) dX12_seasonOf_0 rfl rfl ?_
  refine pa_bipush (v := 90) (pc' := 3) dX12_seasonOf_1 (by decide) rfl ?_
  refine pa_idiv (pc' := 4) dX12_seasonOf_3 (by decide) rfl rfl ?_
  refine pa_iconst (v := 4) (pc' := 5) dX12_seasonOf_4 (by decide) rfl ?_
  refine pa_irem (pc' := 6) dX12_seasonOf_5 (by decide) rfl rfl ?_
  exact pa_iret dX12_seasonOf_6 rfl rfl ⟨rfl, rfl⟩
theorem N_season12 (hA : lPA A c h) (h1 : h.1 = hh_487.1) : zPa d mX12_season [.inr (.inr (some 196)), .inl x] h (fun v _ => v = some (.inl (ssA A x))) := by
  intro N
  have s196 := sh_196' h1
  have k9 : (99999 : Int32).toInt = 99999 := by decide
  show zPn N none d mX12_season (0, [(0, .inr (.inr (some 196))), (1, .inl x)], [], h) _
  refine pa_aload_n (pc' := 1) dX12_season_0 rfl rfl ?_
  refine pa_callv (pc' := 4) (vs := []) (rest := []) dX12_season_1 ml_12_167 (by decide) rfl rfl rfl (fun d' _ => m_good s196) (fun v g hq => ?_)
  obtain ⟨er, eg⟩ := hq
  subst er
  have hB : lPA A c g := by rw [eg]; exact hA.gd
  have g1 : g.1 = hh_487.1 := by rw [eg]; exact h1
  have s196 := sh_196' g1
  show zPn N none d mX12_season (4, [(0, .inr (.inr (some 196))), (1, .inl x)], [], g) _
  refine pa_aload_n (pc' := 5) dX12_season_4 rfl rfl ?_
  unfold ssA
  rcases hB.pos with ⟨z, p14⟩ | ⟨z, p14⟩
  · rw [if_pos z]
    refine pa_getI (pc' := 8) (n := 39) (v := 0) dX12_season_5 fl_12_180 s196 (by decide) p14 rfl ?_
    refine pa_if_f (pc' := 11) dX12_season_8 (by decide) (by decide) rfl ?_
    refine pa_aload_n (pc' := 12) dX12_season_11 rfl rfl ?_
    refine pa_iconst (v := 1) (pc' := 13) dX12_season_12 (by decide) rfl ?_
    refine pa_callv (pc' := 16) (vs := [.inl 1]) (rest := []) dX12_season_13 ml_12_170 (by decide) rfl rfl rfl (fun d' _ => m_no s196) (fun v g3 hq => ?_)
    obtain ⟨er, -⟩ := hq
    subst er
    exact pa_iret dX12_season_16 rfl rfl rfl
  · rw [if_neg z]
    refine pa_getI (pc' := 8) (n := 39) (v := 1) dX12_season_5 fl_12_180 s196 (by decide) p14 rfl ?_
    refine pa_if_t (pc' := 17) dX12_season_8 (by decide) (by decide) ?_
    refine pa_iload_n (pc' := 18) dX12_season_17 rfl rfl ?_
    refine pa_iconst (v := 0) (pc' := 19) dX12_season_18 (by decide) rfl ?_
    refine pa_ldcw (pc' := 22) dX12_season_19 cl_12_340 rfl rfl ?_
    refine pa_calls (pc' := 25) (kd := 1) (vs := [.inl x, .inl 0, .inl 99999]) (rest := []) dX12_season_22 ml_12_149 (.inl rfl) rfl rfl rfl (fun d' _ => zPa.of in_ex) (fun v g2 hq => ?_)
    obtain ⟨r, er, eh, hq⟩ := hq
    subst er
    rw [eh]
    rw [k9] at hq
    show zPn N none d mX12_season (25, [(0, .inr (.inr (some 196))), (1, .inl x)], [.inl r], g) _
    rcases hq with ⟨er, w⟩ | ⟨er, w⟩
    · subst er
      rw [if_pos w]
      refine pa_if_f (pc' := 28) dX12_season_25 (by decide) (by decide) rfl ?_
      refine pa_iload_n (pc' := 29) dX12_season_28 rfl rfl ?_
      refine pa_calls (pc' := 32) (kd := 1) (vs := [.inl x]) (rest := []) dX12_season_29 ml_12_337 (.inl rfl) rfl rfl rfl (fun d' _ => N_seasonOf) (fun v g3 hq => ?_)
      obtain ⟨er, -⟩ := hq
      subst er
      show zPn N none d mX12_season (32, [(0, .inr (.inr (some 196))), (1, .inl x)], [.inl (x / 90 - x / 90 / 4 * 4)], g3) _
      refine pa_goto (pc' := 40) dX12_season_32 (by decide) ?_
      exact pa_iret dX12_season_40 rfl rfl rfl
    · subst er
      rw [if_neg w]
      refine pa_if_t (pc' := 35) dX12_season_25 (by decide) (by decide) ?_
      refine pa_aload_n (pc' := 36) dX12_season_35 rfl rfl ?_
      refine pa_iconst (v := 2) (pc' := 37) dX12_season_36 (by decide) rfl ?_
      refine pa_callv (pc' := 40) (vs := [.inl 2]) (rest := []) dX12_season_37 ml_12_170 (by decide) rfl rfl rfl (fun d' _ => m_no s196) (fun v g3 hq => ?_)
      obtain ⟨er, -⟩ := hq
      subst er
      exact pa_iret dX12_season_40 rfl rfl rfl
end HLB
end Pk3
section Pk4
/-! image and back: how many there are -/
section HLI
variable {t c n d : Nat} {h h' g : zH} {A : pA} {x : Int32} {k : Bool} {im : Int32}
def imN (A : pA) (n : Nat) : Nat := if cI A = 0 ∨ n = 3 then n else n + 1
def imV (A : pA) (n : Nat) : Int32 := if cI A = 0 ∨ n = 3 then -1 else nI n
def bkV (n : Nat) (x : Int32) : Int32 := if 0 ≤ x.toInt ∧ x.toInt < (n : Int) then 1 else 0
theorem im_rf (ho : hOK wd h) (hn : n < 3) : ∃ r, r ∈ [178, 184, 190] ∧ h.2.2.2.1 105 n = some r := by
  have e : n = 0 ∨ n = 1 ∨ n = 2 := by omega
  rcases e with e | e | e <;> subst e
  · exact ⟨178, by decide, ho.2.2.1 105 0 178 (by decide +kernel)⟩
  · exact ⟨184, by decide, ho.2.2.1 105 1 184 (by decide +kernel)⟩
  · exact ⟨190, by decide, ho.2.2.1 105 2 190 (by decide +kernel)⟩
theorem nI_s1 (hn : n ≤ 1000) : nI (n + 1) - 1 = nI n := by
  have := nI_sub (a := n + 1) (b := 1) (by omega)
  rw [show nI 1 = 1 from rfl] at this
  exact this
theorem N_image11 (hA : lPA A c h) (ho : hOK wd h) (h1 : h.1 = hh_487.1) (en : h.2.1 0 15 = nI n) (hn : n ≤ 3) (hd : 2 ≤ d + 1) : zPa (d + 1) mX11_image [.inr (.inr (some 0))] h (fun v h' => v = some (.inl (imV A n)) ∧ h'.2.1 0 15 = nI (imN A n)) := by
  intro N
  have s0 : zsh h 0 = some (11, 16) := zsh_by h1 (by decide +kernel)
  have s105 : zsh h 105 = some (17, 3) := zsh_by h1 (by decide +kernel)
  have k3 : (3 : Int32).toInt = 3 := by decide
  have r6 : h.2.2.2.1 0 6 = some 86 := ho.2.2.1 0 6 86 (by decide +kernel)
  have r14 : h.2.2.2.1 0 14 = some 105 := ho.2.2.1 0 14 105 (by decide +kernel)
  show zPn N none (d + 1) mX11_image (0, [(0, .inr (.inr (some 0)))], [], h) _
  refine pa_aload_n (pc' := 1) dX11_image_0 rfl rfl ?_
  refine pa_callv (pc' := 4) (vs := []) (rest := []) dX11_image_1 ml_11_222 (by decide) rfl rfl rfl (fun d' _ => N_hasPost hA h1) (fun v g2 hq => ?_)
  obtain ⟨er, eh⟩ := hq
  subst er
  rw [eh]
  unfold imV imN
  by_cases z : cI A = 0
  · rw [if_pos z, if_pos (.inl z), if_pos (.inl z)]
    show zPn N none (d + 1) mX11_image (4, [(0, .inr (.inr (some 0)))], [.inl 0], h) _
    refine pa_if_f (pc' := 7) dX11_image_4 (by decide) (by decide) rfl ?_
    refine pa_aload_n (pc' := 8) dX11_image_7 rfl rfl ?_
    refine pa_iconst (v := 1) (pc' := 9) dX11_image_8 (by decide) rfl ?_
    refine pa_callv (pc' := 12) (vs := [.inl 1]) (rest := []) dX11_image_9 ml_11_98 (by decide) rfl rfl rfl (fun d' _ => c_ref s0) (fun v g3 hq => ?_)
    obtain ⟨er, eg⟩ := hq
    subst er
    exact pa_iret dX11_image_12 rfl rfl ⟨rfl, by rw [eg, zsI_no (by omega)]; exact en⟩
  · rw [if_neg z]
    show zPn N none (d + 1) mX11_image (4, [(0, .inr (.inr (some 0)))], [.inl 1], h) _
    refine pa_if_t (pc' := 13) dX11_image_4 (by decide) (by decide) ?_
    refine pa_aload_n (pc' := 14) dX11_image_13 rfl rfl ?_
    refine pa_getI (pc' := 17) (n := 16) (v := nI n) dX11_image_14 fl_11_91 s0 (by decide) en rfl ?_
    refine pa_iconst (v := 3) (pc' := 18) dX11_image_17 (by decide) rfl ?_
    refine pa_icmp (pc' := 27) (pc2 := 21) dX11_image_18 (by decide) rfl (fun w => ?_) (fun w => ?_)
    · have w := zi_lt w
      rw [nI_toInt (by omega), k3] at w
      have w3 : n < 3 := by omega
      have nz : ¬ (cI A = 0 ∨ n = 3) := by omega
      rw [if_neg nz, if_neg nz]
      obtain ⟨r, hr, er⟩ := im_rf ho w3
      refine pa_aload_n (pc' := 28) dX11_image_27 rfl rfl ?_
      refine pa_getR (pc' := 31) (n := 16) (r := 105) dX11_image_28 fl_11_88 s0 (by decide) r14 rfl ?_
      refine pa_aload_n (pc' := 32) dX11_image_31 rfl rfl ?_
      refine pa_getI (pc' := 35) (n := 16) (v := nI n) dX11_image_32 fl_11_91 s0 (by decide) en rfl ?_
      refine pa_aald (pc' := 36) (n := 3) (kd := 17) (r := r) dX11_image_35 s105 (by decide) (zn_in w3 (by decide)) (by rw [nI_clamp (by omega)]; exact er) rfl ?_
      refine pa_aload_n (pc' := 37) dX11_image_36 rfl rfl ?_
      refine pa_getR (pc' := 40) (n := 16) (r := 86) dX11_image_37 fl_11_42 s0 (by decide) r6 rfl ?_
      refine pa_callv (pc' := 43) (vs := [.inr (.inr (some 86))]) (rest := []) dX11_image_40 ml_11_359 (by decide) rfl rfl rfl (fun d' hd' => zPa.of (S_283 d' (by show 1 ≤ d'; omega) [.inr (.inr (some r)), .inr (.inr (some 86))] h ⟨⟨r, hr, rfl⟩, ⟨86, List.mem_cons_self, rfl⟩, trivial⟩ ho ⟨fun q hq => (nomatch hq), fun q hq => (nomatch hq)⟩)) (fun v g3 hq => ?_)
      obtain ⟨ho3, hf3, p, hp, hret, -⟩ := hq
      have hall : ct_283.2.2.2.1.all (fun p => decide (p.1 = none)) = true := by decide +kernel
      have ev : v = none := by
        rw [of_decide_eq_true (List.all_eq_true.mp hall p hp)] at hret
        exact hret
      subst ev
      have s0 : zsh g3 0 = some (11, 16) := zsh_by (hf3.1.trans h1) (by decide +kernel)
      have en : g3.2.1 0 15 = nI n := (hf3.2.2.1 0 15 (by decide)).trans en
      show zPn N none (d + 1) mX11_image (43, [(0, .inr (.inr (some 0)))], [], g3) _
      refine pa_aload_n (pc' := 44) dX11_image_43 rfl rfl ?_
      refine pa_dup (pc' := 45) dX11_image_44 rfl rfl ?_
      refine pa_getI (pc' := 48) (n := 16) (v := nI n) dX11_image_45 fl_11_91 s0 (by decide) en rfl ?_
      refine pa_iconst (v := nI 1) (pc' := 49) dX11_image_48 (by decide) rfl ?_
      refine pa_iadd (pc' := 50) (v := nI (n + 1)) dX11_image_49 (nI_add n 1) rfl ?_
      refine pa_putI (pc' := 53) (n := 16) dX11_image_50 fl_11_91 s0 (Or.inl rfl) (Or.inl rfl) rfl ?_
      refine pa_aload_n (pc' := 54) dX11_image_53 rfl rfl ?_
      refine pa_aload_n (pc' := 55) dX11_image_54 rfl rfl ?_
      refine pa_getI (pc' := 58) (n := 16) (v := nI (n + 1)) dX11_image_55 fl_11_91 s0 (by decide) zsI_eq rfl ?_
      refine pa_iconst (v := 1) (pc' := 59) dX11_image_58 (by decide) rfl ?_
      refine pa_isub (pc' := 60) (v := nI n) dX11_image_59 (nI_s1 (by omega)) rfl ?_
      refine pa_callv (pc' := 63) (vs := [.inl (nI n)]) (rest := []) dX11_image_60 ml_11_112 (by decide) rfl rfl rfl (fun d' _ => c_gra s0) (fun v g4 hq => ?_)
      obtain ⟨er, eg⟩ := hq
      subst er
      exact pa_iret dX11_image_63 rfl rfl ⟨rfl, by rw [eg, zsI_no (by omega)]; exact zsI_eq⟩
    · have w := zi_nlt w
      rw [nI_toInt (by omega), k3] at w
      have n3 : n = 3 := by omega
      rw [if_pos (.inr n3), if_pos (.inr n3)]
      refine pa_aload_n (pc' := 22) dX11_image_21 rfl rfl ?_
      refine pa_iconst (v := 3) (pc' := 23) dX11_image_22 (by decide) rfl ?_
      refine pa_callv (pc' := 26) (vs := [.inl 3]) (rest := []) dX11_image_23 ml_11_98 (by decide) rfl rfl rfl (fun d' _ => c_ref s0) (fun v g3 hq => ?_)
      obtain ⟨er, eg⟩ := hq
      subst er
      exact pa_iret dX11_image_26 rfl rfl ⟨rfl, by rw [eg, zsI_no (by omega)]; exact en⟩
theorem N_image12 (hA : lPA A c h) (ho : hOK wd h) (h1 : h.1 = hh_487.1) (en : h.2.1 196 21 = nI n) (hn : n ≤ 3) : zPa d mX12_image [.inr (.inr (some 196))] h (fun v h' => v = some (.inl (imV A n)) ∧ h'.2.1 196 21 = nI (imN A n)) := by
  intro N
  have s196 := sh_196' h1
  have r17 : h.2.2.2.1 196 17 = some 201 := ho.2.2.1 196 17 201 (by decide +kernel)
  have r19 : h.2.2.2.1 196 19 = some 203 := ho.2.2.1 196 19 203 (by decide +kernel)
  show zPn N none d mX12_image (0, [(0, .inr (.inr (some 196)))], [], h) _
  refine pa_aload_n (pc' := 1) dX12_image_0 rfl rfl ?_
  refine pa_callv (pc' := 4) (vs := []) (rest := []) dX12_image_1 ml_12_167 (by decide) rfl rfl rfl (fun d' _ => m_good s196) (fun v g hq => ?_)
  obtain ⟨er, eg⟩ := hq
  subst er
  have hB : lPA A c g := by rw [eg]; exact hA.gd
  have g1 : g.1 = hh_487.1 := by rw [eg]; exact h1
  have s196 := sh_196' g1
  have r17 : g.2.2.2.1 196 17 = some 201 := by rw [eg]; exact r17
  have r19 : g.2.2.2.1 196 19 = some 203 := by rw [eg]; exact r19
  have en : g.2.1 196 21 = nI n := by rw [eg, zsI_no (by omega), zsI_no (by omega)]; exact en
  show zPn N none d mX12_image (4, [(0, .inr (.inr (some 196)))], [], g) _
  refine pa_aload_n (pc' := 5) dX12_image_4 rfl rfl ?_
  unfold imV imN
  rcases hB.pos with ⟨z, p14⟩ | ⟨z, p14⟩
  · rw [if_pos (.inl z), if_pos (.inl z)]
    refine pa_getI (pc' := 8) (n := 39) (v := 0) dX12_image_5 fl_12_180 s196 (by decide) p14 rfl ?_
    refine pa_if_f (pc' := 11) dX12_image_8 (by decide) (by decide) rfl ?_
    refine pa_aload_n (pc' := 12) dX12_image_11 rfl rfl ?_
    refine pa_iconst (v := 1) (pc' := 13) dX12_image_12 (by decide) rfl ?_
    refine pa_callv (pc' := 16) (vs := [.inl 1]) (rest := []) dX12_image_13 ml_12_170 (by decide) rfl rfl rfl (fun d' _ => m_no s196) (fun v g3 hq => ?_)
    obtain ⟨er, eg3⟩ := hq
    subst er
    exact pa_iret dX12_image_16 rfl rfl ⟨rfl, by rw [eg3, zsI_no (by omega)]; exact en⟩
  · refine pa_getI (pc' := 8) (n := 39) (v := 1) dX12_image_5 fl_12_180 s196 (by decide) p14 rfl ?_
    refine pa_if_t (pc' := 17) dX12_image_8 (by decide) (by decide) ?_
    refine pa_aload_n (pc' := 18) dX12_image_17 rfl rfl ?_
    refine pa_getI (pc' := 21) (n := 39) (v := nI n) dX12_image_18 fl_12_186 s196 (by decide) en rfl ?_
    refine pa_iconst (v := 3) (pc' := 22) dX12_image_21 (by decide) rfl ?_
    by_cases n3 : n = 3
    · rw [if_pos (.inr n3), if_pos (.inr n3)]
      refine pa_icmp_f (pc' := 25) dX12_image_22 (by rw [n3]; decide) (by decide) rfl ?_
      refine pa_aload_n (pc' := 26) dX12_image_25 rfl rfl ?_
      refine pa_iconst (v := 3) (pc' := 27) dX12_image_26 (by decide) rfl ?_
      refine pa_callv (pc' := 30) (vs := [.inl 3]) (rest := []) dX12_image_27 ml_12_170 (by decide) rfl rfl rfl (fun d' _ => m_no s196) (fun v g3 hq => ?_)
      obtain ⟨er, eg3⟩ := hq
      subst er
      exact pa_iret dX12_image_30 rfl rfl ⟨rfl, by rw [eg3, zsI_no (by omega)]; exact en⟩
    · have nz : ¬ (cI A = 0 ∨ n = 3) := by omega
      rw [if_neg nz, if_neg nz]
      refine pa_icmp_t (pc' := 31) dX12_image_22 (decide_eq_true (fun z => n3 (by
        have := congrArg Int32.toInt z
        rw [nI_toInt (by omega), show (3 : Int32).toInt = 3 by decide] at this
        omega))) (by decide) ?_
      refine pa_aload_n (pc' := 32) dX12_image_31 rfl rfl ?_
      refine pa_getR (pc' := 35) (n := 39) (r := 201) dX12_image_32 fl_12_26 s196 (by decide) r17 rfl ?_
      refine pa_iconst (v := 0) (pc' := 36) dX12_image_35 (by decide) rfl ?_
      refine pa_aload_n (pc' := 37) dX12_image_36 rfl rfl ?_
      refine pa_getR (pc' := 40) (n := 39) (r := 203) dX12_image_37 fl_12_32 s196 (by decide) r19 rfl ?_
      refine pa_bipush (v := 76) (pc' := 42) dX12_image_40 (by decide) rfl ?_
      refine pa_aload_n (pc' := 43) dX12_image_42 rfl rfl ?_
      refine pa_getI (pc' := 46) (n := 39) (v := nI n) dX12_image_43 fl_12_186 s196 (by decide) en rfl ?_
      refine pa_imul (pc' := 47) dX12_image_46 rfl rfl ?_
      refine pa_bipush (v := 76) (pc' := 49) dX12_image_47 (by decide) rfl ?_
      refine pa_calls (pc' := 52) (kd := 1) (vs := [.inr (.inr (some 201)), .inl 0, .inr (.inr (some 203)), .inl (76 * nI n), .inl 76]) (rest := []) dX12_image_49 ml_12_176 (.inl rfl) rfl rfl rfl (fun d' _ => m_cpF (na := 76) (nb := 228) (zsh_by g1 (by decide +kernel)) (zsh_by g1 (by decide +kernel))) (fun v g3 hq => ?_)
      obtain ⟨er, hb⟩ := hq
      subst er
      have s196 := sh_196' (hb.1.trans g1)
      have en : g3.2.1 196 21 = nI n := (hb.2.2 196 21 (by decide)).trans en
      show zPn N none d mX12_image (52, [(0, .inr (.inr (some 196)))], [], g3) _
      refine pa_aload_n (pc' := 53) dX12_image_52 rfl rfl ?_
      refine pa_dup (pc' := 54) dX12_image_53 rfl rfl ?_
      refine pa_getI (pc' := 57) (n := 39) (v := nI n) dX12_image_54 fl_12_186 s196 (by decide) en rfl ?_
      refine pa_iconst (v := nI 1) (pc' := 58) dX12_image_57 (by decide) rfl ?_
      refine pa_iadd (pc' := 59) (v := nI (n + 1)) dX12_image_58 (nI_add n 1) rfl ?_
      refine pa_putI (pc' := 62) (n := 39) dX12_image_59 fl_12_186 s196 (Or.inl rfl) (Or.inl rfl) rfl ?_
      refine pa_aload_n (pc' := 63) dX12_image_62 rfl rfl ?_
      refine pa_getI (pc' := 66) (n := 39) (v := nI (n + 1)) dX12_image_63 fl_12_186 s196 (by decide) zsI_eq rfl ?_
      refine pa_iconst (v := 1) (pc' := 67) dX12_image_66 (by decide) rfl ?_
      refine pa_isub (pc' := 68) (v := nI n) dX12_image_67 (nI_s1 (by omega)) rfl ?_
      exact pa_iret dX12_image_68 rfl rfl ⟨rfl, zsI_eq⟩
theorem c_hRef {k : Int32} (s0 : zsh h 0 = some (11, 16)) : zPa d mX11_hasRefused [.inr (.inr (some 0)), .inl k] h (fun v h' => v = some (.inl 0)) := by
  intro N
  show zPn N none d mX11_hasRefused (0, [(0, .inr (.inr (some 0))), (1, .inl k)], [], h) _
  refine pa_aload_n (pc' := 1) dX11_hasRefused_0 rfl rfl ?_
  refine pa_iload_n (pc' := 2) dX11_hasRefused_1 rfl rfl ?_
  refine pa_putI (pc' := 5) (n := 16) dX11_hasRefused_2 fl_11_17 s0 (Or.inl rfl) (Or.inl rfl) rfl ?_
  refine pa_iconst (v := 0) (pc' := 6) dX11_hasRefused_5 (by decide) rfl ?_
  exact pa_iret dX11_hasRefused_6 rfl rfl rfl
theorem c_hGra (s0 : zsh h 0 = some (11, 16)) : zPa d mX11_hasGranted [.inr (.inr (some 0))] h (fun v h' => v = some (.inl 1)) := by
  intro N
  show zPn N none d mX11_hasGranted (0, [(0, .inr (.inr (some 0)))], [], h) _
  refine pa_aload_n (pc' := 1) dX11_hasGranted_0 rfl rfl ?_
  refine pa_iconst (v := 0) (pc' := 2) dX11_hasGranted_1 (by decide) rfl ?_
  refine pa_putI (pc' := 5) (n := 16) dX11_hasGranted_2 fl_11_17 s0 (Or.inl rfl) (Or.inl rfl) rfl ?_
  refine pa_iconst (v := 1) (pc' := 6) dX11_hasGranted_5 (by decide) rfl ?_
  exact pa_iret dX11_hasGranted_6 rfl rfl rfl
theorem m_isNot {k : Int32} (s196 : zsh h 196 = some (12, 39)) : zPa d mX12_isNot [.inr (.inr (some 196)), .inl k] h (fun v h' => v = some (.inl 0)) := by
  intro N
  show zPn N none d mX12_isNot (0, [(0, .inr (.inr (some 196))), (1, .inl k)], [], h) _
  refine pa_aload_n (pc' := 1) dX12_isNot_0 rfl rfl ?_
  refine pa_iload_n (pc' := 2) dX12_isNot_1 rfl rfl ?_
  refine pa_putI (pc' := 5) (n := 39) dX12_isNot_2 fl_12_65 s196 (Or.inl rfl) (Or.inl rfl) rfl ?_
  refine pa_iconst (v := 0) (pc' := 6) dX12_isNot_5 (by decide) rfl ?_
  exact pa_iret dX12_isNot_6 rfl rfl rfl
theorem N_back11 (ho : hOK wd h) (h1 : h.1 = hh_487.1) (en : h.2.1 0 15 = nI n) (hn : n ≤ 3) (hd : 2 ≤ d + 1) : zPa (d + 1) mX11_back [.inr (.inr (some 0)), .inl x] h (fun v _ => v = some (.inl (bkV n x))) := by
  intro N
  have s0 : zsh h 0 = some (11, 16) := zsh_by h1 (by decide +kernel)
  have s105 : zsh h 105 = some (17, 3) := zsh_by h1 (by decide +kernel)
  have k0 : (0 : Int32).toInt = 0 := by decide
  have r6 : h.2.2.2.1 0 6 = some 86 := ho.2.2.1 0 6 86 (by decide +kernel)
  have r14 : h.2.2.2.1 0 14 = some 105 := ho.2.2.1 0 14 105 (by decide +kernel)
  unfold bkV
  have e12 : ¬ (0 ≤ x.toInt ∧ x.toInt < (n : Int)) → zPn N none (d + 1) mX11_back (12, [(0, .inr (.inr (some 0))), (1, .inl x)], [], h) (fun v _ => v = some (.inl (if 0 ≤ x.toInt ∧ x.toInt < (n : Int) then 1 else 0))) := fun z => by
    rw [if_neg z]
    refine pa_aload_n (pc' := 13) dX11_back_12 rfl rfl ?_
    refine pa_iconst (v := 1) (pc' := 14) dX11_back_13 (by decide) rfl ?_
    refine pa_callv (pc' := 17) (vs := [.inl 1]) (rest := []) dX11_back_14 ml_11_347 (by decide) rfl rfl rfl (fun d' _ => c_hRef s0) (fun v g3 hq => ?_)
    subst hq
    exact pa_iret dX11_back_17 rfl rfl rfl
  show zPn N none (d + 1) mX11_back (0, [(0, .inr (.inr (some 0))), (1, .inl x)], [], h) _
  refine pa_iload_n (pc' := 1) dX11_back_0 rfl rfl ?_
  refine pa_if (pc' := 12) (pc2 := 4) dX11_back_1 (by decide) rfl (fun z => e12 (fun w => by have := zi_lt z; omega)) (fun z => ?_)
  refine pa_iload_n (pc' := 5) dX11_back_4 rfl rfl ?_
  refine pa_aload_n (pc' := 6) dX11_back_5 rfl rfl ?_
  refine pa_getI (pc' := 9) (n := 16) (v := nI n) dX11_back_6 fl_11_91 s0 (by decide) en rfl ?_
  refine pa_icmp (pc' := 18) (pc2 := 12) dX11_back_9 (by decide) rfl (fun w => ?_) (fun w => ?_)
  · have w := zi_lt w
    rw [nI_toInt (by omega)] at w
    have z := zi_nlt z
    have z : 0 ≤ x.toInt := by omega
    rw [if_pos ⟨z, w⟩]
    obtain ⟨r, hr, er⟩ := im_rf (n := x.toInt.toNat) ho (by omega)
    have ex := x_nI z
    refine pa_aload_n (pc' := 19) dX11_back_18 rfl rfl ?_
    refine pa_getR (pc' := 22) (n := 16) (r := 86) dX11_back_19 fl_11_42 s0 (by decide) r6 rfl ?_
    refine pa_aload_n (pc' := 23) dX11_back_22 rfl rfl ?_
    refine pa_getR (pc' := 26) (n := 16) (r := 105) dX11_back_23 fl_11_88 s0 (by decide) r14 rfl ?_
    refine pa_iload_n (pc' := 27) dX11_back_26 rfl rfl ?_
    refine pa_aald (pc' := 28) (n := 3) (kd := 17) (r := r) dX11_back_27 s105 (by decide) (by rw [ex]; exact zn_in (by omega) (by decide)) er rfl ?_
    refine pa_callv (pc' := 31) (vs := [.inr (.inr (some r))]) (rest := []) dX11_back_28 ml_11_359 (by decide) rfl rfl rfl (fun d' hd' => zPa.of (S_285 d' (by show 1 ≤ d'; omega) [.inr (.inr (some 86)), .inr (.inr (some r))] h ⟨⟨86, List.mem_cons_self, rfl⟩, ⟨r, hr, rfl⟩, trivial⟩ ho ⟨fun q hq => (nomatch hq), fun q hq => (nomatch hq)⟩)) (fun v g3 hq => ?_)
    obtain ⟨ho3, hf3, p, hp, hret, -⟩ := hq
    have hall : ct_285.2.2.2.1.all (fun p => decide (p.1 = none)) = true := by decide +kernel
    have ev : v = none := by
      rw [of_decide_eq_true (List.all_eq_true.mp hall p hp)] at hret
      exact hret
    subst ev
    have s0 : zsh g3 0 = some (11, 16) := zsh_by (hf3.1.trans h1) (by decide +kernel)
    show zPn N none (d + 1) mX11_back (31, [(0, .inr (.inr (some 0))), (1, .inl x)], [], g3) _
    refine pa_aload_n (pc' := 32) dX11_back_31 rfl rfl ?_
    refine pa_iconst (v := 0) (pc' := 33) dX11_back_32 (by decide) rfl ?_
    refine pa_putI (pc' := 36) (n := 16) dX11_back_33 fl_11_85 s0 (Or.inl rfl) (Or.inl rfl) rfl ?_
    refine pa_aload_n (pc' := 37) dX11_back_36 rfl rfl ?_
    refine pa_callv (pc' := 40) (vs := []) (rest := []) dX11_back_37 ml_11_356 (by decide) rfl rfl rfl (fun d' _ => c_hGra s0) (fun v g4 hq => ?_)
    subst hq
    exact pa_iret dX11_back_40 rfl rfl rfl
  · have w := zi_nlt w
    rw [nI_toInt (by omega)] at w
    exact e12 (fun q => by omega)
theorem N_back12 (ho : hOK wd h) (h1 : h.1 = hh_487.1) (en : h.2.1 196 21 = nI n) (hn : n ≤ 3) : zPa d mX12_back [.inr (.inr (some 196)), .inl x] h (fun v _ => v = some (.inl (bkV n x))) := by
  intro N
  have s196 := sh_196' h1
  have r17 : h.2.2.2.1 196 17 = some 201 := ho.2.2.1 196 17 201 (by decide +kernel)
  have r19 : h.2.2.2.1 196 19 = some 203 := ho.2.2.1 196 19 203 (by decide +kernel)
  show zPn N none d mX12_back (0, [(0, .inr (.inr (some 196))), (1, .inl x)], [], h) _
  refine pa_aload_n (pc' := 1) dX12_back_0 rfl rfl ?_
  refine pa_callv (pc' := 4) (vs := []) (rest := []) dX12_back_1 ml_12_167 (by decide) rfl rfl rfl (fun d' _ => m_good s196) (fun v g hq => ?_)
  obtain ⟨er, eg⟩ := hq
  subst er
  have g1 : g.1 = hh_487.1 := by rw [eg]; exact h1
  have s196 := sh_196' g1
  have r17 : g.2.2.2.1 196 17 = some 201 := by rw [eg]; exact r17
  have r19 : g.2.2.2.1 196 19 = some 203 := by rw [eg]; exact r19
  have en : g.2.1 196 21 = nI n := by rw [eg, zsI_no (by omega), zsI_no (by omega)]; exact en
  show zPn N none d mX12_back (4, [(0, .inr (.inr (some 196))), (1, .inl x)], [], g) _
  refine pa_iload_n (pc' := 5) dX12_back_4 rfl rfl ?_
  refine pa_iconst (v := 0) (pc' := 6) dX12_back_5 (by decide) rfl ?_
  refine pa_aload_n (pc' := 7) dX12_back_6 rfl rfl ?_
  refine pa_getI (pc' := 10) (n := 39) (v := nI n) dX12_back_7 fl_12_186 s196 (by decide) en rfl ?_
  refine pa_iconst (v := 1) (pc' := 11) dX12_back_10 (by decide) rfl ?_
  refine pa_isub (pc' := 12) (v := nI n - 1) dX12_back_11 rfl rfl ?_
  refine pa_calls (pc' := 15) (kd := 1) (vs := [.inl x, .inl 0, .inl (nI n - 1)]) (rest := []) dX12_back_12 ml_12_149 (.inl rfl) rfl rfl rfl (fun d' _ => zPa.of in_ex) (fun v g2 hq => ?_)
  obtain ⟨r, er, eh, hq⟩ := hq
  subst er
  rw [eh]
  have e : (nI n - 1).toInt = (n : Int) - 1 := by
    rw [Int32.toInt_sub, nI_toInt (by omega)]
    exact bmod_fit (by have : (1 : Int32).toInt = 1 := by decide
                       omega) (by have : (1 : Int32).toInt = 1 := by decide
                                  omega)
  rw [e] at hq
  unfold bkV
  show zPn N none d mX12_back (15, [(0, .inr (.inr (some 196))), (1, .inl x)], [.inl r], g) _
  rcases hq with ⟨er, w⟩ | ⟨er, w⟩
  · subst er
    rw [if_pos (by omega)]
    refine pa_if_t (pc' := 24) dX12_back_15 (by decide) (by decide) ?_
    refine pa_aload_n (pc' := 25) dX12_back_24 rfl rfl ?_
    refine pa_getR (pc' := 28) (n := 39) (r := 203) dX12_back_25 fl_12_32 s196 (by decide) r19 rfl ?_
    refine pa_bipush (v := 76) (pc' := 30) dX12_back_28 (by decide) rfl ?_
    refine pa_iload_n (pc' := 31) dX12_back_30 rfl rfl ?_
    refine pa_imul (pc' := 32) dX12_back_31 rfl rfl ?_
    refine pa_aload_n (pc' := 33) dX12_back_32 rfl rfl ?_
    refine pa_getR (pc' := 36) (n := 39) (r := 201) dX12_back_33 fl_12_26 s196 (by decide) r17 rfl ?_
    refine pa_iconst (v := 0) (pc' := 37) dX12_back_36 (by decide) rfl ?_
    refine pa_bipush (v := 76) (pc' := 39) dX12_back_37 (by decide) rfl ?_
    refine pa_calls (pc' := 42) (kd := 1) (vs := [.inr (.inr (some 203)), .inl (76 * x), .inr (.inr (some 201)), .inl 0, .inl 76]) (rest := []) dX12_back_39 ml_12_176 (.inl rfl) rfl rfl rfl (fun d' _ => m_cpF (na := 228) (nb := 76) (zsh_by g1 (by decide +kernel)) (zsh_by g1 (by decide +kernel))) (fun v g3 hq => ?_)
    obtain ⟨er, hb⟩ := hq
    subst er
    have s196 := sh_196' (hb.1.trans g1)
    show zPn N none d mX12_back (42, [(0, .inr (.inr (some 196))), (1, .inl x)], [], g3) _
    refine pa_aload_n (pc' := 43) dX12_back_42 rfl rfl ?_
    refine pa_iconst (v := 0) (pc' := 44) dX12_back_43 (by decide) rfl ?_
    refine pa_putI (pc' := 47) (n := 39) dX12_back_44 fl_12_183 s196 (Or.inl rfl) (Or.inl rfl) rfl ?_
    refine pa_iconst (v := 1) (pc' := 48) dX12_back_47 (by decide) rfl ?_
    exact pa_iret dX12_back_48 rfl rfl rfl
  · subst er
    rw [if_neg (by omega)]
    refine pa_if_f (pc' := 18) dX12_back_15 (by decide) (by decide) rfl ?_
    refine pa_aload_n (pc' := 19) dX12_back_18 rfl rfl ?_
    refine pa_iconst (v := 1) (pc' := 20) dX12_back_19 (by decide) rfl ?_
    refine pa_callv (pc' := 23) (vs := [.inl 1]) (rest := []) dX12_back_20 ml_12_427 (by decide) rfl rfl rfl (fun d' _ => m_isNot s196) (fun v g3 hq => ?_)
    subst hq
    exact pa_iret dX12_back_23 rfl rfl rfl
/-! the law's lemmas of answers -/
theorem zCi.an {m : zM} {vs : List zV} {Q : Int32 → zH → Prop} {V : Int32} (a : zCi d m vs h Q) (b : zPa d m vs h (fun v _ => v = some (.inl V))) : zCi d m vs h (fun x h' => Q x h' ∧ x = V) := by
  refine zEx.mono (zPa.and a b) (fun v h' hq => ?_)
  obtain ⟨⟨x, e, q⟩, e2⟩ := hq
  refine ⟨x, e, q, ?_⟩
  rw [e] at e2
  cases e2
  rfl
theorem l_im (hi : lInv t h) : ∃ n : Nat, n ≤ 3 ∧ h.2.1 0 15 = nI n := by
  obtain ⟨s, hs, e⟩ := nI_rg (n := 3) (aLe_in (A := gSeg (wd.2.1 0) 15) (by decide +kernel) (hi.1.2.1 0 15)) (by decide)
  exact ⟨s, hs, e⟩
theorem l_image11 (hi : lInv t h) (hA : lPA A c h) (en : h.2.1 0 15 = nI n) (hn : n ≤ 3) : zCi 1004 mX11_image [.inr (.inr (some 0))] h (fun x h' => lMid false (nI (imN A n)) t h h' ∧ x = imV A n) := by
  have key : ∀ ct : aCt, aSpec wd ct → (lkC0 false ct && lkD ct) = true → ct.1 = mX11_image → ct.2.1 = [.inr (.inl [0])] → aPre h ct.2.2.1 → zCi 1004 mX11_image [.inr (.inr (some 0))] h (fun x h' => lMid false (nI (imN A n)) t h h' ∧ x = imV A n) := by
    intro ct hS hk hm ha hp
    rw [Bool.and_eq_true] at hk
    have g := hS 1004 (Nat.le_of_ble_eq_true hk.2) [.inr (.inr (some 0))] h (by rw [ha]; exact ⟨⟨0, List.mem_cons_self, rfl⟩, trivial⟩) hi.1 hp
    rw [hm] at g
    refine zEx.mono (zPa.and g (N_image11 (d := 1003) hA hi.1 hi.2.2.2.2.1 en hn (by decide))) (fun v h' hq => ?_)
    obtain ⟨⟨ho, hf, p, hp, hr, -, hs, -⟩, e1, e2⟩ := hq
    have e := lkC0_in hk.1 hf hp hs
    exact ⟨_, e1, ⟨hi, hi.dn.kp ho hf.1 hf.2.1 e.2.2.1, e, e2⟩, rfl⟩
  rcases hi.2.1 with hv | hv
  · exact key ct_284 S_284 (by decide +kernel) rfl rfl (lkP_in (rv := rv0) (by decide +kernel) hv)
  · exact key ct_442 S_442 (by decide +kernel) rfl rfl (lkP_in (rv := rv1) (by decide +kernel) hv)
theorem l_image12 (m : lMid false (nI (imN A n)) t g h) (hA : lPA A c h) (en : h.2.1 196 21 = nI n) (hn : n ≤ 3) : zCi 1004 mX12_image [.inr (.inr (some 196))] h (fun x h' => lInv t h' ∧ x = imV A n) := by
  have g := S_1254 1004 (by decide) [.inr (.inr (some 196))] h ⟨⟨196, List.mem_cons_self, rfl⟩, trivial⟩ m.2.1.1 ⟨fun q hq => (nomatch hq), fun q hq => (nomatch hq)⟩
  refine zEx.mono (zPa.and g (N_image12 (d := 1004) hA m.2.1.1 m.2.1.2.2.2 en hn)) (fun v h' hq => ?_)
  obtain ⟨⟨ho, hf, p, hp, hr, -, hs, -⟩, e1, e2⟩ := hq
  have e := lkM0_in (k := false) (c := ct_1254) (by decide +kernel) hf hp hs
  exact ⟨_, e1, m.to (m.2.1.kp ho hf.1 hf.2.1 e.2.2.1) ⟨e, e2⟩, rfl⟩
theorem lMid.ims (m : lMid k im t h g) (en : h.2.1 0 15 = nI n) : g.2.1 196 21 = nI n := (m.2.2.1.1 196 21 (.inr (by decide))).trans (m.1.ys.2.2.2.symm.trans en)
theorem an_fault (m : lMid k im t h g) : h.2.1 82 11 = g.2.1 196 9 := by
  rw [m.2.2.1.1 196 9 (.inr (by decide))]
  exact m.1.ys.2.1
theorem an_where (m : lMid k im t h g) : (if h.2.1 0 2 = 4 then h.2.1 82 12 else -1) = (if g.2.1 196 11 = 4 then g.2.1 196 10 else -1) := by
  rw [m.2.2.1.1 196 11 (.inr (by decide)), m.2.2.1.1 196 10 (.inr (by decide))]
  obtain ⟨a, b⟩ := m.1.ys.2.2.1
  by_cases z : h.2.1 196 11 = 4
  · rw [if_pos (a.mpr z), if_pos z]
    exact b z
  · rw [if_neg (fun w => z (a.mp w)), if_neg z]
end HLI
end Pk4
section Pk5
/-! apart -/
def df : List Int32 → List Int32 → Nat
  | a :: w, b :: w' => (if a = b then 0 else 1) + df w w'
  | _, _ => 0
def dz : Nat → Nat → Nat
  | 0, _ => 0
  | k + 1, x => (if x % 4 = 0 then 0 else 1) + dz k (x / 4)
theorem dz_0 : ∀ k, dz k 0 = 0
  | 0 => rfl
  | k + 1 => by
    show (if 0 % 4 = 0 then 0 else 1) + dz k (0 / 4) = 0
    rw [show 0 / 4 = 0 from rfl, dz_0 k]
    rfl
theorem xor4 : ∀ d, d < 4 → ∀ e, e < 4 → (d ^^^ e = 0 ↔ d = e) := by decide
theorem dz_fold : ∀ (w w' : List Int32) (v v' k : Nat), w.length = w'.length → w.all isNt = true → w'.all isNt = true → dz (k + w.length) (w.foldl (fun v b => 4 * v + (b.toInt.toNat - 97)) v ^^^ w'.foldl (fun v b => 4 * v + (b.toInt.toNat - 97)) v') = dz k (v ^^^ v') + df w w'
  | [], [], v, v', k, _, _, _ => rfl
  | [], _ :: _, _, _, _, h, _, _ => by cases h
  | _ :: _, [], _, _, _, h, _, _ => by cases h
  | b :: w, b' :: w', v, v', k, hl, h1, h2 => by
    simp only [List.all_cons, Bool.and_eq_true] at h1 h2
    simp only [List.length_cons] at hl
    have r1 := isNt_rg h1.1
    have r2 := isNt_rg h2.1
    have ih := dz_fold w w' (4 * v + (b.toInt.toNat - 97)) (4 * v' + (b'.toInt.toNat - 97)) (k + 1) (by omega) h1.2 h2.2
    show dz (k + (w.length + 1)) _ = dz k (v ^^^ v') + ((if b = b' then 0 else 1) + df w w')
    rw [show k + (w.length + 1) = k + 1 + w.length by omega]
    refine ih.trans ?_
    have e1 : ((4 * v + (b.toInt.toNat - 97)) ^^^ (4 * v' + (b'.toInt.toNat - 97))) / 4 = v ^^^ v' := by
      have := Nat.xor_div_two_pow (a := 4 * v + (b.toInt.toNat - 97)) (b := 4 * v' + (b'.toInt.toNat - 97)) (n := 2)
      rw [show 2 ^ 2 = 4 from rfl] at this
      rw [this, show (4 * v + (b.toInt.toNat - 97)) / 4 = v by omega, show (4 * v' + (b'.toInt.toNat - 97)) / 4 = v' by omega]
    have e2 : ((4 * v + (b.toInt.toNat - 97)) ^^^ (4 * v' + (b'.toInt.toNat - 97))) % 4 = (b.toInt.toNat - 97) ^^^ (b'.toInt.toNat - 97) := by
      have := Nat.xor_mod_two_pow (a := 4 * v + (b.toInt.toNat - 97)) (b := 4 * v' + (b'.toInt.toNat - 97)) (n := 2)
      rw [show 2 ^ 2 = 4 from rfl] at this
      rw [this, show (4 * v + (b.toInt.toNat - 97)) % 4 = b.toInt.toNat - 97 by omega, show (4 * v' + (b'.toInt.toNat - 97)) % 4 = b'.toInt.toNat - 97 by omega]
    show (if ((4 * v + (b.toInt.toNat - 97)) ^^^ (4 * v' + (b'.toInt.toNat - 97))) % 4 = 0 then 0 else 1) + dz k (((4 * v + (b.toInt.toNat - 97)) ^^^ (4 * v' + (b'.toInt.toNat - 97))) / 4) + df w w' = _
    rw [e1, e2]
    have e3 := xor4 (b.toInt.toNat - 97) (by omega) (b'.toInt.toNat - 97) (by omega)
    by_cases hb : b = b'
    · rw [if_pos hb, if_pos (e3.mpr (by rw [hb]))]
      omega
    · rw [if_neg hb, if_neg (fun z => hb (Int32.toInt_inj.mp (by have := e3.mp z; omega)))]
      omega
/-- bits as they are counted -/
def us (x y : Int32) : Int32 := (x.toUInt32 >>> (y.toUInt32 &&& Int32.toUInt32 31)).toInt32
def bc1 (x : Int32) : Int32 := x - (us x 1 &&& 1431655765)
def bc2 (x : Int32) : Int32 := (x &&& 858993459) + (us x 2 &&& 858993459)
def bc3 (x : Int32) : Int32 := (x + us x 4) &&& 252645135
def bc4 (x : Int32) : Int32 := x + us x 8
def bc5 (x : Int32) : Int32 := x + us x 16
def bcF (x : Int32) : Int32 := bc5 (bc4 (bc3 (bc2 (bc1 x)))) &&& 63
def uV (a b : Int32) : Int32 := bcF (((a ^^^ b) ||| (a ^^^ b) >>> (1 &&& 31)) &&& 1365)
def tbC (n : Nat) : Bool := (List.range 1024).all (fun x => decide (bcF ((nI (1024 * n + x) ||| nI (1024 * n + x) >>> (1 &&& 31)) &&& 1365) = nI (dz 6 (1024 * n + x))))
set_option maxRecDepth 100000 in
theorem tbC_0 : tbC 0 = true := by decide +kernel
set_option maxRecDepth 100000 in
theorem tbC_1 : tbC 1 = true := by decide +kernel
set_option maxRecDepth 100000 in
theorem tbC_2 : tbC 2 = true := by decide +kernel
set_option maxRecDepth 100000 in
theorem tbC_3 : tbC 3 = true := by decide +kernel
theorem tbC_at {n : Nat} (k : tbC n = true) {x : Nat} (hx : x < 1024) : bcF ((nI (1024 * n + x) ||| nI (1024 * n + x) >>> (1 &&& 31)) &&& 1365) = nI (dz 6 (1024 * n + x)) := of_decide_eq_true (List.all_eq_true.mp k x (List.mem_range.mpr hx))
theorem tb_all {x : Nat} (hx : x < 4096) : bcF ((nI x ||| nI x >>> (1 &&& 31)) &&& 1365) = nI (dz 6 x) := by
  have key : ∀ n, tbC n = true → 1024 * n ≤ x → x < 1024 * n + 1024 → bcF ((nI x ||| nI x >>> (1 &&& 31)) &&& 1365) = nI (dz 6 x) := fun n k h1 h2 => by
    have := tbC_at k (x := x - 1024 * n) (by omega)
    rw [show 1024 * n + (x - 1024 * n) = x by omega] at this
    exact this
  by_cases h1 : x < 1024
  · exact key 0 tbC_0 (by omega) (by omega)
  by_cases h2 : x < 2048
  · exact key 1 tbC_1 (by omega) (by omega)
  by_cases h3 : x < 3072
  · exact key 2 tbC_2 (by omega) (by omega)
  exact key 3 tbC_3 (by omega) (by omega)
theorem nI_xor {a b : Nat} (ha : a < 4096) (hb : b < 4096) : nI a ^^^ nI b = nI (a ^^^ b) := by
  refine Int32.toBitVec_inj.mp ?_
  refine BitVec.eq_of_toNat_eq ?_
  have h1 : (nI a).toBitVec = BitVec.ofNat 32 a := rfl
  have h2 : (nI b).toBitVec = BitVec.ofNat 32 b := rfl
  have h3 : (nI (a ^^^ b)).toBitVec = BitVec.ofNat 32 (a ^^^ b) := rfl
  have h4 : a ^^^ b < 2 ^ 12 := Nat.xor_lt_two_pow (by omega) (by omega)
  rw [Int32.toBitVec_xor, h1, h2, h3, BitVec.toNat_xor, BitVec.toNat_ofNat, BitVec.toNat_ofNat, BitVec.toNat_ofNat, Nat.mod_eq_of_lt (by omega), Nat.mod_eq_of_lt (by omega), Nat.mod_eq_of_lt (by omega)]
theorem uV_df {w w' : List Int32} (h1 : w.all isNt = true) (h2 : w'.all isNt = true) (l1 : w.length ≤ 6) (l2 : w.length = w'.length) : uV (codeS w) (codeS w') = nI (df w w') := by
  have a1 : codeS w = nI (cnS w) := codeS_n w 0 0 h1 (by decide) (by omega)
  have a2 : codeS w' = nI (cnS w') := codeS_n w' 0 0 h2 (by decide) (by omega)
  have b1 : cnS w < 4 ^ (0 + w.length) := cnS_lt w 0 0 h1 (by decide)
  have b2 : cnS w' < 4 ^ (0 + w'.length) := cnS_lt w' 0 0 h2 (by decide)
  have c1 : 4 ^ (0 + w.length) ≤ 4 ^ 6 := Nat.pow_le_pow_right (by decide) (by omega)
  have c2 : 4 ^ (0 + w'.length) ≤ 4 ^ 6 := Nat.pow_le_pow_right (by decide) (by omega)
  have h4 : cnS w ^^^ cnS w' < 2 ^ 12 := Nat.xor_lt_two_pow (by omega) (by omega)
  have e := dz_fold w w' 0 0 (6 - w.length) l2 h1 h2
  rw [show 6 - w.length + w.length = 6 by omega, show (0 : Nat) ^^^ 0 = 0 from rfl, dz_0, Nat.zero_add] at e
  have e : dz 6 (cnS w ^^^ cnS w') = df w w' := e
  unfold uV
  rw [a1, a2, nI_xor (by omega) (by omega), tb_all (by omega), e]
theorem df_le : ∀ (w w' : List Int32), df w w' ≤ w.length
  | [], _ => Nat.le_refl 0
  | _ :: _, [] => Nat.zero_le _
  | a :: w, b :: w' => by
    have := df_le w w'
    show (if a = b then 0 else 1) + df w w' ≤ w.length + 1
    split <;> omega
theorem df_take : ∀ (w w' : List Int32) (k : Nat), k < w.length → w.length = w'.length → df (w.take (k + 1)) (w'.take (k + 1)) = df (w.take k) (w'.take k) + (if w.getD k 0 = w'.getD k 0 then 0 else 1)
  | [], _, _, h, _ => absurd h (Nat.not_lt_zero _)
  | _ :: _, [], _, _, h => by cases h
  | a :: w, b :: w', 0, _, _ => by
    show (if a = b then 0 else 1) + df (w.take 0) (w'.take 0) = 0 + (if a = b then 0 else 1)
    rw [List.take_zero, List.take_zero]
    show (if a = b then 0 else 1) + 0 = _
    omega
  | a :: w, b :: w', k + 1, h, hl => by
    simp only [List.length_cons] at h hl
    have ih := df_take w w' k (by omega) (by omega)
    show (if a = b then 0 else 1) + df (w.take (k + 1)) (w'.take (k + 1)) = (if a = b then 0 else 1) + df (w.take k) (w'.take k) + (if w.getD k 0 = w'.getD k 0 then 0 else 1)
    rw [ih]
    omega
section HLD
variable {t c n d : Nat} {h h' g : zH} {A : pA} {x y : Int32}
theorem okS_nt {A : pA} {i : Nat} (hI : pI A) (hi : i < cI A) : (A.2.2.1 i).all isNt = true ∧ (A.2.2.1 i).length ≤ 6 := by
  obtain ⟨h1, h2⟩ := hI.2.2.2.2.2.1 i hi
  unfold okSong at h1
  rw [Bool.and_eq_true, Bool.and_eq_true] at h1
  refine ⟨List.all_eq_true.mpr (fun b hb => ?_), of_decide_eq_true h1.2.1⟩
  have a1 := List.all_eq_true.mp h2 b hb
  have a2 := of_decide_eq_true (List.all_eq_true.mp h1.2.2 b hb)
  unfold isLt at a1
  unfold isNt
  simp only [Bool.and_eq_true, decide_eq_true_eq, Int32.le_iff_toInt_le, Int32.lt_iff_toInt_lt] at a1 a2 ⊢
  have k97 : (97 : Int32).toInt = 97 := by decide
  have k122 : (122 : Int32).toInt = 122 := by decide
  have k100 : (100 : Int32).toInt = 100 := by decide
  have e : (b - 97).toInt = b.toInt - 97 := by
    rw [Int32.toInt_sub, k97]
    exact bmod_fit (by omega) (by omega)
  have q : A.1.toInt ≤ 4 := by
    rcases hI.1 with z | z | z | z <;> rw [z] <;> decide
  omega
def apV (A : pA) (i j : Nat) : Int32 := if (A.2.2.1 i).length = (A.2.2.1 j).length then nI (df (A.2.2.1 i) (A.2.2.1 j)) else -2
def apA (A : pA) (x y : Int32) : Int32 := if 0 ≤ x.toInt ∧ x.toInt < (cI A : Int) then (if 0 ≤ y.toInt ∧ y.toInt < (cI A : Int) then apV A x.toInt.toNat y.toInt.toNat else -1) else -1
theorem N_bit : zPa d mJ6_bitCount_0f7a4 [.inl x] h (fun v h' => v = some (.inl (bcF x)) ∧ h' = h) := by
  intro N
  show zPn N none d mJ6_bitCount_0f7a4 (0, [(0, .inl x)], [], h) _
  refine pa_iload_n (pc' := 1) dJ6_bitCount_0f7a4_0 rfl rfl ?_
  refine pa_iload_n (pc' := 2) dJ6_bitCount_0f7a4_1 rfl rfl ?_
  refine pa_iconst (v := 1) (pc' := 3) dJ6_bitCount_0f7a4_2 (by decide) rfl ?_
  refine pa_iushr (pc' := 4) (v := us x 1) dJ6_bitCount_0f7a4_3 rfl rfl ?_
  refine pa_ldcw (pc' := 7) dJ6_bitCount_0f7a4_4 cl_16_265 rfl rfl ?_
  refine pa_iand (pc' := 8) dJ6_bitCount_0f7a4_7 rfl rfl ?_
  refine pa_isub (pc' := 9) (v := bc1 x) dJ6_bitCount_0f7a4_8 rfl rfl ?_
  refine pa_istore_n (pc' := 10) dJ6_bitCount_0f7a4_9 (by decide) rfl rfl ?_
  refine pa_iload_n (pc' := 11) (v := bc1 x) dJ6_bitCount_0f7a4_10 rfl rfl ?_
  refine pa_ldcw (pc' := 14) dJ6_bitCount_0f7a4_11 cl_16_266 rfl rfl ?_
  refine pa_iand (pc' := 15) dJ6_bitCount_0f7a4_14 rfl rfl ?_
  refine pa_iload_n (pc' := 16) (v := bc1 x) dJ6_bitCount_0f7a4_15 rfl rfl ?_
  refine pa_iconst (v := 2) (pc' := 17) dJ6_bitCount_0f7a4_16 (by decide) rfl ?_
  refine pa_iushr (pc' := 18) (v := us (bc1 x) 2) dJ6_bitCount_0f7a4_17 rfl rfl ?_
  refine pa_ldcw (pc' := 21) dJ6_bitCount_0f7a4_18 cl_16_266 rfl rfl ?_
  refine pa_iand (pc' := 22) dJ6_bitCount_0f7a4_21 rfl rfl ?_
  refine pa_iadd (pc' := 23) (v := bc2 (bc1 x)) dJ6_bitCount_0f7a4_22 rfl rfl ?_
  refine pa_istore_n (pc' := 24) dJ6_bitCount_0f7a4_23 (by decide) rfl rfl ?_
  refine pa_iload_n (pc' := 25) (v := bc2 (bc1 x)) dJ6_bitCount_0f7a4_24 rfl rfl ?_
  refine pa_iload_n (pc' := 26) (v := bc2 (bc1 x)) dJ6_bitCount_0f7a4_25 rfl rfl ?_
  refine pa_iconst (v := 4) (pc' := 27) dJ6_bitCount_0f7a4_26 (by decide) rfl ?_
  refine pa_iushr (pc' := 28) (v := us (bc2 (bc1 x)) 4) dJ6_bitCount_0f7a4_27 rfl rfl ?_
  refine pa_iadd (pc' := 29) dJ6_bitCount_0f7a4_28 rfl rfl ?_
  refine pa_ldcw (pc' := 32) dJ6_bitCount_0f7a4_29 cl_16_267 rfl rfl ?_
  refine pa_iand (pc' := 33) (v := bc3 (bc2 (bc1 x))) dJ6_bitCount_0f7a4_32 rfl rfl ?_
  refine pa_istore_n (pc' := 34) dJ6_bitCount_0f7a4_33 (by decide) rfl rfl ?_
  refine pa_iload_n (pc' := 35) (v := bc3 (bc2 (bc1 x))) dJ6_bitCount_0f7a4_34 rfl rfl ?_
  refine pa_iload_n (pc' := 36) (v := bc3 (bc2 (bc1 x))) dJ6_bitCount_0f7a4_35 rfl rfl ?_
  refine pa_bipush (v := 8) (pc' := 38) dJ6_bitCount_0f7a4_36 (by decide) rfl ?_
  refine pa_iushr (pc' := 39) (v := us (bc3 (bc2 (bc1 x))) 8) dJ6_bitCount_0f7a4_38 rfl rfl ?_
  refine pa_iadd (pc' := 40) (v := bc4 (bc3 (bc2 (bc1 x)))) dJ6_bitCount_0f7a4_39 rfl rfl ?_
  refine pa_istore_n (pc' := 41) dJ6_bitCount_0f7a4_40 (by decide) rfl rfl ?_
  refine pa_iload_n (pc' := 42) (v := bc4 (bc3 (bc2 (bc1 x)))) dJ6_bitCount_0f7a4_41 rfl rfl ?_
  refine pa_iload_n (pc' := 43) (v := bc4 (bc3 (bc2 (bc1 x)))) dJ6_bitCount_0f7a4_42 rfl rfl ?_
  refine pa_bipush (v := 16) (pc' := 45) dJ6_bitCount_0f7a4_43 (by decide) rfl ?_
  refine pa_iushr (pc' := 46) (v := us (bc4 (bc3 (bc2 (bc1 x)))) 16) dJ6_bitCount_0f7a4_45 rfl rfl ?_
  refine pa_iadd (pc' := 47) (v := bc5 (bc4 (bc3 (bc2 (bc1 x))))) dJ6_bitCount_0f7a4_46 rfl rfl ?_
  refine pa_istore_n (pc' := 48) dJ6_bitCount_0f7a4_47 (by decide) rfl rfl ?_
  refine pa_iload_n (pc' := 49) (v := bc5 (bc4 (bc3 (bc2 (bc1 x))))) dJ6_bitCount_0f7a4_48 rfl rfl ?_
  refine pa_bipush (v := 63) (pc' := 51) dJ6_bitCount_0f7a4_49 (by decide) rfl ?_
  refine pa_iand (pc' := 52) (v := bcF x) dJ6_bitCount_0f7a4_51 rfl rfl ?_
  exact pa_iret dJ6_bitCount_0f7a4_52 rfl rfl ⟨rfl, rfl⟩
theorem N_unlike : zPa d mX11_unlikeNotes [.inl x, .inl y] h (fun v h' => v = some (.inl (uV x y)) ∧ h' = h) := by
  intro N
  show zPn N none d mX11_unlikeNotes (0, [(0, .inl x), (1, .inl y)], [], h) _
  refine pa_iload_n (pc' := 1) dX11_unlikeNotes_0 rfl rfl ?_
  refine pa_iload_n (pc' := 2) dX11_unlikeNotes_1 rfl rfl ?_
  refine pa_ixor (pc' := 3) dX11_unlikeNotes_2 rfl rfl ?_
  refine pa_istore_n (pc' := 4) dX11_unlikeNotes_3 (by decide) rfl rfl ?_
  refine pa_iload_n (pc' := 5) (v := x ^^^ y) dX11_unlikeNotes_4 rfl rfl ?_
  refine pa_iload_n (pc' := 6) (v := x ^^^ y) dX11_unlikeNotes_5 rfl rfl ?_
  refine pa_iconst (v := 1) (pc' := 7) dX11_unlikeNotes_6 (by decide) rfl ?_
  refine pa_ishr (pc' := 8) dX11_unlikeNotes_7 rfl rfl ?_
  refine pa_ior (pc' := 9) dX11_unlikeNotes_8 rfl rfl ?_
  refine pa_sipush (v := 1365) (pc' := 12) dX11_unlikeNotes_9 (by decide) rfl ?_
  refine pa_iand (pc' := 13) dX11_unlikeNotes_12 rfl rfl ?_
  refine pa_calls (pc' := 16) (kd := 1) (vs := [.inl (((x ^^^ y) ||| (x ^^^ y) >>> (1 &&& 31)) &&& 1365)]) (rest := []) dX11_unlikeNotes_13 ml_11_411 (.inl rfl) rfl rfl rfl (fun d' _ => N_bit) (fun v g2 hq => ?_)
  obtain ⟨er, eh⟩ := hq
  subst er
  rw [eh]
  exact pa_iret dX11_unlikeNotes_16 rfl rfl ⟨rfl, rfl⟩
theorem N_apartness {i j : Nat} (hA : lPA A c h) (ho : hOK wd h) (h1 : h.1 = hh_487.1) (r92 : h.2.2.2.1 92 0 = some c) (hi : i < cI A) (hj : j < cI A) : zPa d mX7_apartness [.inr (.inr (some 92)), .inl (nI i), .inl (nI j)] h (fun v h' => v = some (.inl (apV A i j)) ∧ h' = h) := by
  intro N
  have s92 : zsh h 92 = some (7, 6) := zsh_by h1 (by decide +kernel)
  have hc : c = 2 ∨ c = 42 := hA.2.1
  have hle := hA.le
  have sl : zsh h (c + 2) = some (14, 7) := zsh_by h1 (by rcases hc with e | e <;> subst e <;> decide +kernel)
  have ss : zsh h (c + 1) = some (14, 7) := zsh_by h1 (by rcases hc with e | e <;> subst e <;> decide +kernel)
  have r10 : h.2.2.2.1 c 10 = some (c + 2) := by
    rcases hc with e | e <;> subst e
    · exact ho.2.2.1 2 10 4 (by decide +kernel)
    · exact ho.2.2.1 42 10 44 (by decide +kernel)
  have r9 : h.2.2.2.1 c 9 = some (c + 1) := by
    rcases hc with e | e <;> subst e
    · exact ho.2.2.1 2 9 3 (by decide +kernel)
    · exact ho.2.2.1 42 9 43 (by decide +kernel)
  have sc := hA.sc h1
  have qi := hA.2.2.2.1.2.2.2.2.2.2.1 i hi
  have qj := hA.2.2.2.1.2.2.2.2.2.2.1 j hj
  have ni := okS_nt hA.1 hi
  have nj := okS_nt hA.1 hj
  show zPn N none d mX7_apartness (0, [(0, .inr (.inr (some 92))), (1, .inl (nI i)), (2, .inl (nI j))], [], h) _
  refine pa_aload_n (pc' := 1) dX7_apartness_0 rfl rfl ?_
  refine pa_getR (pc' := 4) (n := 6) (r := c) dX7_apartness_1 fl_7_28 s92 (by decide) r92 rfl ?_
  refine pa_getR (pc' := 7) (n := 15) (r := c + 2) dX7_apartness_4 fl_7_47 sc (by decide) r10 rfl ?_
  refine pa_iload_n (pc' := 8) dX7_apartness_7 rfl rfl ?_
  refine pa_iald (pc' := 9) (n := 7) dX7_apartness_8 sl rfl (fun _ => ?_)
  rw [nI_clamp (by omega), qi.1]
  refine pa_aload_n (pc' := 10) dX7_apartness_9 rfl rfl ?_
  refine pa_getR (pc' := 13) (n := 6) (r := c) dX7_apartness_10 fl_7_28 s92 (by decide) r92 rfl ?_
  refine pa_getR (pc' := 16) (n := 15) (r := c + 2) dX7_apartness_13 fl_7_47 sc (by decide) r10 rfl ?_
  refine pa_iload_n (pc' := 17) dX7_apartness_16 rfl rfl ?_
  refine pa_iald (pc' := 18) (n := 7) dX7_apartness_17 sl rfl (fun _ => ?_)
  rw [nI_clamp (by omega), qj.1]
  unfold apV
  by_cases z : (A.2.2.1 i).length = (A.2.2.1 j).length
  · rw [if_pos z]
    refine pa_icmp_f (pc' := 21) dX7_apartness_18 (by rw [z]; simp [zcond]) (by decide) rfl ?_
    refine pa_aload_n (pc' := 22) dX7_apartness_21 rfl rfl ?_
    refine pa_getR (pc' := 25) (n := 6) (r := c) dX7_apartness_22 fl_7_28 s92 (by decide) r92 rfl ?_
    refine pa_getR (pc' := 28) (n := 15) (r := c + 1) dX7_apartness_25 fl_7_44 sc (by decide) r9 rfl ?_
    refine pa_iload_n (pc' := 29) dX7_apartness_28 rfl rfl ?_
    refine pa_iald (pc' := 30) (n := 7) dX7_apartness_29 ss rfl (fun _ => ?_)
    rw [nI_clamp (by omega), qi.2]
    refine pa_aload_n (pc' := 31) dX7_apartness_30 rfl rfl ?_
    refine pa_getR (pc' := 34) (n := 6) (r := c) dX7_apartness_31 fl_7_28 s92 (by decide) r92 rfl ?_
    refine pa_getR (pc' := 37) (n := 15) (r := c + 1) dX7_apartness_34 fl_7_44 sc (by decide) r9 rfl ?_
    refine pa_iload_n (pc' := 38) dX7_apartness_37 rfl rfl ?_
    refine pa_iald (pc' := 39) (n := 7) dX7_apartness_38 ss rfl (fun _ => ?_)
    rw [nI_clamp (by omega), qj.2]
    refine pa_calls (pc' := 42) (kd := 3) (vs := [.inl (codeS (A.2.2.1 i)), .inl (codeS (A.2.2.1 j))]) (rest := []) dX7_apartness_39 ml_7_60 (.inr rfl) rfl rfl rfl (fun d' _ => N_unlike) (fun v g2 hq => ?_)
    obtain ⟨er, eh⟩ := hq
    rw [uV_df ni.1 nj.1 ni.2 z] at er
    subst er
    rw [eh]
    show zPn N none d mX7_apartness (42, [(0, .inr (.inr (some 92))), (1, .inl (nI i)), (2, .inl (nI j))], [.inl (nI (df (A.2.2.1 i) (A.2.2.1 j)))], h) _
    refine pa_goto (pc' := 47) dX7_apartness_42 (by decide) ?_
    exact pa_iret dX7_apartness_47 rfl rfl ⟨rfl, rfl⟩
  · rw [if_neg z]
    refine pa_icmp_t (pc' := 45) dX7_apartness_18 (decide_eq_true (fun w => z (by
      have := congrArg Int32.toInt w
      rw [nI_toInt (by omega), nI_toInt (by omega)] at this
      omega))) (by decide) ?_
    refine pa_bipush (v := -2) (pc' := 47) dX7_apartness_45 (by decide) rfl ?_
    exact pa_iret dX7_apartness_47 rfl rfl ⟨rfl, rfl⟩
/-- the songs as the reference keeps them -/
def sgR (A : pA) (h : zH) : Prop := h.1 = hh_487.1 ∧ h.2.2.2.1 196 15 = some 199 ∧ pI A ∧ ∀ i, i < cI A → h.2.1 199 (10 + 7 * i) = nI (A.2.2.1 i).length ∧ ∀ k, k < (A.2.2.1 i).length → h.2.1 199 (10 + 7 * i + 1 + k) = (A.2.2.1 i).getD k 0 - 97
theorem lPA.sg (hA : lPA A c h) (ho : hOK wd h) (h1 : h.1 = hh_487.1) : sgR A h := by
  refine ⟨h1, ho.2.2.1 196 15 199 (by decide +kernel), hA.1, fun i hi => ?_⟩
  rcases hA.2.2.2.2 with ⟨-, b⟩ | ⟨-, -, K⟩
  · rw [b] at hi
    exact absurd hi (Nat.not_lt_zero i)
  · exact K.2.2.2.2.2.2.2.1 i hi
theorem sgR.gd (K : sgR A h) : sgR A (zsI (zsI h 196 0 0) 196 11 0) := ⟨K.1, K.2.1, K.2.2.1, fun i hi => ⟨by rw [zsI_no (by omega), zsI_no (by omega)]; exact (K.2.2.2 i hi).1, fun k hk => by rw [zsI_no (by omega), zsI_no (by omega)]; exact (K.2.2.2 i hi).2 k hk⟩⟩
theorem sub97i {a b : Int32} : a - 97 = b - 97 ↔ a = b := by
  constructor
  · intro e
    have := congrArg (fun z => z + 97) e
    simpa [Int32.sub_add_cancel] using this
  · intro e
    rw [e]
theorem N_apartOf {i j : Nat} (K : sgR A h) (hi : i < cI A) (hj : j < cI A) : zPa d mX12_apartOf [.inr (.inr (some 196)), .inl (nI i), .inl (nI j)] h (fun v h' => v = some (.inl (apV A i j)) ∧ h' = h) := by
  intro N
  obtain ⟨h1, r15, hI, hS⟩ := K
  have s196 := sh_196' h1
  have s199 : zsh h 199 = some (14, 363) := zsh_by h1 (by decide +kernel)
  have bI := hI.2.2.1.1
  have ni := okS_nt hI hi
  have nj := okS_nt hI hj
  have qi := hS i hi
  have qj := hS j hj
  show zPn N none d mX12_apartOf (0, [(0, .inr (.inr (some 196))), (1, .inl (nI i)), (2, .inl (nI j))], [], h) _
  refine pa_aload_n (pc' := 1) dX12_apartOf_0 rfl rfl ?_
  refine pa_iload_n (pc' := 2) dX12_apartOf_1 rfl rfl ?_
  refine pa_callv (pc' := 5) (vs := [.inl (nI i)]) (rest := []) dX12_apartOf_2 ml_12_265 (by decide) rfl rfl rfl (fun d' _ => N_songLong h1 r15 (by omega)) (fun v g2 hq => ?_)
  obtain ⟨er, eh⟩ := hq
  rw [qi.1] at er
  subst er
  rw [eh]
  show zPn N none d mX12_apartOf (5, [(0, .inr (.inr (some 196))), (1, .inl (nI i)), (2, .inl (nI j))], [.inl (nI (A.2.2.1 i).length)], h) _
  refine pa_aload_n (pc' := 6) dX12_apartOf_5 rfl rfl ?_
  refine pa_iload_n (pc' := 7) dX12_apartOf_6 rfl rfl ?_
  refine pa_callv (pc' := 10) (vs := [.inl (nI j)]) (rest := [.inl (nI (A.2.2.1 i).length)]) dX12_apartOf_7 ml_12_265 (by decide) rfl rfl rfl (fun d' _ => N_songLong h1 r15 (by omega)) (fun v g2 hq => ?_)
  obtain ⟨er, eh⟩ := hq
  rw [qj.1] at er
  subst er
  rw [eh]
  show zPn N none d mX12_apartOf (10, [(0, .inr (.inr (some 196))), (1, .inl (nI i)), (2, .inl (nI j))], [.inl (nI (A.2.2.1 j).length), .inl (nI (A.2.2.1 i).length)], h) _
  unfold apV
  by_cases z : (A.2.2.1 i).length = (A.2.2.1 j).length
  · rw [if_pos z]
    refine pa_icmp_t (pc' := 16) dX12_apartOf_10 (by rw [z]; simp [zcond]) (by decide) ?_
    refine pa_iconst (v := nI 0) (pc' := 17) dX12_apartOf_16 (by decide) rfl ?_
    refine pa_istore_n (pc' := 18) dX12_apartOf_17 (by decide) rfl rfl ?_
    refine pa_iconst (v := nI 0) (pc' := 19) dX12_apartOf_18 (by decide) rfl ?_
    refine pa_istore (pc' := 21) dX12_apartOf_19 (by decide) rfl rfl ?_
    have lp : ∀ (N k : Nat) (ls : zL), k ≤ (A.2.2.1 i).length → zget ls 0 = some (.inr (.inr (some 196))) → zget ls 1 = some (.inl (nI i)) → zget ls 2 = some (.inl (nI j)) → zget ls 3 = some (.inl (nI (df ((A.2.2.1 i).take k) ((A.2.2.1 j).take k)))) → zget ls 4 = some (.inl (nI k)) → zPn N none d mX12_apartOf (21, ls, [], h) (fun v h' => v = some (.inl (nI (df (A.2.2.1 i) (A.2.2.1 j)))) ∧ h' = h) := by
      intro N
      induction N with
      | zero => intro k ls _ _ _ _ _ _; exact zPn.zero
      | succ N ih =>
        intro k ls hk hl0 hl1 hl2 hl3 hl4
        refine pa_iload (pc' := 23) dX12_apartOf_21 hl4 rfl ?_
        refine pa_aload_n (pc' := 24) dX12_apartOf_23 hl0 rfl ?_
        refine pa_iload_n (pc' := 25) dX12_apartOf_24 hl1 rfl ?_
        refine pa_callv (pc' := 28) (vs := [.inl (nI i)]) (rest := [.inl (nI k)]) dX12_apartOf_25 ml_12_265 (by decide) rfl rfl rfl (fun d' _ => N_songLong h1 r15 (by omega)) (fun v g2 hq => ?_)
        obtain ⟨er, eh⟩ := hq
        rw [qi.1] at er
        subst er
        rw [eh]
        show zPn (N + 1) none d mX12_apartOf (28, ls, [.inl (nI (A.2.2.1 i).length), .inl (nI k)], h) _
        refine pa_icmp (pc' := 82) (pc2 := 31) dX12_apartOf_28 (by decide) rfl (fun w => ?_) (fun w => ?_)
        · have w := zi_nlt (zk_ge_lt w)
          rw [nI_toInt (by omega), nI_toInt (by omega)] at w
          rw [show k = (A.2.2.1 i).length by omega, List.take_length, z, List.take_length] at hl3
          refine pa_iload_n (pc' := 83) dX12_apartOf_82 hl3 rfl ?_
          exact pa_iret dX12_apartOf_83 rfl rfl ⟨rfl, rfl⟩
        · have w := zi_lt (zk_ge_lt w)
          rw [nI_toInt (by omega), nI_toInt (by omega)] at w
          refine pa_iload_n (pc' := 32) dX12_apartOf_31 hl3 rfl ?_
          refine pa_aload_n (pc' := 33) dX12_apartOf_32 hl0 rfl ?_
          refine pa_getR (pc' := 36) (n := 39) (r := 199) dX12_apartOf_33 fl_12_20 s196 (by decide) r15 rfl ?_
          refine pa_bipush (v := nI 10) (pc' := 38) dX12_apartOf_36 (by decide) rfl ?_
          refine pa_bipush (v := nI 7) (pc' := 40) dX12_apartOf_38 (by decide) rfl ?_
          refine pa_iload_n (pc' := 41) dX12_apartOf_40 hl1 rfl ?_
          refine pa_imul (pc' := 42) (v := nI (7 * i)) dX12_apartOf_41 (nI_mul 7 i) rfl ?_
          refine pa_iadd (pc' := 43) (v := nI (10 + 7 * i)) dX12_apartOf_42 (nI_add 10 (7 * i)) rfl ?_
          refine pa_iconst (v := nI 1) (pc' := 44) dX12_apartOf_43 (by decide) rfl ?_
          refine pa_iadd (pc' := 45) (v := nI (10 + 7 * i + 1)) dX12_apartOf_44 (nI_add _ _) rfl ?_
          refine pa_iload (pc' := 47) dX12_apartOf_45 hl4 rfl ?_
          refine pa_iadd (pc' := 48) (v := nI (10 + 7 * i + 1 + k)) dX12_apartOf_47 (nI_add _ _) rfl ?_
          refine pa_iald (pc' := 49) (n := 363) dX12_apartOf_48 s199 rfl (fun _ => ?_)
          rw [nI_clamp (by omega), qi.2 k (by omega)]
          refine pa_aload_n (pc' := 50) dX12_apartOf_49 hl0 rfl ?_
          refine pa_getR (pc' := 53) (n := 39) (r := 199) dX12_apartOf_50 fl_12_20 s196 (by decide) r15 rfl ?_
          refine pa_bipush (v := nI 10) (pc' := 55) dX12_apartOf_53 (by decide) rfl ?_
          refine pa_bipush (v := nI 7) (pc' := 57) dX12_apartOf_55 (by decide) rfl ?_
          refine pa_iload_n (pc' := 58) dX12_apartOf_57 hl2 rfl ?_
          refine pa_imul (pc' := 59) (v := nI (7 * j)) dX12_apartOf_58 (nI_mul 7 j) rfl ?_
          refine pa_iadd (pc' := 60) (v := nI (10 + 7 * j)) dX12_apartOf_59 (nI_add 10 (7 * j)) rfl ?_
          refine pa_iconst (v := nI 1) (pc' := 61) dX12_apartOf_60 (by decide) rfl ?_
          refine pa_iadd (pc' := 62) (v := nI (10 + 7 * j + 1)) dX12_apartOf_61 (nI_add _ _) rfl ?_
          refine pa_iload (pc' := 64) dX12_apartOf_62 hl4 rfl ?_
          refine pa_iadd (pc' := 65) (v := nI (10 + 7 * j + 1 + k)) dX12_apartOf_64 (nI_add _ _) rfl ?_
          refine pa_iald (pc' := 66) (n := 363) dX12_apartOf_65 s199 rfl (fun _ => ?_)
          rw [nI_clamp (by omega), qj.2 k (by omega)]
          have st := df_take (A.2.2.1 i) (A.2.2.1 j) k (by omega) z
          have go : ∀ e : Nat, df ((A.2.2.1 i).take (k + 1)) ((A.2.2.1 j).take (k + 1)) = df ((A.2.2.1 i).take k) ((A.2.2.1 j).take k) + e → zPn (N + 1) none d mX12_apartOf (74, ls, [.inl (nI e), .inl (nI (df ((A.2.2.1 i).take k) ((A.2.2.1 j).take k)))], h) (fun v h' => v = some (.inl (nI (df (A.2.2.1 i) (A.2.2.1 j)))) ∧ h' = h) := fun e he => by
            refine pa_iadd (pc' := 75) (v := nI (df ((A.2.2.1 i).take k) ((A.2.2.1 j).take k) + e)) dX12_apartOf_74 (nI_add _ _) rfl ?_
            rw [← he]
            refine pa_istore_n (pc' := 76) dX12_apartOf_75 (by decide) rfl rfl ?_
            refine pa_iinc (pc' := 79) (v := nI (k + 1)) dX12_apartOf_76 (zget_s1 hl4 (by decide) (by simp [zcat])) (by decide) (nI_add k 1) rfl rfl ?_
            refine pa_gotos (pc' := 21) dX12_apartOf_79 (by decide) ?_
            exact ih (k + 1) _ (by omega) (zget_s1 (zget_s1 hl0 (by decide) (by simp [zcat])) (by decide) (by simp [zcat])) (zget_s1 (zget_s1 hl1 (by decide) (by simp [zcat])) (by decide) (by simp [zcat])) (zget_s1 (zget_s1 hl2 (by decide) (by simp [zcat])) (by decide) (by simp [zcat])) (zget_s1 zget_s1e (by decide) (by simp [zcat])) zget_s1e
          by_cases q : (A.2.2.1 i).getD k 0 = (A.2.2.1 j).getD k 0
          · rw [if_pos q] at st
            refine pa_icmp_f (pc' := 69) dX12_apartOf_66 (by rw [q]; simp [zcond]) (by decide) rfl ?_
            refine pa_iconst (v := nI 0) (pc' := 70) dX12_apartOf_69 (by decide) rfl ?_
            refine pa_goto (pc' := 74) dX12_apartOf_70 (by decide) ?_
            exact go 0 st
          · rw [if_neg q] at st
            refine pa_icmp_t (pc' := 73) dX12_apartOf_66 (decide_eq_true (fun w => q (sub97i.mp w))) (by decide) ?_
            refine pa_iconst (v := nI 1) (pc' := 74) dX12_apartOf_73 (by decide) rfl ?_
            exact go 1 st
    exact lp N 0 _ (Nat.zero_le _) rfl rfl rfl rfl rfl
  · rw [if_neg z]
    refine pa_icmp_f (pc' := 13) dX12_apartOf_10 (decide_eq_false (fun w => z (by
      have := congrArg Int32.toInt w
      rw [nI_toInt (by omega), nI_toInt (by omega)] at this
      omega))) (by decide) rfl ?_
    refine pa_bipush (v := -2) (pc' := 15) dX12_apartOf_13 (by decide) rfl ?_
    exact pa_iret dX12_apartOf_15 rfl rfl ⟨rfl, rfl⟩
theorem N_apart11 (hA : lPA A c h) (ho : hOK wd h) (h1 : h.1 = hh_487.1) (r92 : h.2.2.2.1 92 0 = some c) : zPa d mX11_apart [.inr (.inr (some 0)), .inl x, .inl y] h (fun v _ => v = some (.inl (apA A x y))) := by
  intro N
  have s0 : zsh h 0 = some (11, 16) := zsh_by h1 (by decide +kernel)
  have r7 : h.2.2.2.1 0 7 = some 92 := ho.2.2.1 0 7 92 (by decide +kernel)
  have e32 : apA A x y = -1 → zPn N none d mX11_apart (32, [(0, .inr (.inr (some 0))), (1, .inl x), (2, .inl y)], [], h) (fun v _ => v = some (.inl (apA A x y))) := fun e => by
    rw [e]
    refine pa_aload_n (pc' := 33) dX11_apart_32 rfl rfl ?_
    refine pa_iconst (v := 1) (pc' := 34) dX11_apart_33 (by decide) rfl ?_
    refine pa_callv (pc' := 37) (vs := [.inl 1]) (rest := []) dX11_apart_34 ml_11_98 (by decide) rfl rfl rfl (fun d' _ => c_ref s0) (fun v g3 hq => ?_)
    obtain ⟨er, -⟩ := hq
    subst er
    exact pa_iret dX11_apart_37 rfl rfl rfl
  show zPn N none d mX11_apart (0, [(0, .inr (.inr (some 0))), (1, .inl x), (2, .inl y)], [], h) _
  refine pa_aload_n (pc' := 1) dX11_apart_0 rfl rfl ?_
  refine pa_iload_n (pc' := 2) dX11_apart_1 rfl rfl ?_
  refine pa_callv (pc' := 5) (vs := [.inl x]) (rest := []) dX11_apart_2 ml_11_174 (by decide) rfl rfl rfl (fun d' _ => N_isI11 hA h1) (fun v g2 hq => ?_)
  obtain ⟨er, eh⟩ := hq
  subst er
  rw [eh]
  by_cases z : 0 ≤ x.toInt ∧ x.toInt < (cI A : Int)
  · rw [if_pos z]
    show zPn N none d mX11_apart (5, [(0, .inr (.inr (some 0))), (1, .inl x), (2, .inl y)], [.inl 1], h) _
    refine pa_if_f (pc' := 8) dX11_apart_5 (by decide) (by decide) rfl ?_
    refine pa_aload_n (pc' := 9) dX11_apart_8 rfl rfl ?_
    refine pa_iload_n (pc' := 10) dX11_apart_9 rfl rfl ?_
    refine pa_callv (pc' := 13) (vs := [.inl y]) (rest := []) dX11_apart_10 ml_11_174 (by decide) rfl rfl rfl (fun d' _ => N_isI11 hA h1) (fun v g2 hq => ?_)
    obtain ⟨er, eh⟩ := hq
    subst er
    rw [eh]
    by_cases w : 0 ≤ y.toInt ∧ y.toInt < (cI A : Int)
    · rw [if_pos w]
      have ea : apA A x y = apV A x.toInt.toNat y.toInt.toNat := by unfold apA; rw [if_pos z, if_pos w]
      show zPn N none d mX11_apart (13, [(0, .inr (.inr (some 0))), (1, .inl x), (2, .inl y)], [.inl 1], h) _
      refine pa_if_f (pc' := 16) dX11_apart_13 (by decide) (by decide) rfl ?_
      refine pa_aload_n (pc' := 17) dX11_apart_16 rfl rfl ?_
      refine pa_aload_n (pc' := 18) dX11_apart_17 rfl rfl ?_
      refine pa_getR (pc' := 21) (n := 16) (r := 92) dX11_apart_18 fl_11_51 s0 (by decide) r7 rfl ?_
      refine pa_iload_n (pc' := 22) dX11_apart_21 rfl rfl ?_
      refine pa_iload_n (pc' := 23) dX11_apart_22 rfl rfl ?_
      refine pa_callv (pc' := 26) (vs := [.inl x, .inl y]) (rest := [.inr (.inr (some 0))]) dX11_apart_23 ml_11_248 (by decide) rfl rfl rfl (fun d' _ => by
        have := N_apartness (d := d') (i := x.toInt.toNat) (j := y.toInt.toNat) hA ho h1 r92 (by omega) (by omega)
        rw [← x_nI z.1, ← x_nI w.1] at this
        exact this) (fun v g2 hq => ?_)
      obtain ⟨er, eh⟩ := hq
      rw [← ea] at er
      subst er
      rw [eh]
      show zPn N none d mX11_apart (26, [(0, .inr (.inr (some 0))), (1, .inl x), (2, .inl y)], [.inl (apA A x y), .inr (.inr (some 0))], h) _
      refine pa_callv (pc' := 29) (vs := [.inl (apA A x y)]) (rest := []) dX11_apart_26 ml_11_112 (by decide) rfl rfl rfl (fun d' _ => c_gra s0) (fun v g3 hq => ?_)
      obtain ⟨er, -⟩ := hq
      subst er
      show zPn N none d mX11_apart (29, [(0, .inr (.inr (some 0))), (1, .inl x), (2, .inl y)], [.inl (apA A x y)], g3) _
      refine pa_goto (pc' := 37) dX11_apart_29 (by decide) ?_
      exact pa_iret dX11_apart_37 rfl rfl rfl
    · rw [if_neg w]
      show zPn N none d mX11_apart (13, [(0, .inr (.inr (some 0))), (1, .inl x), (2, .inl y)], [.inl 0], h) _
      refine pa_if_t (pc' := 32) dX11_apart_13 (by decide) (by decide) ?_
      exact e32 (by unfold apA; rw [if_pos z, if_neg w])
  · rw [if_neg z]
    show zPn N none d mX11_apart (5, [(0, .inr (.inr (some 0))), (1, .inl x), (2, .inl y)], [.inl 0], h) _
    refine pa_if_t (pc' := 32) dX11_apart_5 (by decide) (by decide) ?_
    exact e32 (by unfold apA; rw [if_neg z])
theorem N_apart12 (hA : lPA A c h) (ho : hOK wd h) (h1 : h.1 = hh_487.1) : zPa d mX12_apart [.inr (.inr (some 196)), .inl x, .inl y] h (fun v _ => v = some (.inl (apA A x y))) := by
  intro N
  have s196 := sh_196' h1
  have K := (hA.sg ho h1).gd
  show zPn N none d mX12_apart (0, [(0, .inr (.inr (some 196))), (1, .inl x), (2, .inl y)], [], h) _
  refine pa_aload_n (pc' := 1) dX12_apart_0 rfl rfl ?_
  refine pa_callv (pc' := 4) (vs := []) (rest := []) dX12_apart_1 ml_12_167 (by decide) rfl rfl rfl (fun d' _ => m_good s196) (fun v g hq => ?_)
  obtain ⟨er, eg⟩ := hq
  subst er
  have hB : lPA A c g := by rw [eg]; exact hA.gd
  have K : sgR A g := by rw [eg]; exact K
  have g1 := K.1
  have r15 := K.2.1
  have s196 := sh_196' g1
  have e29 : apA A x y = -1 → zPn N none d mX12_apart (29, [(0, .inr (.inr (some 196))), (1, .inl x), (2, .inl y)], [], g) (fun v _ => v = some (.inl (apA A x y))) := fun e => by
    rw [e]
    refine pa_aload_n (pc' := 30) dX12_apart_29 rfl rfl ?_
    refine pa_iconst (v := 1) (pc' := 31) dX12_apart_30 (by decide) rfl ?_
    refine pa_callv (pc' := 34) (vs := [.inl 1]) (rest := []) dX12_apart_31 ml_12_170 (by decide) rfl rfl rfl (fun d' _ => m_no s196) (fun v g3 hq => ?_)
    obtain ⟨er, -⟩ := hq
    subst er
    exact pa_iret dX12_apart_34 rfl rfl rfl
  show zPn N none d mX12_apart (4, [(0, .inr (.inr (some 196))), (1, .inl x), (2, .inl y)], [], g) _
  refine pa_aload_n (pc' := 5) dX12_apart_4 rfl rfl ?_
  refine pa_iload_n (pc' := 6) dX12_apart_5 rfl rfl ?_
  refine pa_callv (pc' := 9) (vs := [.inl x]) (rest := []) dX12_apart_6 ml_12_277 (by decide) rfl rfl rfl (fun d' _ => N_isI12 hB r15 g1) (fun v g2 hq => ?_)
  obtain ⟨er, eh⟩ := hq
  subst er
  rw [eh]
  by_cases z : 0 ≤ x.toInt ∧ x.toInt < (cI A : Int)
  · rw [if_pos z]
    show zPn N none d mX12_apart (9, [(0, .inr (.inr (some 196))), (1, .inl x), (2, .inl y)], [.inl 1], g) _
    refine pa_if_f (pc' := 12) dX12_apart_9 (by decide) (by decide) rfl ?_
    refine pa_aload_n (pc' := 13) dX12_apart_12 rfl rfl ?_
    refine pa_iload_n (pc' := 14) dX12_apart_13 rfl rfl ?_
    refine pa_callv (pc' := 17) (vs := [.inl y]) (rest := []) dX12_apart_14 ml_12_277 (by decide) rfl rfl rfl (fun d' _ => N_isI12 hB r15 g1) (fun v g2 hq => ?_)
    obtain ⟨er, eh⟩ := hq
    subst er
    rw [eh]
    by_cases w : 0 ≤ y.toInt ∧ y.toInt < (cI A : Int)
    · rw [if_pos w]
      have ea : apA A x y = apV A x.toInt.toNat y.toInt.toNat := by unfold apA; rw [if_pos z, if_pos w]
      show zPn N none d mX12_apart (17, [(0, .inr (.inr (some 196))), (1, .inl x), (2, .inl y)], [.inl 1], g) _
      refine pa_if_f (pc' := 20) dX12_apart_17 (by decide) (by decide) rfl ?_
      refine pa_aload_n (pc' := 21) dX12_apart_20 rfl rfl ?_
      refine pa_iload_n (pc' := 22) dX12_apart_21 rfl rfl ?_
      refine pa_iload_n (pc' := 23) dX12_apart_22 rfl rfl ?_
      refine pa_callv (pc' := 26) (vs := [.inl x, .inl y]) (rest := []) dX12_apart_23 ml_12_312 (by decide) rfl rfl rfl (fun d' _ => by
        have := N_apartOf (d := d') (i := x.toInt.toNat) (j := y.toInt.toNat) K (by omega) (by omega)
        rw [← x_nI z.1, ← x_nI w.1] at this
        exact this) (fun v g2 hq => ?_)
      obtain ⟨er, eh⟩ := hq
      rw [← ea] at er
      subst er
      rw [eh]
      show zPn N none d mX12_apart (26, [(0, .inr (.inr (some 196))), (1, .inl x), (2, .inl y)], [.inl (apA A x y)], g) _
      refine pa_goto (pc' := 34) dX12_apart_26 (by decide) ?_
      exact pa_iret dX12_apart_34 rfl rfl rfl
    · rw [if_neg w]
      show zPn N none d mX12_apart (17, [(0, .inr (.inr (some 196))), (1, .inl x), (2, .inl y)], [.inl 0], g) _
      refine pa_if_t (pc' := 29) dX12_apart_17 (by decide) (by decide) ?_
      exact e29 (by unfold apA; rw [if_pos z, if_neg w])
  · rw [if_neg z]
    show zPn N none d mX12_apart (9, [(0, .inr (.inr (some 196))), (1, .inl x), (2, .inl y)], [.inl 0], g) _
    refine pa_if_t (pc' := 29) dX12_apart_9 (by decide) (by decide) ?_
    exact e29 (by unfold apA; rw [if_neg z])
/-- songs' post is the class's -/
theorem lV92 {t : Nat} (hi : lInv t h) (hA : lPA A c h) : h.2.2.2.1 92 0 = some c := by
  rcases hi.2.1 with hv | hv
  · rw [hv ((92, 0), 2) (by decide), ← hA.2.2.1, hv ((0, 3), 2) (by decide)]
  · rw [hv ((92, 0), 42) (by decide), ← hA.2.2.1, hv ((0, 3), 42) (by decide)]
end HLD
end Pk5
