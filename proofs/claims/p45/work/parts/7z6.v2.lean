/-! the law's loop: what holds between two calls -/
/-- the tapes are alike -/
def lT (h : zH) : Prop := ∀ k : Nat, (k : Int) < (h.2.1 196 2).toInt → TB (h.2.1 1 k) (h.2.1 197 k)
/-- the post of the class beside the reference's -/
def lPA (A : pA) (c : Nat) (h : zH) : Prop := pI A ∧ cc2 c ∧ h.2.2.2.1 0 3 = some c ∧ rcC A c h ∧ ((h.2.1 196 14 = 0 ∧ A = pA0) ∨ (h.2.1 196 14 = 1 ∧ cI A ≠ 0 ∧ rmC A (shR h)))
def lP (h : zH) : Prop := ∃ A c, lPA A c h ∧ tA A
/-- faults, troubles, images -/
def lW (h : zH) : Prop := (h.2.1 0 2 = 4 ↔ h.2.1 196 11 = 4) ∧ (h.2.1 196 11 = 4 → h.2.1 82 12 = h.2.1 196 10)
def lY (h : zH) : Prop := lP h ∧ h.2.1 82 11 = h.2.1 196 9 ∧ lW h ∧ h.2.1 0 15 = h.2.1 196 21
def lInv (t : Nat) (h : zH) : Prop := hOK wd h ∧ (lV h rv0 ∨ lV h rv1) ∧ h.2.1 0 1 = h.2.1 196 2 ∧ h.2.2.2.2 ≤ t ∧ h.1 = hh_487.1 ∧ lT h ∧ lY h
def lIn0 (t : Nat) (h : zH) : Prop := hOK wd h ∧ (lV h rv0 ∨ lV h rv1) ∧ h.2.2.2.2 ≤ t ∧ h.1 = hh_487.1
theorem lT.fr {h h' : zH} (k : lT h) (e2 : h'.2.1 196 2 = h.2.1 196 2) (e1 : ∀ k, h'.2.1 1 k = h.2.1 1 k) (e3 : ∀ k, h'.2.1 197 k = h.2.1 197 k) : lT h' := by
  intro j hj
  rw [e1, e3]
  rw [e2] at hj
  exact k j hj
theorem rcC.frB {A : pA} {c : Nat} {h h' : zH} (hI : pI A) (e : ∀ a k, c ≤ a → a < c + 40 → h'.2.1 a k = h.2.1 a k) (K : rcC A c h) : rcC A c h' := by
  obtain ⟨q0, q4, q5, q6, q7, q8, qs, qw, qp, qx⟩ := K
  obtain ⟨b1, b2, b3, b4, b5⟩ := hI.2.2.1
  refine ⟨?_, ?_, ?_, ?_, ?_, ?_, fun i hi => ?_, fun i hi => ?_, fun i hi => ?_, fun j hj => ⟨(qx j hj).1, (e _ _ (by omega) (by have := oX_le (qx j hj).1 b2 b3 b4 b5; omega)).trans (qx j hj).2⟩⟩
  · rw [e _ _ (by omega) (by omega)]; exact q0
  · rw [e _ _ (by omega) (by omega)]; exact q4
  · rw [e _ _ (by omega) (by omega)]; exact q5
  · rw [e _ _ (by omega) (by omega)]; exact q6
  · rw [e _ _ (by omega) (by omega)]; exact q7
  · rw [e _ _ (by omega) (by omega)]; exact q8
  · rw [e _ _ (by omega) (by omega), e _ _ (by omega) (by omega)]; exact qs i hi
  · rw [e _ _ (by omega) (by omega), e _ _ (by omega) (by omega)]; exact qw i hi
  · rw [e _ _ (by omega) (by omega), e _ _ (by omega) (by omega)]; exact qp i hi
theorem lPA.fr {A : pA} {c : Nat} {h h' : zH} (k : lPA A c h) (e : ∀ a k, c ≤ a → a < c + 40 → h'.2.1 a k = h.2.1 a k) (e2 : ∀ k, h'.2.1 199 k = h.2.1 199 k) (e3 : h'.2.1 196 14 = h.2.1 196 14) (e4 : h'.2.2.2.1 0 3 = h.2.2.2.1 0 3) : lPA A c h' := by
  obtain ⟨hI, hc, hr, hC, hm⟩ := k
  refine ⟨hI, hc, e4.trans hr, rcC.frB hI e hC, ?_⟩
  rw [e3]
  exact hm.imp id (fun z => ⟨z.1, z.2.1, rmC.frB (h := shR h) (h' := shR h') hI z.2.2 (fun j _ => e2 j)⟩)
theorem cc2.rg {c : Nat} (hc : cc2 c) {a : Nat} (h1 : c ≤ a) (h2 : a < c + 40) : 2 ≤ a ∧ a < 82 := by
  have hc : c = 2 ∨ c = 42 := hc
  omega
theorem lP.fr {h h' : zH} (k : lP h) (e : ∀ a k, 2 ≤ a → a < 82 → h'.2.1 a k = h.2.1 a k) (e2 : ∀ k, h'.2.1 199 k = h.2.1 199 k) (e3 : h'.2.1 196 14 = h.2.1 196 14) (e4 : h'.2.2.2.1 0 3 = h.2.2.2.1 0 3) : lP h' := by
  obtain ⟨A, c, k, kT⟩ := k
  exact ⟨A, c, k.fr (fun a j h1 h2 => e a j (k.2.1.rg h1 h2).1 (k.2.1.rg h1 h2).2) e2 e3 e4, kT⟩
/-- a told number is the same on both sides -/
theorem lPA.num {A : pA} {c j : Nat} {h : zH} (k : lPA A c h) (e : A.1 ≠ 0) (hj : A.2.2.1 (1000 + j) ≠ []) : h.2.1 (c + oX j) (sX j) = h.2.1 199 j := by
  rcases k.2.2.2.2 with ⟨-, b⟩ | ⟨-, -, K⟩
  · exact absurd (by rw [b]; rfl) e
  · exact (k.2.2.2.1.2.2.2.2.2.2.2.2.2 j hj).2.trans (K.2.2.2.2.2.2.2.2.2.2 j hj).2.symm
theorem lY.fr {h h' : zH} (k : lY h) (e : ∀ a k, 2 ≤ a → a < 83 → h'.2.1 a k = h.2.1 a k) (e1 : ∀ k, h'.2.1 199 k = h.2.1 199 k) (e2 : h'.2.1 0 2 = h.2.1 0 2) (e3 : h'.2.1 0 15 = h.2.1 0 15) (e9 : h'.2.1 196 9 = h.2.1 196 9) (e10 : h'.2.1 196 10 = h.2.1 196 10) (e11 : h'.2.1 196 11 = h.2.1 196 11) (e14 : h'.2.1 196 14 = h.2.1 196 14) (e21 : h'.2.1 196 21 = h.2.1 196 21) (er : h'.2.2.2.1 0 3 = h.2.2.2.1 0 3) : lY h' := by
  obtain ⟨k1, k2, ⟨k3, k4⟩, k5⟩ := k
  refine ⟨k1.fr (fun a j h1 h2 => e a j h1 (by omega)) e1 e14 er, ?_, ⟨?_, ?_⟩, ?_⟩
  · rw [e 82 11 (by omega) (by omega), e9]; exact k2
  · rw [e2, e11]; exact k3
  · rw [e11, e 82 12 (by omega) (by omega), e10]; exact k4
  · rw [e3, e21]; exact k5
/-- what a call of the class leaves alone; k: trouble too, else it isn't 4; i: the images then -/
def hC0 (k : Bool) (h h' : zH) : Prop := (∀ a j, (1 ≤ a ∧ a < 86) ∨ 196 ≤ a → h'.2.1 a j = h.2.1 a j) ∧ h'.2.1 0 1 = h.2.1 0 1 ∧ (∀ a j, h'.2.2.2.1 a j = h.2.2.2.1 a j) ∧ (if k then h'.2.1 0 2 = h.2.1 0 2 else h'.2.1 0 2 ≠ 4)
def hC (k : Bool) (i : Int32) (h h' : zH) : Prop := hC0 k h h' ∧ h'.2.1 0 15 = i
def hM0 (k : Bool) (h h' : zH) : Prop := (∀ a j, a < 196 ∨ a = 197 ∨ a = 199 → h'.2.1 a j = h.2.1 a j) ∧ (h'.2.1 196 2 = h.2.1 196 2 ∧ h'.2.1 196 9 = h.2.1 196 9 ∧ h'.2.1 196 10 = h.2.1 196 10 ∧ h'.2.1 196 14 = h.2.1 196 14) ∧ (∀ a j, h'.2.2.2.1 a j = h.2.2.2.1 a j) ∧ (if k then h'.2.1 196 11 = h.2.1 196 11 else h'.2.1 196 11 ≠ 4)
def hM (k : Bool) (i : Int32) (h h' : zH) : Prop := hM0 k h h' ∧ h'.2.1 196 21 = i
/-- between the two calls -/
def lMid (k : Bool) (i : Int32) (t : Nat) (h h' : zH) : Prop := lInv t h ∧ lIn0 t h' ∧ hC k i h h'
theorem lInv.dn {t : Nat} {h : zH} (hi : lInv t h) : lIn0 t h := ⟨hi.1, hi.2.1, hi.2.2.2.1, hi.2.2.2.2.1⟩
theorem lInv.tp {t : Nat} {h : zH} (hi : lInv t h) : lT h := hi.2.2.2.2.2.1
theorem lInv.ys {t : Nat} {h : zH} (hi : lInv t h) : lY h := hi.2.2.2.2.2.2
theorem lInv.mid {t : Nat} {h : zH} (hi : lInv t h) : lMid true (h.2.1 0 15) t h h := ⟨hi, hi.dn, ⟨fun _ _ _ => rfl, rfl, fun _ _ => rfl, rfl⟩, rfl⟩
theorem lMid.pa {k : Bool} {i : Int32} {t c : Nat} {A : pA} {h h' : zH} (m : lMid k i t h h') (hA : lPA A c h) : lPA A c h' := hA.fr (fun a j h1 h2 => m.2.2.1.1 a j (.inl ⟨by have := hA.2.1.rg h1 h2; omega, by have := hA.2.1.rg h1 h2; omega⟩)) (fun j => m.2.2.1.1 199 j (.inr (by decide))) (m.2.2.1.1 196 14 (.inr (by decide))) (m.2.2.1.2.2.1 0 3)
theorem lMid.to {k : Bool} {i : Int32} {t : Nat} {h h' g : zH} (m : lMid k i t h g) (h0 : lIn0 t h') (e : hM k i g h') : lInv t h' := by
  obtain ⟨hi, -, ⟨c1, c2, c4, c5⟩, c3⟩ := m
  obtain ⟨⟨m1, ⟨m2, m9, m10, m14⟩, m4, m5⟩, m21⟩ := e
  obtain ⟨yP, yF, ⟨yW, yp⟩, yN⟩ := hi.ys
  have f1 : ∀ a j, 1 ≤ a → a < 86 → h'.2.1 a j = h.2.1 a j := fun a j h1 h2 => (m1 a j (by omega)).trans (c1 a j (.inl ⟨h1, h2⟩))
  refine ⟨h0.1, h0.2.1, ?_, h0.2.2.1, h0.2.2.2, ?_, ?_, ?_, ?_, ?_⟩
  · rw [m1 0 1 (by omega), m2, c2, c1 196 2 (by omega)]
    exact hi.2.2.1
  · exact hi.tp.fr (m2.trans (c1 196 2 (by omega))) (fun j => f1 1 j (by omega) (by omega)) (fun j => (m1 197 j (by omega)).trans (c1 197 j (by omega)))
  · exact yP.fr (fun a j h1 h2 => f1 a j (by omega) (by omega)) (fun j => (m1 199 j (by omega)).trans (c1 199 j (by omega))) (m14.trans (c1 196 14 (by omega))) ((m4 0 3).trans (c4 0 3))
  · rw [f1 82 11 (by omega) (by omega), m9, c1 196 9 (by omega)]
    exact yF
  · cases k with
    | true =>
      have c5 : g.2.1 0 2 = h.2.1 0 2 := c5
      have m5 : h'.2.1 196 11 = g.2.1 196 11 := m5
      constructor
      · rw [m1 0 2 (by omega), c5, m5, c1 196 11 (by omega)]
        exact yW
      · rw [m5, c1 196 11 (by omega), f1 82 12 (by omega) (by omega), m10, c1 196 10 (by omega)]
        exact yp
    | false =>
      have c5 : g.2.1 0 2 ≠ 4 := c5
      have m5 : h'.2.1 196 11 ≠ 4 := m5
      constructor
      · rw [m1 0 2 (by omega)]
        exact ⟨fun z => absurd z c5, fun z => absurd z m5⟩
      · exact fun z => absurd z m5
  · rw [m1 0 15 (by omega), m21, c3]
def lLoc (ls : zL) (i : Nat) : Prop := zget ls 0 = some (.inr (.inr (some 1000000))) ∧ zget ls 1 = some (.inr (.inr (some 0))) ∧ zget ls 2 = some (.inr (.inr (some 196))) ∧ zget ls 3 = some (.inr (.inr (some 213))) ∧ zget ls 4 = some (.inl (nI i))
def zQL (v : Option zV) (h' : zH) : Prop := v = some (.inl 1) ∧ h'.1.1 ≤ 1000 ∧ h'.1.2.2 ≤ 100000 ∧ h'.2.2.2.2 ≤ 1000
def pCk (a : Nat) : Bool := Nat.beq a 0 || (Nat.ble 86 a && Nat.ble a 195)
def pMk (a : Nat) : Bool := Nat.ble 196 a && (!(Nat.beq a 197) && !(Nat.beq a 199))
theorem ble_f {a b : Nat} (h : b < a) : Nat.ble a b = false := by
  cases e : Nat.ble a b with
  | false => rfl
  | true => have := Nat.le_of_ble_eq_true e; omega
theorem beq_f {a b : Nat} (h : a ≠ b) : Nat.beq a b = false := by
  cases e : Nat.beq a b with
  | false => rfl
  | true => exact absurd (Nat.eq_of_beq_eq_true e) h
theorem pCk_f {a : Nat} (h : (1 ≤ a ∧ a < 86) ∨ 196 ≤ a) : pCk a = false := by
  unfold pCk
  rw [beq_f (by omega)]
  rcases h with h | h
  · rw [ble_f (show a < 86 by omega)]; rfl
  · rw [ble_f (a := a) (b := 195) (by omega), Bool.and_false]; rfl
theorem pMk_f {a : Nat} (h : a < 196 ∨ a = 197 ∨ a = 199) : pMk a = false := by
  unfold pMk
  rcases h with h | h | h
  · rw [ble_f (show a < 196 by omega)]; rfl
  · subst h; rfl
  · subst h; rfl
/-- every end tells of the slot that it isn't 4 -/
def en4 (c : aCt) (a k : Nat) : Bool := c.2.2.2.1.all (fun p => p.2.2.1.any (fun q => decide (q.1 = (a, k)) && q.2.all (fun r => ile r.2.1 3 || ile 5 r.1)))
theorem en4_in {c : aCt} {a k : Nat} {p : aPo} {h' : zH} (hk : en4 c a k = true) (hp : p ∈ c.2.2.2.1) (hs : ∀ q ∈ p.2.2.1, aIn (h'.2.1 q.1.1 q.1.2).toInt q.2) : h'.2.1 a k ≠ 4 := by
  intro z
  obtain ⟨q, hq, e⟩ := List.any_eq_true.mp (List.all_eq_true.mp hk p hp)
  rw [Bool.and_eq_true] at e
  have e1 := of_decide_eq_true e.1
  obtain ⟨r, hr, a1, a2, -⟩ := hs q hq
  have := List.all_eq_true.mp e.2 r hr
  rw [Bool.or_eq_true, ile_iff, ile_iff] at this
  rw [e1] at a1 a2
  dsimp only at a1 a2
  rw [z, show (4 : Int32).toInt = 4 by decide] at a1 a2
  omega
def lkC0 (k : Bool) (c : aCt) : Bool := c.2.2.2.2.1.all (fun q => pCk q.1) && (!(inM c.2.2.2.2.1 0 1) && (c.2.2.2.2.2.1.isEmpty && (if k then !(inM c.2.2.2.2.1 0 2) else en4 c 0 2)))
def lkC (k : Bool) (c : aCt) : Bool := lkC0 k c && !(inM c.2.2.2.2.1 0 15)
def lkM0 (k : Bool) (c : aCt) : Bool := c.2.2.2.2.1.all (fun q => pMk q.1) && (!(inM c.2.2.2.2.1 196 2) && (!(inM c.2.2.2.2.1 196 9) && (!(inM c.2.2.2.2.1 196 10) && (!(inM c.2.2.2.2.1 196 14) && (c.2.2.2.2.2.1.isEmpty && (if k then !(inM c.2.2.2.2.1 196 11) else en4 c 196 11))))))
def lkM (k : Bool) (c : aCt) : Bool := lkM0 k c && !(inM c.2.2.2.2.1 196 21)
def lkI (c : aCt) : Bool := c.2.2.2.1.all (fun p => match p.1 with | some (.inl _) => true | _ => false)
def lkL (c : aCt) : Bool := c.2.2.2.1.all (fun p => match p.1 with | some (.inr _) => true | _ => false)
def lkP (c : aCt) (rv : aU) : Bool := c.2.2.1.1.isEmpty && c.2.2.1.2.all (fun q => rv.any (fun r => decide (r = q)))
def lkD (c : aCt) : Bool := Nat.ble c.2.2.2.2.2.2 1004
section HLW
variable {t i L : Nat} {h h' g : zH} {xs : Nat → Int32} {ls : zL} {vs : List zV} {c c0 c1 : aCt} {k : Bool} {im : Int32}
theorem lInv.sh (hi : lInv t h) {a : Nat} {q : Option (Nat × Nat)} (e : zsh hh_487 a = q) : zsh h a = q := by
  unfold zsh
  rw [hi.2.2.2.2.1]
  exact e
theorem lIn0.sh (hi : lIn0 t h) {a : Nat} {q : Option (Nat × Nat)} (e : zsh hh_487 a = q) : zsh h a = q := by
  unfold zsh
  rw [hi.2.2.2]
  exact e
theorem lMid.sh (m : lMid k im t h h') {a : Nat} {q : Option (Nat × Nat)} (e : zsh hh_487 a = q) : zsh h' a = q := m.2.1.sh e
theorem lIn0.kp (hi : lIn0 t h) (ho : hOK wd h') (e1 : h'.1 = h.1) (e2 : h'.2.2.2.2 = h.2.2.2.2) (er : ∀ a k, h'.2.2.2.1 a k = h.2.2.2.1 a k) : lIn0 t h' := ⟨ho, hi.2.1.imp (fun z q hq => (er _ _).trans (z q hq)) (fun z q hq => (er _ _).trans (z q hq)), by rw [e2]; exact hi.2.2.1, e1.trans hi.2.2.2⟩
theorem lkC0_in {p : aPo} (hk : lkC0 k c = true) (hf : hFr c.2.2.2.2.1 c.2.2.2.2.2.1 h h') (hp : p ∈ c.2.2.2.1) (hs : ∀ q ∈ p.2.2.1, aIn (h'.2.1 q.1.1 q.1.2).toInt q.2) : hC0 k h h' := by
  unfold lkC0 at hk
  rw [Bool.and_eq_true, Bool.and_eq_true, Bool.and_eq_true, Bool.not_eq_true', List.isEmpty_iff] at hk
  obtain ⟨k1, k2, k4, k5⟩ := hk
  refine ⟨fun a j ha => hf.2.2.1 a j (inM_by pCk k1 (pCk_f ha)), hf.2.2.1 0 1 k2, fun a j => hf.2.2.2.1 a j (by rw [k4]; rfl), ?_⟩
  cases k with
  | true =>
    have k5 : (!(inM c.2.2.2.2.1 0 2)) = true := k5
    rw [Bool.not_eq_true'] at k5
    exact hf.2.2.1 0 2 k5
  | false => exact en4_in (k := 2) k5 hp hs
theorem lkC_in {p : aPo} (hk : lkC k c = true) (hf : hFr c.2.2.2.2.1 c.2.2.2.2.2.1 h h') (hp : p ∈ c.2.2.2.1) (hs : ∀ q ∈ p.2.2.1, aIn (h'.2.1 q.1.1 q.1.2).toInt q.2) : hC k (h.2.1 0 15) h h' := by
  unfold lkC at hk
  rw [Bool.and_eq_true, Bool.not_eq_true'] at hk
  exact ⟨lkC0_in hk.1 hf hp hs, hf.2.2.1 0 15 hk.2⟩
theorem lkM0_in {p : aPo} (hk : lkM0 k c = true) (hf : hFr c.2.2.2.2.1 c.2.2.2.2.2.1 h h') (hp : p ∈ c.2.2.2.1) (hs : ∀ q ∈ p.2.2.1, aIn (h'.2.1 q.1.1 q.1.2).toInt q.2) : hM0 k h h' := by
  unfold lkM0 at hk
  rw [Bool.and_eq_true, Bool.and_eq_true, Bool.and_eq_true, Bool.and_eq_true, Bool.and_eq_true, Bool.and_eq_true, Bool.not_eq_true', Bool.not_eq_true', Bool.not_eq_true', Bool.not_eq_true', List.isEmpty_iff] at hk
  obtain ⟨k1, k2, k3, k4, k5, k7, k8⟩ := hk
  refine ⟨fun a j ha => hf.2.2.1 a j (inM_by pMk k1 (pMk_f ha)), ⟨hf.2.2.1 196 2 k2, hf.2.2.1 196 9 k3, hf.2.2.1 196 10 k4, hf.2.2.1 196 14 k5⟩, fun a j => hf.2.2.2.1 a j (by rw [k7]; rfl), ?_⟩
  cases k with
  | true =>
    have k8 : (!(inM c.2.2.2.2.1 196 11)) = true := k8
    rw [Bool.not_eq_true'] at k8
    exact hf.2.2.1 196 11 k8
  | false => exact en4_in (k := 11) k8 hp hs
theorem lkM_in {p : aPo} (hk : lkM k c = true) (hf : hFr c.2.2.2.2.1 c.2.2.2.2.2.1 h h') (hp : p ∈ c.2.2.2.1) (hs : ∀ q ∈ p.2.2.1, aIn (h'.2.1 q.1.1 q.1.2).toInt q.2) : hM k (h.2.1 196 21) h h' := by
  unfold lkM at hk
  rw [Bool.and_eq_true, Bool.not_eq_true'] at hk
  exact ⟨lkM0_in hk.1 hf hp hs, hf.2.2.1 196 21 hk.2⟩
theorem l_goC (hS : aSpec wd c) (hk : (lkC k c && lkD c) = true) (ha : aArgs vs c.2.1) (hi : lInv t h) (hp : aPre h c.2.2.1) : zCt 1004 c.1 vs h (fun v h' => lMid k (h.2.1 0 15) t h h' ∧ ∃ p ∈ c.2.2.2.1, aRet v p.1) := by
  rw [Bool.and_eq_true] at hk
  refine zEx.mono (hS 1004 (Nat.le_of_ble_eq_true hk.2) vs h ha hi.1 hp) (fun v h' hq => ?_)
  obtain ⟨ho, hf, p, hp, hr, -, hs, -⟩ := hq
  have e := lkC_in hk.1 hf hp hs
  exact ⟨⟨hi, hi.dn.kp ho hf.1 hf.2.1 e.1.2.2.1, e⟩, p, hp, hr⟩
theorem l_goM (hS : aSpec wd c) (hk : (lkM k c && lkD c) = true) (ha : aArgs vs c.2.1) (m : lMid k (g.2.1 0 15) t g h) (hp : aPre h c.2.2.1) : zCt 1004 c.1 vs h (fun v h' => lInv t h' ∧ ∃ p ∈ c.2.2.2.1, aRet v p.1) := by
  rw [Bool.and_eq_true] at hk
  refine zEx.mono (hS 1004 (Nat.le_of_ble_eq_true hk.2) vs h ha m.2.1.1 hp) (fun v h' hq => ?_)
  obtain ⟨ho, hf, p, hp, hr, -, hs, -⟩ := hq
  have e := lkM_in hk.1 hf hp hs
  have ei : h.2.1 196 21 = g.2.1 0 15 := (m.2.2.1.1 196 21 (.inr (by decide))).trans m.1.ys.2.2.2.symm
  rw [ei] at e
  exact ⟨m.to (m.2.1.kp ho hf.1 hf.2.1 e.1.2.2.1) e, p, hp, hr⟩
theorem lkI_in {v : Option zV} (hk : lkI c = true) (h : ∃ p ∈ c.2.2.2.1, aRet v p.1) : ∃ x : Int32, v = some (.inl x) := by
  obtain ⟨p, hp, hr⟩ := h
  have hb := List.all_eq_true.mp hk p hp
  obtain ⟨p1, p2⟩ := p
  match p1, hb, hr with
  | some (.inl A), _, ⟨y, e, _⟩ => exact ⟨y, e⟩
theorem lkL_in {v : Option zV} (hk : lkL c = true) (h : ∃ p ∈ c.2.2.2.1, aRet v p.1) : ∃ x : Int64, v = some (.inr (.inl x)) := by
  obtain ⟨p, hp, hr⟩ := h
  have hb := List.all_eq_true.mp hk p hp
  obtain ⟨p1, p2⟩ := p
  match p1, hb, hr with
  | some (.inr _), _, ⟨y, e⟩ => exact ⟨y, e⟩
theorem lkP_in {rv : aU} (hk : lkP c rv = true) (hv : lV h rv) : aPre h c.2.2.1 := by
  unfold lkP at hk
  simp only [Bool.and_eq_true, List.isEmpty_iff] at hk
  refine ⟨fun q hq => ?_, fun q hq => ?_⟩
  · rw [hk.1] at hq
    cases hq
  · obtain ⟨r, hr, er⟩ := List.any_eq_true.mp (List.all_eq_true.mp hk.2 q hq)
    have er := of_decide_eq_true er
    subst er
    exact hv r hr
def lkX (f : aCt → Bool) (c : aCt) (rv : aU) : Bool := (f c && lkD c) && lkP c rv
theorem l_modM (hS : aSpec wd c) (hk : (lkX (lkM k) c [] && lkI c) = true) (ha : aArgs vs c.2.1) (m : lMid k (g.2.1 0 15) t g h) : zCi 1004 c.1 vs h (fun _ h' => lInv t h') := by
  unfold lkX at hk
  rw [Bool.and_eq_true, Bool.and_eq_true] at hk
  refine zEx.mono (l_goM hS hk.1.1 ha m (lkP_in hk.1.2 (fun q hq => nomatch hq))) (fun v h' hq => ?_)
  obtain ⟨x, e⟩ := lkI_in hk.2 hq.2
  exact ⟨x, e, hq.1⟩
theorem l_modML (hS : aSpec wd c) (hk : (lkX (lkM k) c [] && lkL c) = true) (ha : aArgs vs c.2.1) (m : lMid k (g.2.1 0 15) t g h) : zCl 1004 c.1 vs h (fun _ h' => lInv t h') := by
  unfold lkX at hk
  rw [Bool.and_eq_true, Bool.and_eq_true] at hk
  refine zEx.mono (l_goM hS hk.1.1 ha m (lkP_in hk.1.2 (fun q hq => nomatch hq))) (fun v h' hq => ?_)
  obtain ⟨x, e⟩ := lkL_in hk.2 hq.2
  exact ⟨x, e, hq.1⟩
theorem l_clsG {m : zM} (hS0 : aSpec wd c0) (hS1 : aSpec wd c1) (hk : (lkX (lkC k) c0 rv0 && lkX (lkC k) c1 rv1) = true) (hm : c0.1 = m) (hm1 : c1.1 = m) (ha : aArgs vs c0.2.1) (ha1 : c1.2.1 = c0.2.1) (hi : lInv t h) : zCt 1004 m vs h (fun v h' => lMid k (h.2.1 0 15) t h h' ∧ ((∃ p ∈ c0.2.2.2.1, aRet v p.1) ∨ ∃ p ∈ c1.2.2.2.1, aRet v p.1)) := by
  unfold lkX at hk
  simp only [Bool.and_eq_true] at hk
  rcases hi.2.1 with hv | hv
  · subst hm
    exact zEx.mono (l_goC hS0 (by simp only [Bool.and_eq_true]; exact hk.1.1) ha hi (lkP_in hk.1.2 hv)) (fun v h' hq => ⟨hq.1, .inl hq.2⟩)
  · subst hm1
    exact zEx.mono (l_goC hS1 (by simp only [Bool.and_eq_true]; exact hk.2.1) (by rw [ha1]; exact ha) hi (lkP_in hk.2.2 hv)) (fun v h' hq => ⟨hq.1, .inr hq.2⟩)
theorem l_cls {m : zM} (hS0 : aSpec wd c0) (hS1 : aSpec wd c1) (hk : (lkX (lkC k) c0 rv0 && lkX (lkC k) c1 rv1) = true) (hv : (lkI c0 && lkI c1) = true) (hm : c0.1 = m) (hm1 : c1.1 = m) (ha : aArgs vs c0.2.1) (ha1 : c1.2.1 = c0.2.1) (hi : lInv t h) : zCi 1004 m vs h (fun _ h' => lMid k (h.2.1 0 15) t h h') := by
  rw [Bool.and_eq_true] at hv
  refine zEx.mono (l_clsG hS0 hS1 hk hm hm1 ha ha1 hi) (fun v h' hq => ?_)
  obtain ⟨x, e⟩ := hq.2.elim (lkI_in hv.1) (lkI_in hv.2)
  exact ⟨x, e, hq.1⟩
theorem l_clsL {m : zM} (hS0 : aSpec wd c0) (hS1 : aSpec wd c1) (hk : (lkX (lkC k) c0 rv0 && lkX (lkC k) c1 rv1) = true) (hv : (lkL c0 && lkL c1) = true) (hm : c0.1 = m) (hm1 : c1.1 = m) (ha : aArgs vs c0.2.1) (ha1 : c1.2.1 = c0.2.1) (hi : lInv t h) : zCl 1004 m vs h (fun _ h' => lMid k (h.2.1 0 15) t h h') := by
  rw [Bool.and_eq_true] at hv
  refine zEx.mono (l_clsG hS0 hS1 hk hm hm1 ha ha1 hi) (fun v h' hq => ?_)
  obtain ⟨x, e⟩ := hq.2.elim (lkL_in hv.1) (lkL_in hv.2)
  exact ⟨x, e, hq.1⟩
theorem l_sz (hi : lInv t h) : ∃ s : Nat, s ≤ 1000 ∧ h.2.1 0 1 = nI s ∧ h.2.1 196 2 = nI s := by
  obtain ⟨s, hs, e⟩ := nI_rg (n := 1000) (aLe_in (A := gSeg (wd.2.1 0) 1) (by decide +kernel) (hi.1.2.1 0 1)) (by decide)
  exact ⟨s, hs, e, by rw [← hi.2.2.1]; exact e⟩
theorem sin (hL : L ≤ 3072) {k : Nat} (hk : i + k < L) : zin (nI (i + k)) L = true := zn_in hk (by omega)
theorem sxs (hL : L ≤ 3072) {k : Nat} (hk : i + k < L) : xs (nI (i + k)).toNatClampNeg = xs (i + k) := by rw [nI_clamp (by omega)]
theorem lInv.up (hi : lInv t h) : lInv (t + 1) h := ⟨hi.1, hi.2.1, hi.2.2.1, Nat.le_succ_of_le hi.2.2.2.1, hi.2.2.2.2⟩
theorem lLoc.st {k : Nat} {v : Int32} (hl : lLoc ls i) (hk : 4 < k) : lLoc (zset1 ls k (.inl v)) i :=
  ⟨zget_s1 hl.1 (by omega) (by simp [zcat]), zget_s1 hl.2.1 (by omega) (by simp [zcat]), zget_s1 hl.2.2.1 (by omega) (by simp [zcat]), zget_s1 hl.2.2.2.1 (by omega) (by simp [zcat]), zget_s1 hl.2.2.2.2 (by omega) (by simp [zcat])⟩
theorem l_decade {x1 x2 : Int32} (m : lMid false (g.2.1 0 15) t g h) : zCi 1004 mX12_decade [.inr (.inr (some 196)), .inl x1, .inl x2] h (fun _ h' => lInv t h') := by
  have key : ∀ c : aCt, aSpec wd c → (lkM false c && lkD c && lkI c) = true → c.1 = mX12_decade → c.2.1 = [.inr (.inl [196]), .inl aTop, .inl aTop] → aPre h c.2.2.1 → zCi 1004 mX12_decade [.inr (.inr (some 196)), .inl x1, .inl x2] h (fun _ h' => lInv t h') := by
    intro c hS hk hm ha hp
    rw [Bool.and_eq_true] at hk
    rw [← hm]
    refine zEx.mono (l_goM hS hk.1 (by rw [ha]; exact ⟨⟨196, List.mem_cons_self, rfl⟩, ⟨_, rfl, aIn_top _⟩, ⟨_, rfl, aIn_top _⟩, trivial⟩) m hp) (fun v h' hq => ?_)
    obtain ⟨x, e⟩ := lkI_in hk.2 hq.2
    exact ⟨x, e, hq.1⟩
  have pre1 : ∀ (a k : Nat) (n : Int), aIn (h.2.1 a k).toInt [(n, n, 1)] → aPre h ([((a, k), [(n, n, 1)])], []) := by
    intro a k n hn
    refine ⟨fun q hq => ?_, fun q hq => nomatch hq⟩
    have e : q = ((a, k), [(n, n, 1)]) := by simpa using hq
    subst e
    exact hn
  have hp : aIn (h.2.1 196 14).toInt [(0, ((1 : Nat) : Int), 1)] := aLe_in (A := gSeg (wd.2.1 196) 14) (by decide +kernel) (m.2.1.1.2.1 196 14)
  obtain ⟨s, hs, e⟩ := nI_rg hp (by decide)
  have hs : s = 0 ∨ s = 1 := by omega
  rcases hs with rfl | rfl
  · exact key ct_1517 S_1517 (by decide +kernel) rfl rfl (pre1 196 14 0 (by rw [e]; exact aR1_in (lo := 0) (hi := 0) (by decide) (by decide)))
  · have hm := m.2.1.1.2.2.2.1 ([((196, 14), [(1, 1, 1)])], ((199, 4), [(1, 7, 1)])) (by decide +kernel) (fun q hq => by
      have eq : q = ((196, 14), [(1, 1, 1)]) := by simpa using (show q ∈ [(((196, 14), [(1, 1, 1)]) : (Nat × Nat) × aI)] from hq)
      subst eq
      rw [e]
      exact aR1_in (lo := 1) (hi := 1) (by decide) (by decide))
    obtain ⟨q, hq, a, b, -⟩ := hm
    have eq : q = (1, 7, 1) := by simpa using hq
    subst eq
    have a : 1 ≤ (h.2.1 199 4).toInt := a
    have b : (h.2.1 199 4).toInt ≤ 7 := b
    have hc : (h.2.1 199 4).toInt = 1 ∨ (h.2.1 199 4).toInt = 2 ∨ (h.2.1 199 4).toInt = 3 ∨ (h.2.1 199 4).toInt = 4 ∨ (h.2.1 199 4).toInt = 5 ∨ (h.2.1 199 4).toInt = 6 ∨ (h.2.1 199 4).toInt = 7 := by omega
    rcases hc with z | z | z | z | z | z | z
    · exact key ct_1543 S_1543 (by decide +kernel) rfl rfl (pre1 199 4 1 (by rw [z]; exact aR1_in (lo := 1) (hi := 1) (by decide) (by decide)))
    · exact key ct_1576 S_1576 (by decide +kernel) rfl rfl (pre1 199 4 2 (by rw [z]; exact aR1_in (lo := 2) (hi := 2) (by decide) (by decide)))
    · exact key ct_1617 S_1617 (by decide +kernel) rfl rfl (pre1 199 4 3 (by rw [z]; exact aR1_in (lo := 3) (hi := 3) (by decide) (by decide)))
    · exact key ct_1666 S_1666 (by decide +kernel) rfl rfl (pre1 199 4 4 (by rw [z]; exact aR1_in (lo := 4) (hi := 4) (by decide) (by decide)))
    · exact key ct_1723 S_1723 (by decide +kernel) rfl rfl (pre1 199 4 5 (by rw [z]; exact aR1_in (lo := 5) (hi := 5) (by decide) (by decide)))
    · exact key ct_1788 S_1788 (by decide +kernel) rfl rfl (pre1 199 4 6 (by rw [z]; exact aR1_in (lo := 6) (hi := 6) (by decide) (by decide)))
    · exact key ct_1861 S_1861 (by decide +kernel) rfl rfl (pre1 199 4 7 (by rw [z]; exact aR1_in (lo := 7) (hi := 7) (by decide) (by decide)))
end HLW
