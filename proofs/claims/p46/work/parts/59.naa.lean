theorem ags_c {vs : List zV} {p : aAg} {ps : List aAg} (h : aArgs vs (p :: ps)) : ∃ v t, vs = v :: t ∧ aAgR v p ∧ aArgs t ps := by
  cases vs with
  | nil => exact False.elim h
  | cons v t => exact ⟨v, t, rfl, h.1, h.2⟩
theorem ags_n {vs : List zV} (h : aArgs vs []) : vs = [] := by
  cases vs with
  | nil => rfl
  | cons v t => exact False.elim h
theorem zn_ge {a b : Nat} (h : b ≤ a) (ha : a < 2 ^ 31) : zcond .ge (nI a) (nI b) = true := decide_eq_true (nI_le h ha)
theorem zn_nge {a b : Nat} (h : a < b) (hb : b < 2 ^ 31) : zcond .ge (nI a) (nI b) = false := decide_eq_false (nI_ge h hb)
theorem zn_in {k n : Nat} (h : k < n) (hn : n < 2 ^ 31) : zin (nI k) n = true := decide_eq_true (vp_in_nI h hn)
theorem nI_at {x : Int32} {k : Nat} (h : x.toInt = (k : Int)) : x = nI k := by
  have := i32_rg x
  exact Int32.toInt_inj.mp (by rw [h, nI_toInt (by omega)])
theorem zH_ext {h h' : zH} (e1 : h.1 = h'.1) (e2 : ∀ x j, h.2.1 x j = h'.2.1 x j) (e3 : h.2.2 = h'.2.2) : h = h' := by
  obtain ⟨a, b, c⟩ := h
  obtain ⟨a', b', c'⟩ := h'
  have e4 : b = b' := by funext x j; exact e2 x j
  dsimp only at e1 e3
  rw [e1, e4, e3]
def aNoC (w : aWd) (g : Nat) : Bool := w.2.2.2.all (fun i => !(Nat.beq i.2.1.1 g) && i.1.all (fun c => !(Nat.beq c.1.1 g)))
def aNoS (w : aWd) (g k : Nat) : Bool := w.2.2.2.all (fun i => !(Nat.beq i.2.1.1 g && Nat.beq i.2.1.2 k) && i.1.all (fun c => !(Nat.beq c.1.1 g && Nat.beq c.1.2 k)))
