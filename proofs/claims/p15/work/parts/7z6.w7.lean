/-! what the calls rest on, out of the law's invariant -/
section BGO
variable {t c w b k j : Nat} {h g : zH} {A : pA} {s : nS}
theorem nOK.len (hI : pI A) (hB : tB A) (hT : tA A) (hN : nOK A s) : lenO A s := fun b hb => by
  obtain ⟨-, e, -⟩ := hN.2.2 b hb
  obtain ⟨-, q2, -⟩ := num_box hI hB hT hb
  rw [e]
  exact (okN_of hI q2).2.1
theorem nS0_ok (hI : pI A) (hB : tB A) (hT : tA A) : nOK A (nS0 A) := ⟨Nat.zero_le _, fun w hw => ⟨(num_whale hI hB hT hw).2.1, Nat.zero_le _⟩, fun b hb => ⟨(okN_of hI (num_box hI hB hT hb).2.1).1, rfl, fun p e => nomatch e⟩⟩
theorem pI.nz (hI : pI A) (z : cI A ≠ 0) : A.1 ≠ 0 := fun e => z (hI.2.1 e).1
theorem head_at (hI : pI A) (hB : tB A) (hT : tA A) (z : cI A ≠ 0) : (vA A 1 = nI (nu A 1) ∧ nu A 1 ≤ 3) ∧ (vA A 2 = nI (nu A 2) ∧ nu A 2 ≤ 50) ∧ vA A 3 = nI (nu A 3) ∧ nu A 3 ≤ 100 := by
  have t := hT.1 (hI.nz z)
  obtain ⟨a1, -, a3, -⟩ := nu_at hB (t 1 (by decide) (by decide))
  obtain ⟨c1, -, c3, -⟩ := nu_at hB (t 2 (by decide) (by decide))
  obtain ⟨e1, -, e3, -⟩ := nu_at hB (t 3 (by decide) (by decide))
  have a3 : (nu A 1 : Int) ≤ 3 := a3
  have c3 : (nu A 2 : Int) ≤ 50 := c3
  have e3 : (nu A 3 : Int) ≤ 100 := e3
  exact ⟨⟨a1, by omega⟩, ⟨c1, by omega⟩, e1, by omega⟩
theorem bgC_of (ho : hOK wd h) (h1 : h.1 = hh_487.1) (hA : lPA A c h) (hT : tA A) (hB : tB A) (hN : nOK A s) (n : nC A s 86 h) (r92 : h.2.2.2.1 92 0 = some c) (r94 : h.2.2.2.1 94 0 = some c) (z : cI A ≠ 0) : bgC A c s h := by
  have hI := hA.1
  have K := hA.2.2.2.1
  obtain ⟨b1, b2, b3, b4, b5⟩ := hI.2.2.1
  have hc := hA.2.1
  have r := ho.2.2.1
  obtain ⟨c9, c12, c13, cw, cb⟩ := cRf_of ho hc
  have c10 : h.2.2.2.1 c 10 = some (c + 2) ∧ h.2.2.2.1 c 11 = some (c + 3) ∧ ∀ k, k < 12 → h.2.2.2.1 (c + 3) k = some (c + 7 + k) := by
    have kk : ∀ k, k < 12 → wd.2.2.1 (2 + 3) k = some (2 + 7 + k) ∧ wd.2.2.1 (42 + 3) k = some (42 + 7 + k) := by decide +kernel
    have hc : c = 2 ∨ c = 42 := hc
    rcases hc with e | e <;> subst e
    · exact ⟨r _ _ _ (by decide +kernel), r _ _ _ (by decide +kernel), fun k hk => r _ _ _ (kk k hk).1⟩
    · exact ⟨r _ _ _ (by decide +kernel), r _ _ _ (by decide +kernel), fun k hk => r _ _ _ (kk k hk).2⟩
  obtain ⟨⟨a1, d1⟩, ⟨a2, d2⟩, -⟩ := head_at hI hB hT z
  have t := hT.1 (hI.nz z)
  have v1 : h.2.1 c 1 = vA A 1 := K.num (t 1 (by decide) (by decide))
  have v2 : h.2.1 c 2 = vA A 2 := K.num (t 2 (by decide) (by decide))
  obtain ⟨q0, q4, q5, q6, q7, q8, qs, qw, -, -⟩ := K
  have K := hA.2.2.2.1
  obtain ⟨-, -, -, n2, n4, e0⟩ := okN_of (i := 0) hI (by omega)
  refine ⟨⟨hI, hT, hB, hN⟩, ⟨h1, hc, b2, ⟨r94, r 94 1 86 (by decide +kernel), r 94 3 95 (by decide +kernel), c10.2.1, c10.2.2⟩, q5, fun k hk => ?_⟩, ⟨h1, hc, ⟨r92, c9, c10.1⟩, ⟨q0.trans e0, v1.trans a1, v2.trans a2, q4⟩, ⟨n2, n4, d2, d1, b1⟩, fun i hi => ⟨(qs i hi).1, (qs i hi).2, (okN_of hI hi).1, (okN_of hI hi).2.1⟩⟩, n, ⟨r 94 2 92 (by decide +kernel), r 86 2 87 (by decide +kernel), r 86 3 88 (by decide +kernel), r 86 4 89 (by decide +kernel), r 86 6 91 (by decide +kernel), c12, c13, cw, cb⟩, fun w hw => ⟨K.wh (j := 0) hT hI hw (by decide), ?_⟩, fun b hb => ⟨?_, K.boto hT hB hI hb, (K.bo (j := 2) hT hI hb (by decide)).trans (congrArg (vA A) (by omega)), ?_⟩⟩
  · obtain ⟨w2, w3⟩ := K.wy hT hI hk
    obtain ⟨x1, x2⟩ := hB.2.1 k hk
    obtain ⟨-, y2, -⟩ := num_way hI hB hT hk
    refine ⟨(qw k hk).1, (qw k hk).2, ?_, ?_, by unfold wa; omega, by unfold wb; omega, ?_⟩
    · unfold dyA
      rw [if_pos hk, w2]
      exact (nu_at hB (hT.2.1 k hk).1).1
    · unfold opA
      rw [if_pos hk]
      exact w3
    · unfold dyA
      rw [if_pos hk]
      exact y2
  · rw [K.wh hT hI hw (by decide), (num_whale hI hB hT hw).2.2.2.2 2 (by decide), show 107 + 4 * w + 2 = 109 + 4 * w by omega]
  · rw [K.bo hT hI hb (by decide), (num_box hI hB hT hb).2.2.2.2 0 (by decide)]
    rfl
  · rw [K.bo hT hI hb (by decide), (num_box hI hB hT hb).2.2.2.2 3 (by decide), show 127 + 4 * b + 3 = 130 + 4 * b by omega]
theorem bgM_of (ho : hOK wd h) (h1 : h.1 = hh_487.1) (hA : lPA A c h) (hT : tA A) (hB : tB A) (hN : nOK A s) (n : nMo A s 201 0 h) (z : cI A ≠ 0) : bgM A s h := by
  have hI := hA.1
  obtain ⟨b1, b2, b3, b4, b5⟩ := hI.2.2.1
  have r := ho.2.2.1
  obtain ⟨⟨a1, d1⟩, ⟨a2, d2⟩, -⟩ := head_at hI hB hT z
  have t := hT.1 (hI.nz z)
  have K : rmC A (shR h) := by
    rcases hA.2.2.2.2 with ⟨-, e⟩ | ⟨-, -, K⟩
    · exact absurd (by rw [e]; rfl) z
    · exact K
  obtain ⟨m9, m0, m4, m5, m6, m7, m8, ms, mw, mp, mX'⟩ := K
  have m0 : h.2.1 199 0 = A.1 := m0 (hI.nz z)
  have m4 : h.2.1 199 4 = nI (cI A) := m4
  have m5 : h.2.1 199 5 = nI (cW A) := m5
  have nm : ∀ j, A.2.2.1 (1000 + j) ≠ [] → h.2.1 199 j = vA A j := fun j e => (mX' j e).2
  have ms : ∀ i, i < cI A → h.2.1 199 (10 + 7 * i) = nI (A.2.2.1 i).length ∧ ∀ k, k < (A.2.2.1 i).length → h.2.1 199 (10 + 7 * i + 1 + k) = (A.2.2.1 i).getD k 0 - 97 := ms
  have mw : ∀ k, k < cW A → h.2.1 199 (59 + 4 * k) = nI (A.2.2.2.1 k).1 ∧ h.2.1 199 (59 + 4 * k + 1) = nI (A.2.2.2.1 k).2 := mw
  obtain ⟨-, -, -, n2, n4, e0⟩ := okN_of (i := 0) hI (by omega)
  refine ⟨⟨hI, hT, hB, hN⟩, ⟨h1, b1, b2, ⟨r 196 15 199 (by decide +kernel), r 196 17 201 (by decide +kernel), r 196 24 205 (by decide +kernel), r 196 25 206 (by decide +kernel)⟩, ⟨m4, m5, n.2.1⟩, fun k hk => ?_⟩, ⟨h1, ⟨r 196 15 199 (by decide +kernel), r 196 17 201 (by decide +kernel)⟩, ⟨m0.trans e0, (nm 1 (t 1 (by decide) (by decide))).trans a1, (nm 2 (t 2 (by decide) (by decide))).trans a2, m4⟩, ⟨n2, n4, d2, d1, b1⟩, fun i hi => ⟨(ms i hi).1, (ms i hi).2, (okN_of hI hi).1, (okN_of hI hi).2.1⟩⟩, n, fun w hw j hj => nm _ (hT.2.2.1 w hw j hj), fun b hb j hj => nm _ (hT.2.2.2.1 b hb j hj)⟩
  obtain ⟨x1, x2⟩ := hB.2.1 k hk
  obtain ⟨-, y2, -⟩ := num_way hI hB hT hk
  refine ⟨(mw k hk).1, (mw k hk).2, ?_, ?_, by unfold wa; omega, by unfold wb; omega, ?_⟩
  · unfold dyA
    rw [if_pos hk, show 59 + 4 * k + 2 = 61 + 4 * k by omega, nm _ (hT.2.1 k hk).1]
    exact (nu_at hB (hT.2.1 k hk).1).1
  · unfold opA
    rw [if_pos hk, show 59 + 4 * k + 3 = 62 + 4 * k by omega]
    exact nm _ (hT.2.1 k hk).2
  · unfold dyA
    rw [if_pos hk]
    exact y2
end BGO
/-! the law's loop: the states of class and reference beside each other -/
def lZ (A : pA) (c : Nat) (s : nS) (H J : List nS) (h : zH) : Prop := (lPA A c h ∧ tA A ∧ tB A) ∧ (nOK A s ∧ (∀ t ∈ H, nOK A t) ∧ ∀ t ∈ J, nOK A t) ∧ lNC A s H J h ∧ lNM A s H J h
/-- what else is known: ways apart; without a post nothing was done -/
def lX (A : pA) (c : Nat) (s : nS) (H J : List nS) (h : zH) : Prop := tU A ∧ (cI A = 0 → (s.1 = 0 ∧ H = [] ∧ J = []) ∧ ∀ k, 1 ≤ k → k ≤ 3 → h.2.1 c k = 0)
def lZs (h : zH) : Prop := ∃ A c s H J, lZ A c s H J h ∧ lX A c s H J h
/-- between the two calls -/
def lZm (A : pA) (c : Nat) (s : nS) (H J : List nS) (s' : nS) (H' J' : List nS) (g : zH) : Prop := lPA A c g ∧ lNC A s' H' J' g ∧ lNM A s H J g
/-- what is left alone by calls that act on nothing: class, reference -/
def nqF (h g : zH) : Prop := (∀ a j, (86 ≤ a ∧ a ≤ 91) ∨ 104 ≤ a → g.2.1 a j = h.2.1 a j) ∧ g.2.1 0 12 = h.2.1 0 12 ∧ g.2.1 0 13 = h.2.1 0 13 ∧ g.2.1 0 15 = h.2.1 0 15
def mqF (h g : zH) : Prop := (∀ a j, a < 196 ∨ a = 199 ∨ (201 ≤ a ∧ a ≤ 203) → g.2.1 a j = h.2.1 a j) ∧ (g.2.1 196 14 = h.2.1 196 14 ∧ g.2.1 196 20 = h.2.1 196 20 ∧ g.2.1 196 21 = h.2.1 196 21) ∧ ∀ a j, g.2.2.2.1 a j = h.2.2.2.1 a j
def pNw (a : Nat) : Bool := Nat.ble a 85 || (Nat.ble 92 a && Nat.ble a 103)
def pMw (a : Nat) : Bool := Nat.ble 196 a && (!(Nat.beq a 199) && !(Nat.ble 201 a && Nat.ble a 203))
theorem pNw_f {a : Nat} (h : (86 ≤ a ∧ a ≤ 91) ∨ 104 ≤ a) : pNw a = false := by
  unfold pNw
  rw [ble_f (show 85 < a by omega)]
  rcases h with h | h
  · rw [ble_f (show a < 92 by omega)]; rfl
  · rw [ble_f (show 103 < a by omega), Bool.and_false]; rfl
theorem pMw_f {a : Nat} (h : a < 196 ∨ a = 199 ∨ (201 ≤ a ∧ a ≤ 203)) : pMw a = false := by
  unfold pMw
  rcases h with h | h | ⟨h1, h2⟩
  · rw [ble_f (show a < 196 by omega)]; rfl
  · subst h; rfl
  · have : a = 201 ∨ a = 202 ∨ a = 203 := by omega
    rcases this with e | e | e <;> subst e <;> rfl
def lkN (c : aCt) : Bool := c.2.2.2.2.1.all (fun q => pNw q.1) && (!(inM c.2.2.2.2.1 0 12) && (!(inM c.2.2.2.2.1 0 13) && !(inM c.2.2.2.2.1 0 15)))
def lkNM (c : aCt) : Bool := c.2.2.2.2.1.all (fun q => pMw q.1) && (!(inM c.2.2.2.2.1 196 14) && (!(inM c.2.2.2.2.1 196 20) && (!(inM c.2.2.2.2.1 196 21) && c.2.2.2.2.2.1.isEmpty)))
section LZF
variable {t i L q o : Nat} {h h' g : zH} {A : pA} {c : Nat} {s s' : nS} {H J H' J' : List nS} {vs : List zV} {ct c0 c1 : aCt} {k : Bool} {im : Int32} {d : Nat} {m : zM}
theorem zCi.pl {Q : Int32 → zH → Prop} {Q' : Option zV → zH → Prop} (a : zCi d m vs h Q) (b : zPa d m vs h Q') : zCi d m vs h (fun x h' => Q x h' ∧ Q' (some (.inl x)) h') := by
  refine zEx.mono (zPa.and a b) (fun v h' hq => ?_)
  obtain ⟨⟨x, e, q⟩, e2⟩ := hq
  subst e
  exact ⟨x, rfl, q, e2⟩
theorem zCl.pl {Q : Int64 → zH → Prop} {Q' : Option zV → zH → Prop} (a : zCl d m vs h Q) (b : zPa d m vs h Q') : zCl d m vs h (fun x h' => Q x h' ∧ Q' (some (.inr (.inl x))) h') := by
  refine zEx.mono (zPa.and a b) (fun v h' hq => ?_)
  obtain ⟨⟨x, e, q⟩, e2⟩ := hq
  subst e
  exact ⟨x, rfl, q, e2⟩
theorem lNC.fr (L : lNC A s H J h) (e : ∀ a j, (86 ≤ a ∧ a ≤ 91) ∨ (106 ≤ a ∧ a ≤ 195) → g.2.1 a j = h.2.1 a j) (e12 : g.2.1 0 12 = h.2.1 0 12) (e13 : g.2.1 0 13 = h.2.1 0 13) (e15 : g.2.1 0 15 = h.2.1 0 15) : lNC A s H J g := by
  obtain ⟨L1, ⟨nw, hn, a1, a2, a3, a4⟩, b1, b2, b3⟩ := L
  refine ⟨L1.fr (fun b k w1 w2 => e _ _ (by omega)), ⟨nw, hn, e12.trans a1, e13.trans a2, a3, fun k t hk => (a4 k t hk).fr (fun b j w1 w2 => e _ _ ?_)⟩, e15.trans b1, b2, fun k t hk => (b3 k t hk).fr (fun b j w1 w2 => e _ _ ?_)⟩
  · have := Nat.mod_lt (nw + 12 - k) (show 0 < 12 by decide)
    omega
  · have := (List.getElem?_eq_some_iff.mp hk).1
    omega
theorem nq_in (hk : lkN ct = true) (hf : hFr ct.2.2.2.2.1 ct.2.2.2.2.2.1 h h') : nqF h h' := by
  unfold lkN at hk
  rw [Bool.and_eq_true, Bool.and_eq_true, Bool.and_eq_true, Bool.not_eq_true', Bool.not_eq_true', Bool.not_eq_true'] at hk
  obtain ⟨k1, k2, k3, k4⟩ := hk
  exact ⟨fun a j ha => hf.2.2.1 a j (inM_by pNw k1 (pNw_f ha)), hf.2.2.1 0 12 k2, hf.2.2.1 0 13 k3, hf.2.2.1 0 15 k4⟩
theorem mq_in (hk : lkNM ct = true) (hf : hFr ct.2.2.2.2.1 ct.2.2.2.2.2.1 h h') : mqF h h' := by
  unfold lkNM at hk
  rw [Bool.and_eq_true, Bool.and_eq_true, Bool.and_eq_true, Bool.and_eq_true, Bool.not_eq_true', Bool.not_eq_true', Bool.not_eq_true', List.isEmpty_iff] at hk
  obtain ⟨k1, k2, k3, k4, k5⟩ := hk
  exact ⟨fun a j ha => hf.2.2.1 a j (inM_by pMw k1 (pMw_f ha)), ⟨hf.2.2.1 196 14 k2, hf.2.2.1 196 20 k3, hf.2.2.1 196 21 k4⟩, fun a j => hf.2.2.2.1 a j (by rw [k5]; rfl)⟩
theorem n_cls (hS0 : aSpec wd c0) (hS1 : aSpec wd c1) (hk : (lkX lkN c0 rv0 && lkX lkN c1 rv1) = true) (hm : c0.1 = m) (hm1 : c1.1 = m) (ha : aArgs vs c0.2.1) (ha1 : c1.2.1 = c0.2.1) (hi : lInv t h) : zPa 1004 m vs h (fun _ h' => nqF h h') := by
  unfold lkX at hk
  simp only [Bool.and_eq_true] at hk
  rcases hi.2.1 with hv | hv
  · subst hm
    exact zPa.of (zEx.mono (hS0 1004 (Nat.le_of_ble_eq_true hk.1.1.2) vs h ha hi.1 (lkP_in hk.1.2 hv)) (fun v h' hq => nq_in hk.1.1.1 hq.2.1))
  · subst hm1
    exact zPa.of (zEx.mono (hS1 1004 (Nat.le_of_ble_eq_true hk.2.1.2) vs h (by rw [ha1]; exact ha) hi.1 (lkP_in hk.2.2 hv)) (fun v h' hq => nq_in hk.2.1.1 hq.2.1))
theorem n_mod (hS : aSpec wd ct) (hk : lkX lkNM ct [] = true) (ha : aArgs vs ct.2.1) (ho : lIn0 t h) : zPa 1004 ct.1 vs h (fun _ h' => mqF h h') := by
  unfold lkX at hk
  rw [Bool.and_eq_true, Bool.and_eq_true] at hk
  exact zPa.of (zEx.mono (hS 1004 (Nat.le_of_ble_eq_true hk.1.2) vs h ha ho.1 (lkP_in hk.2 (fun q hq => nomatch hq))) (fun v h' hq => mq_in hk.1.1 hq.2.1))
theorem lZ.lm (z : lZ A c s H J h) (m : lMid k im t h g) : lNM A s H J g := z.2.2.2.fr (fun a j w => m.2.2.1.1 a j (.inr (by omega))) (m.2.2.1.1 _ _ (.inr (by decide))) (m.2.2.1.1 _ _ (.inr (by decide)))
theorem lZ.cls (z : lZ A c s H J h) (m : lMid k im t h g) (f : nqF h g) : lZm A c s H J s H J g := ⟨m.pa z.1.1, z.2.2.1.fr (fun a j w => f.1 a j (by omega)) f.2.1 f.2.2.1 f.2.2.2, z.lm m⟩
theorem lPA.mq (hA : lPA A c h) (f : mqF h g) : lPA A c g := hA.fr (fun a j h1 h2 => f.1 a j (by have := hA.2.1.rg h1 h2; omega)) (fun j => f.1 199 j (by decide)) f.2.1.1 (f.2.2 0 3)
theorem lZm.ref (z : lZm A c s H J s H J g) (z0 : lZ A c s H J h) (f : mqF g h') : lZ A c s H J h' := ⟨⟨z.1.mq f, z0.1.2⟩, z0.2.1, z.2.1.fr (fun a j w => f.1 a j (by omega)) (f.1 _ _ (by decide)) (f.1 _ _ (by decide)) (f.1 _ _ (by decide)), z.2.2.fr (fun a j w => f.1 a j (by omega)) f.2.1.2.1 f.2.1.2.2⟩
/-- calls that act -/
theorem lPA.mg (hA : lPA A c h) (f : mwG h g) : lPA A c g := hA.fr (fun a j h1 h2 => by have := hA.2.1.rg h1 h2; exact f.2.2.2 a j (by omega) (by omega) (by omega) (by omega) (by omega) (by omega)) (fun j => f.2.2.2 199 j (by decide) (by decide) (by decide) (by decide) (by decide) (by decide)) (f.2.2.1 14 (by decide) (by decide) (by decide) (by decide) (by decide) (by decide)) (by rw [f.2.1])
theorem lNC.mg (L : lNC A s H J h) (f : mwG h g) : lNC A s H J g := L.fr (fun a j w => f.2.2.2 a j (by omega) (by omega) (by omega) (by omega) (by omega) (by omega)) (f.2.2.2 0 _ (by decide) (by decide) (by decide) (by decide) (by decide) (by decide)) (f.2.2.2 0 _ (by decide) (by decide) (by decide) (by decide) (by decide) (by decide)) (f.2.2.2 0 _ (by decide) (by decide) (by decide) (by decide) (by decide) (by decide))
theorem lX.fr (x : lX A c s H J h) (e : ∀ k, g.2.1 c k = h.2.1 c k) : lX A c s H J g := ⟨x.1, fun z => ⟨(x.2 z).1, fun k w1 w2 => (e k).trans ((x.2 z).2 k w1 w2)⟩⟩
theorem lX.na (x : lX A c s H J h) (z : lZ A c s H J h) (m : lMid k im t h g) (f : mqF g h') : lX A c s H J h' := x.fr (fun j => by
  have hc : c = 2 ∨ c = 42 := z.1.1.2.1
  exact (f.1 c j (by omega)).trans (m.2.2.1.1 c j (.inl (by omega))))
theorem lX.ac (x : lX A c s H J h) (z : lZ A c s H J h) (m : lMid k im t h g) (F : mwG g h') (o : cI A = 0 → s' = s ∧ H' = H ∧ J' = J) : lX A c s' H' J' h' := ⟨x.1, fun e => by
  have hc : c = 2 ∨ c = 42 := z.1.1.2.1
  obtain ⟨o1, o2, o3⟩ := o e
  rw [o1, o2, o3]
  exact ⟨(x.2 e).1, fun j w1 w2 => ((F.2.2.2 c j (by omega) (by omega) (by omega) (by omega) (by omega) (by omega)).trans (m.2.2.1.1 c j (.inl (by omega)))).trans ((x.2 e).2 j w1 w2)⟩⟩
/-- without a post: nothing is there -/
theorem lX.nil (x : lX A c s H J h) (z : lZ A c s H J h) (e : cI A = 0) : (cW A = 0 ∧ cH A = 0 ∧ cB A = 0) ∧ H = [] ∧ J = [] := by
  refine ⟨?_, (x.2 e).1.2⟩
  rcases z.1.1.2.2.2.2 with ⟨-, q⟩ | ⟨-, q, -⟩
  · rw [q]
    exact ⟨rfl, rfl, rfl⟩
  · exact absurd e q
theorem lZ.act (z : lZ A c s H J h) (m : lMid k im t h g) (F : mwG g h') (L1 : lNC A s' H' J' g) (L2 : lNM A s' H' J' h') (ok : nOK A s' ∧ (∀ t ∈ H', nOK A t) ∧ ∀ t ∈ J', nOK A t) : lZ A c s' H' J' h' := ⟨⟨(m.pa z.1.1).mg F, z.1.2⟩, ok, L1.mg F, L2⟩
theorem okz_push (o1 : nOK A s) (o2 : ∀ t ∈ H, nOK A t) : ∀ t ∈ (s :: H).take 12, nOK A t := fun t ht => by
  rcases List.mem_cons.mp (List.mem_of_mem_take ht) with e | e
  · rw [e]; exact o1
  · exact o2 t e
theorem lZ.b (z : lZ A c s H J h) : cH A ≤ 5 ∧ cB A ≤ 8 := ⟨z.1.1.1.2.2.1.2.2.1, z.1.1.1.2.2.1.2.2.2.1⟩
/-- what the calls rest on -/
theorem lInv.r92 (hi : lInv t h) (hA : lPA A c h) : h.2.2.2.1 92 0 = some c ∧ h.2.2.2.1 94 0 = some c ∧ h.2.2.2.1 96 0 = some c := by
  rcases hi.2.1 with hv | hv
  · have e : c = 2 := Option.some.inj (hA.2.2.1.symm.trans (hv ((0, 3), 2) (by decide)))
    subst e
    exact ⟨hv ((92, 0), 2) (by decide), hv ((94, 0), 2) (by decide), hv ((96, 0), 2) (by decide)⟩
  · have e : c = 42 := Option.some.inj (hA.2.2.1.symm.trans (hv ((0, 3), 42) (by decide)))
    subst e
    exact ⟨hv ((92, 0), 42) (by decide), hv ((94, 0), 42) (by decide), hv ((96, 0), 42) (by decide)⟩
theorem lZ.bc (z : lZ A c s H J h) (hi : lInv t h) (ne : cI A ≠ 0) : bgC A c s h := bgC_of hi.1 hi.2.2.2.2.1 z.1.1 z.1.2.1 z.1.2.2 z.2.1.1 z.2.2.1.1 (hi.r92 z.1.1).1 (hi.r92 z.1.1).2.1 ne
theorem lZ.bm (z : lZ A c s H J h) (m : lMid k im t h g) (ne : cI A ≠ 0) : bgM A s g := bgM_of m.2.1.1 m.2.1.2.2.2 (m.pa z.1.1) z.1.2.1 z.1.2.2 z.2.1.1 (z.lm m).1.1 ne
theorem lInv.nw (hi : lInv t h) : nwS h := nwS_of hi.1 hi.2.2.2.2.1
theorem lMid.mw (m : lMid k im t h g) : mwS g := mwS_of m.2.1.1 m.2.1.2.2.2
theorem lMid.r15 (m : lMid k im t h g) : g.2.2.2.1 196 15 = some 199 := m.2.1.1.2.2.1 196 15 199 (by decide +kernel)
theorem lInv.r8 (hi : lInv t h) : h.2.2.2.1 0 8 = some 94 := hi.1.2.2.1 0 8 94 (by decide +kernel)
end LZF
/-! acts: class and reference do the same -/
def sndO (A : pA) (s : nS) (H J : List nS) (x y : Int32) (v : Option zV) (t : Int32) (L : nS → List nS → List nS → Prop) : Prop := (¬ ((0 ≤ x.toInt ∧ x.toInt < (cH A : Int)) ∧ 0 ≤ y.toInt ∧ y.toInt < (cB A : Int)) ∧ v = some (.inl (-1)) ∧ t = 1 ∧ L s H J) ∨ ∃ w b, x = nI w ∧ y = nI b ∧ w < cH A ∧ b < cB A ∧ ((brV A s w b = none ∧ v = some (.inl (-1)) ∧ t = 5 ∧ L s H J) ∨ ∃ p, brV A s w b = some p ∧ v = some (.inl (nI (p.2.1 + nu A (109 + 4 * w)))) ∧ t = 0 ∧ L (sntS s w b (p.2.1 + nu A (109 + 4 * w)) p.2.2) ((s :: H).take 12) J)
def undO (A : pA) (s : nS) (H J : List nS) (v : Option zV) (t : Int32) (L : nS → List nS → List nS → Prop) : Prop := (H = [] ∧ v = some (.inl 0) ∧ t = 6 ∧ L s H J) ∨ ∃ u T, H = u :: T ∧ v = some (.inl 1) ∧ t = 0 ∧ L u T J
def bckO (A : pA) (s : nS) (H J : List nS) (i : Int32) (v : Option zV) (t : Int32) (L : nS → List nS → List nS → Prop) : Prop := ((i.toInt < 0 ∨ (J.length : Int) ≤ i.toInt) ∧ v = some (.inl 0) ∧ t = 1 ∧ L s H J) ∨ ∃ u, 0 ≤ i.toInt ∧ J[i.toInt.toNat]? = some u ∧ v = some (.inl 1) ∧ t = 0 ∧ L u [] J
def imgO (A : pA) (s : nS) (H J : List nS) (v : Option zV) (t : Int32) (L : nS → List nS → List nS → Prop) : Prop := (cI A = 0 ∧ v = some (.inl (-1)) ∧ t = 1 ∧ L s H J) ∨ (cI A ≠ 0 ∧ J.length = 3 ∧ v = some (.inl (-1)) ∧ t = 3 ∧ L s H J) ∨ (cI A ≠ 0 ∧ J.length < 3 ∧ v = some (.inl (nI J.length)) ∧ t = 0 ∧ L s H (J ++ [s]))
def okZ (A : pA) (s : nS) (H J : List nS) : Prop := nOK A s ∧ (∀ t ∈ H, nOK A t) ∧ ∀ t ∈ J, nOK A t
section TWO
variable {t i : Nat} {h h' g : zH} {A : pA} {c w b k n j : Nat} {s s' : nS} {H J H' J' : List nS} {kk : Bool} {im : Int32} {v1 v2 : Option zV} {t1 t2 x y z : Int32} {L1 L2 : nS → List nS → List nS → Prop}
theorem nSn_cg (e : s'.2.2.2.2.1 = s.2.2.2.2.1) : ∀ n, nSn s' n = nSn s n
  | 0 => rfl
  | n + 1 => by
    show nSn s' n + (match s'.2.2.2.2.1 n with | some _ => 1 | none => 0) = nSn s n + (match s.2.2.2.2.1 n with | some _ => 1 | none => 0)
    rw [nSn_cg e n, e]
theorem nOK.cg (o : nOK A s) (e : s'.2.2 = s.2.2) (hy : s'.1 ≤ 9999) : nOK A s' := by
  obtain ⟨-, o2, o3⟩ := o
  unfold nOK
  rw [nSn_cg (s := s) (by rw [e]), e]
  exact ⟨hy, o2, o3⟩
theorem tunS_ok (hI : pI A) (hB : tB A) (hT : tA A) (o : nOK A s) (hb : b < cB A) (hn : n < ntA A) : nOK A (tunS s b k n) := by
  obtain ⟨-, q2, -⟩ := num_box hI hB hT hb
  obtain ⟨-, -, -, -, n4, -⟩ := okN_of hI q2
  obtain ⟨o1, o2, o3⟩ := o
  unfold nOK
  rw [nSn_cg (s := s) (s' := tunS s b k n) rfl]
  refine ⟨o1, o2, fun j hj => ?_⟩
  obtain ⟨p1, p2, p3⟩ := o3 j hj
  show okN (ntA A) (if j = b then tnL (s.2.2.2.2.2 b) k n else s.2.2.2.2.2 j) ∧ (if j = b then tnL (s.2.2.2.2.2 b) k n else s.2.2.2.2.2 j).length = lB A j ∧ _
  by_cases e : j = b
  · rw [if_pos e, tnL_len]
    subst e
    exact ⟨tnL_ok n4 hn p1, p2, p3⟩
  · rw [if_neg e]
    exact ⟨p1, p2, p3⟩
theorem snd_two (hI : pI A) (hB : tB A) (hT : tA A) (o : okZ A s H J) (h0 : cI A = 0 → (cW A = 0 ∧ cH A = 0 ∧ cB A = 0) ∧ H = [] ∧ J = []) (h1 : sndO A s H J x y v1 t1 L1) (h2 : sndO A s H J x y v2 t2 L2) : ∃ s' H' J', (L1 s' H' J' ∧ L2 s' H' J') ∧ v1 = v2 ∧ t1 = t2 ∧ okZ A s' H' J' ∧ (cI A = 0 → s' = s ∧ H' = H ∧ J' = J) := by
  obtain ⟨b1, b2, b3, b4, b5⟩ := hI.2.2.1
  have nr : ∀ w b : Nat, x = nI w → y = nI b → w < cH A → b < cB A → (0 ≤ x.toInt ∧ x.toInt < (cH A : Int)) ∧ 0 ≤ y.toInt ∧ y.toInt < (cB A : Int) := fun w b e1 e2 hw hb => by
    rw [e1, e2, nI_toInt (by omega), nI_toInt (by omega)]
    omega
  rcases h1 with ⟨r1, e1, q1, l1⟩ | ⟨w, b, ex, ey, hw, hb, h1⟩ <;> rcases h2 with ⟨r2, e2, q2, l2⟩ | ⟨w', b', ex', ey', hw', hb', h2⟩
  · exact ⟨s, H, J, ⟨l1, l2⟩, e1.trans e2.symm, q1.trans q2.symm, o, fun _ => ⟨rfl, rfl, rfl⟩⟩
  · exact absurd (nr _ _ ex' ey' hw' hb') r1
  · exact absurd (nr _ _ ex ey hw hb) r2
  · have ew : w' = w := (nI_eq (by omega) (by omega)).mp (ex'.symm.trans ex)
    have eb : b' = b := (nI_eq (by omega) (by omega)).mp (ey'.symm.trans ey)
    subst ew
    subst eb
    rcases h1 with ⟨p1, e1, q1, l1⟩ | ⟨p, p1, e1, q1, l1⟩ <;> rcases h2 with ⟨p2, e2, q2, l2⟩ | ⟨p', p2, e2, q2, l2⟩
    · exact ⟨s, H, J, ⟨l1, l2⟩, e1.trans e2.symm, q1.trans q2.symm, o, fun _ => ⟨rfl, rfl, rfl⟩⟩
    · rw [p1] at p2
      cases p2
    · rw [p1] at p2
      cases p2
    · have p2' := p2
      rw [p1] at p2
      cases p2
      exact ⟨_, _, _, ⟨l1, l2⟩, e1.trans e2.symm, q1.trans q2.symm, ⟨snd_ok hI hB hT o.1 hw hb p1, okz_push o.1 o.2.1, o.2.2⟩, fun e => by have := (h0 e).1; omega⟩
theorem tun_two (hI : pI A) (hB : tB A) (hT : tA A) (o : okZ A s H J) (h0 : cI A = 0 → (cW A = 0 ∧ cH A = 0 ∧ cB A = 0) ∧ H = [] ∧ J = []) (h1 : tunO A s H J x y z v1 t1 L1) (h2 : tunO A s H J x y z v2 t2 L2) : ∃ s' H' J', (L1 s' H' J' ∧ L2 s' H' J') ∧ v1 = v2 ∧ t1 = t2 ∧ okZ A s' H' J' ∧ (cI A = 0 → s' = s ∧ H' = H ∧ J' = J) := by
  obtain ⟨b1, b2, b3, b4, b5⟩ := hI.2.2.1
  have l6 : ∀ b, b < cB A → lB A b ≤ 6 ∧ ntA A ≤ 4 := fun b hb => by
    obtain ⟨-, q2, -⟩ := num_box hI hB hT hb
    obtain ⟨-, a1, -, -, a2, -⟩ := okN_of hI q2
    exact ⟨a1, a2⟩
  rcases h1 with ⟨r1, e1, q1, l1⟩ | ⟨b, k, ex, ey, hb, hk, h1⟩ <;> rcases h2 with ⟨r2, e2, q2, l2⟩ | ⟨b', k', ex', ey', hb', hk', h2⟩
  · exact ⟨s, H, J, ⟨l1, l2⟩, e1.trans e2.symm, q1.trans q2.symm, o, fun _ => ⟨rfl, rfl, rfl⟩⟩
  · exact (r1 _ _ ex' ey' hb' hk').elim
  · exact (r2 _ _ ex ey hb hk).elim
  · have eb : b' = b := (nI_eq (by omega) (by omega)).mp (ex'.symm.trans ex)
    subst eb
    obtain ⟨m6, m4⟩ := l6 _ hb
    have ek : k' = k := (nI_eq (by omega) (by omega)).mp (ey'.symm.trans ey)
    subst ek
    have nr : ∀ n : Nat, z = nI n → n < ntA A → 0 ≤ z.toInt ∧ z.toInt < (ntA A : Int) := fun n e hn => by
      rw [e, nI_toInt (by omega)]
      omega
    rcases h1 with ⟨p1, e1, q1, l1⟩ | ⟨n, en, hn, h1⟩ <;> rcases h2 with ⟨p2, e2, q2, l2⟩ | ⟨n', en', hn', h2⟩
    · exact ⟨s, H, J, ⟨l1, l2⟩, e1.trans e2.symm, q1.trans q2.symm, o, fun _ => ⟨rfl, rfl, rfl⟩⟩
    · exact absurd (nr _ en' hn') p1
    · exact absurd (nr _ en hn) p2
    · have e : n' = n := (nI_eq (by omega) (by omega)).mp (en'.symm.trans en)
      subst e
      rcases h1 with ⟨p1, e1, q1, l1⟩ | ⟨p1, u1, e1, q1, l1⟩ <;> rcases h2 with ⟨p2, e2, q2, l2⟩ | ⟨p2, u2, e2, q2, l2⟩
      · exact ⟨s, H, J, ⟨l1, l2⟩, e1.trans e2.symm, q1.trans q2.symm, o, fun _ => ⟨rfl, rfl, rfl⟩⟩
      · exact p1.elim (fun q => absurd p2 q) (fun q => absurd q u2)
      · exact p2.elim (fun q => absurd p1 q) (fun q => absurd q u1)
      · exact ⟨_, _, _, ⟨l1, l2⟩, e1.trans e2.symm, q1.trans q2.symm, ⟨tunS_ok hI hB hT o.1 hb hn, okz_push o.1 o.2.1, o.2.2⟩, fun e => by have := (h0 e).1; omega⟩
theorem yr_two (o : okZ A s H J) (h0 : cI A = 0 → (cW A = 0 ∧ cH A = 0 ∧ cB A = 0) ∧ H = [] ∧ J = []) (h1 : yrO A s H J x v1 t1 L1) (h2 : yrO A s H J x v2 t2 L2) : ∃ s' H' J', (L1 s' H' J' ∧ L2 s' H' J') ∧ v1 = v2 ∧ t1 = t2 ∧ okZ A s' H' J' ∧ (cI A = 0 → s' = s ∧ H' = H ∧ J' = J) := by
  have nr : ∀ n : Nat, x = nI n → 1 ≤ n → n ≤ 99 → 1 ≤ x.toInt ∧ x.toInt ≤ 99 := fun n e w1 w2 => by
    rw [e, nI_toInt (by omega)]
    omega
  rcases h1 with ⟨r1, e1, q1, l1⟩ | ⟨z1, r1, e1, q1, l1⟩ | ⟨n, z1, en, w1, w2, h1⟩ <;> rcases h2 with ⟨r2, e2, q2, l2⟩ | ⟨z2, r2, e2, q2, l2⟩ | ⟨n', z2, en', w1', w2', h2⟩
  · exact ⟨s, H, J, ⟨l1, l2⟩, e1.trans e2.symm, q1.trans q2.symm, o, fun _ => ⟨rfl, rfl, rfl⟩⟩
  · exact absurd r1 z2
  · exact absurd r1 z2
  · exact absurd r2 z1
  · exact ⟨s, H, J, ⟨l1, l2⟩, e1.trans e2.symm, q1.trans q2.symm, o, fun _ => ⟨rfl, rfl, rfl⟩⟩
  · exact absurd (nr _ en' w1' w2') r1
  · exact absurd r2 z1
  · exact absurd (nr _ en w1 w2) r2
  · have e : n' = n := (nI_eq (by omega) (by omega)).mp (en'.symm.trans en)
    subst e
    rcases h1 with ⟨p1, e1, q1, l1⟩ | ⟨p1, e1, q1, l1⟩ <;> rcases h2 with ⟨p2, e2, q2, l2⟩ | ⟨p2, e2, q2, l2⟩
    · exact ⟨s, H, J, ⟨l1, l2⟩, e1.trans e2.symm, q1.trans q2.symm, o, fun _ => ⟨rfl, rfl, rfl⟩⟩
    · omega
    · omega
    · exact ⟨_, _, _, ⟨l1, l2⟩, e1.trans e2.symm, q1.trans q2.symm, ⟨o.1.cg rfl p1, okz_push o.1 o.2.1, o.2.2⟩, fun e => absurd e z1⟩
theorem cls_two (hI : pI A) (o : okZ A s H J) (h0 : cI A = 0 → (cW A = 0 ∧ cH A = 0 ∧ cB A = 0) ∧ H = [] ∧ J = []) (h1 : clsO A s H J x y v1 t1 L1) (h2 : clsO A s H J x y v2 t2 L2) : ∃ s' H' J', (L1 s' H' J' ∧ L2 s' H' J') ∧ v1 = v2 ∧ t1 = t2 ∧ okZ A s' H' J' ∧ (cI A = 0 → s' = s ∧ H' = H ∧ J' = J) := by
  have b2 := hI.2.2.1.2.1
  have nr : ∀ w : Nat, x = nI w → w < cW A → 0 ≤ x.toInt ∧ x.toInt < (cW A : Int) := fun w e hw => by
    rw [e, nI_toInt (by omega)]
    omega
  rcases h1 with ⟨r1, e1, q1, l1⟩ | ⟨w, ex, hw, h1⟩ <;> rcases h2 with ⟨r2, e2, q2, l2⟩ | ⟨w', ex', hw', h2⟩
  · exact ⟨s, H, J, ⟨l1, l2⟩, e1.trans e2.symm, q1.trans q2.symm, o, fun _ => ⟨rfl, rfl, rfl⟩⟩
  · exact absurd (nr _ ex' hw') r1
  · exact absurd (nr _ ex hw) r2
  · have e : w' = w := (nI_eq (by omega) (by omega)).mp (ex'.symm.trans ex)
    subst e
    rcases h1 with ⟨p1, e1, q1, l1⟩ | ⟨p1, e1, q1, l1⟩ <;> rcases h2 with ⟨p2, e2, q2, l2⟩ | ⟨p2, e2, q2, l2⟩
    · exact ⟨s, H, J, ⟨l1, l2⟩, e1.trans e2.symm, q1.trans q2.symm, o, fun _ => ⟨rfl, rfl, rfl⟩⟩
    · exact absurd p1 p2
    · exact absurd p2 p1
    · exact ⟨_, _, _, ⟨l1, l2⟩, e1.trans e2.symm, q1.trans q2.symm, ⟨o.1.cg rfl o.1.1, okz_push o.1 o.2.1, o.2.2⟩, fun e => by have := (h0 e).1; omega⟩
theorem und_two (o : okZ A s H J) (h0 : cI A = 0 → (cW A = 0 ∧ cH A = 0 ∧ cB A = 0) ∧ H = [] ∧ J = []) (h1 : undO A s H J v1 t1 L1) (h2 : undO A s H J v2 t2 L2) : ∃ s' H' J', (L1 s' H' J' ∧ L2 s' H' J') ∧ v1 = v2 ∧ t1 = t2 ∧ okZ A s' H' J' ∧ (cI A = 0 → s' = s ∧ H' = H ∧ J' = J) := by
  rcases h1 with ⟨r1, e1, q1, l1⟩ | ⟨u, T, r1, e1, q1, l1⟩ <;> rcases h2 with ⟨r2, e2, q2, l2⟩ | ⟨u', T', r2, e2, q2, l2⟩
  · exact ⟨s, H, J, ⟨l1, l2⟩, e1.trans e2.symm, q1.trans q2.symm, o, fun _ => ⟨rfl, rfl, rfl⟩⟩
  · rw [r1] at r2
    cases r2
  · rw [r1] at r2
    cases r2
  · have r := r1.symm.trans r2
    cases r
    refine ⟨_, _, _, ⟨l1, l2⟩, e1.trans e2.symm, q1.trans q2.symm, ⟨o.2.1 u (by rw [r1]; exact List.mem_cons_self), fun t ht => o.2.1 t (by rw [r1]; exact List.mem_cons_of_mem _ ht), o.2.2⟩, fun e => by have := (h0 e).2.1; rw [r1] at this; cases this⟩
theorem bck_two (o : okZ A s H J) (h0 : cI A = 0 → (cW A = 0 ∧ cH A = 0 ∧ cB A = 0) ∧ H = [] ∧ J = []) (h1 : bckO A s H J x v1 t1 L1) (h2 : bckO A s H J x v2 t2 L2) : ∃ s' H' J', (L1 s' H' J' ∧ L2 s' H' J') ∧ v1 = v2 ∧ t1 = t2 ∧ okZ A s' H' J' ∧ (cI A = 0 → s' = s ∧ H' = H ∧ J' = J) := by
  have nr : ∀ u, J[x.toInt.toNat]? = some u → 0 ≤ x.toInt → ¬ (x.toInt < 0 ∨ (J.length : Int) ≤ x.toInt) := fun u e hx => by
    have := (List.getElem?_eq_some_iff.mp e).1
    omega
  rcases h1 with ⟨r1, e1, q1, l1⟩ | ⟨u, x1, r1, e1, q1, l1⟩ <;> rcases h2 with ⟨r2, e2, q2, l2⟩ | ⟨u', x2, r2, e2, q2, l2⟩
  · exact ⟨s, H, J, ⟨l1, l2⟩, e1.trans e2.symm, q1.trans q2.symm, o, fun _ => ⟨rfl, rfl, rfl⟩⟩
  · exact absurd r1 (nr _ r2 x2)
  · exact absurd r2 (nr _ r1 x1)
  · have r := r1.symm.trans r2
    cases r
    exact ⟨_, _, _, ⟨l1, l2⟩, e1.trans e2.symm, q1.trans q2.symm, ⟨o.2.2 u (List.mem_of_getElem? r1), fun t ht => (nomatch ht), o.2.2⟩, fun e => by have := (h0 e).2.2; rw [this] at r1; cases r1⟩
theorem img_two (o : okZ A s H J) (h0 : cI A = 0 → (cW A = 0 ∧ cH A = 0 ∧ cB A = 0) ∧ H = [] ∧ J = []) (h1 : imgO A s H J v1 t1 L1) (h2 : imgO A s H J v2 t2 L2) : ∃ s' H' J', (L1 s' H' J' ∧ L2 s' H' J') ∧ v1 = v2 ∧ t1 = t2 ∧ okZ A s' H' J' ∧ (cI A = 0 → s' = s ∧ H' = H ∧ J' = J) := by
  rcases h1 with ⟨r1, e1, q1, l1⟩ | ⟨z1, r1, e1, q1, l1⟩ | ⟨z1, r1, e1, q1, l1⟩ <;> rcases h2 with ⟨r2, e2, q2, l2⟩ | ⟨z2, r2, e2, q2, l2⟩ | ⟨z2, r2, e2, q2, l2⟩
  · exact ⟨s, H, J, ⟨l1, l2⟩, e1.trans e2.symm, q1.trans q2.symm, o, fun _ => ⟨rfl, rfl, rfl⟩⟩
  · exact absurd r1 z2
  · exact absurd r1 z2
  · exact absurd r2 z1
  · exact ⟨s, H, J, ⟨l1, l2⟩, e1.trans e2.symm, q1.trans q2.symm, o, fun _ => ⟨rfl, rfl, rfl⟩⟩
  · omega
  · exact absurd r2 z1
  · omega
  · refine ⟨_, _, _, ⟨l1, l2⟩, e1.trans e2.symm, q1.trans q2.symm, ⟨o.1, o.2.1, fun t ht => ?_⟩, fun e => absurd e z1⟩
    rcases List.mem_append.mp ht with e | e
    · exact o.2.2 t e
    · rw [List.mem_singleton.mp e]
      exact o.1
theorem lZ.two (z : lZ A c s H J h) (x : lX A c s H J h) (m : lMid kk im t h g) (F : mwG g h') (w : ∃ s' H' J', (lNC A s' H' J' g ∧ lNM A s' H' J' h') ∧ v1 = v2 ∧ t1 = t2 ∧ okZ A s' H' J' ∧ (cI A = 0 → s' = s ∧ H' = H ∧ J' = J)) : ∃ s' H' J', (lZ A c s' H' J' h' ∧ lX A c s' H' J' h') ∧ v1 = v2 ∧ t1 = t2 := by
  obtain ⟨s', H', J', ⟨l1, l2⟩, ev, et, ok, o⟩ := w
  exact ⟨s', H', J', ⟨z.act m F l1 l2 ok, x.ac z m F o⟩, ev, et⟩
end TWO
/-! the law's loop: feed, post, led, decade beside the states -/
def ldE (h g : zH) : Prop := (∀ a k, g.2.1 a k = h.2.1 a k) ∧ ∀ a k, g.2.2.2.1 a k = h.2.2.2.1 a k
section LZP
variable {t i L n : Nat} {h h' g : zH} {A : pA} {c : Nat} {s : nS} {H J : List nS} {kk : Bool} {im : Int32} {x : Int32}
theorem lZ.led (z : lZ A c s H J h) (e : ldE h g) : lZ A c s H J g := ⟨⟨z.1.1.fr (fun a j _ _ => e.1 a j) (fun j => e.1 _ _) (e.1 _ _) (e.2 _ _), z.1.2⟩, z.2.1, z.2.2.1.fr (fun a j _ => e.1 a j) (e.1 _ _) (e.1 _ _) (e.1 _ _), z.2.2.2.fr (fun a j _ => e.1 a j) (e.1 _ _) (e.1 _ _)⟩
theorem lX.led (x : lX A c s H J h) (e : ldE h g) : lX A c s H J g := x.fr (fun k => e.1 _ _)
theorem lX.feed (x : lX A c s H J h) (z : lZ A c s H J h) (f1 : fC1 h g) (q2 : mqF g h') : lX A c s H J h' := x.fr (fun j => by
  have hc : c = 2 ∨ c = 42 := z.1.1.2.1
  exact (q2.1 c j (by omega)).trans (f1.1 c j (by omega)))
theorem lZ.mid (z : lZ A c s H J h) : lZm A c s H J s H J h := ⟨z.1.1, z.2.2.1, z.2.2.2⟩
theorem l_led2 {x : Int32} (hi : lInv t h) (ht : t < 1000) : zCt 1004 zledM [.inr (.inr (some 0)), .inl x] h (fun v h' => (∃ b : Int32, v = some (.inl b) ∧ lInv (t + 1) h' ∧ ldE h h') ∨ ((∃ y : Int64, v = some (.inr (.inl y))) ∧ lInv (t + 1) h' ∧ ldE h h')) := by
  have hr : h.2.2.2.1 0 3 = some 2 ∨ h.2.2.2.1 0 3 = some 42 := hi.2.1.imp (fun z => z ((0, 3), 2) List.mem_cons_self) (fun z => z ((0, 3), 42) List.mem_cons_self)
  refine zEx.mono (S_led (d := 1003) (x := x) hi.1 hr (Nat.lt_of_le_of_lt hi.2.2.2.1 ht)) (fun v h' hq => ?_)
  have kp : ∀ g, ldS h g → lInv t g := fun g hg => ⟨hg.1, hi.2.1.imp (fun z q hq => (hg.2.2.2.1 _ _).trans (z q hq)) (fun z q hq => (hg.2.2.2.1 _ _).trans (z q hq)), by rw [hg.2.2.1, hg.2.2.1]; exact hi.2.2.1, by rw [hg.2.2.2.2]; exact hi.2.2.2.1, hg.2.1.trans hi.2.2.2.2.1, hi.tp.fr (hg.2.2.1 _ _) (fun k => hg.2.2.1 _ _) (fun k => hg.2.2.1 _ _), hi.ys.fr (fun a j _ _ => hg.2.2.1 a j) (fun j => hg.2.2.1 199 j) (hg.2.2.1 _ _) (hg.2.2.1 _ _) (hg.2.2.1 _ _) (hg.2.2.1 _ _) (hg.2.2.1 _ _) (hg.2.2.1 _ _) (hg.2.2.1 _ _) (hg.2.2.2.1 _ _)⟩
  rcases hq with ⟨b, e, hg⟩ | ⟨e, g, hg, eg⟩
  · exact .inl ⟨b, e, (kp _ hg).up, fun a k => hg.2.2.1 a k, fun a k => hg.2.2.2.1 a k⟩
  · have k := kp g hg
    subst eg
    exact .inr ⟨⟨-1, e⟩, ⟨k.1, k.2.1, k.2.2.1, Nat.succ_le_succ k.2.2.2.1, k.2.2.2.2⟩, fun a k => hg.2.2.1 a k, fun a k => hg.2.2.2.1 a k⟩
theorem n_decade {x1 x2 : Int32} (m : lMid kk im t g h) : zPa 1004 mX12_decade [.inr (.inr (some 196)), .inl x1, .inl x2] h (fun _ h' => mqF h h') := by
  have key : ∀ c : aCt, aSpec wd c → (lkNM c && lkD c) = true → c.1 = mX12_decade → c.2.1 = [.inr (.inl [196]), .inl aTop, .inl aTop] → aPre h c.2.2.1 → zPa 1004 mX12_decade [.inr (.inr (some 196)), .inl x1, .inl x2] h (fun _ h' => mqF h h') := by
    intro c hS hk hm ha hp
    rw [Bool.and_eq_true] at hk
    rw [← hm]
    exact zPa.of (zEx.mono (hS 1004 (Nat.le_of_ble_eq_true hk.2) _ h (by rw [ha]; exact ⟨⟨196, List.mem_cons_self, rfl⟩, ⟨_, rfl, aIn_top _⟩, ⟨_, rfl, aIn_top _⟩, trivial⟩) m.2.1.1 hp) (fun v h' hq => mq_in hk.1 hq.2.1))
  have pre1 : ∀ (a k : Nat) (n : Int), aIn (h.2.1 a k).toInt [(n, n, 1)] → aPre h ([((a, k), [(n, n, 1)])], []) := by
    intro a k n hn
    refine ⟨fun q hq => ?_, fun q hq => nomatch hq⟩
    have e : q = ((a, k), [(n, n, 1)]) := by simpa using hq
    subst e
    exact hn
  have hp : aIn (h.2.1 196 14).toInt [(0, ((1 : Nat) : Int), 1)] := aLe_in (A := gSeg (wd.2.1 196) 14) (by decide +kernel) (m.2.1.1.2.1 196 14)
  obtain ⟨s, hs, e⟩ := nI_rg hp (by decide)
  have hs : s = 0 ∨ s = 1 := by omega
  rcases hs with rfl | rfl
  · exact key ct_1094 S_1094 (by decide +kernel) rfl rfl (pre1 196 14 0 (by rw [e]; exact aR1_in (lo := 0) (hi := 0) (by decide) (by decide)))
  · have hm := m.2.1.1.2.2.2.1 ([((196, 14), [(1, 1, 1)])], ((199, 4), [(1, 7, 1)])) (by decide +kernel) (fun q hq => by
      have eq : q = ((196, 14), [(1, 1, 1)]) := by simpa using (show q ∈ [(((196, 14), [(1, 1, 1)]) : (Nat × Nat) × aI)] from hq)
      subst eq
      rw [e]
      exact aR1_in (lo := 1) (hi := 1) (by decide) (by decide))
    obtain ⟨q, hq, a, b, -⟩ := hm
    have eq : q = (1, 7, 1) := by simpa using hq
    subst eq
    have a : 1 ≤ (h.2.1 199 4).toInt := a
    have b : (h.2.1 199 4).toInt ≤ 7 := b
    have hc : (h.2.1 199 4).toInt = 1 ∨ (h.2.1 199 4).toInt = 2 ∨ (h.2.1 199 4).toInt = 3 ∨ (h.2.1 199 4).toInt = 4 ∨ (h.2.1 199 4).toInt = 5 ∨ (h.2.1 199 4).toInt = 6 ∨ (h.2.1 199 4).toInt = 7 := by omega
    rcases hc with z | z | z | z | z | z | z
    · exact key ct_1113 S_1113 (by decide +kernel) rfl rfl (pre1 199 4 1 (by rw [z]; exact aR1_in (lo := 1) (hi := 1) (by decide) (by decide)))
    · exact key ct_1132 S_1132 (by decide +kernel) rfl rfl (pre1 199 4 2 (by rw [z]; exact aR1_in (lo := 2) (hi := 2) (by decide) (by decide)))
    · exact key ct_1152 S_1152 (by decide +kernel) rfl rfl (pre1 199 4 3 (by rw [z]; exact aR1_in (lo := 3) (hi := 3) (by decide) (by decide)))
    · exact key ct_1173 S_1173 (by decide +kernel) rfl rfl (pre1 199 4 4 (by rw [z]; exact aR1_in (lo := 4) (hi := 4) (by decide) (by decide)))
    · exact key ct_1195 S_1195 (by decide +kernel) rfl rfl (pre1 199 4 5 (by rw [z]; exact aR1_in (lo := 5) (hi := 5) (by decide) (by decide)))
    · exact key ct_1218 S_1218 (by decide +kernel) rfl rfl (pre1 199 4 6 (by rw [z]; exact aR1_in (lo := 6) (hi := 6) (by decide) (by decide)))
    · exact key ct_1242 S_1242 (by decide +kernel) rfl rfl (pre1 199 4 7 (by rw [z]; exact aR1_in (lo := 7) (hi := 7) (by decide) (by decide)))
theorem n_feed11 {x1 x2 x3 x4 x5 : Int32} (hi : lInv t h) : zPa 1004 mX11_feed [.inr (.inr (some 0)), .inl x1, .inl x2, .inl x3, .inl x4, .inl x5] h (fun _ h' => nqF h h') := zPa.of (zEx.mono (S_5 1004 (by decide) [.inr (.inr (some 0)), .inl x1, .inl x2, .inl x3, .inl x4, .inl x5] h ⟨⟨0, List.mem_cons_self, rfl⟩, ⟨_, rfl, aIn_top _⟩, ⟨_, rfl, aIn_top _⟩, ⟨_, rfl, aIn_top _⟩, ⟨_, rfl, aIn_top _⟩, ⟨_, rfl, aIn_top _⟩, trivial⟩ hi.1 ⟨fun q hq => (nomatch hq), fun q hq => (nomatch hq)⟩) (fun v h' hq => nq_in (ct := ct_5) (by decide +kernel) hq.2.1))
theorem n_feed12 {x1 x2 x3 x4 x5 : Int32} (hi : lIn0 t h) : zPa 1004 mX12_feed [.inr (.inr (some 196)), .inl x1, .inl x2, .inl x3, .inl x4, .inl x5] h (fun _ h' => mqF h h') := zPa.of (zEx.mono (S_446 1004 (by decide) [.inr (.inr (some 196)), .inl x1, .inl x2, .inl x3, .inl x4, .inl x5] h ⟨⟨196, List.mem_cons_self, rfl⟩, ⟨_, rfl, aIn_top _⟩, ⟨_, rfl, aIn_top _⟩, ⟨_, rfl, aIn_top _⟩, ⟨_, rfl, aIn_top _⟩, ⟨_, rfl, aIn_top _⟩, trivial⟩ hi.1 ⟨fun q hq => (nomatch hq), fun q hq => (nomatch hq)⟩) (fun v h' hq => mq_in (ct := ct_446) (by decide +kernel) hq.2.1))
theorem lZ.feed (z : lZ A c s H J h) (f1 : fC1 h g) (q1 : nqF h g) (q2 : mqF g h') : lZ A c s H J h' := by
  have hA : lPA A c g := z.1.1.fr (fun a j h1 h2 => f1.1 a j (by have := z.1.1.2.1.rg h1 h2; omega)) (fun j => f1.1 199 j (by decide)) (f1.1 196 14 (by decide)) (f1.2.2.2 0 3)
  have zm : lZm A c s H J s H J g := ⟨hA, z.2.2.1.fr (fun a j w => q1.1 a j (by omega)) q1.2.1 q1.2.2.1 q1.2.2.2, z.2.2.2.fr (fun a j w => f1.1 a j (by omega)) (f1.1 _ _ (by decide)) (f1.1 _ _ (by decide))⟩
  exact zm.ref z q2
theorem n_post11 {s : Nat} (hi : lInv t h) (hs : s ≤ 1000) (e1 : h.2.1 0 1 = nI s) : zPa 1004 mX11_post [.inr (.inr (some 0)), .inl x] h (fun _ h' => (¬ pOK x s → h' = zsI h 0 2 2) ∧ (pOK x s → pcN h (pst (h.2.1 1) x) h')) := by
  by_cases k : pOK x s
  · obtain ⟨en, hn⟩ := k.nI hs
    rcases hi.2.1 with hv | hv
    · have := N_post11n_0 (d := 1003) (n := x.toInt.toNat) hi.1 hi.2.2.2.2.1 hv e1 hs hn (by decide)
      rw [← en] at this
      exact this.mono (fun v h' hq => ⟨fun q => absurd k q, fun _ => hq⟩)
    · have := N_post11n_1 (d := 1003) (n := x.toInt.toNat) hi.1 hi.2.2.2.2.1 hv e1 hs hn (by decide)
      rw [← en] at this
      exact this.mono (fun v h' hq => ⟨fun q => absurd k q, fun _ => hq⟩)
  · exact (N_no11 hi.1 e1 hs k).mono (fun v h' hq => ⟨fun _ => hq.2, fun q => absurd q k⟩)
theorem n_post12 {s : Nat} {y : Nat → Int32} (hi : lIn0 t h) (hs : s ≤ 1000) (e2 : h.2.1 196 2 = nI s) (hy : ∀ k : Nat, (k : Int) < (nI s).toInt → TB (y k) (h.2.1 197 k)) : zPa 1004 mX12_post [.inr (.inr (some 196)), .inl x] h (fun v h' => (¬ pOK x s ∧ v = some (.inl (-1)) ∧ h' = zsI (zsI (zsI h 196 0 0) 196 11 0) 196 11 2) ∨ (pOK x s ∧ rtS (pst y x) v h')) := N_post12n (d := 1003) (x := x) (y := y) hi.1 hi.2.2.2 e2 hs hy
theorem lZ_post {st : Nat} {v w : Int32} {ov : Option zV} (z : lZ A c s H J h) (lx : lX A c s H J h) (ho : hOK wd h') (a : pQ1 x st h v g) (a2 : (¬ pOK x st → g = zsI h 0 2 2) ∧ (pOK x st → pcN h (pst (h.2.1 1) x) g)) (b : pQ2 (h.2.1 1) x st g w h') (b2 : (¬ pOK x st ∧ ov = some (.inl (-1)) ∧ h' = zsI (zsI (zsI g 196 0 0) 196 11 0) 196 11 2) ∨ (pOK x st ∧ rtS (pst (h.2.1 1) x) ov h')) : lZs h' := by
  obtain ⟨a1, a5⟩ := a
  obtain ⟨b1, b3, b4, b6⟩ := b
  rcases b2 with ⟨k, -, eh⟩ | ⟨k, R⟩
  · have eg := a2.1 k
    have e : ∀ a j, ¬ (a = 0 ∧ j = 2) → ¬ (a = 196 ∧ (j = 0 ∨ j = 11)) → h'.2.1 a j = h.2.1 a j := fun a j w1 w2 => by rw [eh, zsI_no (by omega), zsI_no (by omega), zsI_no (by omega), eg, zsI_no (by omega)]
    refine ⟨A, c, s, H, J, ⟨⟨z.1.1.fr (fun a j h1 h2 => e _ _ (by have := z.1.1.2.1.rg h1 h2; omega) (by have := z.1.1.2.1.rg h1 h2; omega)) (fun j => e _ _ (by omega) (by omega)) (e _ _ (by omega) (by omega)) (by rw [eh, eg]; rfl), z.1.2⟩, z.2.1, z.2.2.1.fr (fun a j w => e _ _ (by omega) (by omega)) (e _ _ (by omega) (by omega)) (e _ _ (by omega) (by omega)) (e _ _ (by omega) (by omega)), z.2.2.2.fr (fun a j w => e _ _ (by omega) (by omega)) (e _ _ (by omega) (by omega)) (e _ _ (by omega) (by omega))⟩, lx.fr (fun j => e _ _ (by have hc : c = 2 ∨ c = 42 := z.1.1.2.1; omega) (by have hc : c = 2 ∨ c = 42 := z.1.1.2.1; omega))⟩
  · have P := a2.2 k
    rcases a5 with ⟨q, -⟩ | ⟨-, c', b', hc', hb', pc⟩
    · exact absurd k q
    rcases b6 with ⟨q, -⟩ | ⟨-, rt⟩
    · exact absurd k q
    cases er : pst (h.2.1 1) x with
    | inl e =>
      rw [er] at P pc rt
      obtain ⟨p1, p12, p13⟩ := P
      obtain ⟨-, -, -, f4, f5, f6⟩ := pc
      obtain ⟨-, -, -, -, g4⟩ := rt
      have ec : b' = c := Option.some.inj (hb'.symm.trans z.1.1.2.2.1)
      subst ec
      have n1 : ∀ a j, 86 ≤ a → a < 196 → h'.2.1 a j = h.2.1 a j := fun a j w1 w2 => (b1 a j (.inl w2)).trans (p1 a j w1)
      have n2 : ∀ a j, mKp a j → 196 ≤ a → h'.2.1 a j = h.2.1 a j := fun a j w1 w2 => (g4 a j w1).trans (a1 a j w2)
      refine ⟨A, b', s, H, J, ⟨⟨z.1.1.fr (fun a j h1 h2 => (b1 a j (.inl (by have := z.1.1.2.1.rg h1 h2; omega))).trans (f4 a j h1 h2)) (fun j => n2 _ _ (.inl (by decide)) (by decide)) (n2 _ _ (.inr (by decide)) (by decide)) ((b3 0 3).trans f5), z.1.2⟩, z.2.1, z.2.2.1.fr (fun a j w => n1 _ _ (by omega) (by omega)) ((b1 _ _ (.inl (by decide))).trans p12) ((b1 _ _ (.inl (by decide))).trans p13) ((b1 _ _ (.inl (by decide))).trans f6), z.2.2.2.fr (fun a j w => n2 _ _ (.inl (by omega)) (by omega)) (n2 _ _ (.inr (by decide)) (by decide)) (n2 _ _ (.inr (by decide)) (by decide))⟩, lx.fr (fun j => (b1 b' j (.inl (by have hc : b' = 2 ∨ b' = 42 := z.1.1.2.1; omega))).trans (f4 b' j (Nat.le_refl _) (by omega)))⟩
    | inr B =>
      rw [er] at P pc rt
      obtain ⟨p1, p13⟩ := P
      obtain ⟨-, f1, f2, f3, f4, f5, f6, f7⟩ := pc
      obtain ⟨g1, g2, g3⟩ := rt
      have hT := sText_tA _ _ _ pI_0 tA_0 (Nat.zero_le _) er
      have hB := sText_tB _ _ _ pI_0 tB_0 (Nat.zero_le _) er
      obtain ⟨r1, r2⟩ := R B er hT hB
      have ew : w ≠ -1 := by
        cases g1
        intro q
        have := congrArg Int32.toInt q
        have b7 := f2.2.2.1.1
        rw [nI_toInt (by omega), show (-1 : Int32).toInt = -1 by decide] at this
        omega
      obtain ⟨-, -, z21⟩ := b4 ew
      have ok := nS0_ok f2 hB hT
      obtain ⟨nw, hn, en⟩ := nI_rg (n := 11) (aLe_in (A := gSeg (wd.2.1 0) 12) (by decide +kernel) (ho.2.1 0 12)) (by decide)
      refine ⟨B, c', nS0 B, [], [], ⟨⟨⟨f2, hc', (b3 0 3).trans f3, rcC.frB f2 (fun a j h1 h2 => b1 a j (.inl (by have := hc'.rg h1 h2; omega))) f1, .inr ⟨g3, f7, g2⟩⟩, hT, hB⟩, ⟨ok, fun t ht => (nomatch ht), fun t ht => (nomatch ht)⟩, ⟨p1.fr (fun a j w1 w2 => b1 a j (.inl (by omega))), ⟨nw, by omega, en, (b1 0 13 (.inl (by decide))).trans p13, Nat.zero_le _, fun k t hk => (nomatch hk)⟩, (b1 0 15 (.inl (by decide))).trans f6, Nat.zero_le _, fun k t hk => (nomatch hk)⟩, ⟨r1, ok.len f2 hB hT⟩, ⟨r2, Nat.zero_le _, fun k t hk => (nomatch hk)⟩, z21, Nat.zero_le _, fun k t hk => (nomatch hk)⟩, sText_tU _ _ _ pI_0 tU_0 (Nat.zero_le _) er, fun q => absurd q f7⟩
/-- the states at the beginning -/
def nSb : nS := (0, 0, fun _ => 0, fun _ => 0, fun _ => none, fun _ => [])
theorem lPA_beg : lPA pA0 2 hh_487 := ⟨pI_0, .inl rfl, by decide +kernel, ⟨by decide +kernel, by decide +kernel, by decide +kernel, by decide +kernel, by decide +kernel, by decide +kernel, fun i hi => absurd hi (Nat.not_lt_zero i), fun i hi => absurd hi (Nat.not_lt_zero i), fun i hi => absurd hi (Nat.not_lt_zero i), fun j hj => absurd rfl hj⟩, .inl ⟨by decide +kernel, rfl⟩⟩
theorem lZ_beg : lZs hh_487 := by
  have hA := lPA_beg
  have w0 : ∀ w, w < cH pA0 → False := fun w hw => Nat.not_lt_zero w hw
  have b0 : ∀ b, b < cB pA0 → False := fun b hb => Nat.not_lt_zero b hb
  exact ⟨pA0, 2, nSb, [], [], ⟨⟨hA, tA_0, tB_0⟩, ⟨⟨Nat.zero_le _, fun w hw => (w0 w hw).elim, fun b hb => (b0 b hb).elim⟩, fun t ht => (nomatch ht), fun t ht => (nomatch ht)⟩, ⟨⟨by decide +kernel, by decide +kernel, fun w hw => (w0 w hw).elim, fun b hb => (b0 b hb).elim⟩, ⟨0, by decide, by decide +kernel, by decide +kernel, Nat.zero_le _, fun k t hk => (nomatch hk)⟩, by decide +kernel, Nat.zero_le _, fun k t hk => (nomatch hk)⟩, ⟨⟨by decide +kernel, by decide +kernel, fun w hw => (w0 w hw).elim, fun b hb => (b0 b hb).elim⟩, fun b hb => (b0 b hb).elim⟩, ⟨by decide +kernel, Nat.zero_le _, fun k t hk => (nomatch hk)⟩, by decide +kernel, Nat.zero_le _, fun k t hk => (nomatch hk)⟩, tU_0, fun _ => ⟨⟨rfl, rfl, rfl⟩, fun k w1 w2 => by
    have : k = 1 ∨ k = 2 ∨ k = 3 := by omega
    rcases this with e | e | e <;> subst e <;> decide +kernel⟩⟩
end LZP
