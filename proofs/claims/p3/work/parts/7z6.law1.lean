/-! the law's loop: what holds between two calls -/
/-- the tapes are alike -/
def lT (h : zH) : Prop := ∀ k : Nat, (k : Int) < (h.2.1 196 2).toInt → TB (h.2.1 1 k) (h.2.1 197 k)
def lInv (t : Nat) (h : zH) : Prop := hOK wd h ∧ (lV h rv0 ∨ lV h rv1) ∧ h.2.1 0 1 = h.2.1 196 2 ∧ h.2.2.2.2 ≤ t ∧ h.1 = hh_487.1 ∧ lT h
theorem lT.fr {h h' : zH} (k : lT h) (e2 : h'.2.1 196 2 = h.2.1 196 2) (e1 : ∀ k, h'.2.1 1 k = h.2.1 1 k) (e3 : ∀ k, h'.2.1 197 k = h.2.1 197 k) : lT h' := by
  intro j hj
  rw [e1, e3]
  rw [e2] at hj
  exact k j hj
def lLoc (ls : zL) (i : Nat) : Prop := zget ls 0 = some (.inr (.inr (some 1000000))) ∧ zget ls 1 = some (.inr (.inr (some 0))) ∧ zget ls 2 = some (.inr (.inr (some 196))) ∧ zget ls 3 = some (.inr (.inr (some 213))) ∧ zget ls 4 = some (.inl (nI i))
def zQL (v : Option zV) (h' : zH) : Prop := v = some (.inl 1) ∧ h'.1.1 ≤ 1000 ∧ h'.1.2.2 ≤ 100000 ∧ h'.2.2.2.2 ≤ 1000
def lkOk (c : aCt) : Bool := !(inM c.2.2.2.2.1 0 1) && (!(inM c.2.2.2.2.1 196 2) && (c.2.2.2.2.2.1.isEmpty && (c.2.2.2.2.1.all (fun q => !(Nat.beq q.1 1)) && c.2.2.2.2.1.all (fun q => !(Nat.beq q.1 197)))))
def lkI (c : aCt) : Bool := c.2.2.2.1.all (fun p => match p.1 with | some (.inl _) => true | _ => false)
def lkL (c : aCt) : Bool := c.2.2.2.1.all (fun p => match p.1 with | some (.inr _) => true | _ => false)
def lkP (c : aCt) (rv : aU) : Bool := c.2.2.1.1.isEmpty && c.2.2.1.2.all (fun q => rv.any (fun r => decide (r = q)))
def lkD (c : aCt) : Bool := Nat.ble c.2.2.2.2.2.2 1004
section HLW
variable {t i L : Nat} {h h' : zH} {xs : Nat → Int32} {ls : zL} {vs : List zV} {c c0 c1 : aCt}
theorem lInv.sh (hi : lInv t h) {a : Nat} {q : Option (Nat × Nat)} (e : zsh hh_487 a = q) : zsh h a = q := by
  unfold zsh
  rw [hi.2.2.2.2.1]
  exact e
theorem lInv.keep (hi : lInv t h) (hk : lkOk c = true) (ho : hOK wd h') (hf : hFr c.2.2.2.2.1 c.2.2.2.2.2.1 h h') : lInv t h' := by
  unfold lkOk at hk
  rw [Bool.and_eq_true, Bool.and_eq_true, Bool.and_eq_true, Bool.and_eq_true, Bool.not_eq_true', Bool.not_eq_true', List.isEmpty_iff] at hk
  obtain ⟨k1, k2, k3, k5, k6⟩ := hk
  have er : ∀ a k, h'.2.2.2.1 a k = h.2.2.2.1 a k := fun a k => hf.2.2.2.1 a k (by rw [k3]; rfl)
  refine ⟨ho, hi.2.1.imp (fun z q hq => (er _ _).trans (z q hq)) (fun z q hq => (er _ _).trans (z q hq)), ?_, by rw [hf.2.1]; exact hi.2.2.2.1, hf.1.trans hi.2.2.2.2.1, hi.2.2.2.2.2.fr (hf.2.2.1 196 2 k2) (fun k => hf.2.2.1 1 k (inM_out k5)) (fun k => hf.2.2.1 197 k (inM_out k6))⟩
  rw [hf.2.2.1 0 1 k1, hf.2.2.1 196 2 k2]
  exact hi.2.2.1
theorem l_go (hS : aSpec wd c) (hk : (lkOk c && lkD c) = true) (ha : aArgs vs c.2.1) (hi : lInv t h) (hp : aPre h c.2.2.1) : zCt 1004 c.1 vs h (fun v h' => lInv t h' ∧ ∃ p ∈ c.2.2.2.1, aRet v p.1) := by
  rw [Bool.and_eq_true] at hk
  refine zEx.mono (hS 1004 (Nat.le_of_ble_eq_true hk.2) vs h ha hi.1 hp) (fun v h' hq => ?_)
  obtain ⟨ho, hf, p, hp, hr, -⟩ := hq
  exact ⟨hi.keep hk.1 ho hf, p, hp, hr⟩
theorem lkI_in {v : Option zV} (hk : lkI c = true) (h : ∃ p ∈ c.2.2.2.1, aRet v p.1) : ∃ x : Int32, v = some (.inl x) := by
  obtain ⟨p, hp, hr⟩ := h
  have hb := List.all_eq_true.mp hk p hp
  obtain ⟨p1, p2⟩ := p
  match p1, hb, hr with
  | some (.inl A), _, ⟨y, e, _⟩ => exact ⟨y, e⟩
theorem lkL_in {v : Option zV} (hk : lkL c = true) (h : ∃ p ∈ c.2.2.2.1, aRet v p.1) : ∃ x : Int64, v = some (.inr (.inl x)) := by
  obtain ⟨p, hp, hr⟩ := h
  have hb := List.all_eq_true.mp hk p hp
  obtain ⟨p1, p2⟩ := p
  match p1, hb, hr with
  | some (.inr _), _, ⟨y, e⟩ => exact ⟨y, e⟩
theorem lkP_in {rv : aU} (hk : lkP c rv = true) (hv : lV h rv) : aPre h c.2.2.1 := by
  unfold lkP at hk
  simp only [Bool.and_eq_true, List.isEmpty_iff] at hk
  refine ⟨fun q hq => ?_, fun q hq => ?_⟩
  · rw [hk.1] at hq
    cases hq
  · obtain ⟨r, hr, er⟩ := List.any_eq_true.mp (List.all_eq_true.mp hk.2 q hq)
    have er := of_decide_eq_true er
    subst er
    exact hv r hr
def lkA (c : aCt) (rv : aU) : Bool := (lkOk c && lkD c) && lkP c rv
theorem l_mod (hS : aSpec wd c) (hk : (lkA c [] && lkI c) = true) (ha : aArgs vs c.2.1) (hi : lInv t h) : zCi 1004 c.1 vs h (fun _ h' => lInv t h') := by
  unfold lkA at hk
  simp only [Bool.and_eq_true] at hk
  refine zEx.mono (l_go hS (by simp only [Bool.and_eq_true]; exact hk.1.1) ha hi (lkP_in hk.1.2 (fun q hq => nomatch hq))) (fun v h' hq => ?_)
  obtain ⟨x, e⟩ := lkI_in hk.2 hq.2
  exact ⟨x, e, hq.1⟩
theorem l_modL (hS : aSpec wd c) (hk : (lkA c [] && lkL c) = true) (ha : aArgs vs c.2.1) (hi : lInv t h) : zCl 1004 c.1 vs h (fun _ h' => lInv t h') := by
  unfold lkA at hk
  simp only [Bool.and_eq_true] at hk
  refine zEx.mono (l_go hS (by simp only [Bool.and_eq_true]; exact hk.1.1) ha hi (lkP_in hk.1.2 (fun q hq => nomatch hq))) (fun v h' hq => ?_)
  obtain ⟨x, e⟩ := lkL_in hk.2 hq.2
  exact ⟨x, e, hq.1⟩
theorem l_cls {m : zM} (hS0 : aSpec wd c0) (hS1 : aSpec wd c1) (hk : (lkA c0 rv0 && lkI c0 && (lkA c1 rv1 && lkI c1)) = true) (hm : c0.1 = m) (hm1 : c1.1 = m) (ha : aArgs vs c0.2.1) (ha1 : c1.2.1 = c0.2.1) (hi : lInv t h) : zCi 1004 m vs h (fun _ h' => lInv t h') := by
  unfold lkA at hk
  simp only [Bool.and_eq_true] at hk
  rcases hi.2.1 with hv | hv
  · subst hm
    refine zEx.mono (l_go hS0 (by simp only [Bool.and_eq_true]; exact hk.1.1.1) ha hi (lkP_in hk.1.1.2 hv)) (fun v h' hq => ?_)
    obtain ⟨x, e⟩ := lkI_in hk.1.2 hq.2
    exact ⟨x, e, hq.1⟩
  · subst hm1
    refine zEx.mono (l_go hS1 (by simp only [Bool.and_eq_true]; exact hk.2.1.1) (by rw [ha1]; exact ha) hi (lkP_in hk.2.1.2 hv)) (fun v h' hq => ?_)
    obtain ⟨x, e⟩ := lkI_in hk.2.2 hq.2
    exact ⟨x, e, hq.1⟩
theorem l_clsL {m : zM} (hS0 : aSpec wd c0) (hS1 : aSpec wd c1) (hk : (lkA c0 rv0 && lkL c0 && (lkA c1 rv1 && lkL c1)) = true) (hm : c0.1 = m) (hm1 : c1.1 = m) (ha : aArgs vs c0.2.1) (ha1 : c1.2.1 = c0.2.1) (hi : lInv t h) : zCl 1004 m vs h (fun _ h' => lInv t h') := by
  unfold lkA at hk
  simp only [Bool.and_eq_true] at hk
  rcases hi.2.1 with hv | hv
  · subst hm
    refine zEx.mono (l_go hS0 (by simp only [Bool.and_eq_true]; exact hk.1.1.1) ha hi (lkP_in hk.1.1.2 hv)) (fun v h' hq => ?_)
    obtain ⟨x, e⟩ := lkL_in hk.1.2 hq.2
    exact ⟨x, e, hq.1⟩
  · subst hm1
    refine zEx.mono (l_go hS1 (by simp only [Bool.and_eq_true]; exact hk.2.1.1) (by rw [ha1]; exact ha) hi (lkP_in hk.2.1.2 hv)) (fun v h' hq => ?_)
    obtain ⟨x, e⟩ := lkL_in hk.2.2 hq.2
    exact ⟨x, e, hq.1⟩
theorem l_sz (hi : lInv t h) : ∃ s : Nat, s ≤ 1000 ∧ h.2.1 0 1 = nI s ∧ h.2.1 196 2 = nI s := by
  obtain ⟨s, hs, e⟩ := nI_rg (n := 1000) (aLe_in (A := gSeg (wd.2.1 0) 1) (by decide +kernel) (hi.1.2.1 0 1)) (by decide)
  exact ⟨s, hs, e, by rw [← hi.2.2.1]; exact e⟩
theorem sin (hL : L ≤ 3072) {k : Nat} (hk : i + k < L) : zin (nI (i + k)) L = true := zn_in hk (by omega)
theorem sxs (hL : L ≤ 3072) {k : Nat} (hk : i + k < L) : xs (nI (i + k)).toNatClampNeg = xs (i + k) := by rw [nI_clamp (by omega)]
def lIn0 (t : Nat) (h : zH) : Prop := hOK wd h ∧ (lV h rv0 ∨ lV h rv1) ∧ h.2.2.2.2 ≤ t ∧ h.1 = hh_487.1
theorem lInv.up (hi : lInv t h) : lInv (t + 1) h := ⟨hi.1, hi.2.1, hi.2.2.1, Nat.le_succ_of_le hi.2.2.2.1, hi.2.2.2.2⟩
theorem lInv.tp (hi : lInv t h) : lT h := hi.2.2.2.2.2
theorem lIn0.sh (hi : lIn0 t h) {a : Nat} {q : Option (Nat × Nat)} (e : zsh hh_487 a = q) : zsh h a = q := by
  unfold zsh
  rw [hi.2.2.2]
  exact e
theorem lInv.dn (hi : lInv t h) : lIn0 t h := ⟨hi.1, hi.2.1, hi.2.2.2.1, hi.2.2.2.2.1⟩
theorem lIn0.inv (hi : lIn0 t h) (e : h.2.1 0 1 = h.2.1 196 2) (a : lT h) : lInv t h := ⟨hi.1, hi.2.1, e, hi.2.2.1, hi.2.2.2, a⟩
theorem lLoc.st {k : Nat} {v : Int32} (hl : lLoc ls i) (hk : 4 < k) : lLoc (zset1 ls k (.inl v)) i :=
  ⟨zget_s1 hl.1 (by omega) (by simp [zcat]), zget_s1 hl.2.1 (by omega) (by simp [zcat]), zget_s1 hl.2.2.1 (by omega) (by simp [zcat]), zget_s1 hl.2.2.2.1 (by omega) (by simp [zcat]), zget_s1 hl.2.2.2.2 (by omega) (by simp [zcat])⟩
theorem l_decade {x1 x2 : Int32} (hi : lInv t h) : zCi 1004 mX12_decade [.inr (.inr (some 196)), .inl x1, .inl x2] h (fun _ h' => lInv t h') := by
  have key : ∀ c : aCt, aSpec wd c → (lkOk c && lkD c && lkI c) = true → c.1 = mX12_decade → c.2.1 = [.inr (.inl [196]), .inl aTop, .inl aTop] → aPre h c.2.2.1 → zCi 1004 mX12_decade [.inr (.inr (some 196)), .inl x1, .inl x2] h (fun _ h' => lInv t h') := by
    intro c hS hk hm ha hp
    rw [Bool.and_eq_true] at hk
    rw [← hm]
    refine zEx.mono (l_go hS hk.1 (by rw [ha]; exact ⟨⟨196, List.mem_cons_self, rfl⟩, ⟨_, rfl, aIn_top _⟩, ⟨_, rfl, aIn_top _⟩, trivial⟩) hi hp) (fun v h' hq => ?_)
    obtain ⟨x, e⟩ := lkI_in hk.2 hq.2
    exact ⟨x, e, hq.1⟩
  have pre1 : ∀ (a k : Nat) (n : Int), aIn (h.2.1 a k).toInt [(n, n, 1)] → aPre h ([((a, k), [(n, n, 1)])], []) := by
    intro a k n hn
    refine ⟨fun q hq => ?_, fun q hq => nomatch hq⟩
    have e : q = ((a, k), [(n, n, 1)]) := by simpa using hq
    subst e
    exact hn
  have hp : aIn (h.2.1 196 14).toInt [(0, ((1 : Nat) : Int), 1)] := aLe_in (A := gSeg (wd.2.1 196) 14) (by decide +kernel) (hi.1.2.1 196 14)
  obtain ⟨s, hs, e⟩ := nI_rg hp (by decide)
  have hs : s = 0 ∨ s = 1 := by omega
  rcases hs with rfl | rfl
  · exact key ct_1517 S_1517 (by decide +kernel) rfl rfl (pre1 196 14 0 (by rw [e]; exact aR1_in (lo := 0) (hi := 0) (by decide) (by decide)))
  · have hm := hi.1.2.2.2.1 ([((196, 14), [(1, 1, 1)])], ((199, 4), [(1, 7, 1)])) (by decide +kernel) (fun q hq => by
      have eq : q = ((196, 14), [(1, 1, 1)]) := by simpa using (show q ∈ [(((196, 14), [(1, 1, 1)]) : (Nat × Nat) × aI)] from hq)
      subst eq
      rw [e]
      exact aR1_in (lo := 1) (hi := 1) (by decide) (by decide))
    obtain ⟨q, hq, a, b, -⟩ := hm
    have eq : q = (1, 7, 1) := by simpa using hq
    subst eq
    have a : 1 ≤ (h.2.1 199 4).toInt := a
    have b : (h.2.1 199 4).toInt ≤ 7 := b
    have hc : (h.2.1 199 4).toInt = 1 ∨ (h.2.1 199 4).toInt = 2 ∨ (h.2.1 199 4).toInt = 3 ∨ (h.2.1 199 4).toInt = 4 ∨ (h.2.1 199 4).toInt = 5 ∨ (h.2.1 199 4).toInt = 6 ∨ (h.2.1 199 4).toInt = 7 := by omega
    rcases hc with z | z | z | z | z | z | z
    · exact key ct_1543 S_1543 (by decide +kernel) rfl rfl (pre1 199 4 1 (by rw [z]; exact aR1_in (lo := 1) (hi := 1) (by decide) (by decide)))
    · exact key ct_1576 S_1576 (by decide +kernel) rfl rfl (pre1 199 4 2 (by rw [z]; exact aR1_in (lo := 2) (hi := 2) (by decide) (by decide)))
    · exact key ct_1617 S_1617 (by decide +kernel) rfl rfl (pre1 199 4 3 (by rw [z]; exact aR1_in (lo := 3) (hi := 3) (by decide) (by decide)))
    · exact key ct_1666 S_1666 (by decide +kernel) rfl rfl (pre1 199 4 4 (by rw [z]; exact aR1_in (lo := 4) (hi := 4) (by decide) (by decide)))
    · exact key ct_1723 S_1723 (by decide +kernel) rfl rfl (pre1 199 4 5 (by rw [z]; exact aR1_in (lo := 5) (hi := 5) (by decide) (by decide)))
    · exact key ct_1788 S_1788 (by decide +kernel) rfl rfl (pre1 199 4 6 (by rw [z]; exact aR1_in (lo := 6) (hi := 6) (by decide) (by decide)))
    · exact key ct_1861 S_1861 (by decide +kernel) rfl rfl (pre1 199 4 7 (by rw [z]; exact aR1_in (lo := 7) (hi := 7) (by decide) (by decide)))
def fS (s : Nat) : Nat := if s ≤ 980 then s + 20 else s
def fA (s : Nat) : Int32 := if s ≤ 980 then nI (s + 20) else -1
theorem l_feed11 {s : Nat} {x1 x2 x3 x4 x5 : Int32} (hi : lInv t h) (hs : s ≤ 1000) (e1 : h.2.1 0 1 = nI s) (e2 : h.2.1 196 2 = nI s) : zCi 1004 mX11_feed [.inr (.inr (some 0)), .inl x1, .inl x2, .inl x3, .inl x4, .inl x5] h (fun x h' => lIn0 t h' ∧ h'.2.1 196 2 = nI s ∧ h'.2.1 0 1 = nI (fS s) ∧ x = fA s ∧ fdC s x1 x2 x3 x4 x5 h h' ∧ (∀ k, h'.2.1 197 k = h.2.1 197 k)) := by
  have g := S_5 1004 (by decide) [.inr (.inr (some 0)), .inl x1, .inl x2, .inl x3, .inl x4, .inl x5] h ⟨⟨0, List.mem_cons_self, rfl⟩, ⟨_, rfl, aIn_top _⟩, ⟨_, rfl, aIn_top _⟩, ⟨_, rfl, aIn_top _⟩, ⟨_, rfl, aIn_top _⟩, ⟨_, rfl, aIn_top _⟩, trivial⟩ hi.1 ⟨fun q hq => (nomatch hq), fun q hq => (nomatch hq)⟩
  refine zEx.mono (zPa.and (zEx.and g (F_feed11 (d := 1003) (x1 := x1) (x2 := x2) (x3 := x3) (x4 := x4) (x5 := x5) hi.1 e1 hs)) (N_feed11 (x1 := x1) (x2 := x2) (x3 := x3) (x4 := x4) (x5 := x5) hi.1 e1 hs)) (fun v h' hq => ?_)
  obtain ⟨⟨⟨ho, hf, -⟩, hq⟩, hz⟩ := hq
  have hj : lIn0 t h' := ⟨ho, hi.2.1.imp (fun z q hq => (hf.2.2.2.1 _ _ rfl).trans (z q hq)) (fun z q hq => (hf.2.2.2.1 _ _ rfl).trans (z q hq)), by rw [hf.2.1]; exact hi.2.2.2.1, hf.1.trans hi.2.2.2.2.1⟩
  have e3 : h'.2.1 196 2 = nI s := (hf.2.2.1 196 2 (by decide)).trans e2
  have e4 : ∀ k, h'.2.1 197 k = h.2.1 197 k := fun k => hf.2.2.1 197 k (inM_out (by decide))
  rcases hq with ⟨c, a, b⟩ | ⟨c, a, b⟩
  · exact ⟨_, b, hj, e3, by rw [a, fS, if_pos c], by rw [fA, if_pos c], hz, e4⟩
  · exact ⟨_, b, hj, e3, by rw [a, fS, if_neg (by omega)], by rw [fA, if_neg (by omega)], hz, e4⟩
theorem l_feed12 {s : Nat} {x1 x2 x3 x4 x5 : Int32} (hi : lIn0 t h) (hs : s ≤ 1000) (e2 : h.2.1 196 2 = nI s) : zCi 1004 mX12_feed [.inr (.inr (some 196)), .inl x1, .inl x2, .inl x3, .inl x4, .inl x5] h (fun x h' => lIn0 t h' ∧ h'.2.1 0 1 = h.2.1 0 1 ∧ h'.2.1 196 2 = nI (fS s) ∧ x = fA s ∧ fdR s x1 x2 x3 x4 x5 h h' ∧ (∀ k, h'.2.1 1 k = h.2.1 1 k)) := by
  have g := S_650 1004 (by decide) [.inr (.inr (some 196)), .inl x1, .inl x2, .inl x3, .inl x4, .inl x5] h ⟨⟨196, List.mem_cons_self, rfl⟩, ⟨_, rfl, aIn_top _⟩, ⟨_, rfl, aIn_top _⟩, ⟨_, rfl, aIn_top _⟩, ⟨_, rfl, aIn_top _⟩, ⟨_, rfl, aIn_top _⟩, trivial⟩ hi.1 ⟨fun q hq => (nomatch hq), fun q hq => (nomatch hq)⟩
  refine zEx.mono (zPa.and (zEx.and g (F_feed12 (d := 1004) (x1 := x1) (x2 := x2) (x3 := x3) (x4 := x4) (x5 := x5) hi.1 e2 hs)) (N_feed12 (x1 := x1) (x2 := x2) (x3 := x3) (x4 := x4) (x5 := x5) hi.1 e2 hs)) (fun v h' hq => ?_)
  obtain ⟨⟨⟨ho, hf, -⟩, hq⟩, hz⟩ := hq
  have hj : lIn0 t h' := ⟨ho, hi.2.1.imp (fun z q hq => (hf.2.2.2.1 _ _ rfl).trans (z q hq)) (fun z q hq => (hf.2.2.2.1 _ _ rfl).trans (z q hq)), by rw [hf.2.1]; exact hi.2.2.1, hf.1.trans hi.2.2.2⟩
  have e3 : h'.2.1 0 1 = h.2.1 0 1 := hf.2.2.1 0 1 (by decide)
  have e4 : ∀ k, h'.2.1 1 k = h.2.1 1 k := fun k => hf.2.2.1 1 k (inM_out (by decide))
  rcases hq with ⟨c, a, b⟩ | ⟨c, a, b⟩
  · exact ⟨_, b, hj, e3, by rw [a, fS, if_pos c], by rw [fA, if_pos c], hz, e4⟩
  · exact ⟨_, b, hj, e3, by rw [a, fS, if_neg (by omega)], by rw [fA, if_neg (by omega)], hz, e4⟩
/-- both tapes behind feed -/
theorem lT_fed {s : Nat} {g : zH} {x1 x2 x3 x4 x5 : Int32} (hs : s ≤ 1000) (k : lT h) (e2 : h.2.1 196 2 = nI s) (a : fdC s x1 x2 x3 x4 x5 h g) (a2 : ∀ k, g.2.1 197 k = h.2.1 197 k) (b : fdR s x1 x2 x3 x4 x5 g h') (b2 : ∀ k, h'.2.1 1 k = g.2.1 1 k) (e3 : h'.2.1 196 2 = nI (fS s)) : lT h' := by
  intro j hj
  rw [e3] at hj
  unfold fS at hj
  rw [b2]
  have old : j < s → TB (g.2.1 1 j) (h'.2.1 197 j) := fun z => by
    rw [a.1 j z, b.1 j z, a2]
    exact k j (by rw [e2, nI_toInt (by omega)]; omega)
  split at hj
  · next c =>
    rw [nI_toInt (by omega)] at hj
    by_cases z : j < s
    · exact old z
    · obtain ⟨i, rfl⟩ : ∃ i, j = s + i := ⟨j - s, by omega⟩
      rw [a.2 c i (by omega), b.2 c i (by omega)]
      exact tb _ _
  · rw [nI_toInt (by omega)] at hj
    exact old (by omega)
/-- what post says, and what it tells -/
def pOK (x : Int32) (s : Nat) : Prop := 0 ≤ x.toInt ∧ x.toInt ≤ (s : Int)
def pst (y : Nat → Int32) (x : Int32) : sF ⊕ pA := sText y x.toInt.toNat (x.toInt.toNat + 1) pA0 0
theorem pOK.nI {s : Nat} {x : Int32} (hs : s ≤ 1000) (k : pOK x s) : x = nI x.toInt.toNat ∧ x.toInt.toNat ≤ s := by
  have h1 : 0 ≤ x.toInt := k.1
  have h2 : x.toInt ≤ s := k.2
  refine ⟨Int32.toInt_inj.mp ?_, by omega⟩
  rw [nI_toInt (by omega)]
  omega
section PNO
variable {x : Int32} {s d : Nat}
theorem N_no11 (ho : hOK wd h) (ht : h.2.1 0 1 = nI s) (hs : s ≤ 1000) (k : ¬ pOK x s) : zPa d mX11_post [.inr (.inr (some 0)), .inl x] h (fun v h' => v = some (.inl (-1)) ∧ h' = zsI h 0 2 2) := by
  intro N
  have s0 : zsh h 0 = some (11, 16) := ho.1 0 (11, 16) (by decide +kernel)
  have k0 : (0 : Int32).toInt = 0 := by decide
  have e12 : zPn N none d mX11_post (12, [(0, .inr (.inr (some 0))), (1, .inl x)], [], h) (fun v h' => v = some (.inl (-1)) ∧ h' = zsI h 0 2 2) := by
    refine pa_aload_n (pc' := 13) dX11_post_12 rfl rfl ?_
    refine pa_iconst (v := 2) (pc' := 14) dX11_post_13 (by decide) rfl ?_
    refine pa_callv (pc' := 17) (vs := [.inl 2]) (rest := []) dX11_post_14 ml_11_98 (by decide) rfl rfl rfl (fun d' _ => c_ref s0) (fun v g2 hq => ?_)
    obtain ⟨ev, eg⟩ := hq
    subst ev
    exact pa_iret dX11_post_17 rfl rfl ⟨rfl, eg⟩
  show zPn N none d mX11_post (0, [(0, .inr (.inr (some 0))), (1, .inl x)], [], h) _
  refine pa_iload_n (pc' := 1) dX11_post_0 rfl rfl ?_
  refine pa_if (pc' := 12) (pc2 := 4) dX11_post_1 (by decide) rfl (fun c => e12) (fun c => ?_)
  refine pa_iload_n (pc' := 5) dX11_post_4 rfl rfl ?_
  refine pa_aload_n (pc' := 6) dX11_post_5 rfl rfl ?_
  refine pa_getI (pc' := 9) (n := 16) (v := nI s) dX11_post_6 fl_11_13 s0 (by decide) ht rfl ?_
  refine pa_icmp (pc' := 18) (pc2 := 12) dX11_post_9 (by decide) rfl (fun c2 => ?_) (fun c2 => e12)
  have c3 := zi_ngt (zk_le_gt c2)
  rw [nI_toInt (by omega)] at c3
  have c1 := zi_nlt c
  exact absurd ⟨by omega, c3⟩ k
theorem m_good (s196 : zsh h 196 = some (12, 39)) : zPa d mX12_good [.inr (.inr (some 196))] h (fun v h' => v = none ∧ h' = zsI (zsI h 196 0 0) 196 11 0) := by
  intro N
  show zPn N none d mX12_good (0, [(0, .inr (.inr (some 196)))], [], h) _
  refine pa_aload_n (pc' := 1) dX12_good_0 rfl rfl ?_
  refine pa_iconst (v := 0) (pc' := 2) dX12_good_1 (by decide) rfl ?_
  refine pa_putI (pc' := 5) (n := 39) dX12_good_2 fl_12_62 s196 (Or.inl rfl) (Or.inl rfl) rfl ?_
  refine pa_aload_n (pc' := 6) dX12_good_5 rfl rfl ?_
  refine pa_iconst (v := 0) (pc' := 7) dX12_good_6 (by decide) rfl ?_
  refine pa_putI (pc' := 10) (n := 39) dX12_good_7 fl_12_65 s196 (Or.inl rfl) (Or.inl rfl) rfl ?_
  exact pa_vret dX12_good_10 rfl ⟨rfl, rfl⟩
theorem m_no {k : Int32} (s196 : zsh h 196 = some (12, 39)) : zPa d mX12_no [.inr (.inr (some 196)), .inl k] h (fun v h' => v = some (.inl (-1)) ∧ h' = zsI h 196 11 k) := by
  intro N
  show zPn N none d mX12_no (0, [(0, .inr (.inr (some 196))), (1, .inl k)], [], h) _
  refine pa_aload_n (pc' := 1) dX12_no_0 rfl rfl ?_
  refine pa_iload_n (pc' := 2) dX12_no_1 rfl rfl ?_
  refine pa_putI (pc' := 5) (n := 39) dX12_no_2 fl_12_65 s196 (Or.inl rfl) (Or.inl rfl) rfl ?_
  refine pa_iconst (v := (-1)) (pc' := 6) dX12_no_5 (by decide) rfl ?_
  exact pa_iret dX12_no_6 rfl rfl ⟨rfl, rfl⟩
theorem N_post12 (ho : hOK wd h) (e1 : h.1 = hh_487.1) (ht : h.2.1 196 2 = nI s) (hs : s ≤ 1000) {y : Nat → Int32} (hy : ∀ k : Nat, (k : Int) < (nI s).toInt → TB (y k) (h.2.1 197 k)) : zPa (d + 1) mX12_post [.inr (.inr (some 196)), .inl x] h (fun v h' => (¬ pOK x s ∧ v = some (.inl (-1))) ∨ (pOK x s ∧ rtR (pst y x) v h')) := by
  intro N
  have s196 : zsh h 196 = some (12, 39) := ho.1 196 (12, 39) (by decide +kernel)
  show zPn N none (d + 1) mX12_post (0, [(0, .inr (.inr (some 196))), (1, .inl x)], [], h) _
  refine pa_aload_n (pc' := 1) dX12_post_0 rfl rfl ?_
  refine pa_callv (pc' := 4) (vs := []) (rest := []) dX12_post_1 ml_12_167 (by decide) rfl rfl rfl (fun d' _ => m_good s196) (fun v g hq => ?_)
  obtain ⟨er, eg⟩ := hq
  subst er
  have e2 : g.2.1 196 2 = nI s := by rw [eg, zsI_no (by omega), zsI_no (by omega)]; exact ht
  have eg1 : g.1 = h.1 := by rw [eg]; rfl
  have egr : ∀ a k, g.2.2.2.1 a k = h.2.2.2.1 a k := by rw [eg]; exact fun _ _ => rfl
  have e197 : ∀ k, g.2.1 197 k = h.2.1 197 k := fun k => by rw [eg, zsI_no (by omega), zsI_no (by omega)]
  have s196 : zsh g 196 = some (12, 39) := by unfold zsh at *; rw [eg1]; exact s196
  show zPn N none (d + 1) mX12_post (4, [(0, .inr (.inr (some 196))), (1, .inl x)], [], g) _
  refine pa_iload_n (pc' := 5) dX12_post_4 rfl rfl ?_
  refine pa_iconst (v := 0) (pc' := 6) dX12_post_5 (by decide) rfl ?_
  refine pa_aload_n (pc' := 7) dX12_post_6 rfl rfl ?_
  refine pa_getI (pc' := 10) (n := 39) (v := nI s) dX12_post_7 fl_12_68 s196 (by decide) e2 rfl ?_
  refine pa_calls (pc' := 13) (kd := 1) (vs := [.inl x, .inl 0, .inl (nI s)]) (rest := []) dX12_post_10 ml_12_149 (.inl rfl) rfl rfl rfl (fun d' _ => zPa.of in_ex) (fun r h2 hq => ?_)
  obtain ⟨r, er, eh, hq⟩ := hq
  subst er; subst eh
  rw [nI_toInt (by omega)] at hq
  show zPn N none (d + 1) mX12_post (13, [(0, .inr (.inr (some 196))), (1, .inl x)], [.inl r], h2) _
  rcases hq with ⟨e, c⟩ | ⟨e, c⟩
  · subst e
    have c : pOK x s := c
    refine pa_if_t (pc' := 22) dX12_post_13 (by decide) (by decide) ?_
    refine pa_aload_n (pc' := 23) dX12_post_22 rfl rfl ?_
    refine pa_iconst (v := 0) (pc' := 24) dX12_post_23 (by decide) rfl ?_
    refine pa_putI (pc' := 27) (n := 39) dX12_post_24 fl_12_68 s196 (Or.inl rfl) (Or.inl rfl) rfl ?_
    obtain ⟨en, hn⟩ := c.nI hs
    have key := M_text (N := N) (d := d) (n := x.toInt.toNat) (y := y) (h := zsI h2 196 2 0) (eg1.trans e1) (fun a k b hb => (egr a k).trans (ho.2.2.1 a k b hb)) (by omega) (fun k hk => by
      rw [zsI_no (by omega), e197]
      exact hy k (by rw [nI_toInt (by omega)]; omega))
    rw [← en] at key
    exact key.mono (fun v h' hq => .inr ⟨c, hq⟩)
  · subst e
    refine pa_if_f (pc' := 16) dX12_post_13 (by decide) (by decide) rfl ?_
    refine pa_aload_n (pc' := 17) dX12_post_16 rfl rfl ?_
    refine pa_iconst (v := 2) (pc' := 18) dX12_post_17 (by decide) rfl ?_
    refine pa_callv (pc' := 21) (vs := [.inl 2]) (rest := []) dX12_post_18 ml_12_170 (by decide) rfl rfl rfl (fun d' _ => m_no s196) (fun v g2 hq => ?_)
    obtain ⟨ev, -⟩ := hq
    subst ev
    exact pa_iret dX12_post_21 rfl rfl (.inl ⟨c, rfl⟩)
end PNO
/-- post's answer -/
def pAn (y : Nat → Int32) (x : Int32) (s : Nat) (v : Int32) : Prop := (¬ pOK x s ∧ v = -1) ∨ (pOK x s ∧ v = match pst y x with | .inl _ => -1 | .inr A => nI (cI A))
theorem pAn.eq {y : Nat → Int32} {x v w : Int32} {s : Nat} (a : pAn y x s v) (b : pAn y x s w) : v = w := by
  rcases a with ⟨a1, a2⟩ | ⟨a1, a2⟩ <;> rcases b with ⟨b1, b2⟩ | ⟨b1, b2⟩
  · rw [a2, b2]
  · exact absurd b1 a1
  · exact absurd a1 b1
  · rw [a2, b2]
theorem l_post11 {s : Nat} {x : Int32} (hi : lInv t h) (hs : s ≤ 1000) (e1 : h.2.1 0 1 = nI s) (e2 : h.2.1 196 2 = nI s) : zCi 1004 mX11_post [.inr (.inr (some 0)), .inl x] h (fun v h' => lIn0 t h' ∧ h'.2.1 196 2 = nI s ∧ h'.2.1 0 1 = pSz x s ∧ pAn (h.2.1 1) x s v ∧ ((∀ k, h'.2.1 197 k = h.2.1 197 k) ∧ (¬ pOK x s → ∀ k, h'.2.1 1 k = h.2.1 1 k))) := by
  have fin : ∀ {c : Nat} {P : Option zV → zH → Prop}, (pOK x s → zPa 1004 mX11_post [.inr (.inr (some 0)), .inl x] h (pcR c (pst (h.2.1 1) x))) → zPa 1004 mX11_post [.inr (.inr (some 0)), .inl x] h (fun v h' => ∀ w, v = some (.inl w) → pAn (h.2.1 1) x s w ∧ (¬ pOK x s → ∀ k, h'.2.1 1 k = h.2.1 1 k)) := by
    intro c _ hp
    by_cases k : pOK x s
    · refine (hp k).mono (fun v h' hq w ew => ⟨.inr ⟨k, ?_⟩, fun z => absurd k z⟩)
      unfold pcR at hq
      split at hq
      · next e er =>
        have := hq.1.symm.trans ew
        rw [er]
        cases this
        rfl
      · next A er =>
        have := hq.1.symm.trans ew
        rw [er]
        cases this
        rfl
    · refine (N_no11 hi.1 e1 hs k).mono (fun v h' hq w ew => ⟨.inl ⟨k, ?_⟩, fun _ j => ?_⟩)
      · have := hq.1.symm.trans ew
        cases this
        rfl
      · rw [hq.2]
        exact zsI_no (by omega)
  rcases hi.2.1 with hv | hv
  · refine zEx.mono (zPa.and (P_post11_0 (d := 1003) (x := x) hi.1 hv e1 hs (by decide)) (fin (c := 42) (P := fun _ _ => True) (fun k => ?_))) (fun v h' hq => ?_)
    · obtain ⟨en, hn⟩ := k.nI hs
      have := N_post11_0 (d := 1003) (n := x.toInt.toNat) hi.1 hi.2.2.2.2.1 hv e1 hs hn (by decide)
      rw [← en] at this
      exact this
    · obtain ⟨⟨⟨y, e⟩, ho, a, b, c, f, g, fr⟩, hq⟩ := hq
      obtain ⟨q1, q2⟩ := hq y e
      exact ⟨y, e, ⟨ho, f, by rw [b]; exact hi.2.2.2.1, a.trans hi.2.2.2.2.1⟩, c.trans e2, g, q1, fun k => fr 197 k (by decide), q2⟩
  · refine zEx.mono (zPa.and (P_post11_1 (d := 1003) (x := x) hi.1 hv e1 hs (by decide)) (fin (c := 2) (P := fun _ _ => True) (fun k => ?_))) (fun v h' hq => ?_)
    · obtain ⟨en, hn⟩ := k.nI hs
      have := N_post11_1 (d := 1003) (n := x.toInt.toNat) hi.1 hi.2.2.2.2.1 hv e1 hs hn (by decide)
      rw [← en] at this
      exact this
    · obtain ⟨⟨⟨y, e⟩, ho, a, b, c, f, g, fr⟩, hq⟩ := hq
      obtain ⟨q1, q2⟩ := hq y e
      exact ⟨y, e, ⟨ho, f, by rw [b]; exact hi.2.2.2.1, a.trans hi.2.2.2.2.1⟩, c.trans e2, g, q1, fun k => fr 197 k (by decide), q2⟩
theorem l_post12 {s : Nat} {x : Int32} {y : Nat → Int32} (hi : lIn0 t h) (hs : s ≤ 1000) (e2 : h.2.1 196 2 = nI s) (hy : ∀ k : Nat, (k : Int) < (nI s).toInt → TB (y k) (h.2.1 197 k)) : zCi 1004 mX12_post [.inr (.inr (some 196)), .inl x] h (fun v h' => lIn0 t h' ∧ h'.2.1 0 1 = h.2.1 0 1 ∧ h'.2.1 196 2 = pSz x s ∧ pAn y x s v ∧ (¬ pOK x s → (∀ k, h'.2.1 1 k = h.2.1 1 k) ∧ ∀ k, h'.2.1 197 k = h.2.1 197 k)) := by
  refine zEx.mono (zPa.and (P_post12 (d := 1003) (x := x) hi.1 e2 hs (by decide)) (N_post12 (d := 1003) (x := x) (y := y) hi.1 hi.2.2.2 e2 hs hy)) (fun v h' hq => ?_)
  obtain ⟨⟨⟨w, e⟩, ho, a, b, c, f, g, fr⟩, hq⟩ := hq
  refine ⟨w, e, ⟨ho, hi.2.1.imp (fun z q hq => (f _ _).trans (z q hq)) (fun z q hq => (f _ _).trans (z q hq)), by rw [b]; exact hi.2.2.1, a.trans hi.2.2.2⟩, c, g, ?_, fun _ => ⟨fun k => fr 1 k (by decide), fun k => fr 197 k (by decide)⟩⟩
  subst e
  rcases hq with ⟨k, ev⟩ | ⟨k, hq⟩
  · cases ev
    exact .inl ⟨k, rfl⟩
  · refine .inr ⟨k, ?_⟩
    unfold rtR at hq
    split at hq
    · next e er =>
      rw [er]
      cases hq.1
      rfl
    · next A er =>
      rw [er]
      cases hq.1
      rfl
/-- both tapes behind post -/
theorem lT_post {s : Nat} {x : Int32} {g : zH} (k : lT h) (e2 : h.2.1 196 2 = nI s) (a : (∀ k, g.2.1 197 k = h.2.1 197 k) ∧ (¬ pOK x s → ∀ k, g.2.1 1 k = h.2.1 1 k)) (b : ¬ pOK x s → (∀ k, h'.2.1 1 k = g.2.1 1 k) ∧ ∀ k, h'.2.1 197 k = g.2.1 197 k) (e3 : h'.2.1 196 2 = pSz x s) : lT h' := by
  intro j hj
  rw [e3] at hj
  unfold pSz at hj
  split at hj
  · have : (0 : Int32).toInt = 0 := by decide
    omega
  · next c =>
    rw [(b c).1, (b c).2, a.1, a.2 c]
    exact k j (by rw [e2]; exact hj)
theorem l_led {x : Int32} (hi : lInv t h) (ht : t < 1000) : zCt 1004 zledM [.inr (.inr (some 0)), .inl x] h (fun v h' => (∃ b : Int32, v = some (.inl b) ∧ lInv (t + 1) h') ∨ ((∃ y : Int64, v = some (.inr (.inl y))) ∧ lInv (t + 1) h')) := by
  have hr : h.2.2.2.1 0 3 = some 2 ∨ h.2.2.2.1 0 3 = some 42 := hi.2.1.imp (fun z => z ((0, 3), 2) List.mem_cons_self) (fun z => z ((0, 3), 42) List.mem_cons_self)
  refine zEx.mono (S_led (d := 1003) (x := x) hi.1 hr (Nat.lt_of_le_of_lt hi.2.2.2.1 ht)) (fun v h' hq => ?_)
  have kp : ∀ g, ldS h g → lInv t g := fun g hg => ⟨hg.1, hi.2.1.imp (fun z q hq => (hg.2.2.2.1 _ _).trans (z q hq)) (fun z q hq => (hg.2.2.2.1 _ _).trans (z q hq)), by rw [hg.2.2.1, hg.2.2.1]; exact hi.2.2.1, by rw [hg.2.2.2.2]; exact hi.2.2.2.1, hg.2.1.trans hi.2.2.2.2.1, hi.tp.fr (hg.2.2.1 _ _) (fun k => hg.2.2.1 _ _) (fun k => hg.2.2.1 _ _)⟩
  rcases hq with ⟨b, e, hg⟩ | ⟨e, g, hg, eg⟩
  · exact .inl ⟨b, e, (kp _ hg).up⟩
  · have k := kp g hg
    subst eg
    exact .inr ⟨⟨-1, e⟩, k.1, k.2.1, k.2.2.1, Nat.succ_le_succ k.2.2.2.1, k.2.2.2.2⟩
theorem ex_led {scr : Option (Nat × (Nat → Int32))} {d pc pc' : Nat} {m : zM} {Q : Option zV → zH → Prop} {Qc : Option zV → zH → Prop} {k na a o : Nat} {cm : zM} {p : Int32} {rest : List zV} (hd : decode m.1 pc = .ok (.invokestatic k, 3)) (hz : zmth m.2.1 k = some (16, na, cm)) (hsc : scr.isSome = true) (hw : zwd rest ≤ 8 ∧ zsh h a = some (11, 16) ∧ zsh h o = some (15, 1) ∧ h.2.2.2.2 < 1000) (hp : pc + 3 = pc')
    (hc : zCt d zledM [.inr (.inr (some a)), .inl p] h Qc) (kk : ∀ v h', Qc v h' → (∃ b : Int32, v = some (.inl b) ∧ zEx scr (d + 1) m (pc', ls, .inl 0 :: rest, zsL h' o 0 b.toInt64) Q) ∨ ((∃ y : Int64, v = some (.inr (.inl y))) ∧ zEx scr (d + 1) m (pc', ls, .inl 1 :: rest, h') Q)) : zEx scr (d + 1) m (pc, ls, .inr (.inr (some o)) :: .inl p :: .inr (.inr (some a)) :: rest, h) Q := by
  obtain ⟨n1, r, h1, a1, hq⟩ := hc
  have hgo : ∀ (n2 : Nat) (g : zC), (∀ n, n1 ≤ n → zled (zcf n (d + 1)) pc ls (.inr (.inr (some o)) :: .inl p :: .inr (.inr (some a)) :: rest) h = some (.inl g)) → zEx scr (d + 1) m g Q → zEx scr (d + 1) m (pc, ls, .inr (.inr (some o)) :: .inl p :: .inr (.inr (some a)) :: rest, h) Q := by
    intro _ g hg ⟨n2, v, h', b1, b2⟩
    refine ⟨max n1 n2 + 1, v, h', ?_, b2⟩
    rw [zrun_succ]
    have hs : zstep scr (zcf (max n1 n2) (d + 1)) (decide (0 < d + 1)) m (pc, ls, .inr (.inr (some o)) :: .inl p :: .inr (.inr (some a)) :: rest, h) = some (.inl g) := by
      unfold zstep
      rw [hd]
      dsimp only
      have hl : zilen (.invokestatic k) = 0 ∨ 3 = zilen (.invokestatic k) := Or.inr rfl
      rw [if_pos hl]
      have e : decide (0 < d + 1) = true := by simp
      rw [e]
      simp only [zexec, hz]
      rw [if_neg (by decide), if_pos trivial, if_pos ⟨hsc, trivial⟩]
      exact hg _ (Nat.le_max_left _ _)
    rw [hs]
    exact zrun_le (Nat.le_max_right _ _) b1
  have hcf : ∀ n, n1 ≤ n → zcf n (d + 1) zledM [.inr (.inr (some a)), .inl p] h = some (r, h1) := by
    intro n hn
    unfold zcf
    dsimp only
    rw [if_pos (zble rfl)]
    exact zrun_le hn a1
  rcases kk r h1 hq with ⟨b, e, kz⟩ | ⟨⟨y, e⟩, kz⟩
  · subst e
    refine hgo 0 _ (fun n hn => ?_) kz
    unfold zled
    dsimp only
    rw [if_pos hw, hcf n hn, ← hp]
  · subst e
    refine hgo 0 _ (fun n hn => ?_) kz
    unfold zled
    dsimp only
    rw [if_pos hw, hcf n hn, ← hp]
end HLW
