section Pk0
/-! send: nodes, and heardNow in the small world -/
set_option maxRecDepth 100000 in
theorem btX12_send : bTab oX12_send tX12_send := ⟨ofX12_send, by decide +kernel⟩
def ct_send : aCt := (mX12_send, [.inr (.inl [196]), .inl aTop, .inl aTop], ([], []), [(some (.inl [(0, 2147483647, 1)]), [], [((196, 11), [(0, 0, 1)]), ((196, 14), [(1, 1, 1)]), ((196, 20), [(1, 12, 1)]), ((199, 0), [(2, 4, 1)]), ((199, 4), [(1, 7, 1)]), ((199, 6), [(1, 5, 1)]), ((199, 7), [(1, 8, 1)])], []), (some (.inl [(-1, -1, 1)]), [], [((196, 11), [(1, 1, 1), (5, 5, 1)])], [])], [(196, 0, 1), (196, 11, 12), (196, 20, 21), (196, 26, 28), (201, 2, 28), (202, 0, 912), (205, 0, 7), (206, 0, 7)], [], 9)
def lk_send : aLk := [(167, 0, 1, ct_447), (424, 0, 1, ct_X12_note1_0), (170, 0, 2, ct_908), (170, 0, 2, ct_1262), (274, 0, 2, ct_1028), (268, 0, 2, ct_904)]
theorem lh_send : aLkH wd ct_send lk_send := List.forall_mem_cons.mpr ⟨⟨ml_12_167, S_447⟩, List.forall_mem_cons.mpr ⟨⟨ml_12_424, S_X12_note1_0⟩, List.forall_mem_cons.mpr ⟨⟨ml_12_170, S_908⟩, List.forall_mem_cons.mpr ⟨⟨ml_12_170, S_1262⟩, List.forall_mem_cons.mpr ⟨⟨ml_12_274, S_1028⟩, List.forall_mem_cons.mpr ⟨⟨ml_12_268, S_904⟩, fun _ h => nomatch h⟩⟩⟩⟩⟩⟩
def ct_lays0 (b : Int) : aCt := (mX12_lays, [.inr (.inl [196]), .inl [(0, 4, 1)], .inl [(b, b, 1)]], ([((199, 0), [(2, 4, 1)]), ((199, 4), [(1, 7, 1)]), ((199, 6), [(1, 5, 1)]), ((199, 7), [(1, 8, 1)])], []), [(some (.inl [(0, 0, 1)]), [], [], [])], [(196, 26, 28), (205, 0, 7), (206, 0, 7)], [], 7)
def lk_lays0 : aLk := [(271, 0, 3, ct_1029), (262, 0, 3, ct_1031)]
theorem lh_lays0 (b : Int) : aLkH wd (ct_lays0 b) lk_lays0 := List.forall_mem_cons.mpr ⟨⟨ml_12_271, S_1029⟩, List.forall_mem_cons.mpr ⟨⟨ml_12_262, S_1031⟩, fun _ h => nomatch h⟩⟩
def n26 : aNd := (26, [(0, .inr (.inl [196])), (1, .inl [(0, 4, 1)]), (2, .inl [(0, 7, 1)])], [], [((196, 11), [(0, 0, 1)]), ((196, 14), [(1, 1, 1)]), ((199, 0), [(2, 4, 1)]), ((199, 4), [(1, 7, 1)]), ((199, 6), [(1, 5, 1)]), ((199, 7), [(1, 8, 1)])], [], (0, []))
def n37 : aNd := (37, [(0, .inr (.inl [196])), (1, .inl [(0, 4, 1)]), (2, .inl [(0, 7, 1)]), (3, .inl aTop)], [], [((196, 11), [(0, 0, 1)]), ((196, 14), [(1, 1, 1)]), ((199, 0), [(2, 4, 1)]), ((199, 4), [(1, 7, 1)]), ((199, 6), [(1, 5, 1)]), ((199, 7), [(1, 8, 1)])], [], (1, []))
def n48 : aNd := (48, [(0, .inr (.inl [196])), (1, .inl [(0, 4, 1)]), (2, .inl [(0, 7, 1)]), (3, .inl [(0, 2147483647, 1)])], [.inl [(0, 6, 1)]], [((196, 11), [(0, 0, 1)]), ((196, 14), [(1, 1, 1)]), ((199, 0), [(2, 4, 1)]), ((199, 4), [(1, 7, 1)]), ((199, 6), [(1, 5, 1)]), ((199, 7), [(1, 8, 1)])], [], (1, []))
def n29 (b : Int) : aNd := (29, [(0, .inr (.inl [196])), (1, .inl [(0, 4, 1)]), (2, .inl [(b, b, 1)]), (3, .inl [(0, 3, 1)]), (4, .inl [(3, 3, 1), (9, 9, 1), (99, 99, 1)])], [], [((199, 0), [(2, 4, 1)]), ((199, 4), [(1, 7, 1)]), ((199, 6), [(1, 5, 1)]), ((199, 7), [(1, 8, 1)])], [], (0, []))
def n36 (b : Int) : aNd := (36, [(0, .inr (.inl [196])), (1, .inl [(0, 4, 1)]), (2, .inl [(b, b, 1)]), (3, .inl [(0, 3, 1)]), (4, .inl [(3, 3, 1), (9, 9, 1), (99, 99, 1)]), (5, .inl [(-2, -2, 1)])], [], [((199, 0), [(2, 4, 1)]), ((199, 4), [(1, 7, 1)]), ((199, 6), [(1, 5, 1)]), ((199, 7), [(1, 8, 1)])], [], (1, []))
set_option maxRecDepth 100000 in
theorem kE_send : aSgk wd ct_send lk_send oX12_send [] 3000 [nd0 n26] (aEnt ct_send (1, [])) = true := by decide +kernel
set_option maxRecDepth 100000 in
theorem k_n37 : aSgk wd ct_send lk_send oX12_send [] 3000 [] n37 = true := by decide +kernel
set_option maxRecDepth 100000 in
theorem k_n48 : aSgk wd ct_send lk_send oX12_send [] 3000 [] n48 = true := by decide +kernel
set_option maxRecDepth 100000 in
theorem kE_lays0 : ([0, 1, 2, 3, 4, 5, 6, 7] : List Int).all (fun b => aSgk wd (ct_lays0 b) lk_lays0 oX12_lays [] 3000 [nd0 (n29 b)] (aEnt (ct_lays0 b) (1, []))) = true := by decide +kernel
set_option maxRecDepth 100000 in
theorem k_n36 : ([0, 1, 2, 3, 4, 5, 6, 7] : List Int).all (fun b => aSgk wd (ct_lays0 b) lk_lays0 oX12_lays [] 3000 [] (n36 b)) = true := by decide +kernel
def ct_bo : aCt := ct_1037
theorem S_bo : aSpec wd ct_bo := S_1037
def ct_la : aCt := ct_1035
theorem S_la : aSpec wd ct_la := S_1035
def wo : aWd := (fun a => bif (Nat.beq a 196 || (Nat.beq a 199 || Nat.beq a 201)) then wSh[a]? else none, wd.2.1, wd.2.2.1, wd.2.2.2)
def ct_o0 : aCt := (mX12_songLong, [.inr (.inl [196]), .inl [(0, 6, 1)]], ([], []), [(some (.inl [(0, 6, 1)]), [], [], [])], [], [], 0)
set_option maxRecDepth 100000 in
theorem S_o0 : aSpec wo ct_o0 := aChk_ok (lk := []) (cd := oX12_songLong) (nds := []) (fk := []) (rk := (1, [])) (fuel := 3000) (by decide +kernel) (fun _ h => nomatch h) odX12_songLong
def ct_o1 : aCt := (mX12_ofBox, [.inr (.inl [196]), .inl [(0, 7, 1)], .inl [(1, 1, 1)]], ([((199, 0), [(2, 4, 1)]), ((199, 4), [(1, 7, 1)])], []), [(some (.inl [(0, 6, 1)]), [], [], [])], [], [], 0)
set_option maxRecDepth 100000 in
theorem S_o1 : aSpec wo ct_o1 := aChk_ok (lk := []) (cd := oX12_ofBox) (nds := []) (fk := []) (rk := (1, [])) (fuel := 3000) (by decide +kernel) (fun _ h => nomatch h) odX12_ofBox
def ct_o2 : aCt := (mX12_boxLong, [.inr (.inl [196]), .inl [(0, 7, 1)]], ([((199, 0), [(2, 4, 1)]), ((199, 4), [(1, 7, 1)])], []), [(some (.inl [(0, 6, 1)]), [], [], [])], [], [], 1)
set_option maxRecDepth 100000 in
theorem S_o2 : aSpec wo ct_o2 := aChk_ok (lk := [(265, 0, 2, ct_o0), (262, 0, 3, ct_o1)]) (cd := oX12_boxLong) (nds := []) (fk := [7]) (rk := (1, [])) (fuel := 3000) (by decide +kernel) (List.forall_mem_cons.mpr ⟨⟨ml_12_265, S_o0⟩, List.forall_mem_cons.mpr ⟨⟨ml_12_262, S_o1⟩, fun _ h => nomatch h⟩⟩) odX12_boxLong
def ct_o3 : aCt := (mX12_ofBox, [.inr (.inl [196]), .inl [(0, 7, 1)], .inl [(1, 1, 1)]], ([((199, 0), [(2, 4, 1)])], []), [(some (.inl [(0, 6, 1)]), [], [], [])], [], [], 0)
set_option maxRecDepth 100000 in
theorem S_o3 : aSpec wo ct_o3 := aChk_ok (lk := []) (cd := oX12_ofBox) (nds := []) (fk := []) (rk := (1, [])) (fuel := 3000) (by decide +kernel) (fun _ h => nomatch h) odX12_ofBox
def ct_o4 : aCt := (mX12_boxLong, [.inr (.inl [196]), .inl [(0, 7, 1)]], ([((199, 0), [(2, 4, 1)])], []), [(some (.inl [(0, 6, 1)]), [], [], [])], [], [], 1)
set_option maxRecDepth 100000 in
theorem S_o4 : aSpec wo ct_o4 := aChk_ok (lk := [(265, 0, 2, ct_o0), (262, 0, 3, ct_o3)]) (cd := oX12_boxLong) (nds := []) (fk := [7]) (rk := (1, [])) (fuel := 3000) (by decide +kernel) (List.forall_mem_cons.mpr ⟨⟨ml_12_265, S_o0⟩, List.forall_mem_cons.mpr ⟨⟨ml_12_262, S_o3⟩, fun _ h => nomatch h⟩⟩) odX12_boxLong
def ct_o5 : aCt := (mX12_noteIn, [.inr (.inl [196]), .inl [(0, 6, 1)], .inl [(0, 5, 1)], .inl [(0, 10098, 1)]], ([((199, 0), [(2, 4, 1)])], []), [(some (.inl [(-3, 3, 1)]), [], [], [])], [], [], 0)
set_option maxRecDepth 100000 in
theorem S_o5 : aSpec wo ct_o5 := aChk_ok (lk := []) (cd := oX12_noteIn) (nds := []) (fk := []) (rk := (1, [])) (fuel := 3000) (by decide +kernel) (fun _ h => nomatch h) odX12_noteIn
def ct_o6 : aCt := (mX12_unlike, [.inr (.inl [196]), .inl [(0, 7, 1)], .inl [(0, 6, 1)], .inl [(0, 10098, 1)], .inl [(-1, 5, 1)], .inl [(0, 3, 1)]], ([((199, 0), [(2, 4, 1)])], []), [(some (.inl aTop), [], [], [])], [], [], 2)
set_option maxRecDepth 100000 in
theorem S_o6 : aSpec wo ct_o6 := aChk_ok (lk := [(284, 0, 2, ct_o4), (280, 0, 4, ct_o5)]) (cd := oX12_unlike) (nds := [(6, [(0, .inr (.inl [196])), (1, .inl [(0, 7, 1)]), (2, .inl [(0, 6, 1)]), (3, .inl [(0, 10098, 1)]), (4, .inl [(-1, 5, 1)]), (5, .inl [(0, 3, 1)]), (6, .inl aTop), (7, .inl [(0, 6, 1)])], [], [((199, 0), [(2, 4, 1)])], [], (6, [(6, -1)]))]) (fk := []) (rk := (7, [])) (fuel := 3000) (by decide +kernel) (List.forall_mem_cons.mpr ⟨⟨ml_12_284, S_o4⟩, List.forall_mem_cons.mpr ⟨⟨ml_12_280, S_o5⟩, fun _ h => nomatch h⟩⟩) odX12_unlike
def ct_o7 : aCt := (mX12_hearsIn, [.inr (.inl [196]), .inl [(0, 7, 1)], .inl [(0, 10098, 1)], .inl [(-1, 5, 1)], .inl [(0, 3, 1)]], ([((199, 0), [(2, 4, 1)])], []), [(some (.inl [(-2, -2, 1), (0, 6, 1)]), [], [], []), (some (.inl [(-2, -2, 1)]), [], [], [])], [], [], 3)
set_option maxRecDepth 100000 in
theorem S_o7 : aSpec wo ct_o7 := aChk_ok (lk := [(265, 0, 2, ct_o0), (284, 0, 2, ct_o2), (287, 0, 6, ct_o6)]) (cd := oX12_hearsIn) (nds := [(11, [(0, .inr (.inl [196])), (1, .inl [(0, 7, 1)]), (2, .inl [(0, 10098, 1)]), (3, .inl [(-1, 5, 1)]), (4, .inl [(0, 3, 1)]), (5, .inl [(-2, -2, 1), (0, 6, 1)]), (6, .inl [(-2147483648, 7, 1)]), (7, .inl [(0, 7, 1)])], [], [((199, 0), [(2, 4, 1)])], [], (7, [(6, -1)]))]) (fk := []) (rk := (8, [])) (fuel := 3000) (by decide +kernel) (List.forall_mem_cons.mpr ⟨⟨ml_12_265, S_o0⟩, List.forall_mem_cons.mpr ⟨⟨ml_12_284, S_o2⟩, List.forall_mem_cons.mpr ⟨⟨ml_12_287, S_o6⟩, fun _ h => nomatch h⟩⟩⟩) odX12_hearsIn
def ct_o8 : aCt := (mX12_heardNow, [.inr (.inl [196]), .inl [(0, 7, 1)]], ([((199, 0), [(2, 4, 1)]), ((199, 4), [(1, 7, 1)]), ((199, 6), [(1, 5, 1)]), ((199, 7), [(1, 8, 1)])], []), [(some (.inl [(-2, -2, 1), (0, 6, 1)]), [], [], []), (some (.inl [(-2, -2, 1)]), [], [], [])], [], [], 4)
set_option maxRecDepth 100000 in
theorem S_o8 : aSpec wo ct_o8 := aChk_ok (lk := [(291, 0, 5, ct_o7)]) (cd := oX12_heardNow) (nds := []) (fk := []) (rk := (1, [])) (fuel := 3000) (by decide +kernel) (List.forall_mem_cons.mpr ⟨⟨ml_12_291, S_o7⟩, fun _ h => nomatch h⟩) odX12_heardNow

def ct_hn : aCt := ct_o8
theorem S_hno : aSpec wo ct_hn := S_o8
-- heardNow: (mX12_heardNow, [.inr (.inl [196]), .inl [(0, 7, 1)]], ([((199, 0), [(2, 4, 1)]), ((199, 4), [(1, 7, 1)]), ((199, 6), [(1, 5, 1)]), ((199, 7), [(1, 8, 1)])], []), [(some (.inl [(-2, -2, 1), (0, 6, 1)]), [], [], []), (some (.inl [(-2, -2, 1)]), [], [], [])], [], [], 4)
-- bringsOf: (mX12_bringsOf, [.inr (.inl [196]), .inl [(0, 4, 1)], .inl [(0, 7, 1)]], ([((199, 0), [(2, 4, 1)]), ((199, 4), [(1, 7, 1)]), ((199, 6), [(1, 5, 1)]), ((199, 7), [(1, 8, 1)])], []), [(some (.inl aTop), [], [], []), (some (.inl [(-2, -2, 1)]), [], [], [])], [(196, 26, 28), (205, 0, 7), (206, 0, 7)], [], 8)
-- lays: (mX12_lays, [.inr (.inl [196]), .inl [(0, 4, 1)], .inl [(0, 7, 1)]], ([((199, 0), [(2, 4, 1)]), ((199, 4), [(1, 7, 1)]), ((199, 6), [(1, 5, 1)]), ((199, 7), [(1, 8, 1)])], []), [(some (.inl [(0, 0, 1)]), [], [], []), (some (.inl [(1, 1, 1)]), [], [], [])], [(196, 26, 28), (205, 0, 7), (206, 0, 7)], [], 7)
end Pk0
section Pk1
/-! send: what heardNow answers is the same behind bringsOf -/
def gOo (h : zH) : zH := ((h.1.1, (fun a => bif (Nat.beq a 196 || (Nat.beq a 199 || Nat.beq a 201)) then h.1.2.1 a else (99, 0)), h.1.2.2), h.2)
theorem gO_sh {h : zH} {a : Nat} {q : Nat × Nat} (ha : (Nat.beq a 196 || (Nat.beq a 199 || Nat.beq a 201)) = true) (hz : zsh h a = some q) : zsh (gOo h) a = some q := by
  unfold zsh at hz ⊢
  show (if a < h.1.1 then some (bif (Nat.beq a 196 || (Nat.beq a 199 || Nat.beq a 201)) then h.1.2.1 a else (99, 0)) else none) = some q
  rw [ha]
  exact hz
theorem hOK_o {h : zH} (ho : hOK wd h) : hOK wo (gOo h) := by
  refine ⟨fun a q hq => ?_, ho.2.1, ho.2.2.1, ho.2.2.2.1, ho.2.2.2.2⟩
  have hq : (bif (Nat.beq a 196 || (Nat.beq a 199 || Nat.beq a 201)) then wSh[a]? else none) = some q := hq
  cases e : (Nat.beq a 196 || (Nat.beq a 199 || Nat.beq a 201)) with
  | false => rw [e] at hq; cases hq
  | true =>
    rw [e] at hq
    exact gO_sh e (ho.1 a q hq)
theorem lkR_o {h h2 : zH} (ho : hOK wd h) (e1 : h2.1 = h.1) (e9 : ∀ k, h2.2.1 199 k = h.2.1 199 k) (e0 : ∀ k, h2.2.1 201 k = h.2.1 201 k) (er : ∀ a k, h2.2.2.2.1 a k = h.2.2.2.1 a k) : lkR (gOo h) h2 := by
  have sh : ∀ a k n, zsh (gOo h) a = some (k, n) → k ≠ 99 → (Nat.beq a 196 || (Nat.beq a 199 || Nat.beq a 201)) = true ∧ zsh h a = some (k, n) := by
    intro a k n hz hk
    have hz : (if a < h.1.1 then some (bif (Nat.beq a 196 || (Nat.beq a 199 || Nat.beq a 201)) then h.1.2.1 a else (99, 0)) else none) = some (k, n) := hz
    split at hz
    · next hl =>
      cases e : (Nat.beq a 196 || (Nat.beq a 199 || Nat.beq a 201)) with
      | false =>
        rw [e] at hz
        have hz : (99, 0) = (k, n) := Option.some.inj hz
        exact absurd (congrArg Prod.fst hz).symm hk
      | true =>
        rw [e] at hz
        refine ⟨rfl, ?_⟩
        unfold zsh
        rw [if_pos hl]
        exact hz
    · cases hz
  refine ⟨by rw [e1]; rfl, fun a k n hz hk => ?_, fun a n hz => ?_, er⟩
  · have := (sh a k n hz hk).2
    unfold zsh at this ⊢
    rw [e1]
    exact this
  · obtain ⟨q1, q2⟩ := sh a 14 n hz (by decide)
    simp only [Bool.or_eq_true, Nat.beq_eq] at q1
    rcases q1 with q | q | q
    · subst q
      have := (ho.1 196 (12, 39) (by decide +kernel)).symm.trans q2
      exact absurd (show (12 : Nat) = 14 from congrArg Prod.fst (Option.some.inj this)) (by decide)
    · subst q; exact funext e9
    · subst q; exact funext e0
def fO (m : zM) : Prop := m = mX12_heardNow ∨ m = mX12_hearsIn ∨ m = mX12_unlike ∨ m = mX12_noteIn ∨ m = mX12_boxLong ∨ m = mX12_songLong ∨ m = mX12_ofBox
def kO : List Nat := [262, 265, 280, 284, 287, 291]
theorem fO_T : ∀ m, fO m → m.2.1 = 12 ∧ ∃ S : aCd, (∀ q ∈ S, decode m.1 q.1 = .ok (q.2.1, q.2.2)) ∧ aClo kO 12 S = true := by
  intro m hm
  rcases hm with e | e | e | e | e | e | e <;> subst e
  · exact ⟨rfl, _, odX12_heardNow, by decide +kernel⟩
  · exact ⟨rfl, _, odX12_hearsIn, by decide +kernel⟩
  · exact ⟨rfl, _, odX12_unlike, by decide +kernel⟩
  · exact ⟨rfl, _, odX12_noteIn, by decide +kernel⟩
  · exact ⟨rfl, _, odX12_boxLong, by decide +kernel⟩
  · exact ⟨rfl, _, odX12_songLong, by decide +kernel⟩
  · exact ⟨rfl, _, odX12_ofBox, by decide +kernel⟩
theorem fO_K : ∀ k ∈ kO, ∃ na cm, zmth 12 k = some (0, na, cm) ∧ cm.2.1 < 13 ∧ fO cm := by
  refine List.forall_mem_cons.mpr ⟨⟨_, _, ml_12_262, by decide, ?_⟩, List.forall_mem_cons.mpr ⟨⟨_, _, ml_12_265, by decide, ?_⟩, List.forall_mem_cons.mpr ⟨⟨_, _, ml_12_280, by decide, ?_⟩, List.forall_mem_cons.mpr ⟨⟨_, _, ml_12_284, by decide, ?_⟩, List.forall_mem_cons.mpr ⟨⟨_, _, ml_12_287, by decide, ?_⟩, List.forall_mem_cons.mpr ⟨⟨_, _, ml_12_291, by decide, ?_⟩, fun _ h => nomatch h⟩⟩⟩⟩⟩⟩
  · exact .inr (.inr (.inr (.inr (.inr (.inr rfl)))))
  · exact .inr (.inr (.inr (.inr (.inr (.inl rfl)))))
  · exact .inr (.inr (.inr (.inl rfl)))
  · exact .inr (.inr (.inr (.inr (.inl rfl))))
  · exact .inr (.inr (.inl rfl))
  · exact .inr (.inl rfl)
/-- what heardNow answers, in each heap that agrees -/
theorem hn_val {h : zH} {b : Int32} (ho : hOK wd h) (hp : aPre h ct_hn.2.2.1) (hb : aIn b.toInt [(0, 7, 1)]) : ∃ v : Int32, (v = -2 ∨ (0 ≤ v.toInt ∧ v.toInt ≤ 6)) ∧ ∀ d, 4 ≤ d → ∀ h2, lkR (gOo h) h2 → zCi d mX12_heardNow [.inr (.inr (some 196)), .inl b] h2 (fun y h' => y = v ∧ h' = h2) := by
  have hs := S_hno 4 (Nat.le_refl 4) [.inr (.inr (some 196)), .inl b] (gOo h) ⟨⟨196, List.mem_cons_self, rfl⟩, ⟨b, rfl, hb⟩, trivial⟩ (hOK_o ho) hp
  obtain ⟨n, v, h1, hz, -, -, p, hpm, hr, -⟩ := hs
  have hv : ∃ y : Int32, v = some (.inl y) ∧ (y = -2 ∨ (0 ≤ y.toInt ∧ y.toInt ≤ 6)) := by
    have hpm : p ∈ [((some (.inl [(-2, -2, 1), (0, 6, 1)]), [], [], []) : aPo), (some (.inl [(-2, -2, 1)]), [], [], [])] := hpm
    simp only [List.mem_cons, List.not_mem_nil, or_false] at hpm
    have m2 : ∀ y : Int32, y.toInt = -2 → y = -2 := fun y hy => Int32.toInt_inj.mp (hy.trans (by decide))
    rcases hpm with e | e <;> subst e
    · obtain ⟨y, e, q, hq, l1, l2, -⟩ := hr
      refine ⟨y, e, ?_⟩
      simp only [List.mem_cons, List.not_mem_nil, or_false] at hq
      rcases hq with z | z <;> subst z
      · exact .inl (m2 y (Int.le_antisymm l2 l1))
      · exact .inr ⟨l1, l2⟩
    · obtain ⟨y, e, i⟩ := hr
      exact ⟨y, e, .inl (m2 y (aIn_eq i))⟩
  obtain ⟨y, ev, hy⟩ := hv
  subst ev
  refine ⟨y, hy, fun d hd h2 hr2 => ?_⟩
  have := lock (F := fO) (K := kO) (own := 12) fO_T fO_K hr2 n 4 d mX12_heardNow oX12_heardNow 0 _ _ _ h1 hd rfl odX12_heardNow (by decide +kernel) (by decide +kernel) hz
  exact ⟨n, _, h2, this.2, y, rfl, rfl, rfl⟩

/-- one local more -/
theorem aNH.loc {w : aWd} {md rm : aMd} {h0 : zH} {nd nd' : aNd} {pc : Nat} {lc : zL} {sc : List zV} {h : zH} {k : Nat} {x : Int32} {A : aI} (hn : aNH w md rm h0 nd (pc, lc, sc, h)) (hl : nd'.2.1 = nd.2.1 ++ [(k, .inl A)]) (hk : nd.2.1.all (fun q => !(Nat.beq q.1 k) && (!(Nat.beq (q.1 + 1) k) || (match q.2 with
    | .inr (.inr _) => false
    | _ => true))) = true) (hx : aIn x.toInt A) : ∀ q ∈ nd'.2.1, ∃ v, zget (zset1 lc k (.inl x)) q.1 = some v ∧ aAgR v q.2 := by
  intro q hq
  rw [hl] at hq
  rcases List.mem_append.mp hq with hq | hq
  · obtain ⟨v, e1, e2⟩ := hn.2.1 q hq
    have hz := List.all_eq_true.mp hk q hq
    simp only [Bool.and_eq_true, Bool.not_eq_true', Bool.or_eq_true] at hz
    refine ⟨v, zget_s1 e1 (nbeq_f hz.1) (fun z => ?_), e2⟩
    rcases hz.2 with y | y
    · exact nbeq_f y z.1
    · obtain ⟨j, p⟩ := q
      match p, y, e2 with
      | .inl _, _, ⟨x, e, _⟩ => rw [e] at z; exact absurd z.2 (fun y => by simp [zcat] at y)
      | .inr (.inl _), _, ⟨x, _, e⟩ => rw [e] at z; exact absurd z.2 (fun y => by simp [zcat] at y)
  · have hq : q = (k, .inl A) := by simpa using hq
    subst hq
    exact ⟨.inl x, zget_s1e, x, rfl, hx⟩
theorem aQ0 {w : aWd} {m : zM} {ags : List aAg} {pre : List ((Nat × Nat) × aI) × aU} {md rm : aMd} {D : Nat} {n : Int} {vs : List zV} {h h' : zH} {v : Option zV} (hq : aQ w (m, ags, pre, [(some (.inl [(n, n, 1)]), [], [], [])], md, rm, D) vs h v h') : ∃ y : Int32, v = some (.inl y) ∧ y.toInt = n := by
  obtain ⟨-, -, p, hp, hr, -⟩ := hq
  have hp : p = (some (.inl [(n, n, 1)]), [], [], []) := by simpa using hp
  subst hp
  obtain ⟨y, e, i⟩ := hr
  exact ⟨y, e, aIn_eq i⟩
theorem ib {b : Int32} (hb : aIn b.toInt [(0, 7, 1)]) : b.toInt ∈ ([0, 1, 2, 3, 4, 5, 6, 7] : List Int) := by
  have := aHull_in hb
  simp only [aHull] at this
  simp only [List.mem_cons, List.not_mem_nil, or_false]
  omega
/-- where nothing is heard, lays answers 0 -/
theorem lays0 {h : zH} {d : Nat} {b x : Int32} (hd : 7 ≤ d) (ho : hOK wd h) (hp : aPre h ct_hn.2.2.1) (hb : aIn b.toInt [(0, 7, 1)]) (hx : aIn x.toInt [(0, 4, 1)]) (hv : ∀ d, 4 ≤ d → ∀ h2, lkR (gOo h) h2 → zCi d mX12_heardNow [.inr (.inr (some 196)), .inl b] h2 (fun y h' => y = -2 ∧ h' = h2)) : zCi d mX12_lays [.inr (.inr (some 196)), .inl x, .inl b] h (fun y _ => y = 0) := by
  obtain ⟨d, rfl⟩ : ∃ d', d = d' + 1 := ⟨d - 1, by omega⟩
  have hn0 : aNH wd (ct_lays0 b.toInt).2.2.2.2.1 (ct_lays0 b.toInt).2.2.2.2.2.1 h (aEnt (ct_lays0 b.toInt) (1, [])) (0, zargs 0 [.inr (.inr (some 196)), .inl x, .inl b], [], h) := ⟨rfl, aPos_in (vs := [.inr (.inr (some 196)), .inl x, .inl b]) (ps := (ct_lays0 b.toInt).2.1) ⟨⟨196, List.mem_cons_self, rfl⟩, ⟨x, rfl, hx⟩, ⟨b, rfl, aR1_in (Int.le_refl _) (Int.le_refl _)⟩, trivial⟩, trivial, hp, ho, hFr.rf⟩
  have key : zEx none (d + 1) mX12_lays (0, zargs 0 [.inr (.inr (some 196)), .inl x, .inl b], [], h) (aQ wd (ct_lays0 b.toInt) [] h) := by
    refine aSeg_ok (c := ct_lays0 b.toInt) (List.all_eq_true.mp kE_lays0 _ (ib hb)) (lh_lays0 _) odX12_lays hd (fun nd' hm' g' hn' _ => ?_) hn0
    have e : nd' = nd0 (n29 b.toInt) := by simpa using hm'
    subst e
    obtain ⟨pc, lc, sc, h1⟩ := g'
    have hn' : aNH wd (ct_lays0 b.toInt).2.2.2.2.1 (ct_lays0 b.toInt).2.2.2.2.2.1 h (n29 b.toInt) (pc, lc, sc, h1) := hn'
    have hl := hn'.2.1
    have e1 : (29 : Nat) = pc := hn'.1
    have e2 : sc = [] := by
      cases sc with
      | nil => rfl
      | cons a t => exact (hn'.2.2.1 : False).elim
    subst e1; subst e2
    obtain ⟨v0, k0, q0, m0, w0⟩ := hl (0, .inr (.inl [196])) List.mem_cons_self
    have m0 : q0 = 196 := by simpa using m0
    subst m0; subst w0
    obtain ⟨v2, k2, y2, w2, i2⟩ := hl (2, .inl [(b.toInt, b.toInt, 1)]) (List.mem_cons_of_mem _ (List.mem_cons_of_mem _ List.mem_cons_self))
    subst w2
    have ey : y2 = b := Int32.toInt_inj.mp (aIn_eq i2)
    subst ey
    have hr : lkR (gOo h) h1 := lkR_o ho hn'.fr.1 (fun k => hn'.fr.2.2.1 199 k rfl) (fun k => hn'.fr.2.2.1 201 k rfl) (fun a k => hn'.fr.2.2.2.1 a k rfl)
    have s0 : zsh h1 196 = some (12, 39) := hn'.ok.1 196 (12, 39) (by decide +kernel)
    refine ex_aload_n (pc' := 30) dX12_lays_29 k0 rfl ?_
    refine ex_iload_n (pc' := 31) dX12_lays_30 k2 rfl ?_
    refine en_callvI (pc' := 34) (v := -2) (h2 := h1) (vs := [.inl y2]) (rest := []) (n := 39) dX12_lays_31 ml_12_295 ⟨zble rfl, zble rfl⟩ rfl rfl s0 (by decide) (zble rfl) rfl (hv d (by omega) h1 hr) ?_
    refine ex_istore (pc' := 36) dX12_lays_34 (show 5 < mX12_lays.2.2.1 by decide) rfl rfl ?_
    refine aSeg_ok (c := ct_lays0 y2.toInt) (nd := n36 y2.toInt) (tg := []) (List.all_eq_true.mp k_n36 _ (ib hb)) (lh_lays0 _) odX12_lays hd (fun nd' hm' => nomatch hm') ?_
    exact ⟨rfl, hn'.loc (nd' := n36 y2.toInt) rfl rfl (aR1_in (lo := -2) (hi := -2) (by decide) (by decide)), trivial, hn'.2.2.2.1, hn'.ok, hn'.fr⟩
  refine zEx.mono key (fun v h' hq => ?_)
  obtain ⟨y, e, ey⟩ := aQ0 hq
  exact ⟨y, e, Int32.toInt_inj.mp (ey.trans (by decide))⟩
theorem brings0 {h : zH} {d : Nat} {b x : Int32} (hd : 8 ≤ d) (ho : hOK wd h) (hp : aPre h ct_hn.2.2.1) (hb : aIn b.toInt [(0, 7, 1)]) (hx : aIn x.toInt [(0, 4, 1)]) (hv : ∀ d, 4 ≤ d → ∀ h2, lkR (gOo h) h2 → zCi d mX12_heardNow [.inr (.inr (some 196)), .inl b] h2 (fun y h' => y = -2 ∧ h' = h2)) : zCi d mX12_bringsOf [.inr (.inr (some 196)), .inl x, .inl b] h (fun y _ => y = -2) := by
  obtain ⟨d, rfl⟩ : ∃ d', d = d' + 1 := ⟨d - 1, by omega⟩
  have s0 : zsh h 196 = some (12, 39) := ho.1 196 (12, 39) (by decide +kernel)
  show zEx none (d + 1) mX12_bringsOf (0, [(0, .inr (.inr (some 196))), (1, .inl x), (2, .inl b)], [], h) _
  refine ex_aload_n (pc' := 1) dX12_bringsOf_0 rfl rfl ?_
  refine ex_iload_n (pc' := 2) dX12_bringsOf_1 rfl rfl ?_
  refine ex_iload_n (pc' := 3) dX12_bringsOf_2 rfl rfl ?_
  refine ex_callvI (pc' := 6) (vs := [.inl x, .inl b]) (rest := []) (n := 39) dX12_bringsOf_3 ml_12_364 ⟨zble rfl, zble rfl⟩ rfl rfl s0 (by decide) (zble rfl) rfl (lays0 (by omega) ho hp hb hx hv) (fun y h' e => ?_)
  subst e
  refine ex_if_t (pc' := 23) dX12_bringsOf_6 rfl (by decide) ?_
  refine ex_bipush (v := (-2)) (pc' := 25) dX12_bringsOf_23 (by decide) rfl ?_
  exact ex_iretI dX12_bringsOf_25 rfl rfl rfl
theorem S_send : aSpec wd ct_send := by
  intro d hd vs h hargs hok hpre
  have hd : 9 ≤ d := hd
  obtain ⟨d, rfl⟩ : ∃ d', d = d' + 1 := ⟨d - 1, by omega⟩
  show zEx none (d + 1) mX12_send (0, zargs 0 vs, [], h) (aQ wd ct_send vs h)
  have hn0 : aNH wd ct_send.2.2.2.2.1 ct_send.2.2.2.2.2.1 h (aEnt ct_send (1, [])) (0, zargs 0 vs, [], h) := ⟨rfl, aPos_in hargs, trivial, hpre, hok, hFr.rf⟩
  refine aSeg_ok (c := ct_send) kE_send lh_send odX12_send hd (fun nd' hm' g' hn' _ => ?_) hn0
  have e : nd' = nd0 n26 := by simpa using hm'
  subst e
  obtain ⟨pc, lc, sc, h1⟩ := g'
  have hn' : aNH wd ct_send.2.2.2.2.1 ct_send.2.2.2.2.2.1 h n26 (pc, lc, sc, h1) := hn'
  have hl := hn'.2.1
  have e1 : (26 : Nat) = pc := hn'.1
  have e2 : sc = [] := by
    cases sc with
    | nil => rfl
    | cons a t => exact (hn'.2.2.1 : False).elim
  subst e1; subst e2
  obtain ⟨v0, k0, q0, m0, w0⟩ := hl (0, .inr (.inl [196])) List.mem_cons_self
  have m0 : q0 = 196 := by simpa using m0
  subst m0; subst w0
  obtain ⟨v1, k1, y1, w1, i1⟩ := hl (1, .inl [(0, 4, 1)]) (List.mem_cons_of_mem _ List.mem_cons_self)
  subst w1
  obtain ⟨v2, k2, y2, w2, i2⟩ := hl (2, .inl [(0, 7, 1)]) (List.mem_cons_of_mem _ (List.mem_cons_of_mem _ List.mem_cons_self))
  subst w2
  have ho1 := hn'.ok
  have ho1 : hOK wd h1 := ho1
  have hp1 : aPre h1 ct_hn.2.2.1 := ⟨fun q hq => hn'.2.2.2.1.1 q ((by decide +kernel : ∀ q ∈ ct_hn.2.2.1.1, q ∈ n26.2.2.2.1) q hq), fun q hq => nomatch hq⟩
  obtain ⟨v, hv, hval⟩ := hn_val ho1 hp1 i2
  have s0 : zsh h1 196 = some (12, 39) := ho1.1 196 (12, 39) (by decide +kernel)
  have hbo : zCt d mX12_bringsOf [.inr (.inr (some 196)), .inl y1, .inl y2] h1 (fun r h' => aQ wd ct_bo [.inr (.inr (some 196)), .inl y1, .inl y2] h1 r h' ∧ (v = -2 → r = some (.inl (-2)))) := by
    have g := S_bo d (by show 8 ≤ d; omega) [.inr (.inr (some 196)), .inl y1, .inl y2] h1 ⟨⟨196, List.mem_cons_self, rfl⟩, ⟨y1, rfl, i1⟩, ⟨y2, rfl, i2⟩, trivial⟩ ho1 hp1
    by_cases e : v = -2
    · subst e
      refine zEx.mono (zEx.and g (brings0 (by omega) ho1 hp1 i2 i1 hval)) (fun r h' hq => ⟨hq.1, fun _ => ?_⟩)
      obtain ⟨y, ey, ez⟩ := hq.2
      rw [ey, ez]
    · exact zEx.mono g (fun r h' hq => ⟨hq, fun z => absurd z e⟩)
  refine ex_aload_n (pc' := 27) dX12_send_26 k0 rfl ?_
  refine ex_iload_n (pc' := 28) dX12_send_27 k1 rfl ?_
  refine ex_iload_n (pc' := 29) dX12_send_28 k2 rfl ?_
  refine ex_callv (pc' := 32) (vs := [.inl y1, .inl y2]) (rest := []) (n := 39) dX12_send_29 ml_12_367 ⟨zble rfl, zble rfl⟩ rfl rfl s0 (by decide) (zble rfl) rfl hbo (fun r h2 hq => ?_)
  obtain ⟨⟨ho2, hf2, p, hpm, hret, -⟩, hneg⟩ := hq
  obtain ⟨y, ey⟩ : ∃ y : Int32, r = some (.inl y) := by
    have hpm : p ∈ [((some (.inl aTop), [], [], []) : aPo), (some (.inl [(-2, -2, 1)]), [], [], [])] := hpm
    simp only [List.mem_cons, List.not_mem_nil, or_false] at hpm
    rcases hpm with e | e <;> subst e
    · obtain ⟨y, e, -⟩ := hret; exact ⟨y, e⟩
    · obtain ⟨y, e, -⟩ := hret; exact ⟨y, e⟩
  subst ey
  have htr : ∀ q ∈ n26.2.2.2.1, aIn (h2.2.1 q.1.1 q.1.2).toInt q.2 := by
    have hno : n26.2.2.2.1.all (fun q => !(inM ct_bo.2.2.2.2.1 q.1.1 q.1.2)) = true := by decide +kernel
    intro q hq
    have := List.all_eq_true.mp hno q hq
    rw [hf2.2.2.1 q.1.1 q.1.2 (by simpa using this)]
    exact hn'.2.2.2.1.1 q hq
  have hfr : hFr ct_send.2.2.2.2.1 ct_send.2.2.2.2.2.1 h h2 := hn'.fr.tr hf2 (by decide +kernel) (by decide +kernel)
  show zEx none (d + 1) mX12_send (32, lc, [.inl y], h2) _
  refine ex_istore_n (pc' := 33) dX12_send_32 (by decide) rfl rfl ?_
  refine ex_iload_n (pc' := 34) dX12_send_33 zget_s1e rfl ?_
  refine ex_if (pc' := 43) (pc2 := 37) dX12_send_34 (by decide) rfl (fun c => ?_) (fun c => ?_)
  · have c : (0 : Int32) ≤ y := by simpa [zcond] using c
    have c : (0 : Int) ≤ y.toInt := Int32.le_iff_toInt_le.mp c
    have hv6 : 0 ≤ v.toInt ∧ v.toInt ≤ 6 := by
      rcases hv with z | z
      · have := hneg z
        have := Sum.inl.inj (Option.some.inj this)
        rw [this] at c
        exact absurd c (by decide)
      · exact z
    have s2 : zsh h2 196 = some (12, 39) := ho2.1 196 (12, 39) (by decide +kernel)
    refine ex_aload_n (pc' := 44) dX12_send_43 (zget_s1 k0 (by decide) (by simp [zcat])) rfl ?_
    refine ex_iload_n (pc' := 45) dX12_send_44 (zget_s1 k2 (by decide) (by simp [zcat])) rfl ?_
    have hr : lkR (gOo h1) h2 := lkR_o ho1 hf2.1 (fun k => hf2.2.2.1 199 k rfl) (fun k => hf2.2.2.1 201 k rfl) (fun a k => hf2.2.2.2.1 a k rfl)
    refine en_callvI (pc' := 48) (v := v) (h2 := h2) (vs := [.inl y2]) (rest := []) (n := 39) dX12_send_45 ml_12_295 ⟨zble rfl, zble rfl⟩ rfl rfl s2 (by decide) (zble rfl) rfl (hval d (by omega) h2 hr) ?_
    refine aSeg_ok (c := ct_send) (nd := n48) (tg := []) k_n48 lh_send odX12_send hd (fun nd' hm' => nomatch hm') ?_
    exact ⟨rfl, hn'.loc (nd' := n48) rfl rfl (aR1_in (lo := 0) (hi := 2147483647) c (i32_rg y).2), ⟨⟨v, rfl, aR1_in (lo := 0) (hi := 6) hv6.1 hv6.2⟩, trivial⟩, ⟨htr, fun q hq => nomatch hq⟩, ho2, hfr⟩
  · refine aSeg_ok (c := ct_send) (nd := n37) (tg := []) k_n37 lh_send odX12_send hd (fun nd' hm' => nomatch hm') ?_
    exact ⟨rfl, hn'.loc (nd' := n37) rfl rfl (aIn_top y), trivial, ⟨htr, fun q hq => nomatch hq⟩, ho2, hfr⟩
end Pk1
section Pk2
/-! post of the class, by nodes -/
def ct_p12_0 : aCt := (mX11_post, [.inr (.inl [0]), .inl aTop], ([], [((0, 3), 2), ((0, 4), 42), ((92, 0), 2), ((94, 0), 2), ((96, 0), 2)]), [(some (.inl [(-1, -1, 1)]), [], [((0, 2), [(2, 2, 1)])], [])], [(0, 2, 3)], [], 1)
def lk_p12_0 : aLk := [(98, 0, 2, ct_6)]
def n_p12_0 : aNd := (12, [(0, .inr (.inl [0])), (1, .inl aTop)], [], [], [((0, 3), 2), ((0, 4), 42), ((92, 0), 2), ((94, 0), 2), ((96, 0), 2)], (1, []))
set_option maxRecDepth 100000 in
theorem k_p12_0 : aSgk wd ct_p12_0 lk_p12_0 oX11_post [] 3000 (([] : List aNd).map nd0) (nd1 n_p12_0) = true := by decide +kernel
theorem SN_p12_0 {d : Nat} {vs : List zV} (hd : ct_p12_0.2.2.2.2.2.2 ≤ d) : aNok wd ct_p12_0 d vs n_p12_0 := aStep_ok (c := ct_p12_0) (lk := lk_p12_0) (cd := oX11_post) (fk := []) (fuel := 3000) (T := []) (List.forall_mem_cons.mpr ⟨⟨ml_11_98, S_6⟩, fun _ h => nomatch h⟩) odX11_post hd (fun nd hm => nomatch hm) k_p12_0
def ct_p23_0 : aCt := (mX11_post, [.inr (.inl [0]), .inl aTop], ([], [((0, 3), 2), ((0, 4), 42), ((92, 0), 2), ((94, 0), 2), ((96, 0), 2)]), [(some (.inl aTop), [], [((0, 1), [(0, 0, 1)]), ((0, 2), [(0, 0, 1)]), ((0, 15), [(0, 0, 1)]), ((42, 4), [(1, 7, 1)]), ((82, 11), [(0, 0, 1)])], [((0, 3), 42), ((0, 4), 2), ((82, 6), 42), ((92, 0), 42), ((94, 0), 42), ((96, 0), 42)]), (some (.inl [(-1, -1, 1)]), [], [((0, 1), [(0, 0, 1)]), ((0, 2), [(4, 4, 1)]), ((82, 11), [(1, 7, 1)])], [((0, 3), 2), ((0, 4), 42), ((82, 6), 42), ((92, 0), 2), ((94, 0), 2), ((96, 0), 2)])], [(0, 2, 3), (0, 13, 14), (0, 15, 16), (42, 0, 9), (43, 0, 7), (44, 0, 7), (49, 0, 4), (50, 0, 4), (51, 0, 4), (52, 0, 4), (53, 0, 4), (54, 0, 4), (55, 0, 4), (56, 0, 4), (57, 0, 4), (58, 0, 4), (59, 0, 4), (60, 0, 4), (61, 0, 4), (62, 0, 4), (63, 0, 4), (64, 0, 4), (65, 0, 4), (66, 0, 4), (67, 0, 4), (68, 0, 4), (69, 0, 4), (70, 0, 4), (71, 0, 4), (72, 0, 4), (73, 0, 4), (74, 0, 3), (75, 0, 3), (76, 0, 3), (77, 0, 3), (78, 0, 3), (79, 0, 3), (80, 0, 3), (81, 0, 3), (82, 1, 6), (82, 10, 13), (84, 0, 20), (85, 0, 20), (86, 0, 2), (87, 0, 5), (88, 0, 5), (89, 0, 8), (90, 0, 8), (91, 0, 8)], [(0, 3, 4), (0, 4, 5), (82, 6, 7), (92, 0, 1), (94, 0, 1), (96, 0, 1)], 6)
def lk_p23_0 : aLk := [(106, 0, 1, ct_56), (98, 0, 2, ct_58), (102, 0, 3, ct_54), (112, 0, 2, ct_57)]
def n_p23_0 : aNd := (23, [(0, .inr (.inl [0])), (1, .inl [(0, 1000, 1)])], [], [((0, 1), [(0, 0, 1)])], [((0, 3), 2), ((0, 4), 42), ((92, 0), 2), ((94, 0), 2), ((96, 0), 2)], (1, []))
set_option maxRecDepth 100000 in
theorem k_p23_0 : aSgk wd ct_p23_0 lk_p23_0 oX11_post [] 3000 (([] : List aNd).map nd0) (nd1 n_p23_0) = true := by decide +kernel
theorem SN_p23_0 {d : Nat} {vs : List zV} (hd : ct_p23_0.2.2.2.2.2.2 ≤ d) : aNok wd ct_p23_0 d vs n_p23_0 := aStep_ok (c := ct_p23_0) (lk := lk_p23_0) (cd := oX11_post) (fk := []) (fuel := 3000) (T := []) (List.forall_mem_cons.mpr ⟨⟨ml_11_106, S_56⟩, List.forall_mem_cons.mpr ⟨⟨ml_11_98, S_58⟩, List.forall_mem_cons.mpr ⟨⟨ml_11_102, S_54⟩, List.forall_mem_cons.mpr ⟨⟨ml_11_112, S_57⟩, fun _ h => nomatch h⟩⟩⟩⟩) odX11_post hd (fun nd hm => nomatch hm) k_p23_0
def ct_p12_1 : aCt := (mX11_post, [.inr (.inl [0]), .inl aTop], ([], [((0, 3), 42), ((0, 4), 2), ((92, 0), 42), ((94, 0), 42), ((96, 0), 42)]), [(some (.inl [(-1, -1, 1)]), [], [((0, 2), [(2, 2, 1)])], [])], [(0, 2, 3)], [], 1)
def lk_p12_1 : aLk := [(98, 0, 2, ct_6)]
def n_p12_1 : aNd := (12, [(0, .inr (.inl [0])), (1, .inl aTop)], [], [], [((0, 3), 42), ((0, 4), 2), ((92, 0), 42), ((94, 0), 42), ((96, 0), 42)], (1, []))
set_option maxRecDepth 100000 in
theorem k_p12_1 : aSgk wd ct_p12_1 lk_p12_1 oX11_post [] 3000 (([] : List aNd).map nd0) (nd1 n_p12_1) = true := by decide +kernel
theorem SN_p12_1 {d : Nat} {vs : List zV} (hd : ct_p12_1.2.2.2.2.2.2 ≤ d) : aNok wd ct_p12_1 d vs n_p12_1 := aStep_ok (c := ct_p12_1) (lk := lk_p12_1) (cd := oX11_post) (fk := []) (fuel := 3000) (T := []) (List.forall_mem_cons.mpr ⟨⟨ml_11_98, S_6⟩, fun _ h => nomatch h⟩) odX11_post hd (fun nd hm => nomatch hm) k_p12_1
def ct_p23_1 : aCt := (mX11_post, [.inr (.inl [0]), .inl aTop], ([], [((0, 3), 42), ((0, 4), 2), ((92, 0), 42), ((94, 0), 42), ((96, 0), 42)]), [(some (.inl aTop), [], [((0, 1), [(0, 0, 1)]), ((0, 2), [(0, 0, 1)]), ((0, 15), [(0, 0, 1)]), ((2, 4), [(1, 7, 1)]), ((82, 11), [(0, 0, 1)])], [((0, 3), 2), ((0, 4), 42), ((82, 6), 2), ((92, 0), 2), ((94, 0), 2), ((96, 0), 2)]), (some (.inl [(-1, -1, 1)]), [], [((0, 1), [(0, 0, 1)]), ((0, 2), [(4, 4, 1)]), ((82, 11), [(1, 7, 1)])], [((0, 3), 42), ((0, 4), 2), ((82, 6), 2), ((92, 0), 42), ((94, 0), 42), ((96, 0), 42)])], [(0, 2, 3), (0, 13, 14), (0, 15, 16), (2, 0, 9), (3, 0, 7), (4, 0, 7), (9, 0, 4), (10, 0, 4), (11, 0, 4), (12, 0, 4), (13, 0, 4), (14, 0, 4), (15, 0, 4), (16, 0, 4), (17, 0, 4), (18, 0, 4), (19, 0, 4), (20, 0, 4), (21, 0, 4), (22, 0, 4), (23, 0, 4), (24, 0, 4), (25, 0, 4), (26, 0, 4), (27, 0, 4), (28, 0, 4), (29, 0, 4), (30, 0, 4), (31, 0, 4), (32, 0, 4), (33, 0, 4), (34, 0, 3), (35, 0, 3), (36, 0, 3), (37, 0, 3), (38, 0, 3), (39, 0, 3), (40, 0, 3), (41, 0, 3), (82, 1, 6), (82, 10, 13), (84, 0, 20), (85, 0, 20), (86, 0, 2), (87, 0, 5), (88, 0, 5), (89, 0, 8), (90, 0, 8), (91, 0, 8)], [(0, 3, 4), (0, 4, 5), (82, 6, 7), (92, 0, 1), (94, 0, 1), (96, 0, 1)], 6)
def lk_p23_1 : aLk := [(106, 0, 1, ct_308), (98, 0, 2, ct_58), (102, 0, 3, ct_306), (112, 0, 2, ct_57)]
def n_p23_1 : aNd := (23, [(0, .inr (.inl [0])), (1, .inl [(0, 1000, 1)])], [], [((0, 1), [(0, 0, 1)])], [((0, 3), 42), ((0, 4), 2), ((92, 0), 42), ((94, 0), 42), ((96, 0), 42)], (1, []))
set_option maxRecDepth 100000 in
theorem k_p23_1 : aSgk wd ct_p23_1 lk_p23_1 oX11_post [] 3000 (([] : List aNd).map nd0) (nd1 n_p23_1) = true := by decide +kernel
theorem SN_p23_1 {d : Nat} {vs : List zV} (hd : ct_p23_1.2.2.2.2.2.2 ≤ d) : aNok wd ct_p23_1 d vs n_p23_1 := aStep_ok (c := ct_p23_1) (lk := lk_p23_1) (cd := oX11_post) (fk := []) (fuel := 3000) (T := []) (List.forall_mem_cons.mpr ⟨⟨ml_11_106, S_308⟩, List.forall_mem_cons.mpr ⟨⟨ml_11_98, S_58⟩, List.forall_mem_cons.mpr ⟨⟨ml_11_102, S_306⟩, List.forall_mem_cons.mpr ⟨⟨ml_11_112, S_57⟩, fun _ h => nomatch h⟩⟩⟩⟩) odX11_post hd (fun nd hm => nomatch hm) k_p23_1
end Pk2
section Pk3
/-! post: both sizes fall to 0 exactly when the number is good -/
def rv0 : aU := [((0, 3), 2), ((0, 4), 42), ((92, 0), 2), ((94, 0), 2), ((96, 0), 2)]
def rv1 : aU := [((0, 3), 42), ((0, 4), 2), ((92, 0), 42), ((94, 0), 42), ((96, 0), 42)]
def lV (h : zH) (r : aU) : Prop := ∀ q ∈ r, h.2.2.2.1 q.1.1 q.1.2 = some q.2
def pSz (x : Int32) (s : Nat) : Int32 := if 0 ≤ x.toInt ∧ x.toInt ≤ (s : Int) then 0 else nI s
theorem inM_by {md : aMd} {a k : Nat} (p : Nat → Bool) (hm : md.all (fun q => p q.1) = true) (ha : p a = false) : inM md a k = false := by
  unfold inM
  rw [List.any_eq_false]
  intro q hq z
  rw [Bool.and_eq_true] at z
  have e := Nat.eq_of_beq_eq_true z.1
  have := List.all_eq_true.mp hm q hq
  rw [e, ha] at this
  cases this
def pM (a : Nat) : Bool := Nat.ble 196 a && !(Nat.beq a 197)
def pC (a : Nat) : Bool := Nat.ble a 195
theorem pM_f {a : Nat} (h : a < 196 ∨ a = 197) : pM a = false := by
  unfold pM
  rcases h with h | h
  · have : Nat.ble 196 a = false := by
      cases e : Nat.ble 196 a with
      | false => rfl
      | true => have := Nat.le_of_ble_eq_true e; omega
    rw [this]; rfl
  · subst h; rfl
theorem pC_f {a : Nat} (h : 196 ≤ a) : pC a = false := by
  unfold pC
  cases e : Nat.ble a 195 with
  | false => rfl
  | true => have := Nat.le_of_ble_eq_true e; omega
theorem aIn_0 {x : Int32} (k : aIn x.toInt [(0, 0, 1)]) : x = 0 := by
  obtain ⟨q, hq, a, b, -⟩ := k
  have e : q = (0, 0, 1) := by simpa using hq
  subst e
  have a : 0 ≤ x.toInt := a
  have b : x.toInt ≤ 0 := b
  exact Int32.toInt_inj.mp (by rw [show (0 : Int32).toInt = 0 by decide]; omega)
theorem aIn_n {x : Int32} {n : Int} (k : aIn x.toInt [(n, n, 1)]) : x.toInt = n := by
  obtain ⟨q, hq, a, b, -⟩ := k
  have e : q = (n, n, 1) := by simpa using hq
  subst e
  have a : n ≤ x.toInt := a
  have b : x.toInt ≤ n := b
  omega
/-- every end tells of a slot that it is 0, but those that answer x -/
def e0n (c : aCt) (x : Int) (a k : Nat) : Bool := c.2.2.2.1.all (fun p => decide (p.1 = some (.inl [(x, x, 1)])) || p.2.2.1.any (fun q => decide (q = ((a, k), [(0, 0, 1)]))))
theorem e0n_in {c : aCt} {x : Int} {a k : Nat} {v : Option zV} {p : aPo} {h' : zH} (hk : e0n c x a k = true) (hp : p ∈ c.2.2.2.1) (hr : aRet v p.1) (hv : ∀ y : Int32, v = some (.inl y) → y.toInt ≠ x) (hs : ∀ q ∈ p.2.2.1, aIn (h'.2.1 q.1.1 q.1.2).toInt q.2) : h'.2.1 a k = 0 := by
  have := List.all_eq_true.mp hk p hp
  rw [Bool.or_eq_true] at this
  rcases this with z | z
  · have z := of_decide_eq_true z
    rw [z] at hr
    obtain ⟨y, e, hx⟩ := hr
    exact absurd (aIn_n hx) (hv y e)
  · obtain ⟨q, hq, e⟩ := List.any_eq_true.mp z
    have e := of_decide_eq_true e
    subst e
    exact aIn_0 (hs _ hq)
section HP
variable {d s : Nat} {h : zH} {x : Int32}
theorem in_ex {y : Int32} : zCi d mX12_in [.inl x, .inl 0, .inl y] h (fun r h' => h' = h ∧ ((r = 1 ∧ (0 ≤ x.toInt ∧ x.toInt ≤ y.toInt)) ∨ (r = 0 ∧ ¬ (0 ≤ x.toInt ∧ x.toInt ≤ y.toInt)))) := by
  have k0 : (0 : Int32).toInt = 0 := by decide
  show zEx none d mX12_in (0, [(0, .inl x), (1, .inl 0), (2, .inl y)], [], h) _
  refine ex_iload_n (pc' := 1) dX12_in_0 rfl rfl ?_
  refine ex_iload_n (pc' := 2) dX12_in_1 rfl rfl ?_
  refine ex_icmp (pc' := 14) (pc2 := 5) dX12_in_2 (by decide) rfl (fun c => ?_) (fun c => ?_)
  · refine ex_iconst (v := 0) (pc' := 15) dX12_in_14 (by decide) rfl ?_
    exact ex_iretI dX12_in_15 rfl rfl ⟨rfl, .inr ⟨rfl, fun q => by have := zi_lt c; omega⟩⟩
  · refine ex_iload_n (pc' := 6) dX12_in_5 rfl rfl ?_
    refine ex_iload_n (pc' := 7) dX12_in_6 rfl rfl ?_
    refine ex_icmp (pc' := 14) (pc2 := 10) dX12_in_7 (by decide) rfl (fun c2 => ?_) (fun c2 => ?_)
    · refine ex_iconst (v := 0) (pc' := 15) dX12_in_14 (by decide) rfl ?_
      exact ex_iretI dX12_in_15 rfl rfl ⟨rfl, .inr ⟨rfl, fun q => by have := zi_gt c2; omega⟩⟩
    · refine ex_iconst (v := 1) (pc' := 11) dX12_in_10 (by decide) rfl ?_
      refine ex_goto (pc' := 15) dX12_in_11 (by decide) ?_
      exact ex_iretI dX12_in_15 rfl rfl ⟨rfl, .inl ⟨rfl, by have := zi_nlt c; omega, zi_ngt c2⟩⟩
theorem P_post12 (ho : hOK wd h) (ht : h.2.1 196 2 = nI s) (hs : s ≤ 1000) (hd : 7 ≤ d + 1) : zCt (d + 1) mX12_post [.inr (.inr (some 196)), .inl x] h (fun v h' => (∃ y : Int32, v = some (.inl y)) ∧ hOK wd h' ∧ h'.1 = h.1 ∧ h'.2.2.2.2 = h.2.2.2.2 ∧ h'.2.1 0 1 = h.2.1 0 1 ∧ (∀ a k, h'.2.2.2.1 a k = h.2.2.2.1 a k) ∧ h'.2.1 196 2 = pSz x s ∧ (∀ a k, a < 196 ∨ a = 197 → h'.2.1 a k = h.2.1 a k) ∧ ∀ y : Int32, v = some (.inl y) → y ≠ -1 → h'.2.1 196 11 = 0 ∧ h'.2.1 196 13 = 0 ∧ h'.2.1 196 21 = 0) := by
  have s0 : zsh h 196 = some (12, 39) := ho.1 196 (12, 39) (by decide +kernel)
  show zEx none (d + 1) mX12_post (0, [(0, .inr (.inr (some 196))), (1, .inl x)], [], h) _
  refine ex_aload_n (pc' := 1) dX12_post_0 rfl rfl ?_
  refine ex_callv (pc' := 4) (vs := []) (rest := []) (n := 39) dX12_post_1 ml_12_167 ⟨zble rfl, zble rfl⟩ rfl rfl s0 (by decide) (zble rfl) rfl (S_447 d (Nat.zero_le _) [.inr (.inr (some 196))] h ⟨⟨196, List.mem_cons_self, rfl⟩, trivial⟩ ho ⟨fun q hq => (nomatch hq), fun q hq => (nomatch hq)⟩) (fun r h1 hq => ?_)
  obtain ⟨ho1, hf1, p, hp, hret, -, hpre1, -⟩ := hq
  have hall : ct_447.2.2.2.1.all (fun p => decide (p.1 = none)) = true := by decide +kernel
  have er : r = none := by
    rw [of_decide_eq_true (List.all_eq_true.mp hall p hp)] at hret
    exact hret
  have t11 : h1.2.1 196 11 = 0 := e0n_in (c := ct_447) (x := 0) (by decide +kernel) hp hret (fun y e => by rw [er] at e; cases e) hpre1
  subst er
  have t1 : h1.2.1 196 2 = nI s := (hf1.2.2.1 196 2 (by decide)).trans ht
  have s1 : zsh h1 196 = some (12, 39) := ho1.1 196 (12, 39) (by decide +kernel)
  show zEx none (d + 1) mX12_post (4, [(0, .inr (.inr (some 196))), (1, .inl x)], [], h1) _
  refine ex_iload_n (pc' := 5) dX12_post_4 rfl rfl ?_
  refine ex_iconst (v := 0) (pc' := 6) dX12_post_5 (by decide) rfl ?_
  refine ex_aload_n (pc' := 7) dX12_post_6 rfl rfl ?_
  refine ex_getI (pc' := 10) (n := 39) (v := nI s) dX12_post_7 fl_12_68 s1 (by decide) t1 rfl ?_
  refine ex_callsI (pc' := 13) (kd := 1) (vs := [.inl x, .inl 0, .inl (nI s)]) (rest := []) dX12_post_10 ml_12_149 (.inl rfl) ⟨zble rfl, zble rfl⟩ rfl rfl (zble rfl) rfl in_ex (fun r h2 hq => ?_)
  obtain ⟨eh, hq⟩ := hq
  subst eh
  rw [nI_toInt (by omega)] at hq
  rcases hq with ⟨e, c⟩ | ⟨e, c⟩
  · subst e
    refine ex_if_t (pc' := 22) dX12_post_13 (by decide) (by decide) ?_
    refine ex_aload_n (pc' := 23) dX12_post_22 rfl rfl ?_
    refine ex_iconst (v := 0) (pc' := 24) dX12_post_23 (by decide) rfl ?_
    refine ex_putI (pc' := 27) (n := 39) dX12_post_24 fl_12_68 s1 (Or.inl rfl) (Or.inl rfl) rfl ?_
    have ho2 : hOK wd (zsI h2 196 2 0) := hOK_set (aLe_in (A := [(0, 0, 1)]) (by decide +kernel) (aR1_in (lo := 0) (hi := 0) (by decide) (by decide))) (by decide +kernel) ho1
    have t2 : (zsI h2 196 2 0).2.1 196 2 = 0 := by rw [zsI_at, if_pos ⟨rfl, rfl⟩]
    have key := SE_900 (d + 1) hd [] nE_900_0 List.mem_cons_self (27, [(0, .inr (.inr (some 196))), (1, .inl x)], [], zsI h2 196 2 0) ⟨rfl, (fun q hq => by
      rcases List.mem_cons.mp hq with e | hq
      · subst e; exact ⟨_, rfl, 196, List.mem_cons_self, rfl⟩
      · rcases List.mem_cons.mp hq with e | hq
        · subst e; exact ⟨_, rfl, x, rfl, aR1_in (lo := 0) (hi := 1000) c.1 (by omega)⟩
        · cases hq), trivial, ⟨(fun q hq => by
      have e : q = ((196, 2), [(0, 0, 1)]) ∨ q = ((196, 11), [(0, 0, 1)]) := by simpa using (show q ∈ [(((196, 2), [(0, 0, 1)]) : (Nat × Nat) × aI), ((196, 11), [(0, 0, 1)])] from hq)
      rcases e with e | e
      · subst e
        show aIn ((zsI h2 196 2 0).2.1 196 2).toInt [(0, 0, 1)]
        rw [t2]
        exact aR1_in (lo := 0) (hi := 0) (by decide) (by decide)
      · subst e
        show aIn ((zsI h2 196 2 0).2.1 196 11).toInt [(0, 0, 1)]
        rw [zsI_no (by omega), t11]
        exact aR1_in (lo := 0) (hi := 0) (by decide) (by decide)), fun q hq => (nomatch hq)⟩, ho2, hFr.rf⟩
    refine zEx.mono key (fun v h' hq => ?_)
    obtain ⟨ho3, hf3, p, hp, hret, -, hpre, -⟩ := hq
    have e01 : h'.2.1 0 1 = h.2.1 0 1 := by
      rw [hf3.2.2.1 0 1 (by decide)]
      show (zsI h2 196 2 0).2.1 0 1 = _
      rw [zsI_no (by omega)]
      exact hf1.2.2.1 0 1 (by decide)
    have er : ∀ a k, h'.2.2.2.1 a k = h.2.2.2.1 a k := fun a k => (hf3.2.2.2.1 a k rfl).trans (hf1.2.2.2.1 a k rfl)
    have hall : ctE_900.2.2.2.1.all (fun p => (match p.1 with | some (.inl _) => true | _ => false)) = true := by decide +kernel
    have hb := List.all_eq_true.mp hall p hp
    have hz : h'.2.1 196 2 = 0 := (hf3.2.2.1 196 2 (by decide)).trans t2
    refine ⟨?_, ho3, hf3.1.trans hf1.1, hf3.2.1.trans hf1.2.1, e01, er, by rw [hz, pSz, if_pos c], fun a k ha => ((hf3.2.2.1 a k (inM_by pM (by decide +kernel) (pM_f ha))).trans (zsI_no (by omega))).trans (hf1.2.2.1 a k (inM_by pM (by decide +kernel) (pM_f ha))), fun y ey hy => ?_⟩
    rotate_left
    · have hv : ∀ z : Int32, v = some (.inl z) → z.toInt ≠ -1 := fun z ez w => by
        rw [ey] at ez
        cases ez
        exact hy (Int32.toInt_inj.mp (by rw [w]; decide))
      exact ⟨e0n_in (c := ctE_900) (x := -1) (by decide +kernel) hp hret hv hpre, e0n_in (c := ctE_900) (x := -1) (by decide +kernel) hp hret hv hpre, e0n_in (c := ctE_900) (x := -1) (by decide +kernel) hp hret hv hpre⟩
    obtain ⟨p1, p2⟩ := p
    match p1, hb, hret with
    | some (.inl A), _, ⟨y, e, _⟩ => exact ⟨y, e⟩
  · subst e
    refine ex_if_f (pc' := 16) dX12_post_13 (by decide) (by decide) rfl ?_
    refine ex_aload_n (pc' := 17) dX12_post_16 rfl rfl ?_
    refine ex_iconst (v := 2) (pc' := 18) dX12_post_17 (by decide) rfl ?_
    refine ex_callv (pc' := 21) (vs := [.inl 2]) (rest := []) (n := 39) dX12_post_18 ml_12_170 ⟨zble rfl, zble rfl⟩ rfl rfl s1 (by decide) (zble rfl) rfl (S_449 d (Nat.zero_le _) [.inr (.inr (some 196)), .inl 2] h2 ⟨⟨196, List.mem_cons_self, rfl⟩, ⟨2, rfl, aR1_in (lo := 2) (hi := 2) (by decide) (by decide)⟩, trivial⟩ ho1 ⟨(fun q hq => by
      have e : q = ((196, 11), [(0, 0, 1)]) := by simpa using (show q ∈ [(((196, 11), [(0, 0, 1)]) : (Nat × Nat) × aI)] from hq)
      subst e
      show aIn (h2.2.1 196 11).toInt [(0, 0, 1)]
      rw [t11]
      exact aR1_in (lo := 0) (hi := 0) (by decide) (by decide)), fun q hq => (nomatch hq)⟩) (fun r h3 hq => ?_)
    obtain ⟨ho3, hf3, p, hp, hret, -⟩ := hq
    have hall : ct_449.2.2.2.1.all (fun p => decide (p.1 = some (.inl [(-1, -1, 1)]))) = true := by decide +kernel
    rw [of_decide_eq_true (List.all_eq_true.mp hall p hp)] at hret
    obtain ⟨y, e, hy⟩ := hret
    subst e
    show zEx none (d + 1) mX12_post (21, [(0, .inr (.inr (some 196))), (1, .inl x)], [.inl y], h3) _
    refine ex_iret dX12_post_21 rfl rfl ⟨⟨y, rfl⟩, ho3, hf3.1.trans hf1.1, hf3.2.1.trans hf1.2.1, (hf3.2.2.1 0 1 (by decide)).trans (hf1.2.2.1 0 1 (by decide)), fun a k => (hf3.2.2.2.1 a k rfl).trans (hf1.2.2.2.1 a k rfl), ?_, fun a k ha => (hf3.2.2.1 a k (inM_by pM (by decide +kernel) (pM_f ha))).trans (hf1.2.2.1 a k (inM_by pM (by decide +kernel) (pM_f ha))), fun z ez hz => absurd (show z = -1 by
      cases ez
      exact Int32.toInt_inj.mp (by rw [aIn_n hy]; decide)) hz⟩
    rw [hf3.2.2.1 196 2 (by decide), t1, pSz, if_neg c]
theorem P_post11_0 (ho : hOK wd h) (hr : lV h rv0) (ht : h.2.1 0 1 = nI s) (hs : s ≤ 1000) (hd : 6 ≤ d + 1) : zCt (d + 1) mX11_post [.inr (.inr (some 0)), .inl x] h (fun v h' => (∃ y : Int32, v = some (.inl y)) ∧ hOK wd h' ∧ h'.1 = h.1 ∧ h'.2.2.2.2 = h.2.2.2.2 ∧ h'.2.1 196 2 = h.2.1 196 2 ∧ (lV h' rv0 ∨ lV h' rv1) ∧ h'.2.1 0 1 = pSz x s ∧ ∀ a k, 196 ≤ a → h'.2.1 a k = h.2.1 a k) := by
  have s0 : zsh h 0 = some (11, 16) := ho.1 0 (11, 16) (by decide +kernel)
  have k0 : (0 : Int32).toInt = 0 := by decide
  have kno : ¬ (0 ≤ x.toInt ∧ x.toInt ≤ (s : Int)) → zEx none (d + 1) mX11_post (12, [(0, .inr (.inr (some 0))), (1, .inl x)], [], h) (fun v h' => (∃ y : Int32, v = some (.inl y)) ∧ hOK wd h' ∧ h'.1 = h.1 ∧ h'.2.2.2.2 = h.2.2.2.2 ∧ h'.2.1 196 2 = h.2.1 196 2 ∧ (lV h' rv0 ∨ lV h' rv1) ∧ h'.2.1 0 1 = pSz x s ∧ ∀ a k, 196 ≤ a → h'.2.1 a k = h.2.1 a k) := by
    intro c
    have key := SN_p12_0 (d := d + 1) (vs := []) (by show 1 ≤ d + 1; omega) (12, [(0, .inr (.inr (some 0))), (1, .inl x)], [], h) ⟨rfl, (fun q hq => by
      rcases List.mem_cons.mp hq with e | hq
      · subst e; exact ⟨_, rfl, 0, List.mem_cons_self, rfl⟩
      · rcases List.mem_cons.mp hq with e | hq
        · subst e; exact ⟨_, rfl, x, rfl, aIn_top x⟩
        · cases hq), trivial, ⟨fun q hq => (nomatch hq), hr⟩, ho, hFr.rf⟩
    refine zEx.mono key (fun v h' hq => ?_)
    obtain ⟨ho3, hf3, p, hp, hret, -⟩ := hq
    have hall : ct_p12_0.2.2.2.1.all (fun p => decide (p.1 = some (.inl [(-1, -1, 1)]))) = true := by decide +kernel
    rw [of_decide_eq_true (List.all_eq_true.mp hall p hp)] at hret
    obtain ⟨y, e, -⟩ := hret
    refine ⟨⟨y, e⟩, ho3, hf3.1, hf3.2.1, hf3.2.2.1 196 2 (by decide), ?_, ?_, fun a k ha => hf3.2.2.1 a k (inM_by pC (by decide +kernel) (pC_f ha))⟩
    · have : lV h' rv0 := fun q hq => (hf3.2.2.2.1 q.1.1 q.1.2 rfl).trans (hr q hq)
      exact .inl this
    · rw [hf3.2.2.1 0 1 (by decide), pSz, if_neg c]
      exact ht
  show zEx none (d + 1) mX11_post (0, [(0, .inr (.inr (some 0))), (1, .inl x)], [], h) _
  refine ex_iload_n (pc' := 1) dX11_post_0 rfl rfl ?_
  refine ex_if (pc' := 12) (pc2 := 4) dX11_post_1 (by decide) rfl (fun c => kno (fun q => by have := zi_lt c; omega)) (fun c => ?_)
  refine ex_iload_n (pc' := 5) dX11_post_4 rfl rfl ?_
  refine ex_aload_n (pc' := 6) dX11_post_5 rfl rfl ?_
  refine ex_getI (pc' := 9) (n := 16) (v := nI s) dX11_post_6 fl_11_13 s0 (by decide) ht rfl ?_
  refine ex_icmp (pc' := 18) (pc2 := 12) dX11_post_9 (by decide) rfl (fun c2 => ?_) (fun c2 => kno (fun q => by
    have := zi_gt (zk_le_gt c2)
    rw [nI_toInt (by omega)] at this
    omega))
  have c3 := zi_ngt (zk_le_gt c2)
  rw [nI_toInt (by omega)] at c3
  have c1 := zi_nlt c
  have c : 0 ≤ x.toInt ∧ x.toInt ≤ (s : Int) := ⟨by omega, c3⟩
  refine ex_aload_n (pc' := 19) dX11_post_18 rfl rfl ?_
  refine ex_iconst (v := 0) (pc' := 20) dX11_post_19 (by decide) rfl ?_
  refine ex_putI (pc' := 23) (n := 16) dX11_post_20 fl_11_13 s0 (Or.inl rfl) (Or.inl rfl) rfl ?_
  have ho2 : hOK wd (zsI h 0 1 0) := hOK_set (aLe_in (A := [(0, 0, 1)]) (by decide +kernel) (aR1_in (lo := 0) (hi := 0) (by decide) (by decide))) (by decide +kernel) ho
  have t2 : (zsI h 0 1 0).2.1 0 1 = 0 := by rw [zsI_at, if_pos ⟨rfl, rfl⟩]
  have key := SN_p23_0 (d := d + 1) (vs := []) hd (23, [(0, .inr (.inr (some 0))), (1, .inl x)], [], zsI h 0 1 0) ⟨rfl, (fun q hq => by
      rcases List.mem_cons.mp hq with e | hq
      · subst e; exact ⟨_, rfl, 0, List.mem_cons_self, rfl⟩
      · rcases List.mem_cons.mp hq with e | hq
        · subst e; exact ⟨_, rfl, x, rfl, aR1_in (lo := 0) (hi := 1000) c.1 (by omega)⟩
        · cases hq), trivial, ⟨(fun q hq => by
      have e : q = ((0, 1), [(0, 0, 1)]) := by simpa using (show q ∈ [(((0, 1), [(0, 0, 1)]) : (Nat × Nat) × aI)] from hq)
      subst e
      show aIn ((zsI h 0 1 0).2.1 0 1).toInt [(0, 0, 1)]
      rw [t2]
      exact aR1_in (lo := 0) (hi := 0) (by decide) (by decide)), hr⟩, ho2, hFr.rf⟩
  refine zEx.mono key (fun v h' hq => ?_)
  obtain ⟨ho3, hf3, p, hp, hret, -, hpre, hpr⟩ := hq
  have e01 : h'.2.1 196 2 = h.2.1 196 2 := by
    rw [hf3.2.2.1 196 2 (by decide)]
    show (zsI h 0 1 0).2.1 196 2 = _
    rw [zsI_no (by omega)]
  have hz : h'.2.1 0 1 = 0 := by
    rw [hf3.2.2.1 0 1 (by decide)]
    exact t2
  have hall : ct_p23_0.2.2.2.1.all (fun p => (match p.1 with | some (.inl _) => true | _ => false) && (rv0.all (fun q => p.2.2.2.any (fun r => decide (r = q))) || rv1.all (fun q => p.2.2.2.any (fun r => decide (r = q))))) = true := by decide +kernel
  have hb := List.all_eq_true.mp hall p hp
  rw [Bool.and_eq_true, Bool.or_eq_true] at hb
  have hvv : ∀ rv : aU, rv.all (fun q => p.2.2.2.any (fun r => decide (r = q))) = true → lV h' rv := fun rv ha q hq => by
    obtain ⟨r, hr, er⟩ := List.any_eq_true.mp (List.all_eq_true.mp ha q hq)
    have er := of_decide_eq_true er
    subst er
    exact hpr r hr
  refine ⟨?_, ho3, hf3.1, hf3.2.1, e01, hb.2.elim (fun z => .inl (hvv _ z)) (fun z => .inr (hvv _ z)), by rw [hz, pSz, if_pos c], fun a k ha => (hf3.2.2.1 a k (inM_by pC (by decide +kernel) (pC_f ha))).trans (zsI_no (by omega))⟩
  obtain ⟨p1, p2⟩ := p
  match p1, hb.1, hret with
  | some (.inl A), _, ⟨y, e, _⟩ => exact ⟨y, e⟩
theorem P_post11_1 (ho : hOK wd h) (hr : lV h rv1) (ht : h.2.1 0 1 = nI s) (hs : s ≤ 1000) (hd : 6 ≤ d + 1) : zCt (d + 1) mX11_post [.inr (.inr (some 0)), .inl x] h (fun v h' => (∃ y : Int32, v = some (.inl y)) ∧ hOK wd h' ∧ h'.1 = h.1 ∧ h'.2.2.2.2 = h.2.2.2.2 ∧ h'.2.1 196 2 = h.2.1 196 2 ∧ (lV h' rv0 ∨ lV h' rv1) ∧ h'.2.1 0 1 = pSz x s ∧ ∀ a k, 196 ≤ a → h'.2.1 a k = h.2.1 a k) := by
  have s0 : zsh h 0 = some (11, 16) := ho.1 0 (11, 16) (by decide +kernel)
  have k0 : (0 : Int32).toInt = 0 := by decide
  have kno : ¬ (0 ≤ x.toInt ∧ x.toInt ≤ (s : Int)) → zEx none (d + 1) mX11_post (12, [(0, .inr (.inr (some 0))), (1, .inl x)], [], h) (fun v h' => (∃ y : Int32, v = some (.inl y)) ∧ hOK wd h' ∧ h'.1 = h.1 ∧ h'.2.2.2.2 = h.2.2.2.2 ∧ h'.2.1 196 2 = h.2.1 196 2 ∧ (lV h' rv0 ∨ lV h' rv1) ∧ h'.2.1 0 1 = pSz x s ∧ ∀ a k, 196 ≤ a → h'.2.1 a k = h.2.1 a k) := by
    intro c
    have key := SN_p12_1 (d := d + 1) (vs := []) (by show 1 ≤ d + 1; omega) (12, [(0, .inr (.inr (some 0))), (1, .inl x)], [], h) ⟨rfl, (fun q hq => by
      rcases List.mem_cons.mp hq with e | hq
      · subst e; exact ⟨_, rfl, 0, List.mem_cons_self, rfl⟩
      · rcases List.mem_cons.mp hq with e | hq
        · subst e; exact ⟨_, rfl, x, rfl, aIn_top x⟩
        · cases hq), trivial, ⟨fun q hq => (nomatch hq), hr⟩, ho, hFr.rf⟩
    refine zEx.mono key (fun v h' hq => ?_)
    obtain ⟨ho3, hf3, p, hp, hret, -⟩ := hq
    have hall : ct_p12_1.2.2.2.1.all (fun p => decide (p.1 = some (.inl [(-1, -1, 1)]))) = true := by decide +kernel
    rw [of_decide_eq_true (List.all_eq_true.mp hall p hp)] at hret
    obtain ⟨y, e, -⟩ := hret
    refine ⟨⟨y, e⟩, ho3, hf3.1, hf3.2.1, hf3.2.2.1 196 2 (by decide), ?_, ?_, fun a k ha => hf3.2.2.1 a k (inM_by pC (by decide +kernel) (pC_f ha))⟩
    · have : lV h' rv1 := fun q hq => (hf3.2.2.2.1 q.1.1 q.1.2 rfl).trans (hr q hq)
      exact .inr this
    · rw [hf3.2.2.1 0 1 (by decide), pSz, if_neg c]
      exact ht
  show zEx none (d + 1) mX11_post (0, [(0, .inr (.inr (some 0))), (1, .inl x)], [], h) _
  refine ex_iload_n (pc' := 1) dX11_post_0 rfl rfl ?_
  refine ex_if (pc' := 12) (pc2 := 4) dX11_post_1 (by decide) rfl (fun c => kno (fun q => by have := zi_lt c; omega)) (fun c => ?_)
  refine ex_iload_n (pc' := 5) dX11_post_4 rfl rfl ?_
  refine ex_aload_n (pc' := 6) dX11_post_5 rfl rfl ?_
  refine ex_getI (pc' := 9) (n := 16) (v := nI s) dX11_post_6 fl_11_13 s0 (by decide) ht rfl ?_
  refine ex_icmp (pc' := 18) (pc2 := 12) dX11_post_9 (by decide) rfl (fun c2 => ?_) (fun c2 => kno (fun q => by
    have := zi_gt (zk_le_gt c2)
    rw [nI_toInt (by omega)] at this
    omega))
  have c3 := zi_ngt (zk_le_gt c2)
  rw [nI_toInt (by omega)] at c3
  have c1 := zi_nlt c
  have c : 0 ≤ x.toInt ∧ x.toInt ≤ (s : Int) := ⟨by omega, c3⟩
  refine ex_aload_n (pc' := 19) dX11_post_18 rfl rfl ?_
  refine ex_iconst (v := 0) (pc' := 20) dX11_post_19 (by decide) rfl ?_
  refine ex_putI (pc' := 23) (n := 16) dX11_post_20 fl_11_13 s0 (Or.inl rfl) (Or.inl rfl) rfl ?_
  have ho2 : hOK wd (zsI h 0 1 0) := hOK_set (aLe_in (A := [(0, 0, 1)]) (by decide +kernel) (aR1_in (lo := 0) (hi := 0) (by decide) (by decide))) (by decide +kernel) ho
  have t2 : (zsI h 0 1 0).2.1 0 1 = 0 := by rw [zsI_at, if_pos ⟨rfl, rfl⟩]
  have key := SN_p23_1 (d := d + 1) (vs := []) hd (23, [(0, .inr (.inr (some 0))), (1, .inl x)], [], zsI h 0 1 0) ⟨rfl, (fun q hq => by
      rcases List.mem_cons.mp hq with e | hq
      · subst e; exact ⟨_, rfl, 0, List.mem_cons_self, rfl⟩
      · rcases List.mem_cons.mp hq with e | hq
        · subst e; exact ⟨_, rfl, x, rfl, aR1_in (lo := 0) (hi := 1000) c.1 (by omega)⟩
        · cases hq), trivial, ⟨(fun q hq => by
      have e : q = ((0, 1), [(0, 0, 1)]) := by simpa using (show q ∈ [(((0, 1), [(0, 0, 1)]) : (Nat × Nat) × aI)] from hq)
      subst e
      show aIn ((zsI h 0 1 0).2.1 0 1).toInt [(0, 0, 1)]
      rw [t2]
      exact aR1_in (lo := 0) (hi := 0) (by decide) (by decide)), hr⟩, ho2, hFr.rf⟩
  refine zEx.mono key (fun v h' hq => ?_)
  obtain ⟨ho3, hf3, p, hp, hret, -, hpre, hpr⟩ := hq
  have e01 : h'.2.1 196 2 = h.2.1 196 2 := by
    rw [hf3.2.2.1 196 2 (by decide)]
    show (zsI h 0 1 0).2.1 196 2 = _
    rw [zsI_no (by omega)]
  have hz : h'.2.1 0 1 = 0 := by
    rw [hf3.2.2.1 0 1 (by decide)]
    exact t2
  have hall : ct_p23_1.2.2.2.1.all (fun p => (match p.1 with | some (.inl _) => true | _ => false) && (rv0.all (fun q => p.2.2.2.any (fun r => decide (r = q))) || rv1.all (fun q => p.2.2.2.any (fun r => decide (r = q))))) = true := by decide +kernel
  have hb := List.all_eq_true.mp hall p hp
  rw [Bool.and_eq_true, Bool.or_eq_true] at hb
  have hvv : ∀ rv : aU, rv.all (fun q => p.2.2.2.any (fun r => decide (r = q))) = true → lV h' rv := fun rv ha q hq => by
    obtain ⟨r, hr, er⟩ := List.any_eq_true.mp (List.all_eq_true.mp ha q hq)
    have er := of_decide_eq_true er
    subst er
    exact hpr r hr
  refine ⟨?_, ho3, hf3.1, hf3.2.1, e01, hb.2.elim (fun z => .inl (hvv _ z)) (fun z => .inr (hvv _ z)), by rw [hz, pSz, if_pos c], fun a k ha => (hf3.2.2.1 a k (inM_by pC (by decide +kernel) (pC_f ha))).trans (zsI_no (by omega))⟩
  obtain ⟨p1, p2⟩ := p
  match p1, hb.1, hret with
  | some (.inl A), _, ⟨y, e, _⟩ => exact ⟨y, e⟩
end HP
end Pk3
section Pk4
/-! led of the class: it answers or throws, and writes nothing -/
def ldS (h h' : zH) : Prop := hOK wd h' ∧ h'.1 = h.1 ∧ (∀ a k, h'.2.1 a k = h.2.1 a k) ∧ (∀ a k, h'.2.2.2.1 a k = h.2.2.2.1 a k) ∧ h'.2.2.2.2 = h.2.2.2.2
def ldQ (h : zH) (v : Option zV) (h' : zH) : Prop := (∃ b : Int32, v = some (.inl b) ∧ ldS h h') ∨ (v = some (.inr (.inl (-1))) ∧ ∃ g, ldS h g ∧ h' = zthr g)
theorem ldS.tr {h h1 h2 : zH} (a : ldS h h1) (b : ldS h1 h2) : ldS h h2 := ⟨b.1, b.2.1.trans a.2.1, fun x k => (b.2.2.1 x k).trans (a.2.2.1 x k), fun x k => (b.2.2.2.1 x k).trans (a.2.2.2.1 x k), b.2.2.2.2.trans a.2.2.2.2⟩
theorem ldQ.tr {h h1 : zH} (a : ldS h h1) {v : Option zV} {h' : zH} (b : ldQ h1 v h') : ldQ h v h' := by
  rcases b with ⟨y, e, z⟩ | ⟨e, g, z, w⟩
  · exact .inl ⟨y, e, a.tr z⟩
  · exact .inr ⟨e, g, a.tr z, w⟩
theorem nI_rg {x : Int32} {n : Nat} (h : aIn x.toInt [(0, (n : Int), 1)]) (hn : n ≤ 2147483647) : ∃ s : Nat, s ≤ n ∧ x = nI s := by
  obtain ⟨p, hp, a, b, -⟩ := h
  have e : p = (0, (n : Int), 1) := by simpa using hp
  subst e
  have a : 0 ≤ x.toInt := a
  have b : x.toInt ≤ (n : Int) := b
  refine ⟨x.toInt.toNat, by omega, Int32.toInt_inj.mp ?_⟩
  rw [nI_toInt (by omega)]
  omega
section HL
variable {d p m : Nat}
theorem led_loop (hp : p = 2 ∨ p = 42) (hm : m ≤ 8) : ∀ (r b : Nat) (h : zH) (ls : zL) (y : Int32), b + r = m → hOK wd h → h.2.2.2.1 0 3 = some p → h.2.1 p 7 = nI m → h.2.2.2.2 < 1000 → zget ls 0 = some (.inr (.inr (some 0))) → zget ls 2 = some (.inl y) → zget ls 3 = some (.inl (nI b)) → zEx none (d + 1) mX11_led (4, ls, [], h) (ldQ h) := by
  intro r
  induction r with
  | zero =>
    intro b h ls y hb ho r3 h7 hth l0 l2 l3
    have s0 : zsh h 0 = some (11, 16) := ho.1 0 (11, 16) (by decide +kernel)
    have sp : zsh h p = some (4, 15) := by rcases hp with e | e <;> subst e <;> exact ho.1 _ (4, 15) (by decide +kernel)
    refine ex_iload_n (pc' := 5) dX11_led_4 l3 rfl ?_
    refine ex_aload_n (pc' := 6) dX11_led_5 l0 rfl ?_
    refine ex_getR (pc' := 9) (n := 16) (r := p) dX11_led_6 fl_11_23 s0 (by decide) r3 rfl ?_
    refine ex_getI (pc' := 12) (n := 15) (v := nI m) dX11_led_9 fl_11_239 sp (by decide) h7 rfl ?_
    refine ex_icmp_t (pc' := 45) dX11_led_12 (by
      rw [show b = m by omega]
      simp [zcond]) (by decide) ?_
    exact ex_thr dX11_led_45 kl_11_363 (by decide) rfl hth (.inr ⟨rfl, h, ⟨ho, rfl, fun _ _ => rfl, fun _ _ => rfl, rfl⟩, rfl⟩)
  | succ r ih =>
    intro b h ls y hb ho r3 h7 hth l0 l2 l3
    have s0 : zsh h 0 = some (11, 16) := ho.1 0 (11, 16) (by decide +kernel)
    have s86 : zsh h 86 = some (2, 7) := ho.1 86 (2, 7) (by decide +kernel)
    have r6 : h.2.2.2.1 0 6 = some 86 := ho.2.2.1 0 6 86 (by decide +kernel)
    have sp : zsh h p = some (4, 15) := by rcases hp with e | e <;> subst e <;> exact ho.1 _ (4, 15) (by decide +kernel)
    refine ex_iload_n (pc' := 5) dX11_led_4 l3 rfl ?_
    refine ex_aload_n (pc' := 6) dX11_led_5 l0 rfl ?_
    refine ex_getR (pc' := 9) (n := 16) (r := p) dX11_led_6 fl_11_23 s0 (by decide) r3 rfl ?_
    refine ex_getI (pc' := 12) (n := 15) (v := nI m) dX11_led_9 fl_11_239 sp (by decide) h7 rfl ?_
    refine ex_icmp_f (pc' := 15) dX11_led_12 (zk_lt_ge (b := true) (zj_lt (by rw [nI_toInt (by omega), nI_toInt (by omega)]; omega))) (by decide) rfl ?_
    refine ex_iload_n (pc' := 16) dX11_led_15 l2 rfl ?_
    refine ex_if (pc' := 45) (pc2 := 19) dX11_led_16 (by decide) rfl (fun _ => ex_thr dX11_led_45 kl_11_363 (by decide) rfl hth (.inr ⟨rfl, h, ⟨ho, rfl, fun _ _ => rfl, fun _ _ => rfl, rfl⟩, rfl⟩)) (fun _ => ?_)
    refine ex_aload_n (pc' := 20) dX11_led_19 l0 rfl ?_
    refine ex_getR (pc' := 23) (n := 16) (r := 86) dX11_led_20 fl_11_42 s0 (by decide) r6 rfl ?_
    refine ex_iload_n (pc' := 24) dX11_led_23 l3 rfl ?_
    refine ex_callv (pc' := 27) (vs := [.inl (nI b)]) (rest := []) (n := 7) dX11_led_24 ml_11_242 ⟨zble rfl, zble rfl⟩ rfl rfl s86 (by decide) (zble rfl) rfl (S_98 d (Nat.zero_le _) [.inr (.inr (some 86)), .inl (nI b)] h ⟨⟨86, List.mem_cons_self, rfl⟩, ⟨nI b, rfl, aR1_in (lo := 0) (hi := 7) (by rw [nI_toInt (by omega)]; omega) (by rw [nI_toInt (by omega)]; omega)⟩, trivial⟩ ho ⟨fun q hq => (nomatch hq), fun q hq => (nomatch hq)⟩) (fun v h1 hq => ?_)
    obtain ⟨ho1, hf1, q, hq, hret, -⟩ := hq
    have hS : ldS h h1 := ⟨ho1, hf1.1, fun a k => hf1.2.2.1 a k rfl, fun a k => hf1.2.2.2.1 a k rfl, hf1.2.1⟩
    have hv : ∃ z : Int32, v = some (.inl z) := by
      have hq : q ∈ [((some (.inl [(0, 0, 1)]), [], [], []) : aPo), (some (.inl [(1, 1, 1)]), [], [], [])] := hq
      simp only [List.mem_cons, List.not_mem_nil, or_false] at hq
      rcases hq with e | e <;> subst e
      · obtain ⟨z, e, -⟩ := hret; exact ⟨z, e⟩
      · obtain ⟨z, e, -⟩ := hret; exact ⟨z, e⟩
    obtain ⟨z, e⟩ := hv
    subst e
    show zEx none (d + 1) mX11_led (27, ls, [.inl z], h1) (ldQ h)
    have next : ∀ (ls' : zL) (y' : Int32), zget ls' 0 = some (.inr (.inr (some 0))) → zget ls' 2 = some (.inl y') → zget ls' 3 = some (.inl (nI b)) → zEx none (d + 1) mX11_led (39, ls', [], h1) (ldQ h) := by
      intro ls' y' g0 g2 g3
      refine ex_iinc (pc' := 42) (v := nI (b + 1)) dX11_led_39 g3 (by decide) (nI_add b 1) rfl rfl ?_
      refine ex_goto (pc' := 4) dX11_led_42 (by decide) ?_
      refine zEx.mono (ih (b + 1) h1 _ y' (by omega) ho1 ((hS.2.2.2.1 0 3).trans r3) ((hS.2.2.1 p 7).trans h7) (by rw [hS.2.2.2.2]; exact hth) (zget_s1 g0 (by decide) (by simp [zcat])) (zget_s1 g2 (by decide) (by simp [zcat])) zget_s1e) (fun v h' hq => hq.tr hS)
    refine ex_if (pc' := 39) (pc2 := 30) dX11_led_27 (by decide) rfl (fun _ => next ls y l0 l2 l3) (fun _ => ?_)
    refine ex_iload_n (pc' := 31) dX11_led_30 l2 rfl ?_
    refine ex_if (pc' := 36) (pc2 := 34) dX11_led_31 (by decide) rfl (fun _ => ?_) (fun _ => ?_)
    · refine ex_iinc (pc' := 39) (v := y + Int32.ofInt (-1)) dX11_led_36 l2 (by decide) rfl rfl rfl ?_
      exact next _ _ (zget_s1 l0 (by decide) (by simp [zcat])) zget_s1e (zget_s1 l3 (by decide) (by simp [zcat]))
    · refine ex_iload_n (pc' := 35) dX11_led_34 l3 rfl ?_
      exact ex_iret dX11_led_35 rfl rfl (.inl ⟨nI b, rfl, hS⟩)
theorem S_led {h : zH} {x : Int32} (ho : hOK wd h) (hr : h.2.2.2.1 0 3 = some 2 ∨ h.2.2.2.1 0 3 = some 42) (hth : h.2.2.2.2 < 1000) : zCt (d + 1) zledM [.inr (.inr (some 0)), .inl x] h (ldQ h) := by
  obtain ⟨p, hp, r3⟩ : ∃ p : Nat, (p = 2 ∨ p = 42) ∧ h.2.2.2.1 0 3 = some p := by
    rcases hr with e | e
    · exact ⟨2, .inl rfl, e⟩
    · exact ⟨42, .inr rfl, e⟩
  have h7 : aIn (h.2.1 p 7).toInt [(0, ((8 : Nat) : Int), 1)] := by
    rcases hp with e | e
    · subst e; exact aLe_in (A := gSeg (wd.2.1 2) 7) (by decide +kernel) (ho.2.1 2 7)
    · subst e; exact aLe_in (A := gSeg (wd.2.1 42) 7) (by decide +kernel) (ho.2.1 42 7)
  obtain ⟨m, hm, e7⟩ := nI_rg h7 (by decide)
  show zEx none (d + 1) mX11_led (0, [(0, .inr (.inr (some 0))), (1, .inl x)], [], h) _
  refine ex_iload_n (pc' := 1) dX11_led_0 rfl rfl ?_
  refine ex_istore_n (pc' := 2) dX11_led_1 (by decide) rfl rfl ?_
  refine ex_iconst (v := nI 0) (pc' := 3) dX11_led_2 (by decide) rfl ?_
  refine ex_istore_n (pc' := 4) dX11_led_3 (by decide) rfl rfl ?_
  exact led_loop hp hm m 0 h _ x (by omega) ho r3 e7 hth rfl rfl rfl
end HL
end Pk4
