/-! send: nodes, and heardNow in the small world -/
set_option maxRecDepth 100000 in
theorem btX12_send : bTab oX12_send tX12_send := ⟨ofX12_send, by decide +kernel⟩
def ct_send : aCt := (mX12_send, [.inr (.inl [196]), .inl aTop, .inl aTop], ([], []), [(some (.inl [(0, 2147483647, 1)]), [], [((196, 11), [(0, 0, 1)]), ((196, 14), [(1, 1, 1)]), ((196, 20), [(1, 12, 1)]), ((199, 0), [(2, 4, 1)]), ((199, 4), [(1, 7, 1)]), ((199, 6), [(1, 5, 1)]), ((199, 7), [(1, 8, 1)])], []), (some (.inl [(-1, -1, 1)]), [], [((196, 11), [(1, 1, 1), (5, 5, 1)])], [])], [(196, 0, 1), (196, 11, 12), (196, 20, 21), (196, 26, 28), (201, 2, 28), (202, 0, 912), (205, 0, 7), (206, 0, 7)], [], 9)
def lk_send : aLk := [(167, 0, 1, ct_651), (424, 0, 1, ct_X12_note1_0), (170, 0, 2, ct_1112), (170, 0, 2, ct_1884), (274, 0, 2, ct_1436), (268, 0, 2, ct_1108)]
theorem lh_send : aLkH wd ct_send lk_send := List.forall_mem_cons.mpr ⟨⟨ml_12_167, S_651⟩, List.forall_mem_cons.mpr ⟨⟨ml_12_424, S_X12_note1_0⟩, List.forall_mem_cons.mpr ⟨⟨ml_12_170, S_1112⟩, List.forall_mem_cons.mpr ⟨⟨ml_12_170, S_1884⟩, List.forall_mem_cons.mpr ⟨⟨ml_12_274, S_1436⟩, List.forall_mem_cons.mpr ⟨⟨ml_12_268, S_1108⟩, fun _ h => nomatch h⟩⟩⟩⟩⟩⟩
def ct_lays0 (b : Int) : aCt := (mX12_lays, [.inr (.inl [196]), .inl [(0, 4, 1)], .inl [(b, b, 1)]], ([((199, 0), [(2, 4, 1)]), ((199, 4), [(1, 7, 1)]), ((199, 6), [(1, 5, 1)]), ((199, 7), [(1, 8, 1)])], []), [(some (.inl [(0, 0, 1)]), [], [], [])], [(196, 26, 28), (205, 0, 7), (206, 0, 7)], [], 7)
def lk_lays0 : aLk := [(271, 0, 3, ct_1437), (262, 0, 3, ct_1439)]
theorem lh_lays0 (b : Int) : aLkH wd (ct_lays0 b) lk_lays0 := List.forall_mem_cons.mpr ⟨⟨ml_12_271, S_1437⟩, List.forall_mem_cons.mpr ⟨⟨ml_12_262, S_1439⟩, fun _ h => nomatch h⟩⟩
def n26 : aNd := (26, [(0, .inr (.inl [196])), (1, .inl [(0, 4, 1)]), (2, .inl [(0, 7, 1)])], [], [((196, 11), [(0, 0, 1)]), ((196, 14), [(1, 1, 1)]), ((199, 0), [(2, 4, 1)]), ((199, 4), [(1, 7, 1)]), ((199, 6), [(1, 5, 1)]), ((199, 7), [(1, 8, 1)])], [], (0, []))
def n37 : aNd := (37, [(0, .inr (.inl [196])), (1, .inl [(0, 4, 1)]), (2, .inl [(0, 7, 1)]), (3, .inl aTop)], [], [((196, 11), [(0, 0, 1)]), ((196, 14), [(1, 1, 1)]), ((199, 0), [(2, 4, 1)]), ((199, 4), [(1, 7, 1)]), ((199, 6), [(1, 5, 1)]), ((199, 7), [(1, 8, 1)])], [], (1, []))
def n48 : aNd := (48, [(0, .inr (.inl [196])), (1, .inl [(0, 4, 1)]), (2, .inl [(0, 7, 1)]), (3, .inl [(0, 2147483647, 1)])], [.inl [(0, 6, 1)]], [((196, 11), [(0, 0, 1)]), ((196, 14), [(1, 1, 1)]), ((199, 0), [(2, 4, 1)]), ((199, 4), [(1, 7, 1)]), ((199, 6), [(1, 5, 1)]), ((199, 7), [(1, 8, 1)])], [], (1, []))
def n29 (b : Int) : aNd := (29, [(0, .inr (.inl [196])), (1, .inl [(0, 4, 1)]), (2, .inl [(b, b, 1)]), (3, .inl [(0, 3, 1)]), (4, .inl [(3, 3, 1), (9, 9, 1), (99, 99, 1)])], [], [((199, 0), [(2, 4, 1)]), ((199, 4), [(1, 7, 1)]), ((199, 6), [(1, 5, 1)]), ((199, 7), [(1, 8, 1)])], [], (0, []))
def n36 (b : Int) : aNd := (36, [(0, .inr (.inl [196])), (1, .inl [(0, 4, 1)]), (2, .inl [(b, b, 1)]), (3, .inl [(0, 3, 1)]), (4, .inl [(3, 3, 1), (9, 9, 1), (99, 99, 1)]), (5, .inl [(-2, -2, 1)])], [], [((199, 0), [(2, 4, 1)]), ((199, 4), [(1, 7, 1)]), ((199, 6), [(1, 5, 1)]), ((199, 7), [(1, 8, 1)])], [], (1, []))
set_option maxRecDepth 100000 in
theorem kE_send : aSgk wd ct_send lk_send oX12_send [] 3000 [nd0 n26] (aEnt ct_send (1, [])) = true := by decide +kernel
set_option maxRecDepth 100000 in
theorem k_n37 : aSgk wd ct_send lk_send oX12_send [] 3000 [] n37 = true := by decide +kernel
set_option maxRecDepth 100000 in
theorem k_n48 : aSgk wd ct_send lk_send oX12_send [] 3000 [] n48 = true := by decide +kernel
set_option maxRecDepth 100000 in
theorem kE_lays0 : ([0, 1, 2, 3, 4, 5, 6, 7] : List Int).all (fun b => aSgk wd (ct_lays0 b) lk_lays0 oX12_lays [] 3000 [nd0 (n29 b)] (aEnt (ct_lays0 b) (1, []))) = true := by decide +kernel
set_option maxRecDepth 100000 in
theorem k_n36 : ([0, 1, 2, 3, 4, 5, 6, 7] : List Int).all (fun b => aSgk wd (ct_lays0 b) lk_lays0 oX12_lays [] 3000 [] (n36 b)) = true := by decide +kernel
def ct_bo : aCt := ct_1445
theorem S_bo : aSpec wd ct_bo := S_1445
def ct_la : aCt := ct_1443
theorem S_la : aSpec wd ct_la := S_1443
def wo : aWd := (fun a => bif (Nat.beq a 196 || (Nat.beq a 199 || Nat.beq a 201)) then wSh[a]? else none, wd.2.1, wd.2.2.1, wd.2.2.2)
def ct_o0 : aCt := (mX12_songLong, [.inr (.inl [196]), .inl [(0, 6, 1)]], ([((199, 0), [(2, 4, 1)]), ((199, 4), [(1, 7, 1)])], []), [(some (.inl [(0, 6, 1)]), [], [], [])], [], [], 0)
set_option maxRecDepth 100000 in
theorem S_o0 : aSpec wo ct_o0 := aChk_ok (lk := []) (cd := oX12_songLong) (nds := []) (fk := []) (rk := (1, [])) (fuel := 3000) (by decide +kernel) (fun _ h => nomatch h) odX12_songLong
def ct_o1 : aCt := (mX12_ofBox, [.inr (.inl [196]), .inl [(0, 7, 1)], .inl [(1, 1, 1)]], ([((199, 0), [(2, 4, 1)]), ((199, 4), [(1, 7, 1)])], []), [(some (.inl [(0, 6, 1)]), [], [], [])], [], [], 0)
set_option maxRecDepth 100000 in
theorem S_o1 : aSpec wo ct_o1 := aChk_ok (lk := []) (cd := oX12_ofBox) (nds := []) (fk := []) (rk := (1, [])) (fuel := 3000) (by decide +kernel) (fun _ h => nomatch h) odX12_ofBox
def ct_o2 : aCt := (mX12_songLong, [.inr (.inl [196]), .inl [(0, 0, 1)]], ([((199, 0), [(2, 4, 1)]), ((199, 4), [(1, 7, 1)])], []), [(some (.inl [(2, 6, 1)]), [], [], [])], [], [], 0)
set_option maxRecDepth 100000 in
theorem S_o2 : aSpec wo ct_o2 := aChk_ok (lk := []) (cd := oX12_songLong) (nds := []) (fk := []) (rk := (1, [])) (fuel := 3000) (by decide +kernel) (fun _ h => nomatch h) odX12_songLong
def ct_o3 : aCt := (mX12_songLong, [.inr (.inl [196]), .inl [(1, 1, 1)]], ([((199, 0), [(2, 4, 1)]), ((199, 4), [(1, 7, 1)])], []), [(some (.inl [(0, 6, 1)]), [], [], [])], [], [], 0)
set_option maxRecDepth 100000 in
theorem S_o3 : aSpec wo ct_o3 := aChk_ok (lk := []) (cd := oX12_songLong) (nds := []) (fk := []) (rk := (1, [])) (fuel := 3000) (by decide +kernel) (fun _ h => nomatch h) odX12_songLong
def ct_o4 : aCt := (mX12_songLong, [.inr (.inl [196]), .inl [(2, 2, 1)]], ([((199, 0), [(2, 4, 1)]), ((199, 4), [(1, 7, 1)])], []), [(some (.inl [(0, 6, 1)]), [], [], [])], [], [], 0)
set_option maxRecDepth 100000 in
theorem S_o4 : aSpec wo ct_o4 := aChk_ok (lk := []) (cd := oX12_songLong) (nds := []) (fk := []) (rk := (1, [])) (fuel := 3000) (by decide +kernel) (fun _ h => nomatch h) odX12_songLong
def ct_o5 : aCt := (mX12_songLong, [.inr (.inl [196]), .inl [(3, 3, 1)]], ([((199, 0), [(2, 4, 1)]), ((199, 4), [(1, 7, 1)])], []), [(some (.inl [(0, 6, 1)]), [], [], [])], [], [], 0)
set_option maxRecDepth 100000 in
theorem S_o5 : aSpec wo ct_o5 := aChk_ok (lk := []) (cd := oX12_songLong) (nds := []) (fk := []) (rk := (1, [])) (fuel := 3000) (by decide +kernel) (fun _ h => nomatch h) odX12_songLong
def ct_o6 : aCt := (mX12_songLong, [.inr (.inl [196]), .inl [(4, 4, 1)]], ([((199, 0), [(2, 4, 1)]), ((199, 4), [(1, 7, 1)])], []), [(some (.inl [(0, 6, 1)]), [], [], [])], [], [], 0)
set_option maxRecDepth 100000 in
theorem S_o6 : aSpec wo ct_o6 := aChk_ok (lk := []) (cd := oX12_songLong) (nds := []) (fk := []) (rk := (1, [])) (fuel := 3000) (by decide +kernel) (fun _ h => nomatch h) odX12_songLong
def ct_o7 : aCt := (mX12_songLong, [.inr (.inl [196]), .inl [(5, 5, 1)]], ([((199, 0), [(2, 4, 1)]), ((199, 4), [(1, 7, 1)])], []), [(some (.inl [(0, 6, 1)]), [], [], [])], [], [], 0)
set_option maxRecDepth 100000 in
theorem S_o7 : aSpec wo ct_o7 := aChk_ok (lk := []) (cd := oX12_songLong) (nds := []) (fk := []) (rk := (1, [])) (fuel := 3000) (by decide +kernel) (fun _ h => nomatch h) odX12_songLong
def ct_o8 : aCt := (mX12_songLong, [.inr (.inl [196]), .inl [(6, 6, 1)]], ([((199, 0), [(2, 4, 1)]), ((199, 4), [(1, 7, 1)])], []), [(some (.inl [(0, 6, 1)]), [], [], [])], [], [], 0)
set_option maxRecDepth 100000 in
theorem S_o8 : aSpec wo ct_o8 := aChk_ok (lk := []) (cd := oX12_songLong) (nds := []) (fk := []) (rk := (1, [])) (fuel := 3000) (by decide +kernel) (fun _ h => nomatch h) odX12_songLong
def ct_o9 : aCt := (mX12_boxLong, [.inr (.inl [196]), .inl [(0, 7, 1)]], ([((199, 0), [(2, 4, 1)]), ((199, 4), [(1, 7, 1)])], []), [(some (.inl [(0, 6, 1)]), [], [], [])], [], [], 1)
set_option maxRecDepth 100000 in
theorem S_o9 : aSpec wo ct_o9 := aChk_ok (lk := [(265, 0, 2, ct_o2), (265, 0, 2, ct_o3), (265, 0, 2, ct_o4), (265, 0, 2, ct_o5), (265, 0, 2, ct_o6), (265, 0, 2, ct_o7), (265, 0, 2, ct_o8), (262, 0, 3, ct_o1)]) (cd := oX12_boxLong) (nds := []) (fk := [7]) (rk := (1, [])) (fuel := 3000) (by decide +kernel) (List.forall_mem_cons.mpr ⟨⟨ml_12_265, S_o2⟩, List.forall_mem_cons.mpr ⟨⟨ml_12_265, S_o3⟩, List.forall_mem_cons.mpr ⟨⟨ml_12_265, S_o4⟩, List.forall_mem_cons.mpr ⟨⟨ml_12_265, S_o5⟩, List.forall_mem_cons.mpr ⟨⟨ml_12_265, S_o6⟩, List.forall_mem_cons.mpr ⟨⟨ml_12_265, S_o7⟩, List.forall_mem_cons.mpr ⟨⟨ml_12_265, S_o8⟩, List.forall_mem_cons.mpr ⟨⟨ml_12_262, S_o1⟩, fun _ h => nomatch h⟩⟩⟩⟩⟩⟩⟩⟩) odX12_boxLong
def ct_o10 : aCt := (mX12_ofBox, [.inr (.inl [196]), .inl [(0, 7, 1)], .inl [(1, 1, 1)]], ([((199, 0), [(2, 4, 1)])], []), [(some (.inl [(0, 6, 1)]), [], [], [])], [], [], 0)
set_option maxRecDepth 100000 in
theorem S_o10 : aSpec wo ct_o10 := aChk_ok (lk := []) (cd := oX12_ofBox) (nds := []) (fk := []) (rk := (1, [])) (fuel := 3000) (by decide +kernel) (fun _ h => nomatch h) odX12_ofBox
def ct_o11 : aCt := (mX12_songLong, [.inr (.inl [196]), .inl [(0, 0, 1)]], ([((199, 0), [(2, 4, 1)])], []), [(some (.inl [(0, 6, 1)]), [], [], [])], [], [], 0)
set_option maxRecDepth 100000 in
theorem S_o11 : aSpec wo ct_o11 := aChk_ok (lk := []) (cd := oX12_songLong) (nds := []) (fk := []) (rk := (1, [])) (fuel := 3000) (by decide +kernel) (fun _ h => nomatch h) odX12_songLong
def ct_o12 : aCt := (mX12_songLong, [.inr (.inl [196]), .inl [(1, 1, 1)]], ([((199, 0), [(2, 4, 1)])], []), [(some (.inl [(0, 6, 1)]), [], [], [])], [], [], 0)
set_option maxRecDepth 100000 in
theorem S_o12 : aSpec wo ct_o12 := aChk_ok (lk := []) (cd := oX12_songLong) (nds := []) (fk := []) (rk := (1, [])) (fuel := 3000) (by decide +kernel) (fun _ h => nomatch h) odX12_songLong
def ct_o13 : aCt := (mX12_songLong, [.inr (.inl [196]), .inl [(2, 2, 1)]], ([((199, 0), [(2, 4, 1)])], []), [(some (.inl [(0, 6, 1)]), [], [], [])], [], [], 0)
set_option maxRecDepth 100000 in
theorem S_o13 : aSpec wo ct_o13 := aChk_ok (lk := []) (cd := oX12_songLong) (nds := []) (fk := []) (rk := (1, [])) (fuel := 3000) (by decide +kernel) (fun _ h => nomatch h) odX12_songLong
def ct_o14 : aCt := (mX12_songLong, [.inr (.inl [196]), .inl [(3, 3, 1)]], ([((199, 0), [(2, 4, 1)])], []), [(some (.inl [(0, 6, 1)]), [], [], [])], [], [], 0)
set_option maxRecDepth 100000 in
theorem S_o14 : aSpec wo ct_o14 := aChk_ok (lk := []) (cd := oX12_songLong) (nds := []) (fk := []) (rk := (1, [])) (fuel := 3000) (by decide +kernel) (fun _ h => nomatch h) odX12_songLong
def ct_o15 : aCt := (mX12_songLong, [.inr (.inl [196]), .inl [(4, 4, 1)]], ([((199, 0), [(2, 4, 1)])], []), [(some (.inl [(0, 6, 1)]), [], [], [])], [], [], 0)
set_option maxRecDepth 100000 in
theorem S_o15 : aSpec wo ct_o15 := aChk_ok (lk := []) (cd := oX12_songLong) (nds := []) (fk := []) (rk := (1, [])) (fuel := 3000) (by decide +kernel) (fun _ h => nomatch h) odX12_songLong
def ct_o16 : aCt := (mX12_songLong, [.inr (.inl [196]), .inl [(5, 5, 1)]], ([((199, 0), [(2, 4, 1)])], []), [(some (.inl [(0, 6, 1)]), [], [], [])], [], [], 0)
set_option maxRecDepth 100000 in
theorem S_o16 : aSpec wo ct_o16 := aChk_ok (lk := []) (cd := oX12_songLong) (nds := []) (fk := []) (rk := (1, [])) (fuel := 3000) (by decide +kernel) (fun _ h => nomatch h) odX12_songLong
def ct_o17 : aCt := (mX12_songLong, [.inr (.inl [196]), .inl [(6, 6, 1)]], ([((199, 0), [(2, 4, 1)])], []), [(some (.inl [(0, 6, 1)]), [], [], [])], [], [], 0)
set_option maxRecDepth 100000 in
theorem S_o17 : aSpec wo ct_o17 := aChk_ok (lk := []) (cd := oX12_songLong) (nds := []) (fk := []) (rk := (1, [])) (fuel := 3000) (by decide +kernel) (fun _ h => nomatch h) odX12_songLong
def ct_o18 : aCt := (mX12_boxLong, [.inr (.inl [196]), .inl [(0, 7, 1)]], ([((199, 0), [(2, 4, 1)])], []), [(some (.inl [(0, 6, 1)]), [], [], [])], [], [], 1)
set_option maxRecDepth 100000 in
theorem S_o18 : aSpec wo ct_o18 := aChk_ok (lk := [(265, 0, 2, ct_o11), (265, 0, 2, ct_o12), (265, 0, 2, ct_o13), (265, 0, 2, ct_o14), (265, 0, 2, ct_o15), (265, 0, 2, ct_o16), (265, 0, 2, ct_o17), (262, 0, 3, ct_o10)]) (cd := oX12_boxLong) (nds := []) (fk := [7]) (rk := (1, [])) (fuel := 3000) (by decide +kernel) (List.forall_mem_cons.mpr ⟨⟨ml_12_265, S_o11⟩, List.forall_mem_cons.mpr ⟨⟨ml_12_265, S_o12⟩, List.forall_mem_cons.mpr ⟨⟨ml_12_265, S_o13⟩, List.forall_mem_cons.mpr ⟨⟨ml_12_265, S_o14⟩, List.forall_mem_cons.mpr ⟨⟨ml_12_265, S_o15⟩, List.forall_mem_cons.mpr ⟨⟨ml_12_265, S_o16⟩, List.forall_mem_cons.mpr ⟨⟨ml_12_265, S_o17⟩, List.forall_mem_cons.mpr ⟨⟨ml_12_262, S_o10⟩, fun _ h => nomatch h⟩⟩⟩⟩⟩⟩⟩⟩) odX12_boxLong
def ct_o19 : aCt := (mX12_noteIn, [.inr (.inl [196]), .inl [(0, 6, 1)], .inl [(0, 5, 1)], .inl [(0, 10098, 1)]], ([((199, 0), [(2, 4, 1)])], []), [(some (.inl [(-3, 3, 1)]), [], [], [])], [], [], 0)
set_option maxRecDepth 100000 in
theorem S_o19 : aSpec wo ct_o19 := aChk_ok (lk := []) (cd := oX12_noteIn) (nds := []) (fk := []) (rk := (1, [])) (fuel := 3000) (by decide +kernel) (fun _ h => nomatch h) odX12_noteIn
def ct_o20 : aCt := (mX12_unlike, [.inr (.inl [196]), .inl [(0, 7, 1)], .inl [(0, 6, 1)], .inl [(0, 10098, 1)], .inl [(-1, 5, 1)], .inl [(0, 3, 1)]], ([((199, 0), [(2, 4, 1)])], []), [(some (.inl aTop), [], [], [])], [], [], 2)
set_option maxRecDepth 100000 in
theorem S_o20 : aSpec wo ct_o20 := aChk_ok (lk := [(284, 0, 2, ct_o18), (280, 0, 4, ct_o19)]) (cd := oX12_unlike) (nds := [(6, [(0, .inr (.inl [196])), (1, .inl [(0, 7, 1)]), (2, .inl [(0, 6, 1)]), (3, .inl [(0, 10098, 1)]), (4, .inl [(-1, 5, 1)]), (5, .inl [(0, 3, 1)]), (6, .inl aTop), (7, .inl [(0, 6, 1)])], [], [((199, 0), [(2, 4, 1)])], [], (6, [(6, -1)]))]) (fk := []) (rk := (7, [])) (fuel := 3000) (by decide +kernel) (List.forall_mem_cons.mpr ⟨⟨ml_12_284, S_o18⟩, List.forall_mem_cons.mpr ⟨⟨ml_12_280, S_o19⟩, fun _ h => nomatch h⟩⟩) odX12_unlike
def ct_o21 : aCt := (mX12_hearsIn, [.inr (.inl [196]), .inl [(0, 7, 1)], .inl [(0, 10098, 1)], .inl [(-1, 5, 1)], .inl [(0, 3, 1)]], ([((199, 0), [(2, 4, 1)])], []), [(some (.inl [(-2, -2, 1), (0, 6, 1)]), [], [], []), (some (.inl [(-2, -2, 1)]), [], [], [])], [], [], 3)
set_option maxRecDepth 100000 in
theorem S_o21 : aSpec wo ct_o21 := aChk_ok (lk := [(265, 0, 2, ct_o0), (284, 0, 2, ct_o9), (287, 0, 6, ct_o20)]) (cd := oX12_hearsIn) (nds := [(11, [(0, .inr (.inl [196])), (1, .inl [(0, 7, 1)]), (2, .inl [(0, 10098, 1)]), (3, .inl [(-1, 5, 1)]), (4, .inl [(0, 3, 1)]), (5, .inl [(-2, -2, 1), (0, 6, 1)]), (6, .inl [(-2147483648, 7, 1)]), (7, .inl [(0, 7, 1)])], [], [((199, 0), [(2, 4, 1)])], [], (7, [(6, -1)]))]) (fk := []) (rk := (8, [])) (fuel := 3000) (by decide +kernel) (List.forall_mem_cons.mpr ⟨⟨ml_12_265, S_o0⟩, List.forall_mem_cons.mpr ⟨⟨ml_12_284, S_o9⟩, List.forall_mem_cons.mpr ⟨⟨ml_12_287, S_o20⟩, fun _ h => nomatch h⟩⟩⟩) odX12_hearsIn
def ct_o22 : aCt := (mX12_heardNow, [.inr (.inl [196]), .inl [(0, 7, 1)]], ([((199, 0), [(2, 4, 1)]), ((199, 4), [(1, 7, 1)]), ((199, 6), [(1, 5, 1)]), ((199, 7), [(1, 8, 1)])], []), [(some (.inl [(-2, -2, 1), (0, 6, 1)]), [], [], []), (some (.inl [(-2, -2, 1)]), [], [], [])], [], [], 4)
set_option maxRecDepth 100000 in
theorem S_o22 : aSpec wo ct_o22 := aChk_ok (lk := [(291, 0, 5, ct_o21)]) (cd := oX12_heardNow) (nds := []) (fk := []) (rk := (1, [])) (fuel := 3000) (by decide +kernel) (List.forall_mem_cons.mpr ⟨⟨ml_12_291, S_o21⟩, fun _ h => nomatch h⟩) odX12_heardNow

def ct_hn : aCt := ct_o22
theorem S_hno : aSpec wo ct_hn := S_o22
-- heardNow: (mX12_heardNow, [.inr (.inl [196]), .inl [(0, 7, 1)]], ([((199, 0), [(2, 4, 1)]), ((199, 4), [(1, 7, 1)]), ((199, 6), [(1, 5, 1)]), ((199, 7), [(1, 8, 1)])], []), [(some (.inl [(-2, -2, 1), (0, 6, 1)]), [], [], []), (some (.inl [(-2, -2, 1)]), [], [], [])], [], [], 4)
-- bringsOf: (mX12_bringsOf, [.inr (.inl [196]), .inl [(0, 4, 1)], .inl [(0, 7, 1)]], ([((199, 0), [(2, 4, 1)]), ((199, 4), [(1, 7, 1)]), ((199, 6), [(1, 5, 1)]), ((199, 7), [(1, 8, 1)])], []), [(some (.inl aTop), [], [], []), (some (.inl [(-2, -2, 1)]), [], [], [])], [(196, 26, 28), (205, 0, 7), (206, 0, 7)], [], 8)
-- lays: (mX12_lays, [.inr (.inl [196]), .inl [(0, 4, 1)], .inl [(0, 7, 1)]], ([((199, 0), [(2, 4, 1)]), ((199, 4), [(1, 7, 1)]), ((199, 6), [(1, 5, 1)]), ((199, 7), [(1, 8, 1)])], []), [(some (.inl [(0, 0, 1)]), [], [], []), (some (.inl [(1, 1, 1)]), [], [], [])], [(196, 26, 28), (205, 0, 7), (206, 0, 7)], [], 7)
