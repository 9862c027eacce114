set_option maxRecDepth 100000 in
theorem btX12_decade : bTab oX12_decade tX12_decade := ⟨ofX12_decade, by decide +kernel⟩
def ct_1517 : aCt := (mX12_decade, [.inr (.inl [196]), .inl aTop, .inl aTop], ([((196, 14), [(0, 0, 1)])], []), [(some (.inl [(-1, -1, 1)]), [], [((196, 11), [(1, 1, 1)])], [])], [(196, 0, 1), (196, 11, 12)], [], 1)
set_option maxRecDepth 100000 in
theorem S_1517 : aSpec wd ct_1517 := bChk_ok wx_ok btX12_decade (lk := [(167, 0, 1, ct_651), (170, 0, 2, ct_1112)]) (nds := []) (fk := []) (rk := (1, [])) (sp := 0) (fuel := 3000) (by decide +kernel) (List.forall_mem_cons.mpr ⟨⟨ml_12_167, S_651⟩, List.forall_mem_cons.mpr ⟨⟨ml_12_170, S_1112⟩, fun _ h => nomatch h⟩⟩) odX12_decade
def ct_1518 : aCt := (mX12_in, [.inl aTop, .inl [(0, 0, 1)], .inl [(65536, 65536, 1)]], ([], []), [(some (.inl [(0, 0, 1)]), [some [(-2147483648, -1, 1), (65537, 2147483647, 1)], none, none], [], []), (some (.inl [(1, 1, 1)]), [some [(0, 65536, 1)], none, none], [], [])], [(1000002, 0, 0)], [], 0)
set_option maxRecDepth 100000 in
theorem S_1518 : aSpec wd ct_1518 := bChk_ok wx_ok btX12_in (lk := []) (nds := []) (fk := []) (rk := (1, [])) (sp := 0) (fuel := 3000) (by decide +kernel) (fun _ h => nomatch h) odX12_in
def ct_1519 : aCt := (mX12_ofBox, [.inr (.inl [196]), .inl [(0, 0, 1)], .inl [(1, 1, 1)]], ([((199, 0), [(2, 4, 1)]), ((199, 4), [(1, 1, 1)]), ((199, 7), [(1, 8, 1)])], []), [(some (.inl [(0, 0, 1)]), [], [], [])], [], [], 0)
set_option maxRecDepth 100000 in
theorem S_1519 : aSpec wd ct_1519 := bChk_ok wx_ok btX12_ofBox (lk := []) (nds := []) (fk := []) (rk := (1, [])) (sp := 0) (fuel := 3000) (by decide +kernel) (fun _ h => nomatch h) odX12_ofBox
def ct_1520 : aCt := (mX12_songLong, [.inr (.inl [196]), .inl [(0, 0, 1)]], ([((199, 0), [(2, 4, 1)]), ((199, 4), [(1, 1, 1)]), ((199, 7), [(1, 8, 1)])], []), [(some (.inl [(2, 6, 1)]), [], [], [])], [], [], 0)
set_option maxRecDepth 100000 in
theorem S_1520 : aSpec wd ct_1520 := bChk_ok wx_ok btX12_songLong (lk := []) (nds := []) (fk := []) (rk := (1, [])) (sp := 0) (fuel := 3000) (by decide +kernel) (fun _ h => nomatch h) odX12_songLong
def ct_1521 : aCt := (mX12_boxLong, [.inr (.inl [196]), .inl [(0, 0, 1)]], ([((199, 0), [(2, 4, 1)]), ((199, 4), [(1, 1, 1)]), ((199, 7), [(1, 8, 1)])], []), [(some (.inl [(2, 6, 1)]), [], [], [])], [], [], 1)
set_option maxRecDepth 100000 in
theorem S_1521 : aSpec wd ct_1521 := bChk_ok wx_ok btX12_boxLong (lk := [(265, 0, 2, ct_1520), (262, 0, 3, ct_1519)]) (nds := []) (fk := [7]) (rk := (1, [])) (sp := 0) (fuel := 3000) (by decide +kernel) (List.forall_mem_cons.mpr ⟨⟨ml_12_265, S_1520⟩, List.forall_mem_cons.mpr ⟨⟨ml_12_262, S_1519⟩, fun _ h => nomatch h⟩⟩) odX12_boxLong
def ct_1522 : aCt := (mX12_ofBox, [.inr (.inl [196]), .inl [(1, 1, 1)], .inl [(1, 1, 1)]], ([((199, 0), [(2, 4, 1)]), ((199, 4), [(1, 1, 1)]), ((199, 7), [(2, 8, 1)])], []), [(some (.inl [(0, 0, 1)]), [], [], [])], [], [], 0)
set_option maxRecDepth 100000 in
theorem S_1522 : aSpec wd ct_1522 := bChk_ok wx_ok btX12_ofBox (lk := []) (nds := []) (fk := []) (rk := (1, [])) (sp := 0) (fuel := 3000) (by decide +kernel) (fun _ h => nomatch h) odX12_ofBox
def ct_1523 : aCt := (mX12_songLong, [.inr (.inl [196]), .inl [(0, 0, 1)]], ([((199, 0), [(2, 4, 1)]), ((199, 4), [(1, 1, 1)]), ((199, 7), [(2, 8, 1)])], []), [(some (.inl [(2, 6, 1)]), [], [], [])], [], [], 0)
set_option maxRecDepth 100000 in
theorem S_1523 : aSpec wd ct_1523 := bChk_ok wx_ok btX12_songLong (lk := []) (nds := []) (fk := []) (rk := (1, [])) (sp := 0) (fuel := 3000) (by decide +kernel) (fun _ h => nomatch h) odX12_songLong
def ct_1524 : aCt := (mX12_boxLong, [.inr (.inl [196]), .inl [(1, 1, 1)]], ([((199, 0), [(2, 4, 1)]), ((199, 4), [(1, 1, 1)]), ((199, 7), [(2, 8, 1)])], []), [(some (.inl [(2, 6, 1)]), [], [], [])], [], [], 1)
set_option maxRecDepth 100000 in
theorem S_1524 : aSpec wd ct_1524 := bChk_ok wx_ok btX12_boxLong (lk := [(265, 0, 2, ct_1523), (262, 0, 3, ct_1522)]) (nds := []) (fk := [7]) (rk := (1, [])) (sp := 0) (fuel := 3000) (by decide +kernel) (List.forall_mem_cons.mpr ⟨⟨ml_12_265, S_1523⟩, List.forall_mem_cons.mpr ⟨⟨ml_12_262, S_1522⟩, fun _ h => nomatch h⟩⟩) odX12_boxLong
def ct_1525 : aCt := (mX12_ofBox, [.inr (.inl [196]), .inl [(2, 2, 1)], .inl [(1, 1, 1)]], ([((199, 0), [(2, 4, 1)]), ((199, 4), [(1, 1, 1)]), ((199, 7), [(3, 8, 1)])], []), [(some (.inl [(0, 0, 1)]), [], [], [])], [], [], 0)
set_option maxRecDepth 100000 in
theorem S_1525 : aSpec wd ct_1525 := bChk_ok wx_ok btX12_ofBox (lk := []) (nds := []) (fk := []) (rk := (1, [])) (sp := 0) (fuel := 3000) (by decide +kernel) (fun _ h => nomatch h) odX12_ofBox
def ct_1526 : aCt := (mX12_songLong, [.inr (.inl [196]), .inl [(0, 0, 1)]], ([((199, 0), [(2, 4, 1)]), ((199, 4), [(1, 1, 1)]), ((199, 7), [(3, 8, 1)])], []), [(some (.inl [(2, 6, 1)]), [], [], [])], [], [], 0)
set_option maxRecDepth 100000 in
theorem S_1526 : aSpec wd ct_1526 := bChk_ok wx_ok btX12_songLong (lk := []) (nds := []) (fk := []) (rk := (1, [])) (sp := 0) (fuel := 3000) (by decide +kernel) (fun _ h => nomatch h) odX12_songLong
def ct_1527 : aCt := (mX12_boxLong, [.inr (.inl [196]), .inl [(2, 2, 1)]], ([((199, 0), [(2, 4, 1)]), ((199, 4), [(1, 1, 1)]), ((199, 7), [(3, 8, 1)])], []), [(some (.inl [(2, 6, 1)]), [], [], [])], [], [], 1)
set_option maxRecDepth 100000 in
theorem S_1527 : aSpec wd ct_1527 := bChk_ok wx_ok btX12_boxLong (lk := [(265, 0, 2, ct_1526), (262, 0, 3, ct_1525)]) (nds := []) (fk := [7]) (rk := (1, [])) (sp := 0) (fuel := 3000) (by decide +kernel) (List.forall_mem_cons.mpr ⟨⟨ml_12_265, S_1526⟩, List.forall_mem_cons.mpr ⟨⟨ml_12_262, S_1525⟩, fun _ h => nomatch h⟩⟩) odX12_boxLong
def ct_1528 : aCt := (mX12_ofBox, [.inr (.inl [196]), .inl [(3, 3, 1)], .inl [(1, 1, 1)]], ([((199, 0), [(2, 4, 1)]), ((199, 4), [(1, 1, 1)]), ((199, 7), [(4, 8, 1)])], []), [(some (.inl [(0, 0, 1)]), [], [], [])], [], [], 0)
set_option maxRecDepth 100000 in
theorem S_1528 : aSpec wd ct_1528 := bChk_ok wx_ok btX12_ofBox (lk := []) (nds := []) (fk := []) (rk := (1, [])) (sp := 0) (fuel := 3000) (by decide +kernel) (fun _ h => nomatch h) odX12_ofBox
def ct_1529 : aCt := (mX12_songLong, [.inr (.inl [196]), .inl [(0, 0, 1)]], ([((199, 0), [(2, 4, 1)]), ((199, 4), [(1, 1, 1)]), ((199, 7), [(4, 8, 1)])], []), [(some (.inl [(2, 6, 1)]), [], [], [])], [], [], 0)
set_option maxRecDepth 100000 in
theorem S_1529 : aSpec wd ct_1529 := bChk_ok wx_ok btX12_songLong (lk := []) (nds := []) (fk := []) (rk := (1, [])) (sp := 0) (fuel := 3000) (by decide +kernel) (fun _ h => nomatch h) odX12_songLong
def ct_1530 : aCt := (mX12_boxLong, [.inr (.inl [196]), .inl [(3, 3, 1)]], ([((199, 0), [(2, 4, 1)]), ((199, 4), [(1, 1, 1)]), ((199, 7), [(4, 8, 1)])], []), [(some (.inl [(2, 6, 1)]), [], [], [])], [], [], 1)
set_option maxRecDepth 100000 in
theorem S_1530 : aSpec wd ct_1530 := bChk_ok wx_ok btX12_boxLong (lk := [(265, 0, 2, ct_1529), (262, 0, 3, ct_1528)]) (nds := []) (fk := [7]) (rk := (1, [])) (sp := 0) (fuel := 3000) (by decide +kernel) (List.forall_mem_cons.mpr ⟨⟨ml_12_265, S_1529⟩, List.forall_mem_cons.mpr ⟨⟨ml_12_262, S_1528⟩, fun _ h => nomatch h⟩⟩) odX12_boxLong
def ct_1531 : aCt := (mX12_ofBox, [.inr (.inl [196]), .inl [(4, 4, 1)], .inl [(1, 1, 1)]], ([((199, 0), [(2, 4, 1)]), ((199, 4), [(1, 1, 1)]), ((199, 7), [(5, 8, 1)])], []), [(some (.inl [(0, 0, 1)]), [], [], [])], [], [], 0)
set_option maxRecDepth 100000 in
theorem S_1531 : aSpec wd ct_1531 := bChk_ok wx_ok btX12_ofBox (lk := []) (nds := []) (fk := []) (rk := (1, [])) (sp := 0) (fuel := 3000) (by decide +kernel) (fun _ h => nomatch h) odX12_ofBox
def ct_1532 : aCt := (mX12_songLong, [.inr (.inl [196]), .inl [(0, 0, 1)]], ([((199, 0), [(2, 4, 1)]), ((199, 4), [(1, 1, 1)]), ((199, 7), [(5, 8, 1)])], []), [(some (.inl [(2, 6, 1)]), [], [], [])], [], [], 0)
set_option maxRecDepth 100000 in
theorem S_1532 : aSpec wd ct_1532 := bChk_ok wx_ok btX12_songLong (lk := []) (nds := []) (fk := []) (rk := (1, [])) (sp := 0) (fuel := 3000) (by decide +kernel) (fun _ h => nomatch h) odX12_songLong
def ct_1533 : aCt := (mX12_boxLong, [.inr (.inl [196]), .inl [(4, 4, 1)]], ([((199, 0), [(2, 4, 1)]), ((199, 4), [(1, 1, 1)]), ((199, 7), [(5, 8, 1)])], []), [(some (.inl [(2, 6, 1)]), [], [], [])], [], [], 1)
set_option maxRecDepth 100000 in
theorem S_1533 : aSpec wd ct_1533 := bChk_ok wx_ok btX12_boxLong (lk := [(265, 0, 2, ct_1532), (262, 0, 3, ct_1531)]) (nds := []) (fk := [7]) (rk := (1, [])) (sp := 0) (fuel := 3000) (by decide +kernel) (List.forall_mem_cons.mpr ⟨⟨ml_12_265, S_1532⟩, List.forall_mem_cons.mpr ⟨⟨ml_12_262, S_1531⟩, fun _ h => nomatch h⟩⟩) odX12_boxLong
def ct_1534 : aCt := (mX12_ofBox, [.inr (.inl [196]), .inl [(5, 5, 1)], .inl [(1, 1, 1)]], ([((199, 0), [(2, 4, 1)]), ((199, 4), [(1, 1, 1)]), ((199, 7), [(6, 8, 1)])], []), [(some (.inl [(0, 0, 1)]), [], [], [])], [], [], 0)
set_option maxRecDepth 100000 in
theorem S_1534 : aSpec wd ct_1534 := bChk_ok wx_ok btX12_ofBox (lk := []) (nds := []) (fk := []) (rk := (1, [])) (sp := 0) (fuel := 3000) (by decide +kernel) (fun _ h => nomatch h) odX12_ofBox
def ct_1535 : aCt := (mX12_songLong, [.inr (.inl [196]), .inl [(0, 0, 1)]], ([((199, 0), [(2, 4, 1)]), ((199, 4), [(1, 1, 1)]), ((199, 7), [(6, 8, 1)])], []), [(some (.inl [(2, 6, 1)]), [], [], [])], [], [], 0)
set_option maxRecDepth 100000 in
theorem S_1535 : aSpec wd ct_1535 := bChk_ok wx_ok btX12_songLong (lk := []) (nds := []) (fk := []) (rk := (1, [])) (sp := 0) (fuel := 3000) (by decide +kernel) (fun _ h => nomatch h) odX12_songLong
def ct_1536 : aCt := (mX12_boxLong, [.inr (.inl [196]), .inl [(5, 5, 1)]], ([((199, 0), [(2, 4, 1)]), ((199, 4), [(1, 1, 1)]), ((199, 7), [(6, 8, 1)])], []), [(some (.inl [(2, 6, 1)]), [], [], [])], [], [], 1)
set_option maxRecDepth 100000 in
theorem S_1536 : aSpec wd ct_1536 := bChk_ok wx_ok btX12_boxLong (lk := [(265, 0, 2, ct_1535), (262, 0, 3, ct_1534)]) (nds := []) (fk := [7]) (rk := (1, [])) (sp := 0) (fuel := 3000) (by decide +kernel) (List.forall_mem_cons.mpr ⟨⟨ml_12_265, S_1535⟩, List.forall_mem_cons.mpr ⟨⟨ml_12_262, S_1534⟩, fun _ h => nomatch h⟩⟩) odX12_boxLong
def ct_1537 : aCt := (mX12_ofBox, [.inr (.inl [196]), .inl [(6, 6, 1)], .inl [(1, 1, 1)]], ([((199, 0), [(2, 4, 1)]), ((199, 4), [(1, 1, 1)]), ((199, 7), [(7, 8, 1)])], []), [(some (.inl [(0, 0, 1)]), [], [], [])], [], [], 0)
set_option maxRecDepth 100000 in
theorem S_1537 : aSpec wd ct_1537 := bChk_ok wx_ok btX12_ofBox (lk := []) (nds := []) (fk := []) (rk := (1, [])) (sp := 0) (fuel := 3000) (by decide +kernel) (fun _ h => nomatch h) odX12_ofBox
def ct_1538 : aCt := (mX12_songLong, [.inr (.inl [196]), .inl [(0, 0, 1)]], ([((199, 0), [(2, 4, 1)]), ((199, 4), [(1, 1, 1)]), ((199, 7), [(7, 8, 1)])], []), [(some (.inl [(2, 6, 1)]), [], [], [])], [], [], 0)
set_option maxRecDepth 100000 in
theorem S_1538 : aSpec wd ct_1538 := bChk_ok wx_ok btX12_songLong (lk := []) (nds := []) (fk := []) (rk := (1, [])) (sp := 0) (fuel := 3000) (by decide +kernel) (fun _ h => nomatch h) odX12_songLong
def ct_1539 : aCt := (mX12_boxLong, [.inr (.inl [196]), .inl [(6, 6, 1)]], ([((199, 0), [(2, 4, 1)]), ((199, 4), [(1, 1, 1)]), ((199, 7), [(7, 8, 1)])], []), [(some (.inl [(2, 6, 1)]), [], [], [])], [], [], 1)
set_option maxRecDepth 100000 in
theorem S_1539 : aSpec wd ct_1539 := bChk_ok wx_ok btX12_boxLong (lk := [(265, 0, 2, ct_1538), (262, 0, 3, ct_1537)]) (nds := []) (fk := [7]) (rk := (1, [])) (sp := 0) (fuel := 3000) (by decide +kernel) (List.forall_mem_cons.mpr ⟨⟨ml_12_265, S_1538⟩, List.forall_mem_cons.mpr ⟨⟨ml_12_262, S_1537⟩, fun _ h => nomatch h⟩⟩) odX12_boxLong
def ct_1540 : aCt := (mX12_ofBox, [.inr (.inl [196]), .inl [(7, 7, 1)], .inl [(1, 1, 1)]], ([((199, 0), [(2, 4, 1)]), ((199, 4), [(1, 1, 1)]), ((199, 7), [(8, 8, 1)])], []), [(some (.inl [(0, 0, 1)]), [], [], [])], [], [], 0)
set_option maxRecDepth 100000 in
theorem S_1540 : aSpec wd ct_1540 := bChk_ok wx_ok btX12_ofBox (lk := []) (nds := []) (fk := []) (rk := (1, [])) (sp := 0) (fuel := 3000) (by decide +kernel) (fun _ h => nomatch h) odX12_ofBox
def ct_1541 : aCt := (mX12_songLong, [.inr (.inl [196]), .inl [(0, 0, 1)]], ([((199, 0), [(2, 4, 1)]), ((199, 4), [(1, 1, 1)]), ((199, 7), [(8, 8, 1)])], []), [(some (.inl [(2, 6, 1)]), [], [], [])], [], [], 0)
set_option maxRecDepth 100000 in
theorem S_1541 : aSpec wd ct_1541 := bChk_ok wx_ok btX12_songLong (lk := []) (nds := []) (fk := []) (rk := (1, [])) (sp := 0) (fuel := 3000) (by decide +kernel) (fun _ h => nomatch h) odX12_songLong
def ct_1542 : aCt := (mX12_boxLong, [.inr (.inl [196]), .inl [(7, 7, 1)]], ([((199, 0), [(2, 4, 1)]), ((199, 4), [(1, 1, 1)]), ((199, 7), [(8, 8, 1)])], []), [(some (.inl [(2, 6, 1)]), [], [], [])], [], [], 1)
set_option maxRecDepth 100000 in
theorem S_1542 : aSpec wd ct_1542 := bChk_ok wx_ok btX12_boxLong (lk := [(265, 0, 2, ct_1541), (262, 0, 3, ct_1540)]) (nds := []) (fk := [7]) (rk := (1, [])) (sp := 0) (fuel := 3000) (by decide +kernel) (List.forall_mem_cons.mpr ⟨⟨ml_12_265, S_1541⟩, List.forall_mem_cons.mpr ⟨⟨ml_12_262, S_1540⟩, fun _ h => nomatch h⟩⟩) odX12_boxLong
def sl_372 : (Nat × Nat) × aI := ((199, 4), [(1, 1, 1)])
def ct_1543 : aCt := (mX12_decade, [.inr (.inl [196]), .inl aTop, .inl aTop], ([((199, 4), [(1, 1, 1)])], []), [(some (.inl aTop), [], [((196, 11), [(0, 0, 1)]), ((196, 14), [(1, 1, 1)]), ((199, 0), [(2, 4, 1)])], []), (some (.inl [(-1, -1, 1)]), [], [((196, 11), [(1, 2, 1)])], [])], [(196, 0, 1), (196, 11, 12)], [], 4)
set_option maxRecDepth 100000 in
theorem S_1543 : aSpec wd ct_1543 := bChk_ok wx_ok btX12_decade (lk := [(167, 0, 1, ct_651), (284, 0, 2, ct_1542), (284, 0, 2, ct_1539), (284, 0, 2, ct_1536), (284, 0, 2, ct_1533), (284, 0, 2, ct_1530), (284, 0, 2, ct_1527), (284, 0, 2, ct_1524), (284, 0, 2, ct_1521), (170, 0, 2, ct_1112), (170, 0, 2, ct_653), (262, 0, 3, ct_1540), (262, 0, 3, ct_1537), (262, 0, 3, ct_1534), (262, 0, 3, ct_1531), (262, 0, 3, ct_1528), (262, 0, 3, ct_1525), (262, 0, 3, ct_1522), (262, 0, 3, ct_1519), (291, 0, 5, ct_1155), (149, 1, 3, ct_1518), (149, 1, 3, ct_678)]) (nds := [(52, [(0, .inr (.inl [196])), (1, .inl [(0, 65536, 1)]), (2, .inl [(0, 50, 1)]), (3, .inl [(0, 65536, 1)]), (4, .inl aTop), (5, .inl [(0, 75, 1)])], [], [sl_325, sl_337, sl_326, sl_372], [], (759, [(4, -10)])), (61, [(0, .inr (.inl [196])), (1, .inl [(0, 65536, 1)]), (2, .inl [(1, 50, 1)]), (3, .inl [(0, 65536, 1)]), (4, .inl aTop), (5, .inl [(0, 63, 1)]), (6, .inl [(0, 0, 1)])], [], [sl_325, sl_337, sl_326, sl_372], [], (758, [(4, -10)])), (61, [(0, .inr (.inl [196])), (1, .inl [(0, 65536, 1)]), (2, .inl [(1, 50, 1)]), (3, .inl [(0, 65536, 1)]), (4, .inl aTop), (5, .inl [(0, 63, 1)]), (6, .inl [(1, 1, 1)]), (7, .inl [(-1, 5, 1)]), (8, .inl [(0, 3, 1)])], [], [sl_325, sl_337, sl_326, sl_372, sl_345], [], (757, [(4, -10)])), (61, [(0, .inr (.inl [196])), (1, .inl [(0, 65536, 1)]), (2, .inl [(1, 50, 1)]), (3, .inl [(0, 65536, 1)]), (4, .inl aTop), (5, .inl [(0, 63, 1)]), (6, .inl [(2, 2, 1)]), (7, .inl [(-1, 5, 1)]), (8, .inl [(0, 3, 1)])], [], [sl_325, sl_337, sl_326, sl_372, sl_364], [], (756, [(4, -10)])), (61, [(0, .inr (.inl [196])), (1, .inl [(0, 65536, 1)]), (2, .inl [(1, 50, 1)]), (3, .inl [(0, 65536, 1)]), (4, .inl aTop), (5, .inl [(0, 63, 1)]), (6, .inl [(3, 3, 1)]), (7, .inl [(-1, 5, 1)]), (8, .inl [(0, 3, 1)])], [], [sl_325, sl_337, sl_326, sl_372, sl_363], [], (755, [(4, -10)])), (61, [(0, .inr (.inl [196])), (1, .inl [(0, 65536, 1)]), (2, .inl [(1, 50, 1)]), (3, .inl [(0, 65536, 1)]), (4, .inl aTop), (5, .inl [(0, 63, 1)]), (6, .inl [(4, 4, 1)]), (7, .inl [(-1, 5, 1)]), (8, .inl [(0, 3, 1)])], [], [sl_325, sl_337, sl_326, sl_372, sl_362], [], (754, [(4, -10)])), (61, [(0, .inr (.inl [196])), (1, .inl [(0, 65536, 1)]), (2, .inl [(1, 50, 1)]), (3, .inl [(0, 65536, 1)]), (4, .inl aTop), (5, .inl [(0, 63, 1)]), (6, .inl [(5, 5, 1)]), (7, .inl [(-1, 5, 1)]), (8, .inl [(0, 3, 1)])], [], [sl_325, sl_337, sl_326, sl_372, sl_361], [], (753, [(4, -10)])), (61, [(0, .inr (.inl [196])), (1, .inl [(0, 65536, 1)]), (2, .inl [(1, 50, 1)]), (3, .inl [(0, 65536, 1)]), (4, .inl aTop), (5, .inl [(0, 63, 1)]), (6, .inl [(6, 6, 1)]), (7, .inl [(-1, 5, 1)]), (8, .inl [(0, 3, 1)])], [], [sl_325, sl_337, sl_326, sl_372, sl_360], [], (752, [(4, -10)])), (61, [(0, .inr (.inl [196])), (1, .inl [(0, 65536, 1)]), (2, .inl [(1, 50, 1)]), (3, .inl [(0, 65536, 1)]), (4, .inl aTop), (5, .inl [(0, 63, 1)]), (6, .inl [(7, 7, 1)]), (7, .inl [(-1, 5, 1)]), (8, .inl [(0, 3, 1)])], [], [sl_325, sl_337, sl_326, sl_372, sl_359], [], (751, [(4, -10)])), (61, [(0, .inr (.inl [196])), (1, .inl [(0, 65536, 1)]), (2, .inl [(1, 50, 1)]), (3, .inl [(0, 65536, 1)]), (4, .inl aTop), (5, .inl [(0, 63, 1)]), (6, .inl [(8, 8, 1)]), (7, .inl [(-1, 5, 1)]), (8, .inl [(0, 3, 1)])], [], [sl_325, sl_337, sl_326, sl_372, sl_358], [], (750, [(4, -10)]))]) (fk := []) (rk := (760, [])) (sp := 2310346608841064448) (fuel := 3000) (by decide +kernel) (List.forall_mem_cons.mpr ⟨⟨ml_12_167, S_651⟩, List.forall_mem_cons.mpr ⟨⟨ml_12_284, S_1542⟩, List.forall_mem_cons.mpr ⟨⟨ml_12_284, S_1539⟩, List.forall_mem_cons.mpr ⟨⟨ml_12_284, S_1536⟩, List.forall_mem_cons.mpr ⟨⟨ml_12_284, S_1533⟩, List.forall_mem_cons.mpr ⟨⟨ml_12_284, S_1530⟩, List.forall_mem_cons.mpr ⟨⟨ml_12_284, S_1527⟩, List.forall_mem_cons.mpr ⟨⟨ml_12_284, S_1524⟩, List.forall_mem_cons.mpr ⟨⟨ml_12_284, S_1521⟩, List.forall_mem_cons.mpr ⟨⟨ml_12_170, S_1112⟩, List.forall_mem_cons.mpr ⟨⟨ml_12_170, S_653⟩, List.forall_mem_cons.mpr ⟨⟨ml_12_262, S_1540⟩, List.forall_mem_cons.mpr ⟨⟨ml_12_262, S_1537⟩, List.forall_mem_cons.mpr ⟨⟨ml_12_262, S_1534⟩, List.forall_mem_cons.mpr ⟨⟨ml_12_262, S_1531⟩, List.forall_mem_cons.mpr ⟨⟨ml_12_262, S_1528⟩, List.forall_mem_cons.mpr ⟨⟨ml_12_262, S_1525⟩, List.forall_mem_cons.mpr ⟨⟨ml_12_262, S_1522⟩, List.forall_mem_cons.mpr ⟨⟨ml_12_262, S_1519⟩, List.forall_mem_cons.mpr ⟨⟨ml_12_291, S_1155⟩, List.forall_mem_cons.mpr ⟨⟨ml_12_149, S_1518⟩, List.forall_mem_cons.mpr ⟨⟨ml_12_149, S_678⟩, fun _ h => nomatch h⟩⟩⟩⟩⟩⟩⟩⟩⟩⟩⟩⟩⟩⟩⟩⟩⟩⟩⟩⟩⟩⟩) odX12_decade
def ct_1544 : aCt := (mX12_ofBox, [.inr (.inl [196]), .inl [(0, 0, 1)], .inl [(1, 1, 1)]], ([((199, 0), [(2, 4, 1)]), ((199, 4), [(2, 2, 1)]), ((199, 7), [(1, 8, 1)])], []), [(some (.inl [(0, 1, 1)]), [], [], [])], [], [], 0)
set_option maxRecDepth 100000 in
theorem S_1544 : aSpec wd ct_1544 := bChk_ok wx_ok btX12_ofBox (lk := []) (nds := []) (fk := []) (rk := (1, [])) (sp := 0) (fuel := 3000) (by decide +kernel) (fun _ h => nomatch h) odX12_ofBox
def ct_1545 : aCt := (mX12_songLong, [.inr (.inl [196]), .inl [(0, 0, 1)]], ([((199, 0), [(2, 4, 1)]), ((199, 4), [(2, 2, 1)]), ((199, 7), [(1, 8, 1)])], []), [(some (.inl [(2, 6, 1)]), [], [], [])], [], [], 0)
set_option maxRecDepth 100000 in
theorem S_1545 : aSpec wd ct_1545 := bChk_ok wx_ok btX12_songLong (lk := []) (nds := []) (fk := []) (rk := (1, [])) (sp := 0) (fuel := 3000) (by decide +kernel) (fun _ h => nomatch h) odX12_songLong
def ct_1546 : aCt := (mX12_songLong, [.inr (.inl [196]), .inl [(1, 1, 1)]], ([((199, 0), [(2, 4, 1)]), ((199, 4), [(2, 2, 1)]), ((199, 7), [(1, 8, 1)])], []), [(some (.inl [(2, 6, 1)]), [], [], [])], [], [], 0)
set_option maxRecDepth 100000 in
theorem S_1546 : aSpec wd ct_1546 := bChk_ok wx_ok btX12_songLong (lk := []) (nds := []) (fk := []) (rk := (1, [])) (sp := 0) (fuel := 3000) (by decide +kernel) (fun _ h => nomatch h) odX12_songLong
def ct_1547 : aCt := (mX12_boxLong, [.inr (.inl [196]), .inl [(0, 0, 1)]], ([((199, 0), [(2, 4, 1)]), ((199, 4), [(2, 2, 1)]), ((199, 7), [(1, 8, 1)])], []), [(some (.inl [(2, 6, 1)]), [], [], [])], [], [], 1)
set_option maxRecDepth 100000 in
theorem S_1547 : aSpec wd ct_1547 := bChk_ok wx_ok btX12_boxLong (lk := [(265, 0, 2, ct_1545), (265, 0, 2, ct_1546), (262, 0, 3, ct_1544)]) (nds := []) (fk := [7]) (rk := (1, [])) (sp := 0) (fuel := 3000) (by decide +kernel) (List.forall_mem_cons.mpr ⟨⟨ml_12_265, S_1545⟩, List.forall_mem_cons.mpr ⟨⟨ml_12_265, S_1546⟩, List.forall_mem_cons.mpr ⟨⟨ml_12_262, S_1544⟩, fun _ h => nomatch h⟩⟩⟩) odX12_boxLong
def ct_1548 : aCt := (mX12_ofBox, [.inr (.inl [196]), .inl [(1, 1, 1)], .inl [(1, 1, 1)]], ([((199, 0), [(2, 4, 1)]), ((199, 4), [(2, 2, 1)]), ((199, 7), [(2, 8, 1)])], []), [(some (.inl [(0, 1, 1)]), [], [], [])], [], [], 0)
set_option maxRecDepth 100000 in
theorem S_1548 : aSpec wd ct_1548 := bChk_ok wx_ok btX12_ofBox (lk := []) (nds := []) (fk := []) (rk := (1, [])) (sp := 0) (fuel := 3000) (by decide +kernel) (fun _ h => nomatch h) odX12_ofBox
def ct_1549 : aCt := (mX12_songLong, [.inr (.inl [196]), .inl [(0, 0, 1)]], ([((199, 0), [(2, 4, 1)]), ((199, 4), [(2, 2, 1)]), ((199, 7), [(2, 8, 1)])], []), [(some (.inl [(2, 6, 1)]), [], [], [])], [], [], 0)
set_option maxRecDepth 100000 in
theorem S_1549 : aSpec wd ct_1549 := bChk_ok wx_ok btX12_songLong (lk := []) (nds := []) (fk := []) (rk := (1, [])) (sp := 0) (fuel := 3000) (by decide +kernel) (fun _ h => nomatch h) odX12_songLong
def ct_1550 : aCt := (mX12_songLong, [.inr (.inl [196]), .inl [(1, 1, 1)]], ([((199, 0), [(2, 4, 1)]), ((199, 4), [(2, 2, 1)]), ((199, 7), [(2, 8, 1)])], []), [(some (.inl [(2, 6, 1)]), [], [], [])], [], [], 0)
set_option maxRecDepth 100000 in
theorem S_1550 : aSpec wd ct_1550 := bChk_ok wx_ok btX12_songLong (lk := []) (nds := []) (fk := []) (rk := (1, [])) (sp := 0) (fuel := 3000) (by decide +kernel) (fun _ h => nomatch h) odX12_songLong
def ct_1551 : aCt := (mX12_boxLong, [.inr (.inl [196]), .inl [(1, 1, 1)]], ([((199, 0), [(2, 4, 1)]), ((199, 4), [(2, 2, 1)]), ((199, 7), [(2, 8, 1)])], []), [(some (.inl [(2, 6, 1)]), [], [], [])], [], [], 1)
set_option maxRecDepth 100000 in
theorem S_1551 : aSpec wd ct_1551 := bChk_ok wx_ok btX12_boxLong (lk := [(265, 0, 2, ct_1549), (265, 0, 2, ct_1550), (262, 0, 3, ct_1548)]) (nds := []) (fk := [7]) (rk := (1, [])) (sp := 0) (fuel := 3000) (by decide +kernel) (List.forall_mem_cons.mpr ⟨⟨ml_12_265, S_1549⟩, List.forall_mem_cons.mpr ⟨⟨ml_12_265, S_1550⟩, List.forall_mem_cons.mpr ⟨⟨ml_12_262, S_1548⟩, fun _ h => nomatch h⟩⟩⟩) odX12_boxLong
def ct_1552 : aCt := (mX12_ofBox, [.inr (.inl [196]), .inl [(2, 2, 1)], .inl [(1, 1, 1)]], ([((199, 0), [(2, 4, 1)]), ((199, 4), [(2, 2, 1)]), ((199, 7), [(3, 8, 1)])], []), [(some (.inl [(0, 1, 1)]), [], [], [])], [], [], 0)
set_option maxRecDepth 100000 in
theorem S_1552 : aSpec wd ct_1552 := bChk_ok wx_ok btX12_ofBox (lk := []) (nds := []) (fk := []) (rk := (1, [])) (sp := 0) (fuel := 3000) (by decide +kernel) (fun _ h => nomatch h) odX12_ofBox
def ct_1553 : aCt := (mX12_songLong, [.inr (.inl [196]), .inl [(0, 0, 1)]], ([((199, 0), [(2, 4, 1)]), ((199, 4), [(2, 2, 1)]), ((199, 7), [(3, 8, 1)])], []), [(some (.inl [(2, 6, 1)]), [], [], [])], [], [], 0)
set_option maxRecDepth 100000 in
theorem S_1553 : aSpec wd ct_1553 := bChk_ok wx_ok btX12_songLong (lk := []) (nds := []) (fk := []) (rk := (1, [])) (sp := 0) (fuel := 3000) (by decide +kernel) (fun _ h => nomatch h) odX12_songLong
def ct_1554 : aCt := (mX12_songLong, [.inr (.inl [196]), .inl [(1, 1, 1)]], ([((199, 0), [(2, 4, 1)]), ((199, 4), [(2, 2, 1)]), ((199, 7), [(3, 8, 1)])], []), [(some (.inl [(2, 6, 1)]), [], [], [])], [], [], 0)
set_option maxRecDepth 100000 in
theorem S_1554 : aSpec wd ct_1554 := bChk_ok wx_ok btX12_songLong (lk := []) (nds := []) (fk := []) (rk := (1, [])) (sp := 0) (fuel := 3000) (by decide +kernel) (fun _ h => nomatch h) odX12_songLong
def ct_1555 : aCt := (mX12_boxLong, [.inr (.inl [196]), .inl [(2, 2, 1)]], ([((199, 0), [(2, 4, 1)]), ((199, 4), [(2, 2, 1)]), ((199, 7), [(3, 8, 1)])], []), [(some (.inl [(2, 6, 1)]), [], [], [])], [], [], 1)
set_option maxRecDepth 100000 in
theorem S_1555 : aSpec wd ct_1555 := bChk_ok wx_ok btX12_boxLong (lk := [(265, 0, 2, ct_1553), (265, 0, 2, ct_1554), (262, 0, 3, ct_1552)]) (nds := []) (fk := [7]) (rk := (1, [])) (sp := 0) (fuel := 3000) (by decide +kernel) (List.forall_mem_cons.mpr ⟨⟨ml_12_265, S_1553⟩, List.forall_mem_cons.mpr ⟨⟨ml_12_265, S_1554⟩, List.forall_mem_cons.mpr ⟨⟨ml_12_262, S_1552⟩, fun _ h => nomatch h⟩⟩⟩) odX12_boxLong
def ct_1556 : aCt := (mX12_ofBox, [.inr (.inl [196]), .inl [(3, 3, 1)], .inl [(1, 1, 1)]], ([((199, 0), [(2, 4, 1)]), ((199, 4), [(2, 2, 1)]), ((199, 7), [(4, 8, 1)])], []), [(some (.inl [(0, 1, 1)]), [], [], [])], [], [], 0)
set_option maxRecDepth 100000 in
theorem S_1556 : aSpec wd ct_1556 := bChk_ok wx_ok btX12_ofBox (lk := []) (nds := []) (fk := []) (rk := (1, [])) (sp := 0) (fuel := 3000) (by decide +kernel) (fun _ h => nomatch h) odX12_ofBox
def ct_1557 : aCt := (mX12_songLong, [.inr (.inl [196]), .inl [(0, 0, 1)]], ([((199, 0), [(2, 4, 1)]), ((199, 4), [(2, 2, 1)]), ((199, 7), [(4, 8, 1)])], []), [(some (.inl [(2, 6, 1)]), [], [], [])], [], [], 0)
set_option maxRecDepth 100000 in
theorem S_1557 : aSpec wd ct_1557 := bChk_ok wx_ok btX12_songLong (lk := []) (nds := []) (fk := []) (rk := (1, [])) (sp := 0) (fuel := 3000) (by decide +kernel) (fun _ h => nomatch h) odX12_songLong
def ct_1558 : aCt := (mX12_songLong, [.inr (.inl [196]), .inl [(1, 1, 1)]], ([((199, 0), [(2, 4, 1)]), ((199, 4), [(2, 2, 1)]), ((199, 7), [(4, 8, 1)])], []), [(some (.inl [(2, 6, 1)]), [], [], [])], [], [], 0)
set_option maxRecDepth 100000 in
theorem S_1558 : aSpec wd ct_1558 := bChk_ok wx_ok btX12_songLong (lk := []) (nds := []) (fk := []) (rk := (1, [])) (sp := 0) (fuel := 3000) (by decide +kernel) (fun _ h => nomatch h) odX12_songLong
def ct_1559 : aCt := (mX12_boxLong, [.inr (.inl [196]), .inl [(3, 3, 1)]], ([((199, 0), [(2, 4, 1)]), ((199, 4), [(2, 2, 1)]), ((199, 7), [(4, 8, 1)])], []), [(some (.inl [(2, 6, 1)]), [], [], [])], [], [], 1)
set_option maxRecDepth 100000 in
theorem S_1559 : aSpec wd ct_1559 := bChk_ok wx_ok btX12_boxLong (lk := [(265, 0, 2, ct_1557), (265, 0, 2, ct_1558), (262, 0, 3, ct_1556)]) (nds := []) (fk := [7]) (rk := (1, [])) (sp := 0) (fuel := 3000) (by decide +kernel) (List.forall_mem_cons.mpr ⟨⟨ml_12_265, S_1557⟩, List.forall_mem_cons.mpr ⟨⟨ml_12_265, S_1558⟩, List.forall_mem_cons.mpr ⟨⟨ml_12_262, S_1556⟩, fun _ h => nomatch h⟩⟩⟩) odX12_boxLong
def ct_1560 : aCt := (mX12_ofBox, [.inr (.inl [196]), .inl [(4, 4, 1)], .inl [(1, 1, 1)]], ([((199, 0), [(2, 4, 1)]), ((199, 4), [(2, 2, 1)]), ((199, 7), [(5, 8, 1)])], []), [(some (.inl [(0, 1, 1)]), [], [], [])], [], [], 0)
set_option maxRecDepth 100000 in
theorem S_1560 : aSpec wd ct_1560 := bChk_ok wx_ok btX12_ofBox (lk := []) (nds := []) (fk := []) (rk := (1, [])) (sp := 0) (fuel := 3000) (by decide +kernel) (fun _ h => nomatch h) odX12_ofBox
def ct_1561 : aCt := (mX12_songLong, [.inr (.inl [196]), .inl [(0, 0, 1)]], ([((199, 0), [(2, 4, 1)]), ((199, 4), [(2, 2, 1)]), ((199, 7), [(5, 8, 1)])], []), [(some (.inl [(2, 6, 1)]), [], [], [])], [], [], 0)
set_option maxRecDepth 100000 in
theorem S_1561 : aSpec wd ct_1561 := bChk_ok wx_ok btX12_songLong (lk := []) (nds := []) (fk := []) (rk := (1, [])) (sp := 0) (fuel := 3000) (by decide +kernel) (fun _ h => nomatch h) odX12_songLong
def ct_1562 : aCt := (mX12_songLong, [.inr (.inl [196]), .inl [(1, 1, 1)]], ([((199, 0), [(2, 4, 1)]), ((199, 4), [(2, 2, 1)]), ((199, 7), [(5, 8, 1)])], []), [(some (.inl [(2, 6, 1)]), [], [], [])], [], [], 0)
set_option maxRecDepth 100000 in
theorem S_1562 : aSpec wd ct_1562 := bChk_ok wx_ok btX12_songLong (lk := []) (nds := []) (fk := []) (rk := (1, [])) (sp := 0) (fuel := 3000) (by decide +kernel) (fun _ h => nomatch h) odX12_songLong
def ct_1563 : aCt := (mX12_boxLong, [.inr (.inl [196]), .inl [(4, 4, 1)]], ([((199, 0), [(2, 4, 1)]), ((199, 4), [(2, 2, 1)]), ((199, 7), [(5, 8, 1)])], []), [(some (.inl [(2, 6, 1)]), [], [], [])], [], [], 1)
set_option maxRecDepth 100000 in
theorem S_1563 : aSpec wd ct_1563 := bChk_ok wx_ok btX12_boxLong (lk := [(265, 0, 2, ct_1561), (265, 0, 2, ct_1562), (262, 0, 3, ct_1560)]) (nds := []) (fk := [7]) (rk := (1, [])) (sp := 0) (fuel := 3000) (by decide +kernel) (List.forall_mem_cons.mpr ⟨⟨ml_12_265, S_1561⟩, List.forall_mem_cons.mpr ⟨⟨ml_12_265, S_1562⟩, List.forall_mem_cons.mpr ⟨⟨ml_12_262, S_1560⟩, fun _ h => nomatch h⟩⟩⟩) odX12_boxLong
def ct_1564 : aCt := (mX12_ofBox, [.inr (.inl [196]), .inl [(5, 5, 1)], .inl [(1, 1, 1)]], ([((199, 0), [(2, 4, 1)]), ((199, 4), [(2, 2, 1)]), ((199, 7), [(6, 8, 1)])], []), [(some (.inl [(0, 1, 1)]), [], [], [])], [], [], 0)
set_option maxRecDepth 100000 in
theorem S_1564 : aSpec wd ct_1564 := bChk_ok wx_ok btX12_ofBox (lk := []) (nds := []) (fk := []) (rk := (1, [])) (sp := 0) (fuel := 3000) (by decide +kernel) (fun _ h => nomatch h) odX12_ofBox
def ct_1565 : aCt := (mX12_songLong, [.inr (.inl [196]), .inl [(0, 0, 1)]], ([((199, 0), [(2, 4, 1)]), ((199, 4), [(2, 2, 1)]), ((199, 7), [(6, 8, 1)])], []), [(some (.inl [(2, 6, 1)]), [], [], [])], [], [], 0)
set_option maxRecDepth 100000 in
theorem S_1565 : aSpec wd ct_1565 := bChk_ok wx_ok btX12_songLong (lk := []) (nds := []) (fk := []) (rk := (1, [])) (sp := 0) (fuel := 3000) (by decide +kernel) (fun _ h => nomatch h) odX12_songLong
def ct_1566 : aCt := (mX12_songLong, [.inr (.inl [196]), .inl [(1, 1, 1)]], ([((199, 0), [(2, 4, 1)]), ((199, 4), [(2, 2, 1)]), ((199, 7), [(6, 8, 1)])], []), [(some (.inl [(2, 6, 1)]), [], [], [])], [], [], 0)
set_option maxRecDepth 100000 in
theorem S_1566 : aSpec wd ct_1566 := bChk_ok wx_ok btX12_songLong (lk := []) (nds := []) (fk := []) (rk := (1, [])) (sp := 0) (fuel := 3000) (by decide +kernel) (fun _ h => nomatch h) odX12_songLong
def ct_1567 : aCt := (mX12_boxLong, [.inr (.inl [196]), .inl [(5, 5, 1)]], ([((199, 0), [(2, 4, 1)]), ((199, 4), [(2, 2, 1)]), ((199, 7), [(6, 8, 1)])], []), [(some (.inl [(2, 6, 1)]), [], [], [])], [], [], 1)
set_option maxRecDepth 100000 in
theorem S_1567 : aSpec wd ct_1567 := bChk_ok wx_ok btX12_boxLong (lk := [(265, 0, 2, ct_1565), (265, 0, 2, ct_1566), (262, 0, 3, ct_1564)]) (nds := []) (fk := [7]) (rk := (1, [])) (sp := 0) (fuel := 3000) (by decide +kernel) (List.forall_mem_cons.mpr ⟨⟨ml_12_265, S_1565⟩, List.forall_mem_cons.mpr ⟨⟨ml_12_265, S_1566⟩, List.forall_mem_cons.mpr ⟨⟨ml_12_262, S_1564⟩, fun _ h => nomatch h⟩⟩⟩) odX12_boxLong
def ct_1568 : aCt := (mX12_ofBox, [.inr (.inl [196]), .inl [(6, 6, 1)], .inl [(1, 1, 1)]], ([((199, 0), [(2, 4, 1)]), ((199, 4), [(2, 2, 1)]), ((199, 7), [(7, 8, 1)])], []), [(some (.inl [(0, 1, 1)]), [], [], [])], [], [], 0)
set_option maxRecDepth 100000 in
theorem S_1568 : aSpec wd ct_1568 := bChk_ok wx_ok btX12_ofBox (lk := []) (nds := []) (fk := []) (rk := (1, [])) (sp := 0) (fuel := 3000) (by decide +kernel) (fun _ h => nomatch h) odX12_ofBox
def ct_1569 : aCt := (mX12_songLong, [.inr (.inl [196]), .inl [(0, 0, 1)]], ([((199, 0), [(2, 4, 1)]), ((199, 4), [(2, 2, 1)]), ((199, 7), [(7, 8, 1)])], []), [(some (.inl [(2, 6, 1)]), [], [], [])], [], [], 0)
set_option maxRecDepth 100000 in
theorem S_1569 : aSpec wd ct_1569 := bChk_ok wx_ok btX12_songLong (lk := []) (nds := []) (fk := []) (rk := (1, [])) (sp := 0) (fuel := 3000) (by decide +kernel) (fun _ h => nomatch h) odX12_songLong
def ct_1570 : aCt := (mX12_songLong, [.inr (.inl [196]), .inl [(1, 1, 1)]], ([((199, 0), [(2, 4, 1)]), ((199, 4), [(2, 2, 1)]), ((199, 7), [(7, 8, 1)])], []), [(some (.inl [(2, 6, 1)]), [], [], [])], [], [], 0)
set_option maxRecDepth 100000 in
theorem S_1570 : aSpec wd ct_1570 := bChk_ok wx_ok btX12_songLong (lk := []) (nds := []) (fk := []) (rk := (1, [])) (sp := 0) (fuel := 3000) (by decide +kernel) (fun _ h => nomatch h) odX12_songLong
def ct_1571 : aCt := (mX12_boxLong, [.inr (.inl [196]), .inl [(6, 6, 1)]], ([((199, 0), [(2, 4, 1)]), ((199, 4), [(2, 2, 1)]), ((199, 7), [(7, 8, 1)])], []), [(some (.inl [(2, 6, 1)]), [], [], [])], [], [], 1)
set_option maxRecDepth 100000 in
theorem S_1571 : aSpec wd ct_1571 := bChk_ok wx_ok btX12_boxLong (lk := [(265, 0, 2, ct_1569), (265, 0, 2, ct_1570), (262, 0, 3, ct_1568)]) (nds := []) (fk := [7]) (rk := (1, [])) (sp := 0) (fuel := 3000) (by decide +kernel) (List.forall_mem_cons.mpr ⟨⟨ml_12_265, S_1569⟩, List.forall_mem_cons.mpr ⟨⟨ml_12_265, S_1570⟩, List.forall_mem_cons.mpr ⟨⟨ml_12_262, S_1568⟩, fun _ h => nomatch h⟩⟩⟩) odX12_boxLong
def ct_1572 : aCt := (mX12_ofBox, [.inr (.inl [196]), .inl [(7, 7, 1)], .inl [(1, 1, 1)]], ([((199, 0), [(2, 4, 1)]), ((199, 4), [(2, 2, 1)]), ((199, 7), [(8, 8, 1)])], []), [(some (.inl [(0, 1, 1)]), [], [], [])], [], [], 0)
set_option maxRecDepth 100000 in
theorem S_1572 : aSpec wd ct_1572 := bChk_ok wx_ok btX12_ofBox (lk := []) (nds := []) (fk := []) (rk := (1, [])) (sp := 0) (fuel := 3000) (by decide +kernel) (fun _ h => nomatch h) odX12_ofBox
def ct_1573 : aCt := (mX12_songLong, [.inr (.inl [196]), .inl [(0, 0, 1)]], ([((199, 0), [(2, 4, 1)]), ((199, 4), [(2, 2, 1)]), ((199, 7), [(8, 8, 1)])], []), [(some (.inl [(2, 6, 1)]), [], [], [])], [], [], 0)
set_option maxRecDepth 100000 in
theorem S_1573 : aSpec wd ct_1573 := bChk_ok wx_ok btX12_songLong (lk := []) (nds := []) (fk := []) (rk := (1, [])) (sp := 0) (fuel := 3000) (by decide +kernel) (fun _ h => nomatch h) odX12_songLong
def ct_1574 : aCt := (mX12_songLong, [.inr (.inl [196]), .inl [(1, 1, 1)]], ([((199, 0), [(2, 4, 1)]), ((199, 4), [(2, 2, 1)]), ((199, 7), [(8, 8, 1)])], []), [(some (.inl [(2, 6, 1)]), [], [], [])], [], [], 0)
set_option maxRecDepth 100000 in
theorem S_1574 : aSpec wd ct_1574 := bChk_ok wx_ok btX12_songLong (lk := []) (nds := []) (fk := []) (rk := (1, [])) (sp := 0) (fuel := 3000) (by decide +kernel) (fun _ h => nomatch h) odX12_songLong
def ct_1575 : aCt := (mX12_boxLong, [.inr (.inl [196]), .inl [(7, 7, 1)]], ([((199, 0), [(2, 4, 1)]), ((199, 4), [(2, 2, 1)]), ((199, 7), [(8, 8, 1)])], []), [(some (.inl [(2, 6, 1)]), [], [], [])], [], [], 1)
set_option maxRecDepth 100000 in
theorem S_1575 : aSpec wd ct_1575 := bChk_ok wx_ok btX12_boxLong (lk := [(265, 0, 2, ct_1573), (265, 0, 2, ct_1574), (262, 0, 3, ct_1572)]) (nds := []) (fk := [7]) (rk := (1, [])) (sp := 0) (fuel := 3000) (by decide +kernel) (List.forall_mem_cons.mpr ⟨⟨ml_12_265, S_1573⟩, List.forall_mem_cons.mpr ⟨⟨ml_12_265, S_1574⟩, List.forall_mem_cons.mpr ⟨⟨ml_12_262, S_1572⟩, fun _ h => nomatch h⟩⟩⟩) odX12_boxLong
def sl_373 : (Nat × Nat) × aI := ((199, 4), [(2, 2, 1)])
def ct_1576 : aCt := (mX12_decade, [.inr (.inl [196]), .inl aTop, .inl aTop], ([((199, 4), [(2, 2, 1)])], []), [(some (.inl aTop), [], [((196, 11), [(0, 0, 1)]), ((196, 14), [(1, 1, 1)]), ((199, 0), [(2, 4, 1)])], []), (some (.inl [(-1, -1, 1)]), [], [((196, 11), [(1, 2, 1)])], [])], [(196, 0, 1), (196, 11, 12)], [], 4)
set_option maxRecDepth 100000 in
theorem S_1576 : aSpec wd ct_1576 := bChk_ok wx_ok btX12_decade (lk := [(167, 0, 1, ct_651), (284, 0, 2, ct_1575), (284, 0, 2, ct_1571), (284, 0, 2, ct_1567), (284, 0, 2, ct_1563), (284, 0, 2, ct_1559), (284, 0, 2, ct_1555), (284, 0, 2, ct_1551), (284, 0, 2, ct_1547), (170, 0, 2, ct_1112), (170, 0, 2, ct_653), (262, 0, 3, ct_1572), (262, 0, 3, ct_1568), (262, 0, 3, ct_1564), (262, 0, 3, ct_1560), (262, 0, 3, ct_1556), (262, 0, 3, ct_1552), (262, 0, 3, ct_1548), (262, 0, 3, ct_1544), (291, 0, 5, ct_1155), (149, 1, 3, ct_1518), (149, 1, 3, ct_678)]) (nds := [(52, [(0, .inr (.inl [196])), (1, .inl [(0, 65536, 1)]), (2, .inl [(0, 50, 1)]), (3, .inl [(0, 65536, 1)]), (4, .inl aTop), (5, .inl [(0, 75, 1)])], [], [sl_325, sl_337, sl_326, sl_373], [], (759, [(4, -10)])), (61, [(0, .inr (.inl [196])), (1, .inl [(0, 65536, 1)]), (2, .inl [(1, 50, 1)]), (3, .inl [(0, 65536, 1)]), (4, .inl aTop), (5, .inl [(0, 63, 1)]), (6, .inl [(0, 0, 1)])], [], [sl_325, sl_337, sl_326, sl_373], [], (758, [(4, -10)])), (61, [(0, .inr (.inl [196])), (1, .inl [(0, 65536, 1)]), (2, .inl [(1, 50, 1)]), (3, .inl [(0, 65536, 1)]), (4, .inl aTop), (5, .inl [(0, 63, 1)]), (6, .inl [(1, 1, 1)]), (7, .inl [(-1, 5, 1)]), (8, .inl [(0, 3, 1)])], [], [sl_325, sl_337, sl_326, sl_373, sl_345], [], (757, [(4, -10)])), (61, [(0, .inr (.inl [196])), (1, .inl [(0, 65536, 1)]), (2, .inl [(1, 50, 1)]), (3, .inl [(0, 65536, 1)]), (4, .inl aTop), (5, .inl [(0, 63, 1)]), (6, .inl [(2, 2, 1)]), (7, .inl [(-1, 5, 1)]), (8, .inl [(0, 3, 1)])], [], [sl_325, sl_337, sl_326, sl_373, sl_364], [], (756, [(4, -10)])), (61, [(0, .inr (.inl [196])), (1, .inl [(0, 65536, 1)]), (2, .inl [(1, 50, 1)]), (3, .inl [(0, 65536, 1)]), (4, .inl aTop), (5, .inl [(0, 63, 1)]), (6, .inl [(3, 3, 1)]), (7, .inl [(-1, 5, 1)]), (8, .inl [(0, 3, 1)])], [], [sl_325, sl_337, sl_326, sl_373, sl_363], [], (755, [(4, -10)])), (61, [(0, .inr (.inl [196])), (1, .inl [(0, 65536, 1)]), (2, .inl [(1, 50, 1)]), (3, .inl [(0, 65536, 1)]), (4, .inl aTop), (5, .inl [(0, 63, 1)]), (6, .inl [(4, 4, 1)]), (7, .inl [(-1, 5, 1)]), (8, .inl [(0, 3, 1)])], [], [sl_325, sl_337, sl_326, sl_373, sl_362], [], (754, [(4, -10)])), (61, [(0, .inr (.inl [196])), (1, .inl [(0, 65536, 1)]), (2, .inl [(1, 50, 1)]), (3, .inl [(0, 65536, 1)]), (4, .inl aTop), (5, .inl [(0, 63, 1)]), (6, .inl [(5, 5, 1)]), (7, .inl [(-1, 5, 1)]), (8, .inl [(0, 3, 1)])], [], [sl_325, sl_337, sl_326, sl_373, sl_361], [], (753, [(4, -10)])), (61, [(0, .inr (.inl [196])), (1, .inl [(0, 65536, 1)]), (2, .inl [(1, 50, 1)]), (3, .inl [(0, 65536, 1)]), (4, .inl aTop), (5, .inl [(0, 63, 1)]), (6, .inl [(6, 6, 1)]), (7, .inl [(-1, 5, 1)]), (8, .inl [(0, 3, 1)])], [], [sl_325, sl_337, sl_326, sl_373, sl_360], [], (752, [(4, -10)])), (61, [(0, .inr (.inl [196])), (1, .inl [(0, 65536, 1)]), (2, .inl [(1, 50, 1)]), (3, .inl [(0, 65536, 1)]), (4, .inl aTop), (5, .inl [(0, 63, 1)]), (6, .inl [(7, 7, 1)]), (7, .inl [(-1, 5, 1)]), (8, .inl [(0, 3, 1)])], [], [sl_325, sl_337, sl_326, sl_373, sl_359], [], (751, [(4, -10)])), (61, [(0, .inr (.inl [196])), (1, .inl [(0, 65536, 1)]), (2, .inl [(1, 50, 1)]), (3, .inl [(0, 65536, 1)]), (4, .inl aTop), (5, .inl [(0, 63, 1)]), (6, .inl [(8, 8, 1)]), (7, .inl [(-1, 5, 1)]), (8, .inl [(0, 3, 1)])], [], [sl_325, sl_337, sl_326, sl_373, sl_358], [], (750, [(4, -10)]))]) (fk := []) (rk := (760, [])) (sp := 2310346608841064448) (fuel := 3000) (by decide +kernel) (List.forall_mem_cons.mpr ⟨⟨ml_12_167, S_651⟩, List.forall_mem_cons.mpr ⟨⟨ml_12_284, S_1575⟩, List.forall_mem_cons.mpr ⟨⟨ml_12_284, S_1571⟩, List.forall_mem_cons.mpr ⟨⟨ml_12_284, S_1567⟩, List.forall_mem_cons.mpr ⟨⟨ml_12_284, S_1563⟩, List.forall_mem_cons.mpr ⟨⟨ml_12_284, S_1559⟩, List.forall_mem_cons.mpr ⟨⟨ml_12_284, S_1555⟩, List.forall_mem_cons.mpr ⟨⟨ml_12_284, S_1551⟩, List.forall_mem_cons.mpr ⟨⟨ml_12_284, S_1547⟩, List.forall_mem_cons.mpr ⟨⟨ml_12_170, S_1112⟩, List.forall_mem_cons.mpr ⟨⟨ml_12_170, S_653⟩, List.forall_mem_cons.mpr ⟨⟨ml_12_262, S_1572⟩, List.forall_mem_cons.mpr ⟨⟨ml_12_262, S_1568⟩, List.forall_mem_cons.mpr ⟨⟨ml_12_262, S_1564⟩, List.forall_mem_cons.mpr ⟨⟨ml_12_262, S_1560⟩, List.forall_mem_cons.mpr ⟨⟨ml_12_262, S_1556⟩, List.forall_mem_cons.mpr ⟨⟨ml_12_262, S_1552⟩, List.forall_mem_cons.mpr ⟨⟨ml_12_262, S_1548⟩, List.forall_mem_cons.mpr ⟨⟨ml_12_262, S_1544⟩, List.forall_mem_cons.mpr ⟨⟨ml_12_291, S_1155⟩, List.forall_mem_cons.mpr ⟨⟨ml_12_149, S_1518⟩, List.forall_mem_cons.mpr ⟨⟨ml_12_149, S_678⟩, fun _ h => nomatch h⟩⟩⟩⟩⟩⟩⟩⟩⟩⟩⟩⟩⟩⟩⟩⟩⟩⟩⟩⟩⟩⟩) odX12_decade
def ct_1577 : aCt := (mX12_ofBox, [.inr (.inl [196]), .inl [(0, 0, 1)], .inl [(1, 1, 1)]], ([((199, 0), [(2, 4, 1)]), ((199, 4), [(3, 3, 1)]), ((199, 7), [(1, 8, 1)])], []), [(some (.inl [(0, 2, 1)]), [], [], [])], [], [], 0)
set_option maxRecDepth 100000 in
theorem S_1577 : aSpec wd ct_1577 := bChk_ok wx_ok btX12_ofBox (lk := []) (nds := []) (fk := []) (rk := (1, [])) (sp := 0) (fuel := 3000) (by decide +kernel) (fun _ h => nomatch h) odX12_ofBox
def ct_1578 : aCt := (mX12_songLong, [.inr (.inl [196]), .inl [(0, 0, 1)]], ([((199, 0), [(2, 4, 1)]), ((199, 4), [(3, 3, 1)]), ((199, 7), [(1, 8, 1)])], []), [(some (.inl [(2, 6, 1)]), [], [], [])], [], [], 0)
set_option maxRecDepth 100000 in
theorem S_1578 : aSpec wd ct_1578 := bChk_ok wx_ok btX12_songLong (lk := []) (nds := []) (fk := []) (rk := (1, [])) (sp := 0) (fuel := 3000) (by decide +kernel) (fun _ h => nomatch h) odX12_songLong
def ct_1579 : aCt := (mX12_songLong, [.inr (.inl [196]), .inl [(1, 1, 1)]], ([((199, 0), [(2, 4, 1)]), ((199, 4), [(3, 3, 1)]), ((199, 7), [(1, 8, 1)])], []), [(some (.inl [(2, 6, 1)]), [], [], [])], [], [], 0)
set_option maxRecDepth 100000 in
theorem S_1579 : aSpec wd ct_1579 := bChk_ok wx_ok btX12_songLong (lk := []) (nds := []) (fk := []) (rk := (1, [])) (sp := 0) (fuel := 3000) (by decide +kernel) (fun _ h => nomatch h) odX12_songLong
def ct_1580 : aCt := (mX12_songLong, [.inr (.inl [196]), .inl [(2, 2, 1)]], ([((199, 0), [(2, 4, 1)]), ((199, 4), [(3, 3, 1)]), ((199, 7), [(1, 8, 1)])], []), [(some (.inl [(2, 6, 1)]), [], [], [])], [], [], 0)
set_option maxRecDepth 100000 in
theorem S_1580 : aSpec wd ct_1580 := bChk_ok wx_ok btX12_songLong (lk := []) (nds := []) (fk := []) (rk := (1, [])) (sp := 0) (fuel := 3000) (by decide +kernel) (fun _ h => nomatch h) odX12_songLong
def ct_1581 : aCt := (mX12_boxLong, [.inr (.inl [196]), .inl [(0, 0, 1)]], ([((199, 0), [(2, 4, 1)]), ((199, 4), [(3, 3, 1)]), ((199, 7), [(1, 8, 1)])], []), [(some (.inl [(2, 6, 1)]), [], [], [])], [], [], 1)
set_option maxRecDepth 100000 in
theorem S_1581 : aSpec wd ct_1581 := bChk_ok wx_ok btX12_boxLong (lk := [(265, 0, 2, ct_1578), (265, 0, 2, ct_1579), (265, 0, 2, ct_1580), (262, 0, 3, ct_1577)]) (nds := []) (fk := [7]) (rk := (1, [])) (sp := 0) (fuel := 3000) (by decide +kernel) (List.forall_mem_cons.mpr ⟨⟨ml_12_265, S_1578⟩, List.forall_mem_cons.mpr ⟨⟨ml_12_265, S_1579⟩, List.forall_mem_cons.mpr ⟨⟨ml_12_265, S_1580⟩, List.forall_mem_cons.mpr ⟨⟨ml_12_262, S_1577⟩, fun _ h => nomatch h⟩⟩⟩⟩) odX12_boxLong
def ct_1582 : aCt := (mX12_ofBox, [.inr (.inl [196]), .inl [(1, 1, 1)], .inl [(1, 1, 1)]], ([((199, 0), [(2, 4, 1)]), ((199, 4), [(3, 3, 1)]), ((199, 7), [(2, 8, 1)])], []), [(some (.inl [(0, 2, 1)]), [], [], [])], [], [], 0)
set_option maxRecDepth 100000 in
theorem S_1582 : aSpec wd ct_1582 := bChk_ok wx_ok btX12_ofBox (lk := []) (nds := []) (fk := []) (rk := (1, [])) (sp := 0) (fuel := 3000) (by decide +kernel) (fun _ h => nomatch h) odX12_ofBox
def ct_1583 : aCt := (mX12_songLong, [.inr (.inl [196]), .inl [(0, 0, 1)]], ([((199, 0), [(2, 4, 1)]), ((199, 4), [(3, 3, 1)]), ((199, 7), [(2, 8, 1)])], []), [(some (.inl [(2, 6, 1)]), [], [], [])], [], [], 0)
set_option maxRecDepth 100000 in
theorem S_1583 : aSpec wd ct_1583 := bChk_ok wx_ok btX12_songLong (lk := []) (nds := []) (fk := []) (rk := (1, [])) (sp := 0) (fuel := 3000) (by decide +kernel) (fun _ h => nomatch h) odX12_songLong
def ct_1584 : aCt := (mX12_songLong, [.inr (.inl [196]), .inl [(1, 1, 1)]], ([((199, 0), [(2, 4, 1)]), ((199, 4), [(3, 3, 1)]), ((199, 7), [(2, 8, 1)])], []), [(some (.inl [(2, 6, 1)]), [], [], [])], [], [], 0)
set_option maxRecDepth 100000 in
theorem S_1584 : aSpec wd ct_1584 := bChk_ok wx_ok btX12_songLong (lk := []) (nds := []) (fk := []) (rk := (1, [])) (sp := 0) (fuel := 3000) (by decide +kernel) (fun _ h => nomatch h) odX12_songLong
def ct_1585 : aCt := (mX12_songLong, [.inr (.inl [196]), .inl [(2, 2, 1)]], ([((199, 0), [(2, 4, 1)]), ((199, 4), [(3, 3, 1)]), ((199, 7), [(2, 8, 1)])], []), [(some (.inl [(2, 6, 1)]), [], [], [])], [], [], 0)
set_option maxRecDepth 100000 in
theorem S_1585 : aSpec wd ct_1585 := bChk_ok wx_ok btX12_songLong (lk := []) (nds := []) (fk := []) (rk := (1, [])) (sp := 0) (fuel := 3000) (by decide +kernel) (fun _ h => nomatch h) odX12_songLong
def ct_1586 : aCt := (mX12_boxLong, [.inr (.inl [196]), .inl [(1, 1, 1)]], ([((199, 0), [(2, 4, 1)]), ((199, 4), [(3, 3, 1)]), ((199, 7), [(2, 8, 1)])], []), [(some (.inl [(2, 6, 1)]), [], [], [])], [], [], 1)
set_option maxRecDepth 100000 in
theorem S_1586 : aSpec wd ct_1586 := bChk_ok wx_ok btX12_boxLong (lk := [(265, 0, 2, ct_1583), (265, 0, 2, ct_1584), (265, 0, 2, ct_1585), (262, 0, 3, ct_1582)]) (nds := []) (fk := [7]) (rk := (1, [])) (sp := 0) (fuel := 3000) (by decide +kernel) (List.forall_mem_cons.mpr ⟨⟨ml_12_265, S_1583⟩, List.forall_mem_cons.mpr ⟨⟨ml_12_265, S_1584⟩, List.forall_mem_cons.mpr ⟨⟨ml_12_265, S_1585⟩, List.forall_mem_cons.mpr ⟨⟨ml_12_262, S_1582⟩, fun _ h => nomatch h⟩⟩⟩⟩) odX12_boxLong
def ct_1587 : aCt := (mX12_ofBox, [.inr (.inl [196]), .inl [(2, 2, 1)], .inl [(1, 1, 1)]], ([((199, 0), [(2, 4, 1)]), ((199, 4), [(3, 3, 1)]), ((199, 7), [(3, 8, 1)])], []), [(some (.inl [(0, 2, 1)]), [], [], [])], [], [], 0)
set_option maxRecDepth 100000 in
theorem S_1587 : aSpec wd ct_1587 := bChk_ok wx_ok btX12_ofBox (lk := []) (nds := []) (fk := []) (rk := (1, [])) (sp := 0) (fuel := 3000) (by decide +kernel) (fun _ h => nomatch h) odX12_ofBox
def ct_1588 : aCt := (mX12_songLong, [.inr (.inl [196]), .inl [(0, 0, 1)]], ([((199, 0), [(2, 4, 1)]), ((199, 4), [(3, 3, 1)]), ((199, 7), [(3, 8, 1)])], []), [(some (.inl [(2, 6, 1)]), [], [], [])], [], [], 0)
set_option maxRecDepth 100000 in
theorem S_1588 : aSpec wd ct_1588 := bChk_ok wx_ok btX12_songLong (lk := []) (nds := []) (fk := []) (rk := (1, [])) (sp := 0) (fuel := 3000) (by decide +kernel) (fun _ h => nomatch h) odX12_songLong
def ct_1589 : aCt := (mX12_songLong, [.inr (.inl [196]), .inl [(1, 1, 1)]], ([((199, 0), [(2, 4, 1)]), ((199, 4), [(3, 3, 1)]), ((199, 7), [(3, 8, 1)])], []), [(some (.inl [(2, 6, 1)]), [], [], [])], [], [], 0)
set_option maxRecDepth 100000 in
theorem S_1589 : aSpec wd ct_1589 := bChk_ok wx_ok btX12_songLong (lk := []) (nds := []) (fk := []) (rk := (1, [])) (sp := 0) (fuel := 3000) (by decide +kernel) (fun _ h => nomatch h) odX12_songLong
def ct_1590 : aCt := (mX12_songLong, [.inr (.inl [196]), .inl [(2, 2, 1)]], ([((199, 0), [(2, 4, 1)]), ((199, 4), [(3, 3, 1)]), ((199, 7), [(3, 8, 1)])], []), [(some (.inl [(2, 6, 1)]), [], [], [])], [], [], 0)
set_option maxRecDepth 100000 in
theorem S_1590 : aSpec wd ct_1590 := bChk_ok wx_ok btX12_songLong (lk := []) (nds := []) (fk := []) (rk := (1, [])) (sp := 0) (fuel := 3000) (by decide +kernel) (fun _ h => nomatch h) odX12_songLong
def ct_1591 : aCt := (mX12_boxLong, [.inr (.inl [196]), .inl [(2, 2, 1)]], ([((199, 0), [(2, 4, 1)]), ((199, 4), [(3, 3, 1)]), ((199, 7), [(3, 8, 1)])], []), [(some (.inl [(2, 6, 1)]), [], [], [])], [], [], 1)
set_option maxRecDepth 100000 in
theorem S_1591 : aSpec wd ct_1591 := bChk_ok wx_ok btX12_boxLong (lk := [(265, 0, 2, ct_1588), (265, 0, 2, ct_1589), (265, 0, 2, ct_1590), (262, 0, 3, ct_1587)]) (nds := []) (fk := [7]) (rk := (1, [])) (sp := 0) (fuel := 3000) (by decide +kernel) (List.forall_mem_cons.mpr ⟨⟨ml_12_265, S_1588⟩, List.forall_mem_cons.mpr ⟨⟨ml_12_265, S_1589⟩, List.forall_mem_cons.mpr ⟨⟨ml_12_265, S_1590⟩, List.forall_mem_cons.mpr ⟨⟨ml_12_262, S_1587⟩, fun _ h => nomatch h⟩⟩⟩⟩) odX12_boxLong
def ct_1592 : aCt := (mX12_ofBox, [.inr (.inl [196]), .inl [(3, 3, 1)], .inl [(1, 1, 1)]], ([((199, 0), [(2, 4, 1)]), ((199, 4), [(3, 3, 1)]), ((199, 7), [(4, 8, 1)])], []), [(some (.inl [(0, 2, 1)]), [], [], [])], [], [], 0)
set_option maxRecDepth 100000 in
theorem S_1592 : aSpec wd ct_1592 := bChk_ok wx_ok btX12_ofBox (lk := []) (nds := []) (fk := []) (rk := (1, [])) (sp := 0) (fuel := 3000) (by decide +kernel) (fun _ h => nomatch h) odX12_ofBox
def ct_1593 : aCt := (mX12_songLong, [.inr (.inl [196]), .inl [(0, 0, 1)]], ([((199, 0), [(2, 4, 1)]), ((199, 4), [(3, 3, 1)]), ((199, 7), [(4, 8, 1)])], []), [(some (.inl [(2, 6, 1)]), [], [], [])], [], [], 0)
set_option maxRecDepth 100000 in
theorem S_1593 : aSpec wd ct_1593 := bChk_ok wx_ok btX12_songLong (lk := []) (nds := []) (fk := []) (rk := (1, [])) (sp := 0) (fuel := 3000) (by decide +kernel) (fun _ h => nomatch h) odX12_songLong
def ct_1594 : aCt := (mX12_songLong, [.inr (.inl [196]), .inl [(1, 1, 1)]], ([((199, 0), [(2, 4, 1)]), ((199, 4), [(3, 3, 1)]), ((199, 7), [(4, 8, 1)])], []), [(some (.inl [(2, 6, 1)]), [], [], [])], [], [], 0)
set_option maxRecDepth 100000 in
theorem S_1594 : aSpec wd ct_1594 := bChk_ok wx_ok btX12_songLong (lk := []) (nds := []) (fk := []) (rk := (1, [])) (sp := 0) (fuel := 3000) (by decide +kernel) (fun _ h => nomatch h) odX12_songLong
def ct_1595 : aCt := (mX12_songLong, [.inr (.inl [196]), .inl [(2, 2, 1)]], ([((199, 0), [(2, 4, 1)]), ((199, 4), [(3, 3, 1)]), ((199, 7), [(4, 8, 1)])], []), [(some (.inl [(2, 6, 1)]), [], [], [])], [], [], 0)
set_option maxRecDepth 100000 in
theorem S_1595 : aSpec wd ct_1595 := bChk_ok wx_ok btX12_songLong (lk := []) (nds := []) (fk := []) (rk := (1, [])) (sp := 0) (fuel := 3000) (by decide +kernel) (fun _ h => nomatch h) odX12_songLong
def ct_1596 : aCt := (mX12_boxLong, [.inr (.inl [196]), .inl [(3, 3, 1)]], ([((199, 0), [(2, 4, 1)]), ((199, 4), [(3, 3, 1)]), ((199, 7), [(4, 8, 1)])], []), [(some (.inl [(2, 6, 1)]), [], [], [])], [], [], 1)
set_option maxRecDepth 100000 in
theorem S_1596 : aSpec wd ct_1596 := bChk_ok wx_ok btX12_boxLong (lk := [(265, 0, 2, ct_1593), (265, 0, 2, ct_1594), (265, 0, 2, ct_1595), (262, 0, 3, ct_1592)]) (nds := []) (fk := [7]) (rk := (1, [])) (sp := 0) (fuel := 3000) (by decide +kernel) (List.forall_mem_cons.mpr ⟨⟨ml_12_265, S_1593⟩, List.forall_mem_cons.mpr ⟨⟨ml_12_265, S_1594⟩, List.forall_mem_cons.mpr ⟨⟨ml_12_265, S_1595⟩, List.forall_mem_cons.mpr ⟨⟨ml_12_262, S_1592⟩, fun _ h => nomatch h⟩⟩⟩⟩) odX12_boxLong
def ct_1597 : aCt := (mX12_ofBox, [.inr (.inl [196]), .inl [(4, 4, 1)], .inl [(1, 1, 1)]], ([((199, 0), [(2, 4, 1)]), ((199, 4), [(3, 3, 1)]), ((199, 7), [(5, 8, 1)])], []), [(some (.inl [(0, 2, 1)]), [], [], [])], [], [], 0)
set_option maxRecDepth 100000 in
theorem S_1597 : aSpec wd ct_1597 := bChk_ok wx_ok btX12_ofBox (lk := []) (nds := []) (fk := []) (rk := (1, [])) (sp := 0) (fuel := 3000) (by decide +kernel) (fun _ h => nomatch h) odX12_ofBox
def ct_1598 : aCt := (mX12_songLong, [.inr (.inl [196]), .inl [(0, 0, 1)]], ([((199, 0), [(2, 4, 1)]), ((199, 4), [(3, 3, 1)]), ((199, 7), [(5, 8, 1)])], []), [(some (.inl [(2, 6, 1)]), [], [], [])], [], [], 0)
set_option maxRecDepth 100000 in
theorem S_1598 : aSpec wd ct_1598 := bChk_ok wx_ok btX12_songLong (lk := []) (nds := []) (fk := []) (rk := (1, [])) (sp := 0) (fuel := 3000) (by decide +kernel) (fun _ h => nomatch h) odX12_songLong
def ct_1599 : aCt := (mX12_songLong, [.inr (.inl [196]), .inl [(1, 1, 1)]], ([((199, 0), [(2, 4, 1)]), ((199, 4), [(3, 3, 1)]), ((199, 7), [(5, 8, 1)])], []), [(some (.inl [(2, 6, 1)]), [], [], [])], [], [], 0)
set_option maxRecDepth 100000 in
theorem S_1599 : aSpec wd ct_1599 := bChk_ok wx_ok btX12_songLong (lk := []) (nds := []) (fk := []) (rk := (1, [])) (sp := 0) (fuel := 3000) (by decide +kernel) (fun _ h => nomatch h) odX12_songLong
def ct_1600 : aCt := (mX12_songLong, [.inr (.inl [196]), .inl [(2, 2, 1)]], ([((199, 0), [(2, 4, 1)]), ((199, 4), [(3, 3, 1)]), ((199, 7), [(5, 8, 1)])], []), [(some (.inl [(2, 6, 1)]), [], [], [])], [], [], 0)
set_option maxRecDepth 100000 in
theorem S_1600 : aSpec wd ct_1600 := bChk_ok wx_ok btX12_songLong (lk := []) (nds := []) (fk := []) (rk := (1, [])) (sp := 0) (fuel := 3000) (by decide +kernel) (fun _ h => nomatch h) odX12_songLong
def ct_1601 : aCt := (mX12_boxLong, [.inr (.inl [196]), .inl [(4, 4, 1)]], ([((199, 0), [(2, 4, 1)]), ((199, 4), [(3, 3, 1)]), ((199, 7), [(5, 8, 1)])], []), [(some (.inl [(2, 6, 1)]), [], [], [])], [], [], 1)
set_option maxRecDepth 100000 in
theorem S_1601 : aSpec wd ct_1601 := bChk_ok wx_ok btX12_boxLong (lk := [(265, 0, 2, ct_1598), (265, 0, 2, ct_1599), (265, 0, 2, ct_1600), (262, 0, 3, ct_1597)]) (nds := []) (fk := [7]) (rk := (1, [])) (sp := 0) (fuel := 3000) (by decide +kernel) (List.forall_mem_cons.mpr ⟨⟨ml_12_265, S_1598⟩, List.forall_mem_cons.mpr ⟨⟨ml_12_265, S_1599⟩, List.forall_mem_cons.mpr ⟨⟨ml_12_265, S_1600⟩, List.forall_mem_cons.mpr ⟨⟨ml_12_262, S_1597⟩, fun _ h => nomatch h⟩⟩⟩⟩) odX12_boxLong
def ct_1602 : aCt := (mX12_ofBox, [.inr (.inl [196]), .inl [(5, 5, 1)], .inl [(1, 1, 1)]], ([((199, 0), [(2, 4, 1)]), ((199, 4), [(3, 3, 1)]), ((199, 7), [(6, 8, 1)])], []), [(some (.inl [(0, 2, 1)]), [], [], [])], [], [], 0)
set_option maxRecDepth 100000 in
theorem S_1602 : aSpec wd ct_1602 := bChk_ok wx_ok btX12_ofBox (lk := []) (nds := []) (fk := []) (rk := (1, [])) (sp := 0) (fuel := 3000) (by decide +kernel) (fun _ h => nomatch h) odX12_ofBox
def ct_1603 : aCt := (mX12_songLong, [.inr (.inl [196]), .inl [(0, 0, 1)]], ([((199, 0), [(2, 4, 1)]), ((199, 4), [(3, 3, 1)]), ((199, 7), [(6, 8, 1)])], []), [(some (.inl [(2, 6, 1)]), [], [], [])], [], [], 0)
set_option maxRecDepth 100000 in
theorem S_1603 : aSpec wd ct_1603 := bChk_ok wx_ok btX12_songLong (lk := []) (nds := []) (fk := []) (rk := (1, [])) (sp := 0) (fuel := 3000) (by decide +kernel) (fun _ h => nomatch h) odX12_songLong
def ct_1604 : aCt := (mX12_songLong, [.inr (.inl [196]), .inl [(1, 1, 1)]], ([((199, 0), [(2, 4, 1)]), ((199, 4), [(3, 3, 1)]), ((199, 7), [(6, 8, 1)])], []), [(some (.inl [(2, 6, 1)]), [], [], [])], [], [], 0)
set_option maxRecDepth 100000 in
theorem S_1604 : aSpec wd ct_1604 := bChk_ok wx_ok btX12_songLong (lk := []) (nds := []) (fk := []) (rk := (1, [])) (sp := 0) (fuel := 3000) (by decide +kernel) (fun _ h => nomatch h) odX12_songLong
def ct_1605 : aCt := (mX12_songLong, [.inr (.inl [196]), .inl [(2, 2, 1)]], ([((199, 0), [(2, 4, 1)]), ((199, 4), [(3, 3, 1)]), ((199, 7), [(6, 8, 1)])], []), [(some (.inl [(2, 6, 1)]), [], [], [])], [], [], 0)
set_option maxRecDepth 100000 in
theorem S_1605 : aSpec wd ct_1605 := bChk_ok wx_ok btX12_songLong (lk := []) (nds := []) (fk := []) (rk := (1, [])) (sp := 0) (fuel := 3000) (by decide +kernel) (fun _ h => nomatch h) odX12_songLong
def ct_1606 : aCt := (mX12_boxLong, [.inr (.inl [196]), .inl [(5, 5, 1)]], ([((199, 0), [(2, 4, 1)]), ((199, 4), [(3, 3, 1)]), ((199, 7), [(6, 8, 1)])], []), [(some (.inl [(2, 6, 1)]), [], [], [])], [], [], 1)
set_option maxRecDepth 100000 in
theorem S_1606 : aSpec wd ct_1606 := bChk_ok wx_ok btX12_boxLong (lk := [(265, 0, 2, ct_1603), (265, 0, 2, ct_1604), (265, 0, 2, ct_1605), (262, 0, 3, ct_1602)]) (nds := []) (fk := [7]) (rk := (1, [])) (sp := 0) (fuel := 3000) (by decide +kernel) (List.forall_mem_cons.mpr ⟨⟨ml_12_265, S_1603⟩, List.forall_mem_cons.mpr ⟨⟨ml_12_265, S_1604⟩, List.forall_mem_cons.mpr ⟨⟨ml_12_265, S_1605⟩, List.forall_mem_cons.mpr ⟨⟨ml_12_262, S_1602⟩, fun _ h => nomatch h⟩⟩⟩⟩) odX12_boxLong
def ct_1607 : aCt := (mX12_ofBox, [.inr (.inl [196]), .inl [(6, 6, 1)], .inl [(1, 1, 1)]], ([((199, 0), [(2, 4, 1)]), ((199, 4), [(3, 3, 1)]), ((199, 7), [(7, 8, 1)])], []), [(some (.inl [(0, 2, 1)]), [], [], [])], [], [], 0)
set_option maxRecDepth 100000 in
theorem S_1607 : aSpec wd ct_1607 := bChk_ok wx_ok btX12_ofBox (lk := []) (nds := []) (fk := []) (rk := (1, [])) (sp := 0) (fuel := 3000) (by decide +kernel) (fun _ h => nomatch h) odX12_ofBox
def ct_1608 : aCt := (mX12_songLong, [.inr (.inl [196]), .inl [(0, 0, 1)]], ([((199, 0), [(2, 4, 1)]), ((199, 4), [(3, 3, 1)]), ((199, 7), [(7, 8, 1)])], []), [(some (.inl [(2, 6, 1)]), [], [], [])], [], [], 0)
set_option maxRecDepth 100000 in
theorem S_1608 : aSpec wd ct_1608 := bChk_ok wx_ok btX12_songLong (lk := []) (nds := []) (fk := []) (rk := (1, [])) (sp := 0) (fuel := 3000) (by decide +kernel) (fun _ h => nomatch h) odX12_songLong
def ct_1609 : aCt := (mX12_songLong, [.inr (.inl [196]), .inl [(1, 1, 1)]], ([((199, 0), [(2, 4, 1)]), ((199, 4), [(3, 3, 1)]), ((199, 7), [(7, 8, 1)])], []), [(some (.inl [(2, 6, 1)]), [], [], [])], [], [], 0)
set_option maxRecDepth 100000 in
theorem S_1609 : aSpec wd ct_1609 := bChk_ok wx_ok btX12_songLong (lk := []) (nds := []) (fk := []) (rk := (1, [])) (sp := 0) (fuel := 3000) (by decide +kernel) (fun _ h => nomatch h) odX12_songLong
def ct_1610 : aCt := (mX12_songLong, [.inr (.inl [196]), .inl [(2, 2, 1)]], ([((199, 0), [(2, 4, 1)]), ((199, 4), [(3, 3, 1)]), ((199, 7), [(7, 8, 1)])], []), [(some (.inl [(2, 6, 1)]), [], [], [])], [], [], 0)
set_option maxRecDepth 100000 in
theorem S_1610 : aSpec wd ct_1610 := bChk_ok wx_ok btX12_songLong (lk := []) (nds := []) (fk := []) (rk := (1, [])) (sp := 0) (fuel := 3000) (by decide +kernel) (fun _ h => nomatch h) odX12_songLong
def ct_1611 : aCt := (mX12_boxLong, [.inr (.inl [196]), .inl [(6, 6, 1)]], ([((199, 0), [(2, 4, 1)]), ((199, 4), [(3, 3, 1)]), ((199, 7), [(7, 8, 1)])], []), [(some (.inl [(2, 6, 1)]), [], [], [])], [], [], 1)
set_option maxRecDepth 100000 in
theorem S_1611 : aSpec wd ct_1611 := bChk_ok wx_ok btX12_boxLong (lk := [(265, 0, 2, ct_1608), (265, 0, 2, ct_1609), (265, 0, 2, ct_1610), (262, 0, 3, ct_1607)]) (nds := []) (fk := [7]) (rk := (1, [])) (sp := 0) (fuel := 3000) (by decide +kernel) (List.forall_mem_cons.mpr ⟨⟨ml_12_265, S_1608⟩, List.forall_mem_cons.mpr ⟨⟨ml_12_265, S_1609⟩, List.forall_mem_cons.mpr ⟨⟨ml_12_265, S_1610⟩, List.forall_mem_cons.mpr ⟨⟨ml_12_262, S_1607⟩, fun _ h => nomatch h⟩⟩⟩⟩) odX12_boxLong
def ct_1612 : aCt := (mX12_ofBox, [.inr (.inl [196]), .inl [(7, 7, 1)], .inl [(1, 1, 1)]], ([((199, 0), [(2, 4, 1)]), ((199, 4), [(3, 3, 1)]), ((199, 7), [(8, 8, 1)])], []), [(some (.inl [(0, 2, 1)]), [], [], [])], [], [], 0)
set_option maxRecDepth 100000 in
theorem S_1612 : aSpec wd ct_1612 := bChk_ok wx_ok btX12_ofBox (lk := []) (nds := []) (fk := []) (rk := (1, [])) (sp := 0) (fuel := 3000) (by decide +kernel) (fun _ h => nomatch h) odX12_ofBox
def ct_1613 : aCt := (mX12_songLong, [.inr (.inl [196]), .inl [(0, 0, 1)]], ([((199, 0), [(2, 4, 1)]), ((199, 4), [(3, 3, 1)]), ((199, 7), [(8, 8, 1)])], []), [(some (.inl [(2, 6, 1)]), [], [], [])], [], [], 0)
set_option maxRecDepth 100000 in
theorem S_1613 : aSpec wd ct_1613 := bChk_ok wx_ok btX12_songLong (lk := []) (nds := []) (fk := []) (rk := (1, [])) (sp := 0) (fuel := 3000) (by decide +kernel) (fun _ h => nomatch h) odX12_songLong
def ct_1614 : aCt := (mX12_songLong, [.inr (.inl [196]), .inl [(1, 1, 1)]], ([((199, 0), [(2, 4, 1)]), ((199, 4), [(3, 3, 1)]), ((199, 7), [(8, 8, 1)])], []), [(some (.inl [(2, 6, 1)]), [], [], [])], [], [], 0)
set_option maxRecDepth 100000 in
theorem S_1614 : aSpec wd ct_1614 := bChk_ok wx_ok btX12_songLong (lk := []) (nds := []) (fk := []) (rk := (1, [])) (sp := 0) (fuel := 3000) (by decide +kernel) (fun _ h => nomatch h) odX12_songLong
def ct_1615 : aCt := (mX12_songLong, [.inr (.inl [196]), .inl [(2, 2, 1)]], ([((199, 0), [(2, 4, 1)]), ((199, 4), [(3, 3, 1)]), ((199, 7), [(8, 8, 1)])], []), [(some (.inl [(2, 6, 1)]), [], [], [])], [], [], 0)
set_option maxRecDepth 100000 in
theorem S_1615 : aSpec wd ct_1615 := bChk_ok wx_ok btX12_songLong (lk := []) (nds := []) (fk := []) (rk := (1, [])) (sp := 0) (fuel := 3000) (by decide +kernel) (fun _ h => nomatch h) odX12_songLong
def ct_1616 : aCt := (mX12_boxLong, [.inr (.inl [196]), .inl [(7, 7, 1)]], ([((199, 0), [(2, 4, 1)]), ((199, 4), [(3, 3, 1)]), ((199, 7), [(8, 8, 1)])], []), [(some (.inl [(2, 6, 1)]), [], [], [])], [], [], 1)
set_option maxRecDepth 100000 in
theorem S_1616 : aSpec wd ct_1616 := bChk_ok wx_ok btX12_boxLong (lk := [(265, 0, 2, ct_1613), (265, 0, 2, ct_1614), (265, 0, 2, ct_1615), (262, 0, 3, ct_1612)]) (nds := []) (fk := [7]) (rk := (1, [])) (sp := 0) (fuel := 3000) (by decide +kernel) (List.forall_mem_cons.mpr ⟨⟨ml_12_265, S_1613⟩, List.forall_mem_cons.mpr ⟨⟨ml_12_265, S_1614⟩, List.forall_mem_cons.mpr ⟨⟨ml_12_265, S_1615⟩, List.forall_mem_cons.mpr ⟨⟨ml_12_262, S_1612⟩, fun _ h => nomatch h⟩⟩⟩⟩) odX12_boxLong
