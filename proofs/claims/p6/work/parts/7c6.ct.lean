def sl_374 : (Nat × Nat) × aI := ((199, 4), [(3, 3, 1)])
def ct_1617 : aCt := (mX12_decade, [.inr (.inl [196]), .inl aTop, .inl aTop], ([((199, 4), [(3, 3, 1)])], []), [(some (.inl aTop), [], [((196, 11), [(0, 0, 1)]), ((196, 14), [(1, 1, 1)]), ((199, 0), [(2, 4, 1)])], []), (some (.inl [(-1, -1, 1)]), [], [((196, 11), [(1, 2, 1)])], [])], [(196, 0, 1), (196, 11, 12)], [], 4)
set_option maxRecDepth 100000 in
theorem S_1617 : aSpec wd ct_1617 := bChk_ok wx_ok btX12_decade (lk := [(167, 0, 1, ct_651), (284, 0, 2, ct_1616), (284, 0, 2, ct_1611), (284, 0, 2, ct_1606), (284, 0, 2, ct_1601), (284, 0, 2, ct_1596), (284, 0, 2, ct_1591), (284, 0, 2, ct_1586), (284, 0, 2, ct_1581), (170, 0, 2, ct_1112), (170, 0, 2, ct_653), (262, 0, 3, ct_1612), (262, 0, 3, ct_1607), (262, 0, 3, ct_1602), (262, 0, 3, ct_1597), (262, 0, 3, ct_1592), (262, 0, 3, ct_1587), (262, 0, 3, ct_1582), (262, 0, 3, ct_1577), (291, 0, 5, ct_1155), (149, 1, 3, ct_1518), (149, 1, 3, ct_678)]) (nds := [(52, [(0, .inr (.inl [196])), (1, .inl [(0, 65536, 1)]), (2, .inl [(0, 50, 1)]), (3, .inl [(0, 65536, 1)]), (4, .inl aTop), (5, .inl [(0, 75, 1)])], [], [sl_325, sl_337, sl_326, sl_374], [], (759, [(4, -10)])), (61, [(0, .inr (.inl [196])), (1, .inl [(0, 65536, 1)]), (2, .inl [(1, 50, 1)]), (3, .inl [(0, 65536, 1)]), (4, .inl aTop), (5, .inl [(0, 63, 1)]), (6, .inl [(0, 0, 1)])], [], [sl_325, sl_337, sl_326, sl_374], [], (758, [(4, -10)])), (61, [(0, .inr (.inl [196])), (1, .inl [(0, 65536, 1)]), (2, .inl [(1, 50, 1)]), (3, .inl [(0, 65536, 1)]), (4, .inl aTop), (5, .inl [(0, 63, 1)]), (6, .inl [(1, 1, 1)]), (7, .inl [(-1, 5, 1)]), (8, .inl [(0, 3, 1)])], [], [sl_325, sl_337, sl_326, sl_374, sl_345], [], (757, [(4, -10)])), (61, [(0, .inr (.inl [196])), (1, .inl [(0, 65536, 1)]), (2, .inl [(1, 50, 1)]), (3, .inl [(0, 65536, 1)]), (4, .inl aTop), (5, .inl [(0, 63, 1)]), (6, .inl [(2, 2, 1)]), (7, .inl [(-1, 5, 1)]), (8, .inl [(0, 3, 1)])], [], [sl_325, sl_337, sl_326, sl_374, sl_364], [], (756, [(4, -10)])), (61, [(0, .inr (.inl [196])), (1, .inl [(0, 65536, 1)]), (2, .inl [(1, 50, 1)]), (3, .inl [(0, 65536, 1)]), (4, .inl aTop), (5, .inl [(0, 63, 1)]), (6, .inl [(3, 3, 1)]), (7, .inl [(-1, 5, 1)]), (8, .inl [(0, 3, 1)])], [], [sl_325, sl_337, sl_326, sl_374, sl_363], [], (755, [(4, -10)])), (61, [(0, .inr (.inl [196])), (1, .inl [(0, 65536, 1)]), (2, .inl [(1, 50, 1)]), (3, .inl [(0, 65536, 1)]), (4, .inl aTop), (5, .inl [(0, 63, 1)]), (6, .inl [(4, 4, 1)]), (7, .inl [(-1, 5, 1)]), (8, .inl [(0, 3, 1)])], [], [sl_325, sl_337, sl_326, sl_374, sl_362], [], (754, [(4, -10)])), (61, [(0, .inr (.inl [196])), (1, .inl [(0, 65536, 1)]), (2, .inl [(1, 50, 1)]), (3, .inl [(0, 65536, 1)]), (4, .inl aTop), (5, .inl [(0, 63, 1)]), (6, .inl [(5, 5, 1)]), (7, .inl [(-1, 5, 1)]), (8, .inl [(0, 3, 1)])], [], [sl_325, sl_337, sl_326, sl_374, sl_361], [], (753, [(4, -10)])), (61, [(0, .inr (.inl [196])), (1, .inl [(0, 65536, 1)]), (2, .inl [(1, 50, 1)]), (3, .inl [(0, 65536, 1)]), (4, .inl aTop), (5, .inl [(0, 63, 1)]), (6, .inl [(6, 6, 1)]), (7, .inl [(-1, 5, 1)]), (8, .inl [(0, 3, 1)])], [], [sl_325, sl_337, sl_326, sl_374, sl_360], [], (752, [(4, -10)])), (61, [(0, .inr (.inl [196])), (1, .inl [(0, 65536, 1)]), (2, .inl [(1, 50, 1)]), (3, .inl [(0, 65536, 1)]), (4, .inl aTop), (5, .inl [(0, 63, 1)]), (6, .inl [(7, 7, 1)]), (7, .inl [(-1, 5, 1)]), (8, .inl [(0, 3, 1)])], [], [sl_325, sl_337, sl_326, sl_374, sl_359], [], (751, [(4, -10)])), (61, [(0, .inr (.inl [196])), (1, .inl [(0, 65536, 1)]), (2, .inl [(1, 50, 1)]), (3, .inl [(0, 65536, 1)]), (4, .inl aTop), (5, .inl [(0, 63, 1)]), (6, .inl [(8, 8, 1)]), (7, .inl [(-1, 5, 1)]), (8, .inl [(0, 3, 1)])], [], [sl_325, sl_337, sl_326, sl_374, sl_358], [], (750, [(4, -10)]))]) (fk := []) (rk := (760, [])) (sp := 2310346608841064448) (fuel := 3000) (by decide +kernel) (List.forall_mem_cons.mpr ⟨⟨ml_12_167, S_651⟩, List.forall_mem_cons.mpr ⟨⟨ml_12_284, S_1616⟩, List.forall_mem_cons.mpr ⟨⟨ml_12_284, S_1611⟩, List.forall_mem_cons.mpr ⟨⟨ml_12_284, S_1606⟩, List.forall_mem_cons.mpr ⟨⟨ml_12_284, S_1601⟩, List.forall_mem_cons.mpr ⟨⟨ml_12_284, S_1596⟩, List.forall_mem_cons.mpr ⟨⟨ml_12_284, S_1591⟩, List.forall_mem_cons.mpr ⟨⟨ml_12_284, S_1586⟩, List.forall_mem_cons.mpr ⟨⟨ml_12_284, S_1581⟩, List.forall_mem_cons.mpr ⟨⟨ml_12_170, S_1112⟩, List.forall_mem_cons.mpr ⟨⟨ml_12_170, S_653⟩, List.forall_mem_cons.mpr ⟨⟨ml_12_262, S_1612⟩, List.forall_mem_cons.mpr ⟨⟨ml_12_262, S_1607⟩, List.forall_mem_cons.mpr ⟨⟨ml_12_262, S_1602⟩, List.forall_mem_cons.mpr ⟨⟨ml_12_262, S_1597⟩, List.forall_mem_cons.mpr ⟨⟨ml_12_262, S_1592⟩, List.forall_mem_cons.mpr ⟨⟨ml_12_262, S_1587⟩, List.forall_mem_cons.mpr ⟨⟨ml_12_262, S_1582⟩, List.forall_mem_cons.mpr ⟨⟨ml_12_262, S_1577⟩, List.forall_mem_cons.mpr ⟨⟨ml_12_291, S_1155⟩, List.forall_mem_cons.mpr ⟨⟨ml_12_149, S_1518⟩, List.forall_mem_cons.mpr ⟨⟨ml_12_149, S_678⟩, fun _ h => nomatch h⟩⟩⟩⟩⟩⟩⟩⟩⟩⟩⟩⟩⟩⟩⟩⟩⟩⟩⟩⟩⟩⟩) odX12_decade
def ct_1618 : aCt := (mX12_ofBox, [.inr (.inl [196]), .inl [(0, 0, 1)], .inl [(1, 1, 1)]], ([((199, 0), [(2, 4, 1)]), ((199, 4), [(4, 4, 1)]), ((199, 7), [(1, 8, 1)])], []), [(some (.inl [(0, 3, 1)]), [], [], [])], [], [], 0)
set_option maxRecDepth 100000 in
theorem S_1618 : aSpec wd ct_1618 := bChk_ok wx_ok btX12_ofBox (lk := []) (nds := []) (fk := []) (rk := (1, [])) (sp := 0) (fuel := 3000) (by decide +kernel) (fun _ h => nomatch h) odX12_ofBox
def ct_1619 : aCt := (mX12_songLong, [.inr (.inl [196]), .inl [(0, 0, 1)]], ([((199, 0), [(2, 4, 1)]), ((199, 4), [(4, 4, 1)]), ((199, 7), [(1, 8, 1)])], []), [(some (.inl [(2, 6, 1)]), [], [], [])], [], [], 0)
set_option maxRecDepth 100000 in
theorem S_1619 : aSpec wd ct_1619 := bChk_ok wx_ok btX12_songLong (lk := []) (nds := []) (fk := []) (rk := (1, [])) (sp := 0) (fuel := 3000) (by decide +kernel) (fun _ h => nomatch h) odX12_songLong
def ct_1620 : aCt := (mX12_songLong, [.inr (.inl [196]), .inl [(1, 1, 1)]], ([((199, 0), [(2, 4, 1)]), ((199, 4), [(4, 4, 1)]), ((199, 7), [(1, 8, 1)])], []), [(some (.inl [(2, 6, 1)]), [], [], [])], [], [], 0)
set_option maxRecDepth 100000 in
theorem S_1620 : aSpec wd ct_1620 := bChk_ok wx_ok btX12_songLong (lk := []) (nds := []) (fk := []) (rk := (1, [])) (sp := 0) (fuel := 3000) (by decide +kernel) (fun _ h => nomatch h) odX12_songLong
def ct_1621 : aCt := (mX12_songLong, [.inr (.inl [196]), .inl [(2, 2, 1)]], ([((199, 0), [(2, 4, 1)]), ((199, 4), [(4, 4, 1)]), ((199, 7), [(1, 8, 1)])], []), [(some (.inl [(2, 6, 1)]), [], [], [])], [], [], 0)
set_option maxRecDepth 100000 in
theorem S_1621 : aSpec wd ct_1621 := bChk_ok wx_ok btX12_songLong (lk := []) (nds := []) (fk := []) (rk := (1, [])) (sp := 0) (fuel := 3000) (by decide +kernel) (fun _ h => nomatch h) odX12_songLong
def ct_1622 : aCt := (mX12_songLong, [.inr (.inl [196]), .inl [(3, 3, 1)]], ([((199, 0), [(2, 4, 1)]), ((199, 4), [(4, 4, 1)]), ((199, 7), [(1, 8, 1)])], []), [(some (.inl [(2, 6, 1)]), [], [], [])], [], [], 0)
set_option maxRecDepth 100000 in
theorem S_1622 : aSpec wd ct_1622 := bChk_ok wx_ok btX12_songLong (lk := []) (nds := []) (fk := []) (rk := (1, [])) (sp := 0) (fuel := 3000) (by decide +kernel) (fun _ h => nomatch h) odX12_songLong
def ct_1623 : aCt := (mX12_boxLong, [.inr (.inl [196]), .inl [(0, 0, 1)]], ([((199, 0), [(2, 4, 1)]), ((199, 4), [(4, 4, 1)]), ((199, 7), [(1, 8, 1)])], []), [(some (.inl [(2, 6, 1)]), [], [], [])], [], [], 1)
set_option maxRecDepth 100000 in
theorem S_1623 : aSpec wd ct_1623 := bChk_ok wx_ok btX12_boxLong (lk := [(265, 0, 2, ct_1619), (265, 0, 2, ct_1620), (265, 0, 2, ct_1621), (265, 0, 2, ct_1622), (262, 0, 3, ct_1618)]) (nds := []) (fk := [7]) (rk := (1, [])) (sp := 0) (fuel := 3000) (by decide +kernel) (List.forall_mem_cons.mpr ⟨⟨ml_12_265, S_1619⟩, List.forall_mem_cons.mpr ⟨⟨ml_12_265, S_1620⟩, List.forall_mem_cons.mpr ⟨⟨ml_12_265, S_1621⟩, List.forall_mem_cons.mpr ⟨⟨ml_12_265, S_1622⟩, List.forall_mem_cons.mpr ⟨⟨ml_12_262, S_1618⟩, fun _ h => nomatch h⟩⟩⟩⟩⟩) odX12_boxLong
def ct_1624 : aCt := (mX12_ofBox, [.inr (.inl [196]), .inl [(1, 1, 1)], .inl [(1, 1, 1)]], ([((199, 0), [(2, 4, 1)]), ((199, 4), [(4, 4, 1)]), ((199, 7), [(2, 8, 1)])], []), [(some (.inl [(0, 3, 1)]), [], [], [])], [], [], 0)
set_option maxRecDepth 100000 in
theorem S_1624 : aSpec wd ct_1624 := bChk_ok wx_ok btX12_ofBox (lk := []) (nds := []) (fk := []) (rk := (1, [])) (sp := 0) (fuel := 3000) (by decide +kernel) (fun _ h => nomatch h) odX12_ofBox
def ct_1625 : aCt := (mX12_songLong, [.inr (.inl [196]), .inl [(0, 0, 1)]], ([((199, 0), [(2, 4, 1)]), ((199, 4), [(4, 4, 1)]), ((199, 7), [(2, 8, 1)])], []), [(some (.inl [(2, 6, 1)]), [], [], [])], [], [], 0)
set_option maxRecDepth 100000 in
theorem S_1625 : aSpec wd ct_1625 := bChk_ok wx_ok btX12_songLong (lk := []) (nds := []) (fk := []) (rk := (1, [])) (sp := 0) (fuel := 3000) (by decide +kernel) (fun _ h => nomatch h) odX12_songLong
def ct_1626 : aCt := (mX12_songLong, [.inr (.inl [196]), .inl [(1, 1, 1)]], ([((199, 0), [(2, 4, 1)]), ((199, 4), [(4, 4, 1)]), ((199, 7), [(2, 8, 1)])], []), [(some (.inl [(2, 6, 1)]), [], [], [])], [], [], 0)
set_option maxRecDepth 100000 in
theorem S_1626 : aSpec wd ct_1626 := bChk_ok wx_ok btX12_songLong (lk := []) (nds := []) (fk := []) (rk := (1, [])) (sp := 0) (fuel := 3000) (by decide +kernel) (fun _ h => nomatch h) odX12_songLong
def ct_1627 : aCt := (mX12_songLong, [.inr (.inl [196]), .inl [(2, 2, 1)]], ([((199, 0), [(2, 4, 1)]), ((199, 4), [(4, 4, 1)]), ((199, 7), [(2, 8, 1)])], []), [(some (.inl [(2, 6, 1)]), [], [], [])], [], [], 0)
set_option maxRecDepth 100000 in
theorem S_1627 : aSpec wd ct_1627 := bChk_ok wx_ok btX12_songLong (lk := []) (nds := []) (fk := []) (rk := (1, [])) (sp := 0) (fuel := 3000) (by decide +kernel) (fun _ h => nomatch h) odX12_songLong
def ct_1628 : aCt := (mX12_songLong, [.inr (.inl [196]), .inl [(3, 3, 1)]], ([((199, 0), [(2, 4, 1)]), ((199, 4), [(4, 4, 1)]), ((199, 7), [(2, 8, 1)])], []), [(some (.inl [(2, 6, 1)]), [], [], [])], [], [], 0)
set_option maxRecDepth 100000 in
theorem S_1628 : aSpec wd ct_1628 := bChk_ok wx_ok btX12_songLong (lk := []) (nds := []) (fk := []) (rk := (1, [])) (sp := 0) (fuel := 3000) (by decide +kernel) (fun _ h => nomatch h) odX12_songLong
def ct_1629 : aCt := (mX12_boxLong, [.inr (.inl [196]), .inl [(1, 1, 1)]], ([((199, 0), [(2, 4, 1)]), ((199, 4), [(4, 4, 1)]), ((199, 7), [(2, 8, 1)])], []), [(some (.inl [(2, 6, 1)]), [], [], [])], [], [], 1)
set_option maxRecDepth 100000 in
theorem S_1629 : aSpec wd ct_1629 := bChk_ok wx_ok btX12_boxLong (lk := [(265, 0, 2, ct_1625), (265, 0, 2, ct_1626), (265, 0, 2, ct_1627), (265, 0, 2, ct_1628), (262, 0, 3, ct_1624)]) (nds := []) (fk := [7]) (rk := (1, [])) (sp := 0) (fuel := 3000) (by decide +kernel) (List.forall_mem_cons.mpr ⟨⟨ml_12_265, S_1625⟩, List.forall_mem_cons.mpr ⟨⟨ml_12_265, S_1626⟩, List.forall_mem_cons.mpr ⟨⟨ml_12_265, S_1627⟩, List.forall_mem_cons.mpr ⟨⟨ml_12_265, S_1628⟩, List.forall_mem_cons.mpr ⟨⟨ml_12_262, S_1624⟩, fun _ h => nomatch h⟩⟩⟩⟩⟩) odX12_boxLong
def ct_1630 : aCt := (mX12_ofBox, [.inr (.inl [196]), .inl [(2, 2, 1)], .inl [(1, 1, 1)]], ([((199, 0), [(2, 4, 1)]), ((199, 4), [(4, 4, 1)]), ((199, 7), [(3, 8, 1)])], []), [(some (.inl [(0, 3, 1)]), [], [], [])], [], [], 0)
set_option maxRecDepth 100000 in
theorem S_1630 : aSpec wd ct_1630 := bChk_ok wx_ok btX12_ofBox (lk := []) (nds := []) (fk := []) (rk := (1, [])) (sp := 0) (fuel := 3000) (by decide +kernel) (fun _ h => nomatch h) odX12_ofBox
def ct_1631 : aCt := (mX12_songLong, [.inr (.inl [196]), .inl [(0, 0, 1)]], ([((199, 0), [(2, 4, 1)]), ((199, 4), [(4, 4, 1)]), ((199, 7), [(3, 8, 1)])], []), [(some (.inl [(2, 6, 1)]), [], [], [])], [], [], 0)
set_option maxRecDepth 100000 in
theorem S_1631 : aSpec wd ct_1631 := bChk_ok wx_ok btX12_songLong (lk := []) (nds := []) (fk := []) (rk := (1, [])) (sp := 0) (fuel := 3000) (by decide +kernel) (fun _ h => nomatch h) odX12_songLong
def ct_1632 : aCt := (mX12_songLong, [.inr (.inl [196]), .inl [(1, 1, 1)]], ([((199, 0), [(2, 4, 1)]), ((199, 4), [(4, 4, 1)]), ((199, 7), [(3, 8, 1)])], []), [(some (.inl [(2, 6, 1)]), [], [], [])], [], [], 0)
set_option maxRecDepth 100000 in
theorem S_1632 : aSpec wd ct_1632 := bChk_ok wx_ok btX12_songLong (lk := []) (nds := []) (fk := []) (rk := (1, [])) (sp := 0) (fuel := 3000) (by decide +kernel) (fun _ h => nomatch h) odX12_songLong
def ct_1633 : aCt := (mX12_songLong, [.inr (.inl [196]), .inl [(2, 2, 1)]], ([((199, 0), [(2, 4, 1)]), ((199, 4), [(4, 4, 1)]), ((199, 7), [(3, 8, 1)])], []), [(some (.inl [(2, 6, 1)]), [], [], [])], [], [], 0)
set_option maxRecDepth 100000 in
theorem S_1633 : aSpec wd ct_1633 := bChk_ok wx_ok btX12_songLong (lk := []) (nds := []) (fk := []) (rk := (1, [])) (sp := 0) (fuel := 3000) (by decide +kernel) (fun _ h => nomatch h) odX12_songLong
def ct_1634 : aCt := (mX12_songLong, [.inr (.inl [196]), .inl [(3, 3, 1)]], ([((199, 0), [(2, 4, 1)]), ((199, 4), [(4, 4, 1)]), ((199, 7), [(3, 8, 1)])], []), [(some (.inl [(2, 6, 1)]), [], [], [])], [], [], 0)
set_option maxRecDepth 100000 in
theorem S_1634 : aSpec wd ct_1634 := bChk_ok wx_ok btX12_songLong (lk := []) (nds := []) (fk := []) (rk := (1, [])) (sp := 0) (fuel := 3000) (by decide +kernel) (fun _ h => nomatch h) odX12_songLong
def ct_1635 : aCt := (mX12_boxLong, [.inr (.inl [196]), .inl [(2, 2, 1)]], ([((199, 0), [(2, 4, 1)]), ((199, 4), [(4, 4, 1)]), ((199, 7), [(3, 8, 1)])], []), [(some (.inl [(2, 6, 1)]), [], [], [])], [], [], 1)
set_option maxRecDepth 100000 in
theorem S_1635 : aSpec wd ct_1635 := bChk_ok wx_ok btX12_boxLong (lk := [(265, 0, 2, ct_1631), (265, 0, 2, ct_1632), (265, 0, 2, ct_1633), (265, 0, 2, ct_1634), (262, 0, 3, ct_1630)]) (nds := []) (fk := [7]) (rk := (1, [])) (sp := 0) (fuel := 3000) (by decide +kernel) (List.forall_mem_cons.mpr ⟨⟨ml_12_265, S_1631⟩, List.forall_mem_cons.mpr ⟨⟨ml_12_265, S_1632⟩, List.forall_mem_cons.mpr ⟨⟨ml_12_265, S_1633⟩, List.forall_mem_cons.mpr ⟨⟨ml_12_265, S_1634⟩, List.forall_mem_cons.mpr ⟨⟨ml_12_262, S_1630⟩, fun _ h => nomatch h⟩⟩⟩⟩⟩) odX12_boxLong
def ct_1636 : aCt := (mX12_ofBox, [.inr (.inl [196]), .inl [(3, 3, 1)], .inl [(1, 1, 1)]], ([((199, 0), [(2, 4, 1)]), ((199, 4), [(4, 4, 1)]), ((199, 7), [(4, 8, 1)])], []), [(some (.inl [(0, 3, 1)]), [], [], [])], [], [], 0)
set_option maxRecDepth 100000 in
theorem S_1636 : aSpec wd ct_1636 := bChk_ok wx_ok btX12_ofBox (lk := []) (nds := []) (fk := []) (rk := (1, [])) (sp := 0) (fuel := 3000) (by decide +kernel) (fun _ h => nomatch h) odX12_ofBox
def ct_1637 : aCt := (mX12_songLong, [.inr (.inl [196]), .inl [(0, 0, 1)]], ([((199, 0), [(2, 4, 1)]), ((199, 4), [(4, 4, 1)]), ((199, 7), [(4, 8, 1)])], []), [(some (.inl [(2, 6, 1)]), [], [], [])], [], [], 0)
set_option maxRecDepth 100000 in
theorem S_1637 : aSpec wd ct_1637 := bChk_ok wx_ok btX12_songLong (lk := []) (nds := []) (fk := []) (rk := (1, [])) (sp := 0) (fuel := 3000) (by decide +kernel) (fun _ h => nomatch h) odX12_songLong
def ct_1638 : aCt := (mX12_songLong, [.inr (.inl [196]), .inl [(1, 1, 1)]], ([((199, 0), [(2, 4, 1)]), ((199, 4), [(4, 4, 1)]), ((199, 7), [(4, 8, 1)])], []), [(some (.inl [(2, 6, 1)]), [], [], [])], [], [], 0)
set_option maxRecDepth 100000 in
theorem S_1638 : aSpec wd ct_1638 := bChk_ok wx_ok btX12_songLong (lk := []) (nds := []) (fk := []) (rk := (1, [])) (sp := 0) (fuel := 3000) (by decide +kernel) (fun _ h => nomatch h) odX12_songLong
def ct_1639 : aCt := (mX12_songLong, [.inr (.inl [196]), .inl [(2, 2, 1)]], ([((199, 0), [(2, 4, 1)]), ((199, 4), [(4, 4, 1)]), ((199, 7), [(4, 8, 1)])], []), [(some (.inl [(2, 6, 1)]), [], [], [])], [], [], 0)
set_option maxRecDepth 100000 in
theorem S_1639 : aSpec wd ct_1639 := bChk_ok wx_ok btX12_songLong (lk := []) (nds := []) (fk := []) (rk := (1, [])) (sp := 0) (fuel := 3000) (by decide +kernel) (fun _ h => nomatch h) odX12_songLong
def ct_1640 : aCt := (mX12_songLong, [.inr (.inl [196]), .inl [(3, 3, 1)]], ([((199, 0), [(2, 4, 1)]), ((199, 4), [(4, 4, 1)]), ((199, 7), [(4, 8, 1)])], []), [(some (.inl [(2, 6, 1)]), [], [], [])], [], [], 0)
set_option maxRecDepth 100000 in
theorem S_1640 : aSpec wd ct_1640 := bChk_ok wx_ok btX12_songLong (lk := []) (nds := []) (fk := []) (rk := (1, [])) (sp := 0) (fuel := 3000) (by decide +kernel) (fun _ h => nomatch h) odX12_songLong
def ct_1641 : aCt := (mX12_boxLong, [.inr (.inl [196]), .inl [(3, 3, 1)]], ([((199, 0), [(2, 4, 1)]), ((199, 4), [(4, 4, 1)]), ((199, 7), [(4, 8, 1)])], []), [(some (.inl [(2, 6, 1)]), [], [], [])], [], [], 1)
set_option maxRecDepth 100000 in
theorem S_1641 : aSpec wd ct_1641 := bChk_ok wx_ok btX12_boxLong (lk := [(265, 0, 2, ct_1637), (265, 0, 2, ct_1638), (265, 0, 2, ct_1639), (265, 0, 2, ct_1640), (262, 0, 3, ct_1636)]) (nds := []) (fk := [7]) (rk := (1, [])) (sp := 0) (fuel := 3000) (by decide +kernel) (List.forall_mem_cons.mpr ⟨⟨ml_12_265, S_1637⟩, List.forall_mem_cons.mpr ⟨⟨ml_12_265, S_1638⟩, List.forall_mem_cons.mpr ⟨⟨ml_12_265, S_1639⟩, List.forall_mem_cons.mpr ⟨⟨ml_12_265, S_1640⟩, List.forall_mem_cons.mpr ⟨⟨ml_12_262, S_1636⟩, fun _ h => nomatch h⟩⟩⟩⟩⟩) odX12_boxLong
def ct_1642 : aCt := (mX12_ofBox, [.inr (.inl [196]), .inl [(4, 4, 1)], .inl [(1, 1, 1)]], ([((199, 0), [(2, 4, 1)]), ((199, 4), [(4, 4, 1)]), ((199, 7), [(5, 8, 1)])], []), [(some (.inl [(0, 3, 1)]), [], [], [])], [], [], 0)
set_option maxRecDepth 100000 in
theorem S_1642 : aSpec wd ct_1642 := bChk_ok wx_ok btX12_ofBox (lk := []) (nds := []) (fk := []) (rk := (1, [])) (sp := 0) (fuel := 3000) (by decide +kernel) (fun _ h => nomatch h) odX12_ofBox
def ct_1643 : aCt := (mX12_songLong, [.inr (.inl [196]), .inl [(0, 0, 1)]], ([((199, 0), [(2, 4, 1)]), ((199, 4), [(4, 4, 1)]), ((199, 7), [(5, 8, 1)])], []), [(some (.inl [(2, 6, 1)]), [], [], [])], [], [], 0)
set_option maxRecDepth 100000 in
theorem S_1643 : aSpec wd ct_1643 := bChk_ok wx_ok btX12_songLong (lk := []) (nds := []) (fk := []) (rk := (1, [])) (sp := 0) (fuel := 3000) (by decide +kernel) (fun _ h => nomatch h) odX12_songLong
def ct_1644 : aCt := (mX12_songLong, [.inr (.inl [196]), .inl [(1, 1, 1)]], ([((199, 0), [(2, 4, 1)]), ((199, 4), [(4, 4, 1)]), ((199, 7), [(5, 8, 1)])], []), [(some (.inl [(2, 6, 1)]), [], [], [])], [], [], 0)
set_option maxRecDepth 100000 in
theorem S_1644 : aSpec wd ct_1644 := bChk_ok wx_ok btX12_songLong (lk := []) (nds := []) (fk := []) (rk := (1, [])) (sp := 0) (fuel := 3000) (by decide +kernel) (fun _ h => nomatch h) odX12_songLong
def ct_1645 : aCt := (mX12_songLong, [.inr (.inl [196]), .inl [(2, 2, 1)]], ([((199, 0), [(2, 4, 1)]), ((199, 4), [(4, 4, 1)]), ((199, 7), [(5, 8, 1)])], []), [(some (.inl [(2, 6, 1)]), [], [], [])], [], [], 0)
set_option maxRecDepth 100000 in
theorem S_1645 : aSpec wd ct_1645 := bChk_ok wx_ok btX12_songLong (lk := []) (nds := []) (fk := []) (rk := (1, [])) (sp := 0) (fuel := 3000) (by decide +kernel) (fun _ h => nomatch h) odX12_songLong
def ct_1646 : aCt := (mX12_songLong, [.inr (.inl [196]), .inl [(3, 3, 1)]], ([((199, 0), [(2, 4, 1)]), ((199, 4), [(4, 4, 1)]), ((199, 7), [(5, 8, 1)])], []), [(some (.inl [(2, 6, 1)]), [], [], [])], [], [], 0)
set_option maxRecDepth 100000 in
theorem S_1646 : aSpec wd ct_1646 := bChk_ok wx_ok btX12_songLong (lk := []) (nds := []) (fk := []) (rk := (1, [])) (sp := 0) (fuel := 3000) (by decide +kernel) (fun _ h => nomatch h) odX12_songLong
def ct_1647 : aCt := (mX12_boxLong, [.inr (.inl [196]), .inl [(4, 4, 1)]], ([((199, 0), [(2, 4, 1)]), ((199, 4), [(4, 4, 1)]), ((199, 7), [(5, 8, 1)])], []), [(some (.inl [(2, 6, 1)]), [], [], [])], [], [], 1)
set_option maxRecDepth 100000 in
theorem S_1647 : aSpec wd ct_1647 := bChk_ok wx_ok btX12_boxLong (lk := [(265, 0, 2, ct_1643), (265, 0, 2, ct_1644), (265, 0, 2, ct_1645), (265, 0, 2, ct_1646), (262, 0, 3, ct_1642)]) (nds := []) (fk := [7]) (rk := (1, [])) (sp := 0) (fuel := 3000) (by decide +kernel) (List.forall_mem_cons.mpr ⟨⟨ml_12_265, S_1643⟩, List.forall_mem_cons.mpr ⟨⟨ml_12_265, S_1644⟩, List.forall_mem_cons.mpr ⟨⟨ml_12_265, S_1645⟩, List.forall_mem_cons.mpr ⟨⟨ml_12_265, S_1646⟩, List.forall_mem_cons.mpr ⟨⟨ml_12_262, S_1642⟩, fun _ h => nomatch h⟩⟩⟩⟩⟩) odX12_boxLong
def ct_1648 : aCt := (mX12_ofBox, [.inr (.inl [196]), .inl [(5, 5, 1)], .inl [(1, 1, 1)]], ([((199, 0), [(2, 4, 1)]), ((199, 4), [(4, 4, 1)]), ((199, 7), [(6, 8, 1)])], []), [(some (.inl [(0, 3, 1)]), [], [], [])], [], [], 0)
set_option maxRecDepth 100000 in
theorem S_1648 : aSpec wd ct_1648 := bChk_ok wx_ok btX12_ofBox (lk := []) (nds := []) (fk := []) (rk := (1, [])) (sp := 0) (fuel := 3000) (by decide +kernel) (fun _ h => nomatch h) odX12_ofBox
def ct_1649 : aCt := (mX12_songLong, [.inr (.inl [196]), .inl [(0, 0, 1)]], ([((199, 0), [(2, 4, 1)]), ((199, 4), [(4, 4, 1)]), ((199, 7), [(6, 8, 1)])], []), [(some (.inl [(2, 6, 1)]), [], [], [])], [], [], 0)
set_option maxRecDepth 100000 in
theorem S_1649 : aSpec wd ct_1649 := bChk_ok wx_ok btX12_songLong (lk := []) (nds := []) (fk := []) (rk := (1, [])) (sp := 0) (fuel := 3000) (by decide +kernel) (fun _ h => nomatch h) odX12_songLong
def ct_1650 : aCt := (mX12_songLong, [.inr (.inl [196]), .inl [(1, 1, 1)]], ([((199, 0), [(2, 4, 1)]), ((199, 4), [(4, 4, 1)]), ((199, 7), [(6, 8, 1)])], []), [(some (.inl [(2, 6, 1)]), [], [], [])], [], [], 0)
set_option maxRecDepth 100000 in
theorem S_1650 : aSpec wd ct_1650 := bChk_ok wx_ok btX12_songLong (lk := []) (nds := []) (fk := []) (rk := (1, [])) (sp := 0) (fuel := 3000) (by decide +kernel) (fun _ h => nomatch h) odX12_songLong
def ct_1651 : aCt := (mX12_songLong, [.inr (.inl [196]), .inl [(2, 2, 1)]], ([((199, 0), [(2, 4, 1)]), ((199, 4), [(4, 4, 1)]), ((199, 7), [(6, 8, 1)])], []), [(some (.inl [(2, 6, 1)]), [], [], [])], [], [], 0)
set_option maxRecDepth 100000 in
theorem S_1651 : aSpec wd ct_1651 := bChk_ok wx_ok btX12_songLong (lk := []) (nds := []) (fk := []) (rk := (1, [])) (sp := 0) (fuel := 3000) (by decide +kernel) (fun _ h => nomatch h) odX12_songLong
def ct_1652 : aCt := (mX12_songLong, [.inr (.inl [196]), .inl [(3, 3, 1)]], ([((199, 0), [(2, 4, 1)]), ((199, 4), [(4, 4, 1)]), ((199, 7), [(6, 8, 1)])], []), [(some (.inl [(2, 6, 1)]), [], [], [])], [], [], 0)
set_option maxRecDepth 100000 in
theorem S_1652 : aSpec wd ct_1652 := bChk_ok wx_ok btX12_songLong (lk := []) (nds := []) (fk := []) (rk := (1, [])) (sp := 0) (fuel := 3000) (by decide +kernel) (fun _ h => nomatch h) odX12_songLong
def ct_1653 : aCt := (mX12_boxLong, [.inr (.inl [196]), .inl [(5, 5, 1)]], ([((199, 0), [(2, 4, 1)]), ((199, 4), [(4, 4, 1)]), ((199, 7), [(6, 8, 1)])], []), [(some (.inl [(2, 6, 1)]), [], [], [])], [], [], 1)
set_option maxRecDepth 100000 in
theorem S_1653 : aSpec wd ct_1653 := bChk_ok wx_ok btX12_boxLong (lk := [(265, 0, 2, ct_1649), (265, 0, 2, ct_1650), (265, 0, 2, ct_1651), (265, 0, 2, ct_1652), (262, 0, 3, ct_1648)]) (nds := []) (fk := [7]) (rk := (1, [])) (sp := 0) (fuel := 3000) (by decide +kernel) (List.forall_mem_cons.mpr ⟨⟨ml_12_265, S_1649⟩, List.forall_mem_cons.mpr ⟨⟨ml_12_265, S_1650⟩, List.forall_mem_cons.mpr ⟨⟨ml_12_265, S_1651⟩, List.forall_mem_cons.mpr ⟨⟨ml_12_265, S_1652⟩, List.forall_mem_cons.mpr ⟨⟨ml_12_262, S_1648⟩, fun _ h => nomatch h⟩⟩⟩⟩⟩) odX12_boxLong
def ct_1654 : aCt := (mX12_ofBox, [.inr (.inl [196]), .inl [(6, 6, 1)], .inl [(1, 1, 1)]], ([((199, 0), [(2, 4, 1)]), ((199, 4), [(4, 4, 1)]), ((199, 7), [(7, 8, 1)])], []), [(some (.inl [(0, 3, 1)]), [], [], [])], [], [], 0)
set_option maxRecDepth 100000 in
theorem S_1654 : aSpec wd ct_1654 := bChk_ok wx_ok btX12_ofBox (lk := []) (nds := []) (fk := []) (rk := (1, [])) (sp := 0) (fuel := 3000) (by decide +kernel) (fun _ h => nomatch h) odX12_ofBox
def ct_1655 : aCt := (mX12_songLong, [.inr (.inl [196]), .inl [(0, 0, 1)]], ([((199, 0), [(2, 4, 1)]), ((199, 4), [(4, 4, 1)]), ((199, 7), [(7, 8, 1)])], []), [(some (.inl [(2, 6, 1)]), [], [], [])], [], [], 0)
set_option maxRecDepth 100000 in
theorem S_1655 : aSpec wd ct_1655 := bChk_ok wx_ok btX12_songLong (lk := []) (nds := []) (fk := []) (rk := (1, [])) (sp := 0) (fuel := 3000) (by decide +kernel) (fun _ h => nomatch h) odX12_songLong
def ct_1656 : aCt := (mX12_songLong, [.inr (.inl [196]), .inl [(1, 1, 1)]], ([((199, 0), [(2, 4, 1)]), ((199, 4), [(4, 4, 1)]), ((199, 7), [(7, 8, 1)])], []), [(some (.inl [(2, 6, 1)]), [], [], [])], [], [], 0)
set_option maxRecDepth 100000 in
theorem S_1656 : aSpec wd ct_1656 := bChk_ok wx_ok btX12_songLong (lk := []) (nds := []) (fk := []) (rk := (1, [])) (sp := 0) (fuel := 3000) (by decide +kernel) (fun _ h => nomatch h) odX12_songLong
def ct_1657 : aCt := (mX12_songLong, [.inr (.inl [196]), .inl [(2, 2, 1)]], ([((199, 0), [(2, 4, 1)]), ((199, 4), [(4, 4, 1)]), ((199, 7), [(7, 8, 1)])], []), [(some (.inl [(2, 6, 1)]), [], [], [])], [], [], 0)
set_option maxRecDepth 100000 in
theorem S_1657 : aSpec wd ct_1657 := bChk_ok wx_ok btX12_songLong (lk := []) (nds := []) (fk := []) (rk := (1, [])) (sp := 0) (fuel := 3000) (by decide +kernel) (fun _ h => nomatch h) odX12_songLong
def ct_1658 : aCt := (mX12_songLong, [.inr (.inl [196]), .inl [(3, 3, 1)]], ([((199, 0), [(2, 4, 1)]), ((199, 4), [(4, 4, 1)]), ((199, 7), [(7, 8, 1)])], []), [(some (.inl [(2, 6, 1)]), [], [], [])], [], [], 0)
set_option maxRecDepth 100000 in
theorem S_1658 : aSpec wd ct_1658 := bChk_ok wx_ok btX12_songLong (lk := []) (nds := []) (fk := []) (rk := (1, [])) (sp := 0) (fuel := 3000) (by decide +kernel) (fun _ h => nomatch h) odX12_songLong
def ct_1659 : aCt := (mX12_boxLong, [.inr (.inl [196]), .inl [(6, 6, 1)]], ([((199, 0), [(2, 4, 1)]), ((199, 4), [(4, 4, 1)]), ((199, 7), [(7, 8, 1)])], []), [(some (.inl [(2, 6, 1)]), [], [], [])], [], [], 1)
set_option maxRecDepth 100000 in
theorem S_1659 : aSpec wd ct_1659 := bChk_ok wx_ok btX12_boxLong (lk := [(265, 0, 2, ct_1655), (265, 0, 2, ct_1656), (265, 0, 2, ct_1657), (265, 0, 2, ct_1658), (262, 0, 3, ct_1654)]) (nds := []) (fk := [7]) (rk := (1, [])) (sp := 0) (fuel := 3000) (by decide +kernel) (List.forall_mem_cons.mpr ⟨⟨ml_12_265, S_1655⟩, List.forall_mem_cons.mpr ⟨⟨ml_12_265, S_1656⟩, List.forall_mem_cons.mpr ⟨⟨ml_12_265, S_1657⟩, List.forall_mem_cons.mpr ⟨⟨ml_12_265, S_1658⟩, List.forall_mem_cons.mpr ⟨⟨ml_12_262, S_1654⟩, fun _ h => nomatch h⟩⟩⟩⟩⟩) odX12_boxLong
def ct_1660 : aCt := (mX12_ofBox, [.inr (.inl [196]), .inl [(7, 7, 1)], .inl [(1, 1, 1)]], ([((199, 0), [(2, 4, 1)]), ((199, 4), [(4, 4, 1)]), ((199, 7), [(8, 8, 1)])], []), [(some (.inl [(0, 3, 1)]), [], [], [])], [], [], 0)
set_option maxRecDepth 100000 in
theorem S_1660 : aSpec wd ct_1660 := bChk_ok wx_ok btX12_ofBox (lk := []) (nds := []) (fk := []) (rk := (1, [])) (sp := 0) (fuel := 3000) (by decide +kernel) (fun _ h => nomatch h) odX12_ofBox
def ct_1661 : aCt := (mX12_songLong, [.inr (.inl [196]), .inl [(0, 0, 1)]], ([((199, 0), [(2, 4, 1)]), ((199, 4), [(4, 4, 1)]), ((199, 7), [(8, 8, 1)])], []), [(some (.inl [(2, 6, 1)]), [], [], [])], [], [], 0)
set_option maxRecDepth 100000 in
theorem S_1661 : aSpec wd ct_1661 := bChk_ok wx_ok btX12_songLong (lk := []) (nds := []) (fk := []) (rk := (1, [])) (sp := 0) (fuel := 3000) (by decide +kernel) (fun _ h => nomatch h) odX12_songLong
def ct_1662 : aCt := (mX12_songLong, [.inr (.inl [196]), .inl [(1, 1, 1)]], ([((199, 0), [(2, 4, 1)]), ((199, 4), [(4, 4, 1)]), ((199, 7), [(8, 8, 1)])], []), [(some (.inl [(2, 6, 1)]), [], [], [])], [], [], 0)
set_option maxRecDepth 100000 in
theorem S_1662 : aSpec wd ct_1662 := bChk_ok wx_ok btX12_songLong (lk := []) (nds := []) (fk := []) (rk := (1, [])) (sp := 0) (fuel := 3000) (by decide +kernel) (fun _ h => nomatch h) odX12_songLong
def ct_1663 : aCt := (mX12_songLong, [.inr (.inl [196]), .inl [(2, 2, 1)]], ([((199, 0), [(2, 4, 1)]), ((199, 4), [(4, 4, 1)]), ((199, 7), [(8, 8, 1)])], []), [(some (.inl [(2, 6, 1)]), [], [], [])], [], [], 0)
set_option maxRecDepth 100000 in
theorem S_1663 : aSpec wd ct_1663 := bChk_ok wx_ok btX12_songLong (lk := []) (nds := []) (fk := []) (rk := (1, [])) (sp := 0) (fuel := 3000) (by decide +kernel) (fun _ h => nomatch h) odX12_songLong
def ct_1664 : aCt := (mX12_songLong, [.inr (.inl [196]), .inl [(3, 3, 1)]], ([((199, 0), [(2, 4, 1)]), ((199, 4), [(4, 4, 1)]), ((199, 7), [(8, 8, 1)])], []), [(some (.inl [(2, 6, 1)]), [], [], [])], [], [], 0)
set_option maxRecDepth 100000 in
theorem S_1664 : aSpec wd ct_1664 := bChk_ok wx_ok btX12_songLong (lk := []) (nds := []) (fk := []) (rk := (1, [])) (sp := 0) (fuel := 3000) (by decide +kernel) (fun _ h => nomatch h) odX12_songLong
def ct_1665 : aCt := (mX12_boxLong, [.inr (.inl [196]), .inl [(7, 7, 1)]], ([((199, 0), [(2, 4, 1)]), ((199, 4), [(4, 4, 1)]), ((199, 7), [(8, 8, 1)])], []), [(some (.inl [(2, 6, 1)]), [], [], [])], [], [], 1)
set_option maxRecDepth 100000 in
theorem S_1665 : aSpec wd ct_1665 := bChk_ok wx_ok btX12_boxLong (lk := [(265, 0, 2, ct_1661), (265, 0, 2, ct_1662), (265, 0, 2, ct_1663), (265, 0, 2, ct_1664), (262, 0, 3, ct_1660)]) (nds := []) (fk := [7]) (rk := (1, [])) (sp := 0) (fuel := 3000) (by decide +kernel) (List.forall_mem_cons.mpr ⟨⟨ml_12_265, S_1661⟩, List.forall_mem_cons.mpr ⟨⟨ml_12_265, S_1662⟩, List.forall_mem_cons.mpr ⟨⟨ml_12_265, S_1663⟩, List.forall_mem_cons.mpr ⟨⟨ml_12_265, S_1664⟩, List.forall_mem_cons.mpr ⟨⟨ml_12_262, S_1660⟩, fun _ h => nomatch h⟩⟩⟩⟩⟩) odX12_boxLong
def sl_375 : (Nat × Nat) × aI := ((199, 4), [(4, 4, 1)])
def ct_1666 : aCt := (mX12_decade, [.inr (.inl [196]), .inl aTop, .inl aTop], ([((199, 4), [(4, 4, 1)])], []), [(some (.inl aTop), [], [((196, 11), [(0, 0, 1)]), ((196, 14), [(1, 1, 1)]), ((199, 0), [(2, 4, 1)])], []), (some (.inl [(-1, -1, 1)]), [], [((196, 11), [(1, 2, 1)])], [])], [(196, 0, 1), (196, 11, 12)], [], 4)
set_option maxRecDepth 100000 in
theorem S_1666 : aSpec wd ct_1666 := bChk_ok wx_ok btX12_decade (lk := [(167, 0, 1, ct_651), (284, 0, 2, ct_1665), (284, 0, 2, ct_1659), (284, 0, 2, ct_1653), (284, 0, 2, ct_1647), (284, 0, 2, ct_1641), (284, 0, 2, ct_1635), (284, 0, 2, ct_1629), (284, 0, 2, ct_1623), (170, 0, 2, ct_1112), (170, 0, 2, ct_653), (262, 0, 3, ct_1660), (262, 0, 3, ct_1654), (262, 0, 3, ct_1648), (262, 0, 3, ct_1642), (262, 0, 3, ct_1636), (262, 0, 3, ct_1630), (262, 0, 3, ct_1624), (262, 0, 3, ct_1618), (291, 0, 5, ct_1155), (149, 1, 3, ct_1518), (149, 1, 3, ct_678)]) (nds := [(52, [(0, .inr (.inl [196])), (1, .inl [(0, 65536, 1)]), (2, .inl [(0, 50, 1)]), (3, .inl [(0, 65536, 1)]), (4, .inl aTop), (5, .inl [(0, 75, 1)])], [], [sl_325, sl_337, sl_326, sl_375], [], (759, [(4, -10)])), (61, [(0, .inr (.inl [196])), (1, .inl [(0, 65536, 1)]), (2, .inl [(1, 50, 1)]), (3, .inl [(0, 65536, 1)]), (4, .inl aTop), (5, .inl [(0, 63, 1)]), (6, .inl [(0, 0, 1)])], [], [sl_325, sl_337, sl_326, sl_375], [], (758, [(4, -10)])), (61, [(0, .inr (.inl [196])), (1, .inl [(0, 65536, 1)]), (2, .inl [(1, 50, 1)]), (3, .inl [(0, 65536, 1)]), (4, .inl aTop), (5, .inl [(0, 63, 1)]), (6, .inl [(1, 1, 1)]), (7, .inl [(-1, 5, 1)]), (8, .inl [(0, 3, 1)])], [], [sl_325, sl_337, sl_326, sl_375, sl_345], [], (757, [(4, -10)])), (61, [(0, .inr (.inl [196])), (1, .inl [(0, 65536, 1)]), (2, .inl [(1, 50, 1)]), (3, .inl [(0, 65536, 1)]), (4, .inl aTop), (5, .inl [(0, 63, 1)]), (6, .inl [(2, 2, 1)]), (7, .inl [(-1, 5, 1)]), (8, .inl [(0, 3, 1)])], [], [sl_325, sl_337, sl_326, sl_375, sl_364], [], (756, [(4, -10)])), (61, [(0, .inr (.inl [196])), (1, .inl [(0, 65536, 1)]), (2, .inl [(1, 50, 1)]), (3, .inl [(0, 65536, 1)]), (4, .inl aTop), (5, .inl [(0, 63, 1)]), (6, .inl [(3, 3, 1)]), (7, .inl [(-1, 5, 1)]), (8, .inl [(0, 3, 1)])], [], [sl_325, sl_337, sl_326, sl_375, sl_363], [], (755, [(4, -10)])), (61, [(0, .inr (.inl [196])), (1, .inl [(0, 65536, 1)]), (2, .inl [(1, 50, 1)]), (3, .inl [(0, 65536, 1)]), (4, .inl aTop), (5, .inl [(0, 63, 1)]), (6, .inl [(4, 4, 1)]), (7, .inl [(-1, 5, 1)]), (8, .inl [(0, 3, 1)])], [], [sl_325, sl_337, sl_326, sl_375, sl_362], [], (754, [(4, -10)])), (61, [(0, .inr (.inl [196])), (1, .inl [(0, 65536, 1)]), (2, .inl [(1, 50, 1)]), (3, .inl [(0, 65536, 1)]), (4, .inl aTop), (5, .inl [(0, 63, 1)]), (6, .inl [(5, 5, 1)]), (7, .inl [(-1, 5, 1)]), (8, .inl [(0, 3, 1)])], [], [sl_325, sl_337, sl_326, sl_375, sl_361], [], (753, [(4, -10)])), (61, [(0, .inr (.inl [196])), (1, .inl [(0, 65536, 1)]), (2, .inl [(1, 50, 1)]), (3, .inl [(0, 65536, 1)]), (4, .inl aTop), (5, .inl [(0, 63, 1)]), (6, .inl [(6, 6, 1)]), (7, .inl [(-1, 5, 1)]), (8, .inl [(0, 3, 1)])], [], [sl_325, sl_337, sl_326, sl_375, sl_360], [], (752, [(4, -10)])), (61, [(0, .inr (.inl [196])), (1, .inl [(0, 65536, 1)]), (2, .inl [(1, 50, 1)]), (3, .inl [(0, 65536, 1)]), (4, .inl aTop), (5, .inl [(0, 63, 1)]), (6, .inl [(7, 7, 1)]), (7, .inl [(-1, 5, 1)]), (8, .inl [(0, 3, 1)])], [], [sl_325, sl_337, sl_326, sl_375, sl_359], [], (751, [(4, -10)])), (61, [(0, .inr (.inl [196])), (1, .inl [(0, 65536, 1)]), (2, .inl [(1, 50, 1)]), (3, .inl [(0, 65536, 1)]), (4, .inl aTop), (5, .inl [(0, 63, 1)]), (6, .inl [(8, 8, 1)]), (7, .inl [(-1, 5, 1)]), (8, .inl [(0, 3, 1)])], [], [sl_325, sl_337, sl_326, sl_375, sl_358], [], (750, [(4, -10)]))]) (fk := []) (rk := (760, [])) (sp := 2310346608841064448) (fuel := 3000) (by decide +kernel) (List.forall_mem_cons.mpr ⟨⟨ml_12_167, S_651⟩, List.forall_mem_cons.mpr ⟨⟨ml_12_284, S_1665⟩, List.forall_mem_cons.mpr ⟨⟨ml_12_284, S_1659⟩, List.forall_mem_cons.mpr ⟨⟨ml_12_284, S_1653⟩, List.forall_mem_cons.mpr ⟨⟨ml_12_284, S_1647⟩, List.forall_mem_cons.mpr ⟨⟨ml_12_284, S_1641⟩, List.forall_mem_cons.mpr ⟨⟨ml_12_284, S_1635⟩, List.forall_mem_cons.mpr ⟨⟨ml_12_284, S_1629⟩, List.forall_mem_cons.mpr ⟨⟨ml_12_284, S_1623⟩, List.forall_mem_cons.mpr ⟨⟨ml_12_170, S_1112⟩, List.forall_mem_cons.mpr ⟨⟨ml_12_170, S_653⟩, List.forall_mem_cons.mpr ⟨⟨ml_12_262, S_1660⟩, List.forall_mem_cons.mpr ⟨⟨ml_12_262, S_1654⟩, List.forall_mem_cons.mpr ⟨⟨ml_12_262, S_1648⟩, List.forall_mem_cons.mpr ⟨⟨ml_12_262, S_1642⟩, List.forall_mem_cons.mpr ⟨⟨ml_12_262, S_1636⟩, List.forall_mem_cons.mpr ⟨⟨ml_12_262, S_1630⟩, List.forall_mem_cons.mpr ⟨⟨ml_12_262, S_1624⟩, List.forall_mem_cons.mpr ⟨⟨ml_12_262, S_1618⟩, List.forall_mem_cons.mpr ⟨⟨ml_12_291, S_1155⟩, List.forall_mem_cons.mpr ⟨⟨ml_12_149, S_1518⟩, List.forall_mem_cons.mpr ⟨⟨ml_12_149, S_678⟩, fun _ h => nomatch h⟩⟩⟩⟩⟩⟩⟩⟩⟩⟩⟩⟩⟩⟩⟩⟩⟩⟩⟩⟩⟩⟩) odX12_decade
def ct_1667 : aCt := (mX12_ofBox, [.inr (.inl [196]), .inl [(0, 0, 1)], .inl [(1, 1, 1)]], ([((199, 0), [(2, 4, 1)]), ((199, 4), [(5, 5, 1)]), ((199, 7), [(1, 8, 1)])], []), [(some (.inl [(0, 4, 1)]), [], [], [])], [], [], 0)
set_option maxRecDepth 100000 in
theorem S_1667 : aSpec wd ct_1667 := bChk_ok wx_ok btX12_ofBox (lk := []) (nds := []) (fk := []) (rk := (1, [])) (sp := 0) (fuel := 3000) (by decide +kernel) (fun _ h => nomatch h) odX12_ofBox
def ct_1668 : aCt := (mX12_songLong, [.inr (.inl [196]), .inl [(0, 0, 1)]], ([((199, 0), [(2, 4, 1)]), ((199, 4), [(5, 5, 1)]), ((199, 7), [(1, 8, 1)])], []), [(some (.inl [(2, 6, 1)]), [], [], [])], [], [], 0)
set_option maxRecDepth 100000 in
theorem S_1668 : aSpec wd ct_1668 := bChk_ok wx_ok btX12_songLong (lk := []) (nds := []) (fk := []) (rk := (1, [])) (sp := 0) (fuel := 3000) (by decide +kernel) (fun _ h => nomatch h) odX12_songLong
def ct_1669 : aCt := (mX12_songLong, [.inr (.inl [196]), .inl [(1, 1, 1)]], ([((199, 0), [(2, 4, 1)]), ((199, 4), [(5, 5, 1)]), ((199, 7), [(1, 8, 1)])], []), [(some (.inl [(2, 6, 1)]), [], [], [])], [], [], 0)
set_option maxRecDepth 100000 in
theorem S_1669 : aSpec wd ct_1669 := bChk_ok wx_ok btX12_songLong (lk := []) (nds := []) (fk := []) (rk := (1, [])) (sp := 0) (fuel := 3000) (by decide +kernel) (fun _ h => nomatch h) odX12_songLong
def ct_1670 : aCt := (mX12_songLong, [.inr (.inl [196]), .inl [(2, 2, 1)]], ([((199, 0), [(2, 4, 1)]), ((199, 4), [(5, 5, 1)]), ((199, 7), [(1, 8, 1)])], []), [(some (.inl [(2, 6, 1)]), [], [], [])], [], [], 0)
set_option maxRecDepth 100000 in
theorem S_1670 : aSpec wd ct_1670 := bChk_ok wx_ok btX12_songLong (lk := []) (nds := []) (fk := []) (rk := (1, [])) (sp := 0) (fuel := 3000) (by decide +kernel) (fun _ h => nomatch h) odX12_songLong
def ct_1671 : aCt := (mX12_songLong, [.inr (.inl [196]), .inl [(3, 3, 1)]], ([((199, 0), [(2, 4, 1)]), ((199, 4), [(5, 5, 1)]), ((199, 7), [(1, 8, 1)])], []), [(some (.inl [(2, 6, 1)]), [], [], [])], [], [], 0)
set_option maxRecDepth 100000 in
theorem S_1671 : aSpec wd ct_1671 := bChk_ok wx_ok btX12_songLong (lk := []) (nds := []) (fk := []) (rk := (1, [])) (sp := 0) (fuel := 3000) (by decide +kernel) (fun _ h => nomatch h) odX12_songLong
def ct_1672 : aCt := (mX12_songLong, [.inr (.inl [196]), .inl [(4, 4, 1)]], ([((199, 0), [(2, 4, 1)]), ((199, 4), [(5, 5, 1)]), ((199, 7), [(1, 8, 1)])], []), [(some (.inl [(2, 6, 1)]), [], [], [])], [], [], 0)
set_option maxRecDepth 100000 in
theorem S_1672 : aSpec wd ct_1672 := bChk_ok wx_ok btX12_songLong (lk := []) (nds := []) (fk := []) (rk := (1, [])) (sp := 0) (fuel := 3000) (by decide +kernel) (fun _ h => nomatch h) odX12_songLong
def ct_1673 : aCt := (mX12_boxLong, [.inr (.inl [196]), .inl [(0, 0, 1)]], ([((199, 0), [(2, 4, 1)]), ((199, 4), [(5, 5, 1)]), ((199, 7), [(1, 8, 1)])], []), [(some (.inl [(2, 6, 1)]), [], [], [])], [], [], 1)
set_option maxRecDepth 100000 in
theorem S_1673 : aSpec wd ct_1673 := bChk_ok wx_ok btX12_boxLong (lk := [(265, 0, 2, ct_1668), (265, 0, 2, ct_1669), (265, 0, 2, ct_1670), (265, 0, 2, ct_1671), (265, 0, 2, ct_1672), (262, 0, 3, ct_1667)]) (nds := []) (fk := [7]) (rk := (1, [])) (sp := 0) (fuel := 3000) (by decide +kernel) (List.forall_mem_cons.mpr ⟨⟨ml_12_265, S_1668⟩, List.forall_mem_cons.mpr ⟨⟨ml_12_265, S_1669⟩, List.forall_mem_cons.mpr ⟨⟨ml_12_265, S_1670⟩, List.forall_mem_cons.mpr ⟨⟨ml_12_265, S_1671⟩, List.forall_mem_cons.mpr ⟨⟨ml_12_265, S_1672⟩, List.forall_mem_cons.mpr ⟨⟨ml_12_262, S_1667⟩, fun _ h => nomatch h⟩⟩⟩⟩⟩⟩) odX12_boxLong
def ct_1674 : aCt := (mX12_ofBox, [.inr (.inl [196]), .inl [(1, 1, 1)], .inl [(1, 1, 1)]], ([((199, 0), [(2, 4, 1)]), ((199, 4), [(5, 5, 1)]), ((199, 7), [(2, 8, 1)])], []), [(some (.inl [(0, 4, 1)]), [], [], [])], [], [], 0)
set_option maxRecDepth 100000 in
theorem S_1674 : aSpec wd ct_1674 := bChk_ok wx_ok btX12_ofBox (lk := []) (nds := []) (fk := []) (rk := (1, [])) (sp := 0) (fuel := 3000) (by decide +kernel) (fun _ h => nomatch h) odX12_ofBox
def ct_1675 : aCt := (mX12_songLong, [.inr (.inl [196]), .inl [(0, 0, 1)]], ([((199, 0), [(2, 4, 1)]), ((199, 4), [(5, 5, 1)]), ((199, 7), [(2, 8, 1)])], []), [(some (.inl [(2, 6, 1)]), [], [], [])], [], [], 0)
set_option maxRecDepth 100000 in
theorem S_1675 : aSpec wd ct_1675 := bChk_ok wx_ok btX12_songLong (lk := []) (nds := []) (fk := []) (rk := (1, [])) (sp := 0) (fuel := 3000) (by decide +kernel) (fun _ h => nomatch h) odX12_songLong
def ct_1676 : aCt := (mX12_songLong, [.inr (.inl [196]), .inl [(1, 1, 1)]], ([((199, 0), [(2, 4, 1)]), ((199, 4), [(5, 5, 1)]), ((199, 7), [(2, 8, 1)])], []), [(some (.inl [(2, 6, 1)]), [], [], [])], [], [], 0)
set_option maxRecDepth 100000 in
theorem S_1676 : aSpec wd ct_1676 := bChk_ok wx_ok btX12_songLong (lk := []) (nds := []) (fk := []) (rk := (1, [])) (sp := 0) (fuel := 3000) (by decide +kernel) (fun _ h => nomatch h) odX12_songLong
def ct_1677 : aCt := (mX12_songLong, [.inr (.inl [196]), .inl [(2, 2, 1)]], ([((199, 0), [(2, 4, 1)]), ((199, 4), [(5, 5, 1)]), ((199, 7), [(2, 8, 1)])], []), [(some (.inl [(2, 6, 1)]), [], [], [])], [], [], 0)
set_option maxRecDepth 100000 in
theorem S_1677 : aSpec wd ct_1677 := bChk_ok wx_ok btX12_songLong (lk := []) (nds := []) (fk := []) (rk := (1, [])) (sp := 0) (fuel := 3000) (by decide +kernel) (fun _ h => nomatch h) odX12_songLong
def ct_1678 : aCt := (mX12_songLong, [.inr (.inl [196]), .inl [(3, 3, 1)]], ([((199, 0), [(2, 4, 1)]), ((199, 4), [(5, 5, 1)]), ((199, 7), [(2, 8, 1)])], []), [(some (.inl [(2, 6, 1)]), [], [], [])], [], [], 0)
set_option maxRecDepth 100000 in
theorem S_1678 : aSpec wd ct_1678 := bChk_ok wx_ok btX12_songLong (lk := []) (nds := []) (fk := []) (rk := (1, [])) (sp := 0) (fuel := 3000) (by decide +kernel) (fun _ h => nomatch h) odX12_songLong
def ct_1679 : aCt := (mX12_songLong, [.inr (.inl [196]), .inl [(4, 4, 1)]], ([((199, 0), [(2, 4, 1)]), ((199, 4), [(5, 5, 1)]), ((199, 7), [(2, 8, 1)])], []), [(some (.inl [(2, 6, 1)]), [], [], [])], [], [], 0)
set_option maxRecDepth 100000 in
theorem S_1679 : aSpec wd ct_1679 := bChk_ok wx_ok btX12_songLong (lk := []) (nds := []) (fk := []) (rk := (1, [])) (sp := 0) (fuel := 3000) (by decide +kernel) (fun _ h => nomatch h) odX12_songLong
def ct_1680 : aCt := (mX12_boxLong, [.inr (.inl [196]), .inl [(1, 1, 1)]], ([((199, 0), [(2, 4, 1)]), ((199, 4), [(5, 5, 1)]), ((199, 7), [(2, 8, 1)])], []), [(some (.inl [(2, 6, 1)]), [], [], [])], [], [], 1)
set_option maxRecDepth 100000 in
theorem S_1680 : aSpec wd ct_1680 := bChk_ok wx_ok btX12_boxLong (lk := [(265, 0, 2, ct_1675), (265, 0, 2, ct_1676), (265, 0, 2, ct_1677), (265, 0, 2, ct_1678), (265, 0, 2, ct_1679), (262, 0, 3, ct_1674)]) (nds := []) (fk := [7]) (rk := (1, [])) (sp := 0) (fuel := 3000) (by decide +kernel) (List.forall_mem_cons.mpr ⟨⟨ml_12_265, S_1675⟩, List.forall_mem_cons.mpr ⟨⟨ml_12_265, S_1676⟩, List.forall_mem_cons.mpr ⟨⟨ml_12_265, S_1677⟩, List.forall_mem_cons.mpr ⟨⟨ml_12_265, S_1678⟩, List.forall_mem_cons.mpr ⟨⟨ml_12_265, S_1679⟩, List.forall_mem_cons.mpr ⟨⟨ml_12_262, S_1674⟩, fun _ h => nomatch h⟩⟩⟩⟩⟩⟩) odX12_boxLong
def ct_1681 : aCt := (mX12_ofBox, [.inr (.inl [196]), .inl [(2, 2, 1)], .inl [(1, 1, 1)]], ([((199, 0), [(2, 4, 1)]), ((199, 4), [(5, 5, 1)]), ((199, 7), [(3, 8, 1)])], []), [(some (.inl [(0, 4, 1)]), [], [], [])], [], [], 0)
set_option maxRecDepth 100000 in
theorem S_1681 : aSpec wd ct_1681 := bChk_ok wx_ok btX12_ofBox (lk := []) (nds := []) (fk := []) (rk := (1, [])) (sp := 0) (fuel := 3000) (by decide +kernel) (fun _ h => nomatch h) odX12_ofBox
def ct_1682 : aCt := (mX12_songLong, [.inr (.inl [196]), .inl [(0, 0, 1)]], ([((199, 0), [(2, 4, 1)]), ((199, 4), [(5, 5, 1)]), ((199, 7), [(3, 8, 1)])], []), [(some (.inl [(2, 6, 1)]), [], [], [])], [], [], 0)
set_option maxRecDepth 100000 in
theorem S_1682 : aSpec wd ct_1682 := bChk_ok wx_ok btX12_songLong (lk := []) (nds := []) (fk := []) (rk := (1, [])) (sp := 0) (fuel := 3000) (by decide +kernel) (fun _ h => nomatch h) odX12_songLong
def ct_1683 : aCt := (mX12_songLong, [.inr (.inl [196]), .inl [(1, 1, 1)]], ([((199, 0), [(2, 4, 1)]), ((199, 4), [(5, 5, 1)]), ((199, 7), [(3, 8, 1)])], []), [(some (.inl [(2, 6, 1)]), [], [], [])], [], [], 0)
set_option maxRecDepth 100000 in
theorem S_1683 : aSpec wd ct_1683 := bChk_ok wx_ok btX12_songLong (lk := []) (nds := []) (fk := []) (rk := (1, [])) (sp := 0) (fuel := 3000) (by decide +kernel) (fun _ h => nomatch h) odX12_songLong
def ct_1684 : aCt := (mX12_songLong, [.inr (.inl [196]), .inl [(2, 2, 1)]], ([((199, 0), [(2, 4, 1)]), ((199, 4), [(5, 5, 1)]), ((199, 7), [(3, 8, 1)])], []), [(some (.inl [(2, 6, 1)]), [], [], [])], [], [], 0)
set_option maxRecDepth 100000 in
theorem S_1684 : aSpec wd ct_1684 := bChk_ok wx_ok btX12_songLong (lk := []) (nds := []) (fk := []) (rk := (1, [])) (sp := 0) (fuel := 3000) (by decide +kernel) (fun _ h => nomatch h) odX12_songLong
def ct_1685 : aCt := (mX12_songLong, [.inr (.inl [196]), .inl [(3, 3, 1)]], ([((199, 0), [(2, 4, 1)]), ((199, 4), [(5, 5, 1)]), ((199, 7), [(3, 8, 1)])], []), [(some (.inl [(2, 6, 1)]), [], [], [])], [], [], 0)
set_option maxRecDepth 100000 in
theorem S_1685 : aSpec wd ct_1685 := bChk_ok wx_ok btX12_songLong (lk := []) (nds := []) (fk := []) (rk := (1, [])) (sp := 0) (fuel := 3000) (by decide +kernel) (fun _ h => nomatch h) odX12_songLong
def ct_1686 : aCt := (mX12_songLong, [.inr (.inl [196]), .inl [(4, 4, 1)]], ([((199, 0), [(2, 4, 1)]), ((199, 4), [(5, 5, 1)]), ((199, 7), [(3, 8, 1)])], []), [(some (.inl [(2, 6, 1)]), [], [], [])], [], [], 0)
set_option maxRecDepth 100000 in
theorem S_1686 : aSpec wd ct_1686 := bChk_ok wx_ok btX12_songLong (lk := []) (nds := []) (fk := []) (rk := (1, [])) (sp := 0) (fuel := 3000) (by decide +kernel) (fun _ h => nomatch h) odX12_songLong
def ct_1687 : aCt := (mX12_boxLong, [.inr (.inl [196]), .inl [(2, 2, 1)]], ([((199, 0), [(2, 4, 1)]), ((199, 4), [(5, 5, 1)]), ((199, 7), [(3, 8, 1)])], []), [(some (.inl [(2, 6, 1)]), [], [], [])], [], [], 1)
set_option maxRecDepth 100000 in
theorem S_1687 : aSpec wd ct_1687 := bChk_ok wx_ok btX12_boxLong (lk := [(265, 0, 2, ct_1682), (265, 0, 2, ct_1683), (265, 0, 2, ct_1684), (265, 0, 2, ct_1685), (265, 0, 2, ct_1686), (262, 0, 3, ct_1681)]) (nds := []) (fk := [7]) (rk := (1, [])) (sp := 0) (fuel := 3000) (by decide +kernel) (List.forall_mem_cons.mpr ⟨⟨ml_12_265, S_1682⟩, List.forall_mem_cons.mpr ⟨⟨ml_12_265, S_1683⟩, List.forall_mem_cons.mpr ⟨⟨ml_12_265, S_1684⟩, List.forall_mem_cons.mpr ⟨⟨ml_12_265, S_1685⟩, List.forall_mem_cons.mpr ⟨⟨ml_12_265, S_1686⟩, List.forall_mem_cons.mpr ⟨⟨ml_12_262, S_1681⟩, fun _ h => nomatch h⟩⟩⟩⟩⟩⟩) odX12_boxLong
def ct_1688 : aCt := (mX12_ofBox, [.inr (.inl [196]), .inl [(3, 3, 1)], .inl [(1, 1, 1)]], ([((199, 0), [(2, 4, 1)]), ((199, 4), [(5, 5, 1)]), ((199, 7), [(4, 8, 1)])], []), [(some (.inl [(0, 4, 1)]), [], [], [])], [], [], 0)
set_option maxRecDepth 100000 in
theorem S_1688 : aSpec wd ct_1688 := bChk_ok wx_ok btX12_ofBox (lk := []) (nds := []) (fk := []) (rk := (1, [])) (sp := 0) (fuel := 3000) (by decide +kernel) (fun _ h => nomatch h) odX12_ofBox
def ct_1689 : aCt := (mX12_songLong, [.inr (.inl [196]), .inl [(0, 0, 1)]], ([((199, 0), [(2, 4, 1)]), ((199, 4), [(5, 5, 1)]), ((199, 7), [(4, 8, 1)])], []), [(some (.inl [(2, 6, 1)]), [], [], [])], [], [], 0)
set_option maxRecDepth 100000 in
theorem S_1689 : aSpec wd ct_1689 := bChk_ok wx_ok btX12_songLong (lk := []) (nds := []) (fk := []) (rk := (1, [])) (sp := 0) (fuel := 3000) (by decide +kernel) (fun _ h => nomatch h) odX12_songLong
def ct_1690 : aCt := (mX12_songLong, [.inr (.inl [196]), .inl [(1, 1, 1)]], ([((199, 0), [(2, 4, 1)]), ((199, 4), [(5, 5, 1)]), ((199, 7), [(4, 8, 1)])], []), [(some (.inl [(2, 6, 1)]), [], [], [])], [], [], 0)
set_option maxRecDepth 100000 in
theorem S_1690 : aSpec wd ct_1690 := bChk_ok wx_ok btX12_songLong (lk := []) (nds := []) (fk := []) (rk := (1, [])) (sp := 0) (fuel := 3000) (by decide +kernel) (fun _ h => nomatch h) odX12_songLong
def ct_1691 : aCt := (mX12_songLong, [.inr (.inl [196]), .inl [(2, 2, 1)]], ([((199, 0), [(2, 4, 1)]), ((199, 4), [(5, 5, 1)]), ((199, 7), [(4, 8, 1)])], []), [(some (.inl [(2, 6, 1)]), [], [], [])], [], [], 0)
set_option maxRecDepth 100000 in
theorem S_1691 : aSpec wd ct_1691 := bChk_ok wx_ok btX12_songLong (lk := []) (nds := []) (fk := []) (rk := (1, [])) (sp := 0) (fuel := 3000) (by decide +kernel) (fun _ h => nomatch h) odX12_songLong
def ct_1692 : aCt := (mX12_songLong, [.inr (.inl [196]), .inl [(3, 3, 1)]], ([((199, 0), [(2, 4, 1)]), ((199, 4), [(5, 5, 1)]), ((199, 7), [(4, 8, 1)])], []), [(some (.inl [(2, 6, 1)]), [], [], [])], [], [], 0)
set_option maxRecDepth 100000 in
theorem S_1692 : aSpec wd ct_1692 := bChk_ok wx_ok btX12_songLong (lk := []) (nds := []) (fk := []) (rk := (1, [])) (sp := 0) (fuel := 3000) (by decide +kernel) (fun _ h => nomatch h) odX12_songLong
def ct_1693 : aCt := (mX12_songLong, [.inr (.inl [196]), .inl [(4, 4, 1)]], ([((199, 0), [(2, 4, 1)]), ((199, 4), [(5, 5, 1)]), ((199, 7), [(4, 8, 1)])], []), [(some (.inl [(2, 6, 1)]), [], [], [])], [], [], 0)
set_option maxRecDepth 100000 in
theorem S_1693 : aSpec wd ct_1693 := bChk_ok wx_ok btX12_songLong (lk := []) (nds := []) (fk := []) (rk := (1, [])) (sp := 0) (fuel := 3000) (by decide +kernel) (fun _ h => nomatch h) odX12_songLong
def ct_1694 : aCt := (mX12_boxLong, [.inr (.inl [196]), .inl [(3, 3, 1)]], ([((199, 0), [(2, 4, 1)]), ((199, 4), [(5, 5, 1)]), ((199, 7), [(4, 8, 1)])], []), [(some (.inl [(2, 6, 1)]), [], [], [])], [], [], 1)
set_option maxRecDepth 100000 in
theorem S_1694 : aSpec wd ct_1694 := bChk_ok wx_ok btX12_boxLong (lk := [(265, 0, 2, ct_1689), (265, 0, 2, ct_1690), (265, 0, 2, ct_1691), (265, 0, 2, ct_1692), (265, 0, 2, ct_1693), (262, 0, 3, ct_1688)]) (nds := []) (fk := [7]) (rk := (1, [])) (sp := 0) (fuel := 3000) (by decide +kernel) (List.forall_mem_cons.mpr ⟨⟨ml_12_265, S_1689⟩, List.forall_mem_cons.mpr ⟨⟨ml_12_265, S_1690⟩, List.forall_mem_cons.mpr ⟨⟨ml_12_265, S_1691⟩, List.forall_mem_cons.mpr ⟨⟨ml_12_265, S_1692⟩, List.forall_mem_cons.mpr ⟨⟨ml_12_265, S_1693⟩, List.forall_mem_cons.mpr ⟨⟨ml_12_262, S_1688⟩, fun _ h => nomatch h⟩⟩⟩⟩⟩⟩) odX12_boxLong
def ct_1695 : aCt := (mX12_ofBox, [.inr (.inl [196]), .inl [(4, 4, 1)], .inl [(1, 1, 1)]], ([((199, 0), [(2, 4, 1)]), ((199, 4), [(5, 5, 1)]), ((199, 7), [(5, 8, 1)])], []), [(some (.inl [(0, 4, 1)]), [], [], [])], [], [], 0)
set_option maxRecDepth 100000 in
theorem S_1695 : aSpec wd ct_1695 := bChk_ok wx_ok btX12_ofBox (lk := []) (nds := []) (fk := []) (rk := (1, [])) (sp := 0) (fuel := 3000) (by decide +kernel) (fun _ h => nomatch h) odX12_ofBox
def ct_1696 : aCt := (mX12_songLong, [.inr (.inl [196]), .inl [(0, 0, 1)]], ([((199, 0), [(2, 4, 1)]), ((199, 4), [(5, 5, 1)]), ((199, 7), [(5, 8, 1)])], []), [(some (.inl [(2, 6, 1)]), [], [], [])], [], [], 0)
set_option maxRecDepth 100000 in
theorem S_1696 : aSpec wd ct_1696 := bChk_ok wx_ok btX12_songLong (lk := []) (nds := []) (fk := []) (rk := (1, [])) (sp := 0) (fuel := 3000) (by decide +kernel) (fun _ h => nomatch h) odX12_songLong
def ct_1697 : aCt := (mX12_songLong, [.inr (.inl [196]), .inl [(1, 1, 1)]], ([((199, 0), [(2, 4, 1)]), ((199, 4), [(5, 5, 1)]), ((199, 7), [(5, 8, 1)])], []), [(some (.inl [(2, 6, 1)]), [], [], [])], [], [], 0)
set_option maxRecDepth 100000 in
theorem S_1697 : aSpec wd ct_1697 := bChk_ok wx_ok btX12_songLong (lk := []) (nds := []) (fk := []) (rk := (1, [])) (sp := 0) (fuel := 3000) (by decide +kernel) (fun _ h => nomatch h) odX12_songLong
def ct_1698 : aCt := (mX12_songLong, [.inr (.inl [196]), .inl [(2, 2, 1)]], ([((199, 0), [(2, 4, 1)]), ((199, 4), [(5, 5, 1)]), ((199, 7), [(5, 8, 1)])], []), [(some (.inl [(2, 6, 1)]), [], [], [])], [], [], 0)
set_option maxRecDepth 100000 in
theorem S_1698 : aSpec wd ct_1698 := bChk_ok wx_ok btX12_songLong (lk := []) (nds := []) (fk := []) (rk := (1, [])) (sp := 0) (fuel := 3000) (by decide +kernel) (fun _ h => nomatch h) odX12_songLong
def ct_1699 : aCt := (mX12_songLong, [.inr (.inl [196]), .inl [(3, 3, 1)]], ([((199, 0), [(2, 4, 1)]), ((199, 4), [(5, 5, 1)]), ((199, 7), [(5, 8, 1)])], []), [(some (.inl [(2, 6, 1)]), [], [], [])], [], [], 0)
set_option maxRecDepth 100000 in
theorem S_1699 : aSpec wd ct_1699 := bChk_ok wx_ok btX12_songLong (lk := []) (nds := []) (fk := []) (rk := (1, [])) (sp := 0) (fuel := 3000) (by decide +kernel) (fun _ h => nomatch h) odX12_songLong
def ct_1700 : aCt := (mX12_songLong, [.inr (.inl [196]), .inl [(4, 4, 1)]], ([((199, 0), [(2, 4, 1)]), ((199, 4), [(5, 5, 1)]), ((199, 7), [(5, 8, 1)])], []), [(some (.inl [(2, 6, 1)]), [], [], [])], [], [], 0)
set_option maxRecDepth 100000 in
theorem S_1700 : aSpec wd ct_1700 := bChk_ok wx_ok btX12_songLong (lk := []) (nds := []) (fk := []) (rk := (1, [])) (sp := 0) (fuel := 3000) (by decide +kernel) (fun _ h => nomatch h) odX12_songLong
def ct_1701 : aCt := (mX12_boxLong, [.inr (.inl [196]), .inl [(4, 4, 1)]], ([((199, 0), [(2, 4, 1)]), ((199, 4), [(5, 5, 1)]), ((199, 7), [(5, 8, 1)])], []), [(some (.inl [(2, 6, 1)]), [], [], [])], [], [], 1)
set_option maxRecDepth 100000 in
theorem S_1701 : aSpec wd ct_1701 := bChk_ok wx_ok btX12_boxLong (lk := [(265, 0, 2, ct_1696), (265, 0, 2, ct_1697), (265, 0, 2, ct_1698), (265, 0, 2, ct_1699), (265, 0, 2, ct_1700), (262, 0, 3, ct_1695)]) (nds := []) (fk := [7]) (rk := (1, [])) (sp := 0) (fuel := 3000) (by decide +kernel) (List.forall_mem_cons.mpr ⟨⟨ml_12_265, S_1696⟩, List.forall_mem_cons.mpr ⟨⟨ml_12_265, S_1697⟩, List.forall_mem_cons.mpr ⟨⟨ml_12_265, S_1698⟩, List.forall_mem_cons.mpr ⟨⟨ml_12_265, S_1699⟩, List.forall_mem_cons.mpr ⟨⟨ml_12_265, S_1700⟩, List.forall_mem_cons.mpr ⟨⟨ml_12_262, S_1695⟩, fun _ h => nomatch h⟩⟩⟩⟩⟩⟩) odX12_boxLong
def ct_1702 : aCt := (mX12_ofBox, [.inr (.inl [196]), .inl [(5, 5, 1)], .inl [(1, 1, 1)]], ([((199, 0), [(2, 4, 1)]), ((199, 4), [(5, 5, 1)]), ((199, 7), [(6, 8, 1)])], []), [(some (.inl [(0, 4, 1)]), [], [], [])], [], [], 0)
set_option maxRecDepth 100000 in
theorem S_1702 : aSpec wd ct_1702 := bChk_ok wx_ok btX12_ofBox (lk := []) (nds := []) (fk := []) (rk := (1, [])) (sp := 0) (fuel := 3000) (by decide +kernel) (fun _ h => nomatch h) odX12_ofBox
def ct_1703 : aCt := (mX12_songLong, [.inr (.inl [196]), .inl [(0, 0, 1)]], ([((199, 0), [(2, 4, 1)]), ((199, 4), [(5, 5, 1)]), ((199, 7), [(6, 8, 1)])], []), [(some (.inl [(2, 6, 1)]), [], [], [])], [], [], 0)
set_option maxRecDepth 100000 in
theorem S_1703 : aSpec wd ct_1703 := bChk_ok wx_ok btX12_songLong (lk := []) (nds := []) (fk := []) (rk := (1, [])) (sp := 0) (fuel := 3000) (by decide +kernel) (fun _ h => nomatch h) odX12_songLong
def ct_1704 : aCt := (mX12_songLong, [.inr (.inl [196]), .inl [(1, 1, 1)]], ([((199, 0), [(2, 4, 1)]), ((199, 4), [(5, 5, 1)]), ((199, 7), [(6, 8, 1)])], []), [(some (.inl [(2, 6, 1)]), [], [], [])], [], [], 0)
set_option maxRecDepth 100000 in
theorem S_1704 : aSpec wd ct_1704 := bChk_ok wx_ok btX12_songLong (lk := []) (nds := []) (fk := []) (rk := (1, [])) (sp := 0) (fuel := 3000) (by decide +kernel) (fun _ h => nomatch h) odX12_songLong
def ct_1705 : aCt := (mX12_songLong, [.inr (.inl [196]), .inl [(2, 2, 1)]], ([((199, 0), [(2, 4, 1)]), ((199, 4), [(5, 5, 1)]), ((199, 7), [(6, 8, 1)])], []), [(some (.inl [(2, 6, 1)]), [], [], [])], [], [], 0)
set_option maxRecDepth 100000 in
theorem S_1705 : aSpec wd ct_1705 := bChk_ok wx_ok btX12_songLong (lk := []) (nds := []) (fk := []) (rk := (1, [])) (sp := 0) (fuel := 3000) (by decide +kernel) (fun _ h => nomatch h) odX12_songLong
def ct_1706 : aCt := (mX12_songLong, [.inr (.inl [196]), .inl [(3, 3, 1)]], ([((199, 0), [(2, 4, 1)]), ((199, 4), [(5, 5, 1)]), ((199, 7), [(6, 8, 1)])], []), [(some (.inl [(2, 6, 1)]), [], [], [])], [], [], 0)
set_option maxRecDepth 100000 in
theorem S_1706 : aSpec wd ct_1706 := bChk_ok wx_ok btX12_songLong (lk := []) (nds := []) (fk := []) (rk := (1, [])) (sp := 0) (fuel := 3000) (by decide +kernel) (fun _ h => nomatch h) odX12_songLong
def ct_1707 : aCt := (mX12_songLong, [.inr (.inl [196]), .inl [(4, 4, 1)]], ([((199, 0), [(2, 4, 1)]), ((199, 4), [(5, 5, 1)]), ((199, 7), [(6, 8, 1)])], []), [(some (.inl [(2, 6, 1)]), [], [], [])], [], [], 0)
set_option maxRecDepth 100000 in
theorem S_1707 : aSpec wd ct_1707 := bChk_ok wx_ok btX12_songLong (lk := []) (nds := []) (fk := []) (rk := (1, [])) (sp := 0) (fuel := 3000) (by decide +kernel) (fun _ h => nomatch h) odX12_songLong
def ct_1708 : aCt := (mX12_boxLong, [.inr (.inl [196]), .inl [(5, 5, 1)]], ([((199, 0), [(2, 4, 1)]), ((199, 4), [(5, 5, 1)]), ((199, 7), [(6, 8, 1)])], []), [(some (.inl [(2, 6, 1)]), [], [], [])], [], [], 1)
set_option maxRecDepth 100000 in
theorem S_1708 : aSpec wd ct_1708 := bChk_ok wx_ok btX12_boxLong (lk := [(265, 0, 2, ct_1703), (265, 0, 2, ct_1704), (265, 0, 2, ct_1705), (265, 0, 2, ct_1706), (265, 0, 2, ct_1707), (262, 0, 3, ct_1702)]) (nds := []) (fk := [7]) (rk := (1, [])) (sp := 0) (fuel := 3000) (by decide +kernel) (List.forall_mem_cons.mpr ⟨⟨ml_12_265, S_1703⟩, List.forall_mem_cons.mpr ⟨⟨ml_12_265, S_1704⟩, List.forall_mem_cons.mpr ⟨⟨ml_12_265, S_1705⟩, List.forall_mem_cons.mpr ⟨⟨ml_12_265, S_1706⟩, List.forall_mem_cons.mpr ⟨⟨ml_12_265, S_1707⟩, List.forall_mem_cons.mpr ⟨⟨ml_12_262, S_1702⟩, fun _ h => nomatch h⟩⟩⟩⟩⟩⟩) odX12_boxLong
def ct_1709 : aCt := (mX12_ofBox, [.inr (.inl [196]), .inl [(6, 6, 1)], .inl [(1, 1, 1)]], ([((199, 0), [(2, 4, 1)]), ((199, 4), [(5, 5, 1)]), ((199, 7), [(7, 8, 1)])], []), [(some (.inl [(0, 4, 1)]), [], [], [])], [], [], 0)
set_option maxRecDepth 100000 in
theorem S_1709 : aSpec wd ct_1709 := bChk_ok wx_ok btX12_ofBox (lk := []) (nds := []) (fk := []) (rk := (1, [])) (sp := 0) (fuel := 3000) (by decide +kernel) (fun _ h => nomatch h) odX12_ofBox
def ct_1710 : aCt := (mX12_songLong, [.inr (.inl [196]), .inl [(0, 0, 1)]], ([((199, 0), [(2, 4, 1)]), ((199, 4), [(5, 5, 1)]), ((199, 7), [(7, 8, 1)])], []), [(some (.inl [(2, 6, 1)]), [], [], [])], [], [], 0)
set_option maxRecDepth 100000 in
theorem S_1710 : aSpec wd ct_1710 := bChk_ok wx_ok btX12_songLong (lk := []) (nds := []) (fk := []) (rk := (1, [])) (sp := 0) (fuel := 3000) (by decide +kernel) (fun _ h => nomatch h) odX12_songLong
def ct_1711 : aCt := (mX12_songLong, [.inr (.inl [196]), .inl [(1, 1, 1)]], ([((199, 0), [(2, 4, 1)]), ((199, 4), [(5, 5, 1)]), ((199, 7), [(7, 8, 1)])], []), [(some (.inl [(2, 6, 1)]), [], [], [])], [], [], 0)
set_option maxRecDepth 100000 in
theorem S_1711 : aSpec wd ct_1711 := bChk_ok wx_ok btX12_songLong (lk := []) (nds := []) (fk := []) (rk := (1, [])) (sp := 0) (fuel := 3000) (by decide +kernel) (fun _ h => nomatch h) odX12_songLong
def ct_1712 : aCt := (mX12_songLong, [.inr (.inl [196]), .inl [(2, 2, 1)]], ([((199, 0), [(2, 4, 1)]), ((199, 4), [(5, 5, 1)]), ((199, 7), [(7, 8, 1)])], []), [(some (.inl [(2, 6, 1)]), [], [], [])], [], [], 0)
set_option maxRecDepth 100000 in
theorem S_1712 : aSpec wd ct_1712 := bChk_ok wx_ok btX12_songLong (lk := []) (nds := []) (fk := []) (rk := (1, [])) (sp := 0) (fuel := 3000) (by decide +kernel) (fun _ h => nomatch h) odX12_songLong
def ct_1713 : aCt := (mX12_songLong, [.inr (.inl [196]), .inl [(3, 3, 1)]], ([((199, 0), [(2, 4, 1)]), ((199, 4), [(5, 5, 1)]), ((199, 7), [(7, 8, 1)])], []), [(some (.inl [(2, 6, 1)]), [], [], [])], [], [], 0)
set_option maxRecDepth 100000 in
theorem S_1713 : aSpec wd ct_1713 := bChk_ok wx_ok btX12_songLong (lk := []) (nds := []) (fk := []) (rk := (1, [])) (sp := 0) (fuel := 3000) (by decide +kernel) (fun _ h => nomatch h) odX12_songLong
def ct_1714 : aCt := (mX12_songLong, [.inr (.inl [196]), .inl [(4, 4, 1)]], ([((199, 0), [(2, 4, 1)]), ((199, 4), [(5, 5, 1)]), ((199, 7), [(7, 8, 1)])], []), [(some (.inl [(2, 6, 1)]), [], [], [])], [], [], 0)
set_option maxRecDepth 100000 in
theorem S_1714 : aSpec wd ct_1714 := bChk_ok wx_ok btX12_songLong (lk := []) (nds := []) (fk := []) (rk := (1, [])) (sp := 0) (fuel := 3000) (by decide +kernel) (fun _ h => nomatch h) odX12_songLong
def ct_1715 : aCt := (mX12_boxLong, [.inr (.inl [196]), .inl [(6, 6, 1)]], ([((199, 0), [(2, 4, 1)]), ((199, 4), [(5, 5, 1)]), ((199, 7), [(7, 8, 1)])], []), [(some (.inl [(2, 6, 1)]), [], [], [])], [], [], 1)
set_option maxRecDepth 100000 in
theorem S_1715 : aSpec wd ct_1715 := bChk_ok wx_ok btX12_boxLong (lk := [(265, 0, 2, ct_1710), (265, 0, 2, ct_1711), (265, 0, 2, ct_1712), (265, 0, 2, ct_1713), (265, 0, 2, ct_1714), (262, 0, 3, ct_1709)]) (nds := []) (fk := [7]) (rk := (1, [])) (sp := 0) (fuel := 3000) (by decide +kernel) (List.forall_mem_cons.mpr ⟨⟨ml_12_265, S_1710⟩, List.forall_mem_cons.mpr ⟨⟨ml_12_265, S_1711⟩, List.forall_mem_cons.mpr ⟨⟨ml_12_265, S_1712⟩, List.forall_mem_cons.mpr ⟨⟨ml_12_265, S_1713⟩, List.forall_mem_cons.mpr ⟨⟨ml_12_265, S_1714⟩, List.forall_mem_cons.mpr ⟨⟨ml_12_262, S_1709⟩, fun _ h => nomatch h⟩⟩⟩⟩⟩⟩) odX12_boxLong
