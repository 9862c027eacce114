def ct_1716 : aCt := (mX12_ofBox, [.inr (.inl [196]), .inl [(7, 7, 1)], .inl [(1, 1, 1)]], ([((199, 0), [(2, 4, 1)]), ((199, 4), [(5, 5, 1)]), ((199, 7), [(8, 8, 1)])], []), [(some (.inl [(0, 4, 1)]), [], [], [])], [], [], 0)
set_option maxRecDepth 100000 in
theorem S_1716 : aSpec wd ct_1716 := bChk_ok wx_ok btX12_ofBox (lk := []) (nds := []) (fk := []) (rk := (1, [])) (sp := 0) (fuel := 3000) (by decide +kernel) (fun _ h => nomatch h) odX12_ofBox
def ct_1717 : aCt := (mX12_songLong, [.inr (.inl [196]), .inl [(0, 0, 1)]], ([((199, 0), [(2, 4, 1)]), ((199, 4), [(5, 5, 1)]), ((199, 7), [(8, 8, 1)])], []), [(some (.inl [(2, 6, 1)]), [], [], [])], [], [], 0)
set_option maxRecDepth 100000 in
theorem S_1717 : aSpec wd ct_1717 := bChk_ok wx_ok btX12_songLong (lk := []) (nds := []) (fk := []) (rk := (1, [])) (sp := 0) (fuel := 3000) (by decide +kernel) (fun _ h => nomatch h) odX12_songLong
def ct_1718 : aCt := (mX12_songLong, [.inr (.inl [196]), .inl [(1, 1, 1)]], ([((199, 0), [(2, 4, 1)]), ((199, 4), [(5, 5, 1)]), ((199, 7), [(8, 8, 1)])], []), [(some (.inl [(2, 6, 1)]), [], [], [])], [], [], 0)
set_option maxRecDepth 100000 in
theorem S_1718 : aSpec wd ct_1718 := bChk_ok wx_ok btX12_songLong (lk := []) (nds := []) (fk := []) (rk := (1, [])) (sp := 0) (fuel := 3000) (by decide +kernel) (fun _ h => nomatch h) odX12_songLong
def ct_1719 : aCt := (mX12_songLong, [.inr (.inl [196]), .inl [(2, 2, 1)]], ([((199, 0), [(2, 4, 1)]), ((199, 4), [(5, 5, 1)]), ((199, 7), [(8, 8, 1)])], []), [(some (.inl [(2, 6, 1)]), [], [], [])], [], [], 0)
set_option maxRecDepth 100000 in
theorem S_1719 : aSpec wd ct_1719 := bChk_ok wx_ok btX12_songLong (lk := []) (nds := []) (fk := []) (rk := (1, [])) (sp := 0) (fuel := 3000) (by decide +kernel) (fun _ h => nomatch h) odX12_songLong
def ct_1720 : aCt := (mX12_songLong, [.inr (.inl [196]), .inl [(3, 3, 1)]], ([((199, 0), [(2, 4, 1)]), ((199, 4), [(5, 5, 1)]), ((199, 7), [(8, 8, 1)])], []), [(some (.inl [(2, 6, 1)]), [], [], [])], [], [], 0)
set_option maxRecDepth 100000 in
theorem S_1720 : aSpec wd ct_1720 := bChk_ok wx_ok btX12_songLong (lk := []) (nds := []) (fk := []) (rk := (1, [])) (sp := 0) (fuel := 3000) (by decide +kernel) (fun _ h => nomatch h) odX12_songLong
def ct_1721 : aCt := (mX12_songLong, [.inr (.inl [196]), .inl [(4, 4, 1)]], ([((199, 0), [(2, 4, 1)]), ((199, 4), [(5, 5, 1)]), ((199, 7), [(8, 8, 1)])], []), [(some (.inl [(2, 6, 1)]), [], [], [])], [], [], 0)
set_option maxRecDepth 100000 in
theorem S_1721 : aSpec wd ct_1721 := bChk_ok wx_ok btX12_songLong (lk := []) (nds := []) (fk := []) (rk := (1, [])) (sp := 0) (fuel := 3000) (by decide +kernel) (fun _ h => nomatch h) odX12_songLong
def ct_1722 : aCt := (mX12_boxLong, [.inr (.inl [196]), .inl [(7, 7, 1)]], ([((199, 0), [(2, 4, 1)]), ((199, 4), [(5, 5, 1)]), ((199, 7), [(8, 8, 1)])], []), [(some (.inl [(2, 6, 1)]), [], [], [])], [], [], 1)
set_option maxRecDepth 100000 in
theorem S_1722 : aSpec wd ct_1722 := bChk_ok wx_ok btX12_boxLong (lk := [(265, 0, 2, ct_1717), (265, 0, 2, ct_1718), (265, 0, 2, ct_1719), (265, 0, 2, ct_1720), (265, 0, 2, ct_1721), (262, 0, 3, ct_1716)]) (nds := []) (fk := [7]) (rk := (1, [])) (sp := 0) (fuel := 3000) (by decide +kernel) (List.forall_mem_cons.mpr ⟨⟨ml_12_265, S_1717⟩, List.forall_mem_cons.mpr ⟨⟨ml_12_265, S_1718⟩, List.forall_mem_cons.mpr ⟨⟨ml_12_265, S_1719⟩, List.forall_mem_cons.mpr ⟨⟨ml_12_265, S_1720⟩, List.forall_mem_cons.mpr ⟨⟨ml_12_265, S_1721⟩, List.forall_mem_cons.mpr ⟨⟨ml_12_262, S_1716⟩, fun _ h => nomatch h⟩⟩⟩⟩⟩⟩) odX12_boxLong
def sl_376 : (Nat × Nat) × aI := ((199, 4), [(5, 5, 1)])
def ct_1723 : aCt := (mX12_decade, [.inr (.inl [196]), .inl aTop, .inl aTop], ([((199, 4), [(5, 5, 1)])], []), [(some (.inl aTop), [], [((196, 11), [(0, 0, 1)]), ((196, 14), [(1, 1, 1)]), ((199, 0), [(2, 4, 1)])], []), (some (.inl [(-1, -1, 1)]), [], [((196, 11), [(1, 2, 1)])], [])], [(196, 0, 1), (196, 11, 12)], [], 4)
set_option maxRecDepth 100000 in
theorem S_1723 : aSpec wd ct_1723 := bChk_ok wx_ok btX12_decade (lk := [(167, 0, 1, ct_651), (284, 0, 2, ct_1722), (284, 0, 2, ct_1715), (284, 0, 2, ct_1708), (284, 0, 2, ct_1701), (284, 0, 2, ct_1694), (284, 0, 2, ct_1687), (284, 0, 2, ct_1680), (284, 0, 2, ct_1673), (170, 0, 2, ct_1112), (170, 0, 2, ct_653), (262, 0, 3, ct_1716), (262, 0, 3, ct_1709), (262, 0, 3, ct_1702), (262, 0, 3, ct_1695), (262, 0, 3, ct_1688), (262, 0, 3, ct_1681), (262, 0, 3, ct_1674), (262, 0, 3, ct_1667), (291, 0, 5, ct_1155), (149, 1, 3, ct_1518), (149, 1, 3, ct_678)]) (nds := [(52, [(0, .inr (.inl [196])), (1, .inl [(0, 65536, 1)]), (2, .inl [(0, 50, 1)]), (3, .inl [(0, 65536, 1)]), (4, .inl aTop), (5, .inl [(0, 75, 1)])], [], [sl_325, sl_337, sl_326, sl_376], [], (759, [(4, -10)])), (61, [(0, .inr (.inl [196])), (1, .inl [(0, 65536, 1)]), (2, .inl [(1, 50, 1)]), (3, .inl [(0, 65536, 1)]), (4, .inl aTop), (5, .inl [(0, 63, 1)]), (6, .inl [(0, 0, 1)])], [], [sl_325, sl_337, sl_326, sl_376], [], (758, [(4, -10)])), (61, [(0, .inr (.inl [196])), (1, .inl [(0, 65536, 1)]), (2, .inl [(1, 50, 1)]), (3, .inl [(0, 65536, 1)]), (4, .inl aTop), (5, .inl [(0, 63, 1)]), (6, .inl [(1, 1, 1)]), (7, .inl [(-1, 5, 1)]), (8, .inl [(0, 3, 1)])], [], [sl_325, sl_337, sl_326, sl_376, sl_345], [], (757, [(4, -10)])), (61, [(0, .inr (.inl [196])), (1, .inl [(0, 65536, 1)]), (2, .inl [(1, 50, 1)]), (3, .inl [(0, 65536, 1)]), (4, .inl aTop), (5, .inl [(0, 63, 1)]), (6, .inl [(2, 2, 1)]), (7, .inl [(-1, 5, 1)]), (8, .inl [(0, 3, 1)])], [], [sl_325, sl_337, sl_326, sl_376, sl_364], [], (756, [(4, -10)])), (61, [(0, .inr (.inl [196])), (1, .inl [(0, 65536, 1)]), (2, .inl [(1, 50, 1)]), (3, .inl [(0, 65536, 1)]), (4, .inl aTop), (5, .inl [(0, 63, 1)]), (6, .inl [(3, 3, 1)]), (7, .inl [(-1, 5, 1)]), (8, .inl [(0, 3, 1)])], [], [sl_325, sl_337, sl_326, sl_376, sl_363], [], (755, [(4, -10)])), (61, [(0, .inr (.inl [196])), (1, .inl [(0, 65536, 1)]), (2, .inl [(1, 50, 1)]), (3, .inl [(0, 65536, 1)]), (4, .inl aTop), (5, .inl [(0, 63, 1)]), (6, .inl [(4, 4, 1)]), (7, .inl [(-1, 5, 1)]), (8, .inl [(0, 3, 1)])], [], [sl_325, sl_337, sl_326, sl_376, sl_362], [], (754, [(4, -10)])), (61, [(0, .inr (.inl [196])), (1, .inl [(0, 65536, 1)]), (2, .inl [(1, 50, 1)]), (3, .inl [(0, 65536, 1)]), (4, .inl aTop), (5, .inl [(0, 63, 1)]), (6, .inl [(5, 5, 1)]), (7, .inl [(-1, 5, 1)]), (8, .inl [(0, 3, 1)])], [], [sl_325, sl_337, sl_326, sl_376, sl_361], [], (753, [(4, -10)])), (61, [(0, .inr (.inl [196])), (1, .inl [(0, 65536, 1)]), (2, .inl [(1, 50, 1)]), (3, .inl [(0, 65536, 1)]), (4, .inl aTop), (5, .inl [(0, 63, 1)]), (6, .inl [(6, 6, 1)]), (7, .inl [(-1, 5, 1)]), (8, .inl [(0, 3, 1)])], [], [sl_325, sl_337, sl_326, sl_376, sl_360], [], (752, [(4, -10)])), (61, [(0, .inr (.inl [196])), (1, .inl [(0, 65536, 1)]), (2, .inl [(1, 50, 1)]), (3, .inl [(0, 65536, 1)]), (4, .inl aTop), (5, .inl [(0, 63, 1)]), (6, .inl [(7, 7, 1)]), (7, .inl [(-1, 5, 1)]), (8, .inl [(0, 3, 1)])], [], [sl_325, sl_337, sl_326, sl_376, sl_359], [], (751, [(4, -10)])), (61, [(0, .inr (.inl [196])), (1, .inl [(0, 65536, 1)]), (2, .inl [(1, 50, 1)]), (3, .inl [(0, 65536, 1)]), (4, .inl aTop), (5, .inl [(0, 63, 1)]), (6, .inl [(8, 8, 1)]), (7, .inl [(-1, 5, 1)]), (8, .inl [(0, 3, 1)])], [], [sl_325, sl_337, sl_326, sl_376, sl_358], [], (750, [(4, -10)]))]) (fk := []) (rk := (760, [])) (sp := 2310346608841064448) (fuel := 3000) (by decide +kernel) (List.forall_mem_cons.mpr ⟨⟨ml_12_167, S_651⟩, List.forall_mem_cons.mpr ⟨⟨ml_12_284, S_1722⟩, List.forall_mem_cons.mpr ⟨⟨ml_12_284, S_1715⟩, List.forall_mem_cons.mpr ⟨⟨ml_12_284, S_1708⟩, List.forall_mem_cons.mpr ⟨⟨ml_12_284, S_1701⟩, List.forall_mem_cons.mpr ⟨⟨ml_12_284, S_1694⟩, List.forall_mem_cons.mpr ⟨⟨ml_12_284, S_1687⟩, List.forall_mem_cons.mpr ⟨⟨ml_12_284, S_1680⟩, List.forall_mem_cons.mpr ⟨⟨ml_12_284, S_1673⟩, List.forall_mem_cons.mpr ⟨⟨ml_12_170, S_1112⟩, List.forall_mem_cons.mpr ⟨⟨ml_12_170, S_653⟩, List.forall_mem_cons.mpr ⟨⟨ml_12_262, S_1716⟩, List.forall_mem_cons.mpr ⟨⟨ml_12_262, S_1709⟩, List.forall_mem_cons.mpr ⟨⟨ml_12_262, S_1702⟩, List.forall_mem_cons.mpr ⟨⟨ml_12_262, S_1695⟩, List.forall_mem_cons.mpr ⟨⟨ml_12_262, S_1688⟩, List.forall_mem_cons.mpr ⟨⟨ml_12_262, S_1681⟩, List.forall_mem_cons.mpr ⟨⟨ml_12_262, S_1674⟩, List.forall_mem_cons.mpr ⟨⟨ml_12_262, S_1667⟩, List.forall_mem_cons.mpr ⟨⟨ml_12_291, S_1155⟩, List.forall_mem_cons.mpr ⟨⟨ml_12_149, S_1518⟩, List.forall_mem_cons.mpr ⟨⟨ml_12_149, S_678⟩, fun _ h => nomatch h⟩⟩⟩⟩⟩⟩⟩⟩⟩⟩⟩⟩⟩⟩⟩⟩⟩⟩⟩⟩⟩⟩) odX12_decade
def ct_1724 : aCt := (mX12_ofBox, [.inr (.inl [196]), .inl [(0, 0, 1)], .inl [(1, 1, 1)]], ([((199, 0), [(2, 4, 1)]), ((199, 4), [(6, 6, 1)]), ((199, 7), [(1, 8, 1)])], []), [(some (.inl [(0, 5, 1)]), [], [], [])], [], [], 0)
set_option maxRecDepth 100000 in
theorem S_1724 : aSpec wd ct_1724 := bChk_ok wx_ok btX12_ofBox (lk := []) (nds := []) (fk := []) (rk := (1, [])) (sp := 0) (fuel := 3000) (by decide +kernel) (fun _ h => nomatch h) odX12_ofBox
def ct_1725 : aCt := (mX12_songLong, [.inr (.inl [196]), .inl [(0, 0, 1)]], ([((199, 0), [(2, 4, 1)]), ((199, 4), [(6, 6, 1)]), ((199, 7), [(1, 8, 1)])], []), [(some (.inl [(2, 6, 1)]), [], [], [])], [], [], 0)
set_option maxRecDepth 100000 in
theorem S_1725 : aSpec wd ct_1725 := bChk_ok wx_ok btX12_songLong (lk := []) (nds := []) (fk := []) (rk := (1, [])) (sp := 0) (fuel := 3000) (by decide +kernel) (fun _ h => nomatch h) odX12_songLong
def ct_1726 : aCt := (mX12_songLong, [.inr (.inl [196]), .inl [(1, 1, 1)]], ([((199, 0), [(2, 4, 1)]), ((199, 4), [(6, 6, 1)]), ((199, 7), [(1, 8, 1)])], []), [(some (.inl [(2, 6, 1)]), [], [], [])], [], [], 0)
set_option maxRecDepth 100000 in
theorem S_1726 : aSpec wd ct_1726 := bChk_ok wx_ok btX12_songLong (lk := []) (nds := []) (fk := []) (rk := (1, [])) (sp := 0) (fuel := 3000) (by decide +kernel) (fun _ h => nomatch h) odX12_songLong
def ct_1727 : aCt := (mX12_songLong, [.inr (.inl [196]), .inl [(2, 2, 1)]], ([((199, 0), [(2, 4, 1)]), ((199, 4), [(6, 6, 1)]), ((199, 7), [(1, 8, 1)])], []), [(some (.inl [(2, 6, 1)]), [], [], [])], [], [], 0)
set_option maxRecDepth 100000 in
theorem S_1727 : aSpec wd ct_1727 := bChk_ok wx_ok btX12_songLong (lk := []) (nds := []) (fk := []) (rk := (1, [])) (sp := 0) (fuel := 3000) (by decide +kernel) (fun _ h => nomatch h) odX12_songLong
def ct_1728 : aCt := (mX12_songLong, [.inr (.inl [196]), .inl [(3, 3, 1)]], ([((199, 0), [(2, 4, 1)]), ((199, 4), [(6, 6, 1)]), ((199, 7), [(1, 8, 1)])], []), [(some (.inl [(2, 6, 1)]), [], [], [])], [], [], 0)
set_option maxRecDepth 100000 in
theorem S_1728 : aSpec wd ct_1728 := bChk_ok wx_ok btX12_songLong (lk := []) (nds := []) (fk := []) (rk := (1, [])) (sp := 0) (fuel := 3000) (by decide +kernel) (fun _ h => nomatch h) odX12_songLong
def ct_1729 : aCt := (mX12_songLong, [.inr (.inl [196]), .inl [(4, 4, 1)]], ([((199, 0), [(2, 4, 1)]), ((199, 4), [(6, 6, 1)]), ((199, 7), [(1, 8, 1)])], []), [(some (.inl [(2, 6, 1)]), [], [], [])], [], [], 0)
set_option maxRecDepth 100000 in
theorem S_1729 : aSpec wd ct_1729 := bChk_ok wx_ok btX12_songLong (lk := []) (nds := []) (fk := []) (rk := (1, [])) (sp := 0) (fuel := 3000) (by decide +kernel) (fun _ h => nomatch h) odX12_songLong
def ct_1730 : aCt := (mX12_songLong, [.inr (.inl [196]), .inl [(5, 5, 1)]], ([((199, 0), [(2, 4, 1)]), ((199, 4), [(6, 6, 1)]), ((199, 7), [(1, 8, 1)])], []), [(some (.inl [(2, 6, 1)]), [], [], [])], [], [], 0)
set_option maxRecDepth 100000 in
theorem S_1730 : aSpec wd ct_1730 := bChk_ok wx_ok btX12_songLong (lk := []) (nds := []) (fk := []) (rk := (1, [])) (sp := 0) (fuel := 3000) (by decide +kernel) (fun _ h => nomatch h) odX12_songLong
def ct_1731 : aCt := (mX12_boxLong, [.inr (.inl [196]), .inl [(0, 0, 1)]], ([((199, 0), [(2, 4, 1)]), ((199, 4), [(6, 6, 1)]), ((199, 7), [(1, 8, 1)])], []), [(some (.inl [(2, 6, 1)]), [], [], [])], [], [], 1)
set_option maxRecDepth 100000 in
theorem S_1731 : aSpec wd ct_1731 := bChk_ok wx_ok btX12_boxLong (lk := [(265, 0, 2, ct_1725), (265, 0, 2, ct_1726), (265, 0, 2, ct_1727), (265, 0, 2, ct_1728), (265, 0, 2, ct_1729), (265, 0, 2, ct_1730), (262, 0, 3, ct_1724)]) (nds := []) (fk := [7]) (rk := (1, [])) (sp := 0) (fuel := 3000) (by decide +kernel) (List.forall_mem_cons.mpr ⟨⟨ml_12_265, S_1725⟩, List.forall_mem_cons.mpr ⟨⟨ml_12_265, S_1726⟩, List.forall_mem_cons.mpr ⟨⟨ml_12_265, S_1727⟩, List.forall_mem_cons.mpr ⟨⟨ml_12_265, S_1728⟩, List.forall_mem_cons.mpr ⟨⟨ml_12_265, S_1729⟩, List.forall_mem_cons.mpr ⟨⟨ml_12_265, S_1730⟩, List.forall_mem_cons.mpr ⟨⟨ml_12_262, S_1724⟩, fun _ h => nomatch h⟩⟩⟩⟩⟩⟩⟩) odX12_boxLong
def ct_1732 : aCt := (mX12_ofBox, [.inr (.inl [196]), .inl [(1, 1, 1)], .inl [(1, 1, 1)]], ([((199, 0), [(2, 4, 1)]), ((199, 4), [(6, 6, 1)]), ((199, 7), [(2, 8, 1)])], []), [(some (.inl [(0, 5, 1)]), [], [], [])], [], [], 0)
set_option maxRecDepth 100000 in
theorem S_1732 : aSpec wd ct_1732 := bChk_ok wx_ok btX12_ofBox (lk := []) (nds := []) (fk := []) (rk := (1, [])) (sp := 0) (fuel := 3000) (by decide +kernel) (fun _ h => nomatch h) odX12_ofBox
def ct_1733 : aCt := (mX12_songLong, [.inr (.inl [196]), .inl [(0, 0, 1)]], ([((199, 0), [(2, 4, 1)]), ((199, 4), [(6, 6, 1)]), ((199, 7), [(2, 8, 1)])], []), [(some (.inl [(2, 6, 1)]), [], [], [])], [], [], 0)
set_option maxRecDepth 100000 in
theorem S_1733 : aSpec wd ct_1733 := bChk_ok wx_ok btX12_songLong (lk := []) (nds := []) (fk := []) (rk := (1, [])) (sp := 0) (fuel := 3000) (by decide +kernel) (fun _ h => nomatch h) odX12_songLong
def ct_1734 : aCt := (mX12_songLong, [.inr (.inl [196]), .inl [(1, 1, 1)]], ([((199, 0), [(2, 4, 1)]), ((199, 4), [(6, 6, 1)]), ((199, 7), [(2, 8, 1)])], []), [(some (.inl [(2, 6, 1)]), [], [], [])], [], [], 0)
set_option maxRecDepth 100000 in
theorem S_1734 : aSpec wd ct_1734 := bChk_ok wx_ok btX12_songLong (lk := []) (nds := []) (fk := []) (rk := (1, [])) (sp := 0) (fuel := 3000) (by decide +kernel) (fun _ h => nomatch h) odX12_songLong
def ct_1735 : aCt := (mX12_songLong, [.inr (.inl [196]), .inl [(2, 2, 1)]], ([((199, 0), [(2, 4, 1)]), ((199, 4), [(6, 6, 1)]), ((199, 7), [(2, 8, 1)])], []), [(some (.inl [(2, 6, 1)]), [], [], [])], [], [], 0)
set_option maxRecDepth 100000 in
theorem S_1735 : aSpec wd ct_1735 := bChk_ok wx_ok btX12_songLong (lk := []) (nds := []) (fk := []) (rk := (1, [])) (sp := 0) (fuel := 3000) (by decide +kernel) (fun _ h => nomatch h) odX12_songLong
def ct_1736 : aCt := (mX12_songLong, [.inr (.inl [196]), .inl [(3, 3, 1)]], ([((199, 0), [(2, 4, 1)]), ((199, 4), [(6, 6, 1)]), ((199, 7), [(2, 8, 1)])], []), [(some (.inl [(2, 6, 1)]), [], [], [])], [], [], 0)
set_option maxRecDepth 100000 in
theorem S_1736 : aSpec wd ct_1736 := bChk_ok wx_ok btX12_songLong (lk := []) (nds := []) (fk := []) (rk := (1, [])) (sp := 0) (fuel := 3000) (by decide +kernel) (fun _ h => nomatch h) odX12_songLong
def ct_1737 : aCt := (mX12_songLong, [.inr (.inl [196]), .inl [(4, 4, 1)]], ([((199, 0), [(2, 4, 1)]), ((199, 4), [(6, 6, 1)]), ((199, 7), [(2, 8, 1)])], []), [(some (.inl [(2, 6, 1)]), [], [], [])], [], [], 0)
set_option maxRecDepth 100000 in
theorem S_1737 : aSpec wd ct_1737 := bChk_ok wx_ok btX12_songLong (lk := []) (nds := []) (fk := []) (rk := (1, [])) (sp := 0) (fuel := 3000) (by decide +kernel) (fun _ h => nomatch h) odX12_songLong
def ct_1738 : aCt := (mX12_songLong, [.inr (.inl [196]), .inl [(5, 5, 1)]], ([((199, 0), [(2, 4, 1)]), ((199, 4), [(6, 6, 1)]), ((199, 7), [(2, 8, 1)])], []), [(some (.inl [(2, 6, 1)]), [], [], [])], [], [], 0)
set_option maxRecDepth 100000 in
theorem S_1738 : aSpec wd ct_1738 := bChk_ok wx_ok btX12_songLong (lk := []) (nds := []) (fk := []) (rk := (1, [])) (sp := 0) (fuel := 3000) (by decide +kernel) (fun _ h => nomatch h) odX12_songLong
def ct_1739 : aCt := (mX12_boxLong, [.inr (.inl [196]), .inl [(1, 1, 1)]], ([((199, 0), [(2, 4, 1)]), ((199, 4), [(6, 6, 1)]), ((199, 7), [(2, 8, 1)])], []), [(some (.inl [(2, 6, 1)]), [], [], [])], [], [], 1)
set_option maxRecDepth 100000 in
theorem S_1739 : aSpec wd ct_1739 := bChk_ok wx_ok btX12_boxLong (lk := [(265, 0, 2, ct_1733), (265, 0, 2, ct_1734), (265, 0, 2, ct_1735), (265, 0, 2, ct_1736), (265, 0, 2, ct_1737), (265, 0, 2, ct_1738), (262, 0, 3, ct_1732)]) (nds := []) (fk := [7]) (rk := (1, [])) (sp := 0) (fuel := 3000) (by decide +kernel) (List.forall_mem_cons.mpr ⟨⟨ml_12_265, S_1733⟩, List.forall_mem_cons.mpr ⟨⟨ml_12_265, S_1734⟩, List.forall_mem_cons.mpr ⟨⟨ml_12_265, S_1735⟩, List.forall_mem_cons.mpr ⟨⟨ml_12_265, S_1736⟩, List.forall_mem_cons.mpr ⟨⟨ml_12_265, S_1737⟩, List.forall_mem_cons.mpr ⟨⟨ml_12_265, S_1738⟩, List.forall_mem_cons.mpr ⟨⟨ml_12_262, S_1732⟩, fun _ h => nomatch h⟩⟩⟩⟩⟩⟩⟩) odX12_boxLong
def ct_1740 : aCt := (mX12_ofBox, [.inr (.inl [196]), .inl [(2, 2, 1)], .inl [(1, 1, 1)]], ([((199, 0), [(2, 4, 1)]), ((199, 4), [(6, 6, 1)]), ((199, 7), [(3, 8, 1)])], []), [(some (.inl [(0, 5, 1)]), [], [], [])], [], [], 0)
set_option maxRecDepth 100000 in
theorem S_1740 : aSpec wd ct_1740 := bChk_ok wx_ok btX12_ofBox (lk := []) (nds := []) (fk := []) (rk := (1, [])) (sp := 0) (fuel := 3000) (by decide +kernel) (fun _ h => nomatch h) odX12_ofBox
def ct_1741 : aCt := (mX12_songLong, [.inr (.inl [196]), .inl [(0, 0, 1)]], ([((199, 0), [(2, 4, 1)]), ((199, 4), [(6, 6, 1)]), ((199, 7), [(3, 8, 1)])], []), [(some (.inl [(2, 6, 1)]), [], [], [])], [], [], 0)
set_option maxRecDepth 100000 in
theorem S_1741 : aSpec wd ct_1741 := bChk_ok wx_ok btX12_songLong (lk := []) (nds := []) (fk := []) (rk := (1, [])) (sp := 0) (fuel := 3000) (by decide +kernel) (fun _ h => nomatch h) odX12_songLong
def ct_1742 : aCt := (mX12_songLong, [.inr (.inl [196]), .inl [(1, 1, 1)]], ([((199, 0), [(2, 4, 1)]), ((199, 4), [(6, 6, 1)]), ((199, 7), [(3, 8, 1)])], []), [(some (.inl [(2, 6, 1)]), [], [], [])], [], [], 0)
set_option maxRecDepth 100000 in
theorem S_1742 : aSpec wd ct_1742 := bChk_ok wx_ok btX12_songLong (lk := []) (nds := []) (fk := []) (rk := (1, [])) (sp := 0) (fuel := 3000) (by decide +kernel) (fun _ h => nomatch h) odX12_songLong
def ct_1743 : aCt := (mX12_songLong, [.inr (.inl [196]), .inl [(2, 2, 1)]], ([((199, 0), [(2, 4, 1)]), ((199, 4), [(6, 6, 1)]), ((199, 7), [(3, 8, 1)])], []), [(some (.inl [(2, 6, 1)]), [], [], [])], [], [], 0)
set_option maxRecDepth 100000 in
theorem S_1743 : aSpec wd ct_1743 := bChk_ok wx_ok btX12_songLong (lk := []) (nds := []) (fk := []) (rk := (1, [])) (sp := 0) (fuel := 3000) (by decide +kernel) (fun _ h => nomatch h) odX12_songLong
def ct_1744 : aCt := (mX12_songLong, [.inr (.inl [196]), .inl [(3, 3, 1)]], ([((199, 0), [(2, 4, 1)]), ((199, 4), [(6, 6, 1)]), ((199, 7), [(3, 8, 1)])], []), [(some (.inl [(2, 6, 1)]), [], [], [])], [], [], 0)
set_option maxRecDepth 100000 in
theorem S_1744 : aSpec wd ct_1744 := bChk_ok wx_ok btX12_songLong (lk := []) (nds := []) (fk := []) (rk := (1, [])) (sp := 0) (fuel := 3000) (by decide +kernel) (fun _ h => nomatch h) odX12_songLong
def ct_1745 : aCt := (mX12_songLong, [.inr (.inl [196]), .inl [(4, 4, 1)]], ([((199, 0), [(2, 4, 1)]), ((199, 4), [(6, 6, 1)]), ((199, 7), [(3, 8, 1)])], []), [(some (.inl [(2, 6, 1)]), [], [], [])], [], [], 0)
set_option maxRecDepth 100000 in
theorem S_1745 : aSpec wd ct_1745 := bChk_ok wx_ok btX12_songLong (lk := []) (nds := []) (fk := []) (rk := (1, [])) (sp := 0) (fuel := 3000) (by decide +kernel) (fun _ h => nomatch h) odX12_songLong
def ct_1746 : aCt := (mX12_songLong, [.inr (.inl [196]), .inl [(5, 5, 1)]], ([((199, 0), [(2, 4, 1)]), ((199, 4), [(6, 6, 1)]), ((199, 7), [(3, 8, 1)])], []), [(some (.inl [(2, 6, 1)]), [], [], [])], [], [], 0)
set_option maxRecDepth 100000 in
theorem S_1746 : aSpec wd ct_1746 := bChk_ok wx_ok btX12_songLong (lk := []) (nds := []) (fk := []) (rk := (1, [])) (sp := 0) (fuel := 3000) (by decide +kernel) (fun _ h => nomatch h) odX12_songLong
def ct_1747 : aCt := (mX12_boxLong, [.inr (.inl [196]), .inl [(2, 2, 1)]], ([((199, 0), [(2, 4, 1)]), ((199, 4), [(6, 6, 1)]), ((199, 7), [(3, 8, 1)])], []), [(some (.inl [(2, 6, 1)]), [], [], [])], [], [], 1)
set_option maxRecDepth 100000 in
theorem S_1747 : aSpec wd ct_1747 := bChk_ok wx_ok btX12_boxLong (lk := [(265, 0, 2, ct_1741), (265, 0, 2, ct_1742), (265, 0, 2, ct_1743), (265, 0, 2, ct_1744), (265, 0, 2, ct_1745), (265, 0, 2, ct_1746), (262, 0, 3, ct_1740)]) (nds := []) (fk := [7]) (rk := (1, [])) (sp := 0) (fuel := 3000) (by decide +kernel) (List.forall_mem_cons.mpr ⟨⟨ml_12_265, S_1741⟩, List.forall_mem_cons.mpr ⟨⟨ml_12_265, S_1742⟩, List.forall_mem_cons.mpr ⟨⟨ml_12_265, S_1743⟩, List.forall_mem_cons.mpr ⟨⟨ml_12_265, S_1744⟩, List.forall_mem_cons.mpr ⟨⟨ml_12_265, S_1745⟩, List.forall_mem_cons.mpr ⟨⟨ml_12_265, S_1746⟩, List.forall_mem_cons.mpr ⟨⟨ml_12_262, S_1740⟩, fun _ h => nomatch h⟩⟩⟩⟩⟩⟩⟩) odX12_boxLong
def ct_1748 : aCt := (mX12_ofBox, [.inr (.inl [196]), .inl [(3, 3, 1)], .inl [(1, 1, 1)]], ([((199, 0), [(2, 4, 1)]), ((199, 4), [(6, 6, 1)]), ((199, 7), [(4, 8, 1)])], []), [(some (.inl [(0, 5, 1)]), [], [], [])], [], [], 0)
set_option maxRecDepth 100000 in
theorem S_1748 : aSpec wd ct_1748 := bChk_ok wx_ok btX12_ofBox (lk := []) (nds := []) (fk := []) (rk := (1, [])) (sp := 0) (fuel := 3000) (by decide +kernel) (fun _ h => nomatch h) odX12_ofBox
def ct_1749 : aCt := (mX12_songLong, [.inr (.inl [196]), .inl [(0, 0, 1)]], ([((199, 0), [(2, 4, 1)]), ((199, 4), [(6, 6, 1)]), ((199, 7), [(4, 8, 1)])], []), [(some (.inl [(2, 6, 1)]), [], [], [])], [], [], 0)
set_option maxRecDepth 100000 in
theorem S_1749 : aSpec wd ct_1749 := bChk_ok wx_ok btX12_songLong (lk := []) (nds := []) (fk := []) (rk := (1, [])) (sp := 0) (fuel := 3000) (by decide +kernel) (fun _ h => nomatch h) odX12_songLong
def ct_1750 : aCt := (mX12_songLong, [.inr (.inl [196]), .inl [(1, 1, 1)]], ([((199, 0), [(2, 4, 1)]), ((199, 4), [(6, 6, 1)]), ((199, 7), [(4, 8, 1)])], []), [(some (.inl [(2, 6, 1)]), [], [], [])], [], [], 0)
set_option maxRecDepth 100000 in
theorem S_1750 : aSpec wd ct_1750 := bChk_ok wx_ok btX12_songLong (lk := []) (nds := []) (fk := []) (rk := (1, [])) (sp := 0) (fuel := 3000) (by decide +kernel) (fun _ h => nomatch h) odX12_songLong
def ct_1751 : aCt := (mX12_songLong, [.inr (.inl [196]), .inl [(2, 2, 1)]], ([((199, 0), [(2, 4, 1)]), ((199, 4), [(6, 6, 1)]), ((199, 7), [(4, 8, 1)])], []), [(some (.inl [(2, 6, 1)]), [], [], [])], [], [], 0)
set_option maxRecDepth 100000 in
theorem S_1751 : aSpec wd ct_1751 := bChk_ok wx_ok btX12_songLong (lk := []) (nds := []) (fk := []) (rk := (1, [])) (sp := 0) (fuel := 3000) (by decide +kernel) (fun _ h => nomatch h) odX12_songLong
def ct_1752 : aCt := (mX12_songLong, [.inr (.inl [196]), .inl [(3, 3, 1)]], ([((199, 0), [(2, 4, 1)]), ((199, 4), [(6, 6, 1)]), ((199, 7), [(4, 8, 1)])], []), [(some (.inl [(2, 6, 1)]), [], [], [])], [], [], 0)
set_option maxRecDepth 100000 in
theorem S_1752 : aSpec wd ct_1752 := bChk_ok wx_ok btX12_songLong (lk := []) (nds := []) (fk := []) (rk := (1, [])) (sp := 0) (fuel := 3000) (by decide +kernel) (fun _ h => nomatch h) odX12_songLong
def ct_1753 : aCt := (mX12_songLong, [.inr (.inl [196]), .inl [(4, 4, 1)]], ([((199, 0), [(2, 4, 1)]), ((199, 4), [(6, 6, 1)]), ((199, 7), [(4, 8, 1)])], []), [(some (.inl [(2, 6, 1)]), [], [], [])], [], [], 0)
set_option maxRecDepth 100000 in
theorem S_1753 : aSpec wd ct_1753 := bChk_ok wx_ok btX12_songLong (lk := []) (nds := []) (fk := []) (rk := (1, [])) (sp := 0) (fuel := 3000) (by decide +kernel) (fun _ h => nomatch h) odX12_songLong
def ct_1754 : aCt := (mX12_songLong, [.inr (.inl [196]), .inl [(5, 5, 1)]], ([((199, 0), [(2, 4, 1)]), ((199, 4), [(6, 6, 1)]), ((199, 7), [(4, 8, 1)])], []), [(some (.inl [(2, 6, 1)]), [], [], [])], [], [], 0)
set_option maxRecDepth 100000 in
theorem S_1754 : aSpec wd ct_1754 := bChk_ok wx_ok btX12_songLong (lk := []) (nds := []) (fk := []) (rk := (1, [])) (sp := 0) (fuel := 3000) (by decide +kernel) (fun _ h => nomatch h) odX12_songLong
def ct_1755 : aCt := (mX12_boxLong, [.inr (.inl [196]), .inl [(3, 3, 1)]], ([((199, 0), [(2, 4, 1)]), ((199, 4), [(6, 6, 1)]), ((199, 7), [(4, 8, 1)])], []), [(some (.inl [(2, 6, 1)]), [], [], [])], [], [], 1)
set_option maxRecDepth 100000 in
theorem S_1755 : aSpec wd ct_1755 := bChk_ok wx_ok btX12_boxLong (lk := [(265, 0, 2, ct_1749), (265, 0, 2, ct_1750), (265, 0, 2, ct_1751), (265, 0, 2, ct_1752), (265, 0, 2, ct_1753), (265, 0, 2, ct_1754), (262, 0, 3, ct_1748)]) (nds := []) (fk := [7]) (rk := (1, [])) (sp := 0) (fuel := 3000) (by decide +kernel) (List.forall_mem_cons.mpr ⟨⟨ml_12_265, S_1749⟩, List.forall_mem_cons.mpr ⟨⟨ml_12_265, S_1750⟩, List.forall_mem_cons.mpr ⟨⟨ml_12_265, S_1751⟩, List.forall_mem_cons.mpr ⟨⟨ml_12_265, S_1752⟩, List.forall_mem_cons.mpr ⟨⟨ml_12_265, S_1753⟩, List.forall_mem_cons.mpr ⟨⟨ml_12_265, S_1754⟩, List.forall_mem_cons.mpr ⟨⟨ml_12_262, S_1748⟩, fun _ h => nomatch h⟩⟩⟩⟩⟩⟩⟩) odX12_boxLong
def ct_1756 : aCt := (mX12_ofBox, [.inr (.inl [196]), .inl [(4, 4, 1)], .inl [(1, 1, 1)]], ([((199, 0), [(2, 4, 1)]), ((199, 4), [(6, 6, 1)]), ((199, 7), [(5, 8, 1)])], []), [(some (.inl [(0, 5, 1)]), [], [], [])], [], [], 0)
set_option maxRecDepth 100000 in
theorem S_1756 : aSpec wd ct_1756 := bChk_ok wx_ok btX12_ofBox (lk := []) (nds := []) (fk := []) (rk := (1, [])) (sp := 0) (fuel := 3000) (by decide +kernel) (fun _ h => nomatch h) odX12_ofBox
def ct_1757 : aCt := (mX12_songLong, [.inr (.inl [196]), .inl [(0, 0, 1)]], ([((199, 0), [(2, 4, 1)]), ((199, 4), [(6, 6, 1)]), ((199, 7), [(5, 8, 1)])], []), [(some (.inl [(2, 6, 1)]), [], [], [])], [], [], 0)
set_option maxRecDepth 100000 in
theorem S_1757 : aSpec wd ct_1757 := bChk_ok wx_ok btX12_songLong (lk := []) (nds := []) (fk := []) (rk := (1, [])) (sp := 0) (fuel := 3000) (by decide +kernel) (fun _ h => nomatch h) odX12_songLong
def ct_1758 : aCt := (mX12_songLong, [.inr (.inl [196]), .inl [(1, 1, 1)]], ([((199, 0), [(2, 4, 1)]), ((199, 4), [(6, 6, 1)]), ((199, 7), [(5, 8, 1)])], []), [(some (.inl [(2, 6, 1)]), [], [], [])], [], [], 0)
set_option maxRecDepth 100000 in
theorem S_1758 : aSpec wd ct_1758 := bChk_ok wx_ok btX12_songLong (lk := []) (nds := []) (fk := []) (rk := (1, [])) (sp := 0) (fuel := 3000) (by decide +kernel) (fun _ h => nomatch h) odX12_songLong
def ct_1759 : aCt := (mX12_songLong, [.inr (.inl [196]), .inl [(2, 2, 1)]], ([((199, 0), [(2, 4, 1)]), ((199, 4), [(6, 6, 1)]), ((199, 7), [(5, 8, 1)])], []), [(some (.inl [(2, 6, 1)]), [], [], [])], [], [], 0)
set_option maxRecDepth 100000 in
theorem S_1759 : aSpec wd ct_1759 := bChk_ok wx_ok btX12_songLong (lk := []) (nds := []) (fk := []) (rk := (1, [])) (sp := 0) (fuel := 3000) (by decide +kernel) (fun _ h => nomatch h) odX12_songLong
def ct_1760 : aCt := (mX12_songLong, [.inr (.inl [196]), .inl [(3, 3, 1)]], ([((199, 0), [(2, 4, 1)]), ((199, 4), [(6, 6, 1)]), ((199, 7), [(5, 8, 1)])], []), [(some (.inl [(2, 6, 1)]), [], [], [])], [], [], 0)
set_option maxRecDepth 100000 in
theorem S_1760 : aSpec wd ct_1760 := bChk_ok wx_ok btX12_songLong (lk := []) (nds := []) (fk := []) (rk := (1, [])) (sp := 0) (fuel := 3000) (by decide +kernel) (fun _ h => nomatch h) odX12_songLong
def ct_1761 : aCt := (mX12_songLong, [.inr (.inl [196]), .inl [(4, 4, 1)]], ([((199, 0), [(2, 4, 1)]), ((199, 4), [(6, 6, 1)]), ((199, 7), [(5, 8, 1)])], []), [(some (.inl [(2, 6, 1)]), [], [], [])], [], [], 0)
set_option maxRecDepth 100000 in
theorem S_1761 : aSpec wd ct_1761 := bChk_ok wx_ok btX12_songLong (lk := []) (nds := []) (fk := []) (rk := (1, [])) (sp := 0) (fuel := 3000) (by decide +kernel) (fun _ h => nomatch h) odX12_songLong
def ct_1762 : aCt := (mX12_songLong, [.inr (.inl [196]), .inl [(5, 5, 1)]], ([((199, 0), [(2, 4, 1)]), ((199, 4), [(6, 6, 1)]), ((199, 7), [(5, 8, 1)])], []), [(some (.inl [(2, 6, 1)]), [], [], [])], [], [], 0)
set_option maxRecDepth 100000 in
theorem S_1762 : aSpec wd ct_1762 := bChk_ok wx_ok btX12_songLong (lk := []) (nds := []) (fk := []) (rk := (1, [])) (sp := 0) (fuel := 3000) (by decide +kernel) (fun _ h => nomatch h) odX12_songLong
def ct_1763 : aCt := (mX12_boxLong, [.inr (.inl [196]), .inl [(4, 4, 1)]], ([((199, 0), [(2, 4, 1)]), ((199, 4), [(6, 6, 1)]), ((199, 7), [(5, 8, 1)])], []), [(some (.inl [(2, 6, 1)]), [], [], [])], [], [], 1)
set_option maxRecDepth 100000 in
theorem S_1763 : aSpec wd ct_1763 := bChk_ok wx_ok btX12_boxLong (lk := [(265, 0, 2, ct_1757), (265, 0, 2, ct_1758), (265, 0, 2, ct_1759), (265, 0, 2, ct_1760), (265, 0, 2, ct_1761), (265, 0, 2, ct_1762), (262, 0, 3, ct_1756)]) (nds := []) (fk := [7]) (rk := (1, [])) (sp := 0) (fuel := 3000) (by decide +kernel) (List.forall_mem_cons.mpr ⟨⟨ml_12_265, S_1757⟩, List.forall_mem_cons.mpr ⟨⟨ml_12_265, S_1758⟩, List.forall_mem_cons.mpr ⟨⟨ml_12_265, S_1759⟩, List.forall_mem_cons.mpr ⟨⟨ml_12_265, S_1760⟩, List.forall_mem_cons.mpr ⟨⟨ml_12_265, S_1761⟩, List.forall_mem_cons.mpr ⟨⟨ml_12_265, S_1762⟩, List.forall_mem_cons.mpr ⟨⟨ml_12_262, S_1756⟩, fun _ h => nomatch h⟩⟩⟩⟩⟩⟩⟩) odX12_boxLong
def ct_1764 : aCt := (mX12_ofBox, [.inr (.inl [196]), .inl [(5, 5, 1)], .inl [(1, 1, 1)]], ([((199, 0), [(2, 4, 1)]), ((199, 4), [(6, 6, 1)]), ((199, 7), [(6, 8, 1)])], []), [(some (.inl [(0, 5, 1)]), [], [], [])], [], [], 0)
set_option maxRecDepth 100000 in
theorem S_1764 : aSpec wd ct_1764 := bChk_ok wx_ok btX12_ofBox (lk := []) (nds := []) (fk := []) (rk := (1, [])) (sp := 0) (fuel := 3000) (by decide +kernel) (fun _ h => nomatch h) odX12_ofBox
def ct_1765 : aCt := (mX12_songLong, [.inr (.inl [196]), .inl [(0, 0, 1)]], ([((199, 0), [(2, 4, 1)]), ((199, 4), [(6, 6, 1)]), ((199, 7), [(6, 8, 1)])], []), [(some (.inl [(2, 6, 1)]), [], [], [])], [], [], 0)
set_option maxRecDepth 100000 in
theorem S_1765 : aSpec wd ct_1765 := bChk_ok wx_ok btX12_songLong (lk := []) (nds := []) (fk := []) (rk := (1, [])) (sp := 0) (fuel := 3000) (by decide +kernel) (fun _ h => nomatch h) odX12_songLong
def ct_1766 : aCt := (mX12_songLong, [.inr (.inl [196]), .inl [(1, 1, 1)]], ([((199, 0), [(2, 4, 1)]), ((199, 4), [(6, 6, 1)]), ((199, 7), [(6, 8, 1)])], []), [(some (.inl [(2, 6, 1)]), [], [], [])], [], [], 0)
set_option maxRecDepth 100000 in
theorem S_1766 : aSpec wd ct_1766 := bChk_ok wx_ok btX12_songLong (lk := []) (nds := []) (fk := []) (rk := (1, [])) (sp := 0) (fuel := 3000) (by decide +kernel) (fun _ h => nomatch h) odX12_songLong
def ct_1767 : aCt := (mX12_songLong, [.inr (.inl [196]), .inl [(2, 2, 1)]], ([((199, 0), [(2, 4, 1)]), ((199, 4), [(6, 6, 1)]), ((199, 7), [(6, 8, 1)])], []), [(some (.inl [(2, 6, 1)]), [], [], [])], [], [], 0)
set_option maxRecDepth 100000 in
theorem S_1767 : aSpec wd ct_1767 := bChk_ok wx_ok btX12_songLong (lk := []) (nds := []) (fk := []) (rk := (1, [])) (sp := 0) (fuel := 3000) (by decide +kernel) (fun _ h => nomatch h) odX12_songLong
def ct_1768 : aCt := (mX12_songLong, [.inr (.inl [196]), .inl [(3, 3, 1)]], ([((199, 0), [(2, 4, 1)]), ((199, 4), [(6, 6, 1)]), ((199, 7), [(6, 8, 1)])], []), [(some (.inl [(2, 6, 1)]), [], [], [])], [], [], 0)
set_option maxRecDepth 100000 in
theorem S_1768 : aSpec wd ct_1768 := bChk_ok wx_ok btX12_songLong (lk := []) (nds := []) (fk := []) (rk := (1, [])) (sp := 0) (fuel := 3000) (by decide +kernel) (fun _ h => nomatch h) odX12_songLong
def ct_1769 : aCt := (mX12_songLong, [.inr (.inl [196]), .inl [(4, 4, 1)]], ([((199, 0), [(2, 4, 1)]), ((199, 4), [(6, 6, 1)]), ((199, 7), [(6, 8, 1)])], []), [(some (.inl [(2, 6, 1)]), [], [], [])], [], [], 0)
set_option maxRecDepth 100000 in
theorem S_1769 : aSpec wd ct_1769 := bChk_ok wx_ok btX12_songLong (lk := []) (nds := []) (fk := []) (rk := (1, [])) (sp := 0) (fuel := 3000) (by decide +kernel) (fun _ h => nomatch h) odX12_songLong
def ct_1770 : aCt := (mX12_songLong, [.inr (.inl [196]), .inl [(5, 5, 1)]], ([((199, 0), [(2, 4, 1)]), ((199, 4), [(6, 6, 1)]), ((199, 7), [(6, 8, 1)])], []), [(some (.inl [(2, 6, 1)]), [], [], [])], [], [], 0)
set_option maxRecDepth 100000 in
theorem S_1770 : aSpec wd ct_1770 := bChk_ok wx_ok btX12_songLong (lk := []) (nds := []) (fk := []) (rk := (1, [])) (sp := 0) (fuel := 3000) (by decide +kernel) (fun _ h => nomatch h) odX12_songLong
def ct_1771 : aCt := (mX12_boxLong, [.inr (.inl [196]), .inl [(5, 5, 1)]], ([((199, 0), [(2, 4, 1)]), ((199, 4), [(6, 6, 1)]), ((199, 7), [(6, 8, 1)])], []), [(some (.inl [(2, 6, 1)]), [], [], [])], [], [], 1)
set_option maxRecDepth 100000 in
theorem S_1771 : aSpec wd ct_1771 := bChk_ok wx_ok btX12_boxLong (lk := [(265, 0, 2, ct_1765), (265, 0, 2, ct_1766), (265, 0, 2, ct_1767), (265, 0, 2, ct_1768), (265, 0, 2, ct_1769), (265, 0, 2, ct_1770), (262, 0, 3, ct_1764)]) (nds := []) (fk := [7]) (rk := (1, [])) (sp := 0) (fuel := 3000) (by decide +kernel) (List.forall_mem_cons.mpr ⟨⟨ml_12_265, S_1765⟩, List.forall_mem_cons.mpr ⟨⟨ml_12_265, S_1766⟩, List.forall_mem_cons.mpr ⟨⟨ml_12_265, S_1767⟩, List.forall_mem_cons.mpr ⟨⟨ml_12_265, S_1768⟩, List.forall_mem_cons.mpr ⟨⟨ml_12_265, S_1769⟩, List.forall_mem_cons.mpr ⟨⟨ml_12_265, S_1770⟩, List.forall_mem_cons.mpr ⟨⟨ml_12_262, S_1764⟩, fun _ h => nomatch h⟩⟩⟩⟩⟩⟩⟩) odX12_boxLong
def ct_1772 : aCt := (mX12_ofBox, [.inr (.inl [196]), .inl [(6, 6, 1)], .inl [(1, 1, 1)]], ([((199, 0), [(2, 4, 1)]), ((199, 4), [(6, 6, 1)]), ((199, 7), [(7, 8, 1)])], []), [(some (.inl [(0, 5, 1)]), [], [], [])], [], [], 0)
set_option maxRecDepth 100000 in
theorem S_1772 : aSpec wd ct_1772 := bChk_ok wx_ok btX12_ofBox (lk := []) (nds := []) (fk := []) (rk := (1, [])) (sp := 0) (fuel := 3000) (by decide +kernel) (fun _ h => nomatch h) odX12_ofBox
def ct_1773 : aCt := (mX12_songLong, [.inr (.inl [196]), .inl [(0, 0, 1)]], ([((199, 0), [(2, 4, 1)]), ((199, 4), [(6, 6, 1)]), ((199, 7), [(7, 8, 1)])], []), [(some (.inl [(2, 6, 1)]), [], [], [])], [], [], 0)
set_option maxRecDepth 100000 in
theorem S_1773 : aSpec wd ct_1773 := bChk_ok wx_ok btX12_songLong (lk := []) (nds := []) (fk := []) (rk := (1, [])) (sp := 0) (fuel := 3000) (by decide +kernel) (fun _ h => nomatch h) odX12_songLong
def ct_1774 : aCt := (mX12_songLong, [.inr (.inl [196]), .inl [(1, 1, 1)]], ([((199, 0), [(2, 4, 1)]), ((199, 4), [(6, 6, 1)]), ((199, 7), [(7, 8, 1)])], []), [(some (.inl [(2, 6, 1)]), [], [], [])], [], [], 0)
set_option maxRecDepth 100000 in
theorem S_1774 : aSpec wd ct_1774 := bChk_ok wx_ok btX12_songLong (lk := []) (nds := []) (fk := []) (rk := (1, [])) (sp := 0) (fuel := 3000) (by decide +kernel) (fun _ h => nomatch h) odX12_songLong
def ct_1775 : aCt := (mX12_songLong, [.inr (.inl [196]), .inl [(2, 2, 1)]], ([((199, 0), [(2, 4, 1)]), ((199, 4), [(6, 6, 1)]), ((199, 7), [(7, 8, 1)])], []), [(some (.inl [(2, 6, 1)]), [], [], [])], [], [], 0)
set_option maxRecDepth 100000 in
theorem S_1775 : aSpec wd ct_1775 := bChk_ok wx_ok btX12_songLong (lk := []) (nds := []) (fk := []) (rk := (1, [])) (sp := 0) (fuel := 3000) (by decide +kernel) (fun _ h => nomatch h) odX12_songLong
def ct_1776 : aCt := (mX12_songLong, [.inr (.inl [196]), .inl [(3, 3, 1)]], ([((199, 0), [(2, 4, 1)]), ((199, 4), [(6, 6, 1)]), ((199, 7), [(7, 8, 1)])], []), [(some (.inl [(2, 6, 1)]), [], [], [])], [], [], 0)
set_option maxRecDepth 100000 in
theorem S_1776 : aSpec wd ct_1776 := bChk_ok wx_ok btX12_songLong (lk := []) (nds := []) (fk := []) (rk := (1, [])) (sp := 0) (fuel := 3000) (by decide +kernel) (fun _ h => nomatch h) odX12_songLong
def ct_1777 : aCt := (mX12_songLong, [.inr (.inl [196]), .inl [(4, 4, 1)]], ([((199, 0), [(2, 4, 1)]), ((199, 4), [(6, 6, 1)]), ((199, 7), [(7, 8, 1)])], []), [(some (.inl [(2, 6, 1)]), [], [], [])], [], [], 0)
set_option maxRecDepth 100000 in
theorem S_1777 : aSpec wd ct_1777 := bChk_ok wx_ok btX12_songLong (lk := []) (nds := []) (fk := []) (rk := (1, [])) (sp := 0) (fuel := 3000) (by decide +kernel) (fun _ h => nomatch h) odX12_songLong
def ct_1778 : aCt := (mX12_songLong, [.inr (.inl [196]), .inl [(5, 5, 1)]], ([((199, 0), [(2, 4, 1)]), ((199, 4), [(6, 6, 1)]), ((199, 7), [(7, 8, 1)])], []), [(some (.inl [(2, 6, 1)]), [], [], [])], [], [], 0)
set_option maxRecDepth 100000 in
theorem S_1778 : aSpec wd ct_1778 := bChk_ok wx_ok btX12_songLong (lk := []) (nds := []) (fk := []) (rk := (1, [])) (sp := 0) (fuel := 3000) (by decide +kernel) (fun _ h => nomatch h) odX12_songLong
def ct_1779 : aCt := (mX12_boxLong, [.inr (.inl [196]), .inl [(6, 6, 1)]], ([((199, 0), [(2, 4, 1)]), ((199, 4), [(6, 6, 1)]), ((199, 7), [(7, 8, 1)])], []), [(some (.inl [(2, 6, 1)]), [], [], [])], [], [], 1)
set_option maxRecDepth 100000 in
theorem S_1779 : aSpec wd ct_1779 := bChk_ok wx_ok btX12_boxLong (lk := [(265, 0, 2, ct_1773), (265, 0, 2, ct_1774), (265, 0, 2, ct_1775), (265, 0, 2, ct_1776), (265, 0, 2, ct_1777), (265, 0, 2, ct_1778), (262, 0, 3, ct_1772)]) (nds := []) (fk := [7]) (rk := (1, [])) (sp := 0) (fuel := 3000) (by decide +kernel) (List.forall_mem_cons.mpr ⟨⟨ml_12_265, S_1773⟩, List.forall_mem_cons.mpr ⟨⟨ml_12_265, S_1774⟩, List.forall_mem_cons.mpr ⟨⟨ml_12_265, S_1775⟩, List.forall_mem_cons.mpr ⟨⟨ml_12_265, S_1776⟩, List.forall_mem_cons.mpr ⟨⟨ml_12_265, S_1777⟩, List.forall_mem_cons.mpr ⟨⟨ml_12_265, S_1778⟩, List.forall_mem_cons.mpr ⟨⟨ml_12_262, S_1772⟩, fun _ h => nomatch h⟩⟩⟩⟩⟩⟩⟩) odX12_boxLong
def ct_1780 : aCt := (mX12_ofBox, [.inr (.inl [196]), .inl [(7, 7, 1)], .inl [(1, 1, 1)]], ([((199, 0), [(2, 4, 1)]), ((199, 4), [(6, 6, 1)]), ((199, 7), [(8, 8, 1)])], []), [(some (.inl [(0, 5, 1)]), [], [], [])], [], [], 0)
set_option maxRecDepth 100000 in
theorem S_1780 : aSpec wd ct_1780 := bChk_ok wx_ok btX12_ofBox (lk := []) (nds := []) (fk := []) (rk := (1, [])) (sp := 0) (fuel := 3000) (by decide +kernel) (fun _ h => nomatch h) odX12_ofBox
def ct_1781 : aCt := (mX12_songLong, [.inr (.inl [196]), .inl [(0, 0, 1)]], ([((199, 0), [(2, 4, 1)]), ((199, 4), [(6, 6, 1)]), ((199, 7), [(8, 8, 1)])], []), [(some (.inl [(2, 6, 1)]), [], [], [])], [], [], 0)
set_option maxRecDepth 100000 in
theorem S_1781 : aSpec wd ct_1781 := bChk_ok wx_ok btX12_songLong (lk := []) (nds := []) (fk := []) (rk := (1, [])) (sp := 0) (fuel := 3000) (by decide +kernel) (fun _ h => nomatch h) odX12_songLong
def ct_1782 : aCt := (mX12_songLong, [.inr (.inl [196]), .inl [(1, 1, 1)]], ([((199, 0), [(2, 4, 1)]), ((199, 4), [(6, 6, 1)]), ((199, 7), [(8, 8, 1)])], []), [(some (.inl [(2, 6, 1)]), [], [], [])], [], [], 0)
set_option maxRecDepth 100000 in
theorem S_1782 : aSpec wd ct_1782 := bChk_ok wx_ok btX12_songLong (lk := []) (nds := []) (fk := []) (rk := (1, [])) (sp := 0) (fuel := 3000) (by decide +kernel) (fun _ h => nomatch h) odX12_songLong
def ct_1783 : aCt := (mX12_songLong, [.inr (.inl [196]), .inl [(2, 2, 1)]], ([((199, 0), [(2, 4, 1)]), ((199, 4), [(6, 6, 1)]), ((199, 7), [(8, 8, 1)])], []), [(some (.inl [(2, 6, 1)]), [], [], [])], [], [], 0)
set_option maxRecDepth 100000 in
theorem S_1783 : aSpec wd ct_1783 := bChk_ok wx_ok btX12_songLong (lk := []) (nds := []) (fk := []) (rk := (1, [])) (sp := 0) (fuel := 3000) (by decide +kernel) (fun _ h => nomatch h) odX12_songLong
def ct_1784 : aCt := (mX12_songLong, [.inr (.inl [196]), .inl [(3, 3, 1)]], ([((199, 0), [(2, 4, 1)]), ((199, 4), [(6, 6, 1)]), ((199, 7), [(8, 8, 1)])], []), [(some (.inl [(2, 6, 1)]), [], [], [])], [], [], 0)
set_option maxRecDepth 100000 in
theorem S_1784 : aSpec wd ct_1784 := bChk_ok wx_ok btX12_songLong (lk := []) (nds := []) (fk := []) (rk := (1, [])) (sp := 0) (fuel := 3000) (by decide +kernel) (fun _ h => nomatch h) odX12_songLong
def ct_1785 : aCt := (mX12_songLong, [.inr (.inl [196]), .inl [(4, 4, 1)]], ([((199, 0), [(2, 4, 1)]), ((199, 4), [(6, 6, 1)]), ((199, 7), [(8, 8, 1)])], []), [(some (.inl [(2, 6, 1)]), [], [], [])], [], [], 0)
set_option maxRecDepth 100000 in
theorem S_1785 : aSpec wd ct_1785 := bChk_ok wx_ok btX12_songLong (lk := []) (nds := []) (fk := []) (rk := (1, [])) (sp := 0) (fuel := 3000) (by decide +kernel) (fun _ h => nomatch h) odX12_songLong
def ct_1786 : aCt := (mX12_songLong, [.inr (.inl [196]), .inl [(5, 5, 1)]], ([((199, 0), [(2, 4, 1)]), ((199, 4), [(6, 6, 1)]), ((199, 7), [(8, 8, 1)])], []), [(some (.inl [(2, 6, 1)]), [], [], [])], [], [], 0)
set_option maxRecDepth 100000 in
theorem S_1786 : aSpec wd ct_1786 := bChk_ok wx_ok btX12_songLong (lk := []) (nds := []) (fk := []) (rk := (1, [])) (sp := 0) (fuel := 3000) (by decide +kernel) (fun _ h => nomatch h) odX12_songLong
def ct_1787 : aCt := (mX12_boxLong, [.inr (.inl [196]), .inl [(7, 7, 1)]], ([((199, 0), [(2, 4, 1)]), ((199, 4), [(6, 6, 1)]), ((199, 7), [(8, 8, 1)])], []), [(some (.inl [(2, 6, 1)]), [], [], [])], [], [], 1)
set_option maxRecDepth 100000 in
theorem S_1787 : aSpec wd ct_1787 := bChk_ok wx_ok btX12_boxLong (lk := [(265, 0, 2, ct_1781), (265, 0, 2, ct_1782), (265, 0, 2, ct_1783), (265, 0, 2, ct_1784), (265, 0, 2, ct_1785), (265, 0, 2, ct_1786), (262, 0, 3, ct_1780)]) (nds := []) (fk := [7]) (rk := (1, [])) (sp := 0) (fuel := 3000) (by decide +kernel) (List.forall_mem_cons.mpr ⟨⟨ml_12_265, S_1781⟩, List.forall_mem_cons.mpr ⟨⟨ml_12_265, S_1782⟩, List.forall_mem_cons.mpr ⟨⟨ml_12_265, S_1783⟩, List.forall_mem_cons.mpr ⟨⟨ml_12_265, S_1784⟩, List.forall_mem_cons.mpr ⟨⟨ml_12_265, S_1785⟩, List.forall_mem_cons.mpr ⟨⟨ml_12_265, S_1786⟩, List.forall_mem_cons.mpr ⟨⟨ml_12_262, S_1780⟩, fun _ h => nomatch h⟩⟩⟩⟩⟩⟩⟩) odX12_boxLong
def sl_377 : (Nat × Nat) × aI := ((199, 4), [(6, 6, 1)])
def ct_1788 : aCt := (mX12_decade, [.inr (.inl [196]), .inl aTop, .inl aTop], ([((199, 4), [(6, 6, 1)])], []), [(some (.inl aTop), [], [((196, 11), [(0, 0, 1)]), ((196, 14), [(1, 1, 1)]), ((199, 0), [(2, 4, 1)])], []), (some (.inl [(-1, -1, 1)]), [], [((196, 11), [(1, 2, 1)])], [])], [(196, 0, 1), (196, 11, 12)], [], 4)
set_option maxRecDepth 100000 in
theorem S_1788 : aSpec wd ct_1788 := bChk_ok wx_ok btX12_decade (lk := [(167, 0, 1, ct_651), (284, 0, 2, ct_1787), (284, 0, 2, ct_1779), (284, 0, 2, ct_1771), (284, 0, 2, ct_1763), (284, 0, 2, ct_1755), (284, 0, 2, ct_1747), (284, 0, 2, ct_1739), (284, 0, 2, ct_1731), (170, 0, 2, ct_1112), (170, 0, 2, ct_653), (262, 0, 3, ct_1780), (262, 0, 3, ct_1772), (262, 0, 3, ct_1764), (262, 0, 3, ct_1756), (262, 0, 3, ct_1748), (262, 0, 3, ct_1740), (262, 0, 3, ct_1732), (262, 0, 3, ct_1724), (291, 0, 5, ct_1155), (149, 1, 3, ct_1518), (149, 1, 3, ct_678)]) (nds := [(52, [(0, .inr (.inl [196])), (1, .inl [(0, 65536, 1)]), (2, .inl [(0, 50, 1)]), (3, .inl [(0, 65536, 1)]), (4, .inl aTop), (5, .inl [(0, 75, 1)])], [], [sl_325, sl_337, sl_326, sl_377], [], (759, [(4, -10)])), (61, [(0, .inr (.inl [196])), (1, .inl [(0, 65536, 1)]), (2, .inl [(1, 50, 1)]), (3, .inl [(0, 65536, 1)]), (4, .inl aTop), (5, .inl [(0, 63, 1)]), (6, .inl [(0, 0, 1)])], [], [sl_325, sl_337, sl_326, sl_377], [], (758, [(4, -10)])), (61, [(0, .inr (.inl [196])), (1, .inl [(0, 65536, 1)]), (2, .inl [(1, 50, 1)]), (3, .inl [(0, 65536, 1)]), (4, .inl aTop), (5, .inl [(0, 63, 1)]), (6, .inl [(1, 1, 1)]), (7, .inl [(-1, 5, 1)]), (8, .inl [(0, 3, 1)])], [], [sl_325, sl_337, sl_326, sl_377, sl_345], [], (757, [(4, -10)])), (61, [(0, .inr (.inl [196])), (1, .inl [(0, 65536, 1)]), (2, .inl [(1, 50, 1)]), (3, .inl [(0, 65536, 1)]), (4, .inl aTop), (5, .inl [(0, 63, 1)]), (6, .inl [(2, 2, 1)]), (7, .inl [(-1, 5, 1)]), (8, .inl [(0, 3, 1)])], [], [sl_325, sl_337, sl_326, sl_377, sl_364], [], (756, [(4, -10)])), (61, [(0, .inr (.inl [196])), (1, .inl [(0, 65536, 1)]), (2, .inl [(1, 50, 1)]), (3, .inl [(0, 65536, 1)]), (4, .inl aTop), (5, .inl [(0, 63, 1)]), (6, .inl [(3, 3, 1)]), (7, .inl [(-1, 5, 1)]), (8, .inl [(0, 3, 1)])], [], [sl_325, sl_337, sl_326, sl_377, sl_363], [], (755, [(4, -10)])), (61, [(0, .inr (.inl [196])), (1, .inl [(0, 65536, 1)]), (2, .inl [(1, 50, 1)]), (3, .inl [(0, 65536, 1)]), (4, .inl aTop), (5, .inl [(0, 63, 1)]), (6, .inl [(4, 4, 1)]), (7, .inl [(-1, 5, 1)]), (8, .inl [(0, 3, 1)])], [], [sl_325, sl_337, sl_326, sl_377, sl_362], [], (754, [(4, -10)])), (61, [(0, .inr (.inl [196])), (1, .inl [(0, 65536, 1)]), (2, .inl [(1, 50, 1)]), (3, .inl [(0, 65536, 1)]), (4, .inl aTop), (5, .inl [(0, 63, 1)]), (6, .inl [(5, 5, 1)]), (7, .inl [(-1, 5, 1)]), (8, .inl [(0, 3, 1)])], [], [sl_325, sl_337, sl_326, sl_377, sl_361], [], (753, [(4, -10)])), (61, [(0, .inr (.inl [196])), (1, .inl [(0, 65536, 1)]), (2, .inl [(1, 50, 1)]), (3, .inl [(0, 65536, 1)]), (4, .inl aTop), (5, .inl [(0, 63, 1)]), (6, .inl [(6, 6, 1)]), (7, .inl [(-1, 5, 1)]), (8, .inl [(0, 3, 1)])], [], [sl_325, sl_337, sl_326, sl_377, sl_360], [], (752, [(4, -10)])), (61, [(0, .inr (.inl [196])), (1, .inl [(0, 65536, 1)]), (2, .inl [(1, 50, 1)]), (3, .inl [(0, 65536, 1)]), (4, .inl aTop), (5, .inl [(0, 63, 1)]), (6, .inl [(7, 7, 1)]), (7, .inl [(-1, 5, 1)]), (8, .inl [(0, 3, 1)])], [], [sl_325, sl_337, sl_326, sl_377, sl_359], [], (751, [(4, -10)])), (61, [(0, .inr (.inl [196])), (1, .inl [(0, 65536, 1)]), (2, .inl [(1, 50, 1)]), (3, .inl [(0, 65536, 1)]), (4, .inl aTop), (5, .inl [(0, 63, 1)]), (6, .inl [(8, 8, 1)]), (7, .inl [(-1, 5, 1)]), (8, .inl [(0, 3, 1)])], [], [sl_325, sl_337, sl_326, sl_377, sl_358], [], (750, [(4, -10)]))]) (fk := []) (rk := (760, [])) (sp := 2310346608841064448) (fuel := 3000) (by decide +kernel) (List.forall_mem_cons.mpr ⟨⟨ml_12_167, S_651⟩, List.forall_mem_cons.mpr ⟨⟨ml_12_284, S_1787⟩, List.forall_mem_cons.mpr ⟨⟨ml_12_284, S_1779⟩, List.forall_mem_cons.mpr ⟨⟨ml_12_284, S_1771⟩, List.forall_mem_cons.mpr ⟨⟨ml_12_284, S_1763⟩, List.forall_mem_cons.mpr ⟨⟨ml_12_284, S_1755⟩, List.forall_mem_cons.mpr ⟨⟨ml_12_284, S_1747⟩, List.forall_mem_cons.mpr ⟨⟨ml_12_284, S_1739⟩, List.forall_mem_cons.mpr ⟨⟨ml_12_284, S_1731⟩, List.forall_mem_cons.mpr ⟨⟨ml_12_170, S_1112⟩, List.forall_mem_cons.mpr ⟨⟨ml_12_170, S_653⟩, List.forall_mem_cons.mpr ⟨⟨ml_12_262, S_1780⟩, List.forall_mem_cons.mpr ⟨⟨ml_12_262, S_1772⟩, List.forall_mem_cons.mpr ⟨⟨ml_12_262, S_1764⟩, List.forall_mem_cons.mpr ⟨⟨ml_12_262, S_1756⟩, List.forall_mem_cons.mpr ⟨⟨ml_12_262, S_1748⟩, List.forall_mem_cons.mpr ⟨⟨ml_12_262, S_1740⟩, List.forall_mem_cons.mpr ⟨⟨ml_12_262, S_1732⟩, List.forall_mem_cons.mpr ⟨⟨ml_12_262, S_1724⟩, List.forall_mem_cons.mpr ⟨⟨ml_12_291, S_1155⟩, List.forall_mem_cons.mpr ⟨⟨ml_12_149, S_1518⟩, List.forall_mem_cons.mpr ⟨⟨ml_12_149, S_678⟩, fun _ h => nomatch h⟩⟩⟩⟩⟩⟩⟩⟩⟩⟩⟩⟩⟩⟩⟩⟩⟩⟩⟩⟩⟩⟩) odX12_decade
def ct_1789 : aCt := (mX12_ofBox, [.inr (.inl [196]), .inl [(0, 0, 1)], .inl [(1, 1, 1)]], ([((199, 0), [(2, 4, 1)]), ((199, 4), [(7, 7, 1)]), ((199, 7), [(1, 8, 1)])], []), [(some (.inl [(0, 6, 1)]), [], [], [])], [], [], 0)
set_option maxRecDepth 100000 in
theorem S_1789 : aSpec wd ct_1789 := bChk_ok wx_ok btX12_ofBox (lk := []) (nds := []) (fk := []) (rk := (1, [])) (sp := 0) (fuel := 3000) (by decide +kernel) (fun _ h => nomatch h) odX12_ofBox
def ct_1790 : aCt := (mX12_songLong, [.inr (.inl [196]), .inl [(0, 0, 1)]], ([((199, 0), [(2, 4, 1)]), ((199, 4), [(7, 7, 1)]), ((199, 7), [(1, 8, 1)])], []), [(some (.inl [(2, 6, 1)]), [], [], [])], [], [], 0)
set_option maxRecDepth 100000 in
theorem S_1790 : aSpec wd ct_1790 := bChk_ok wx_ok btX12_songLong (lk := []) (nds := []) (fk := []) (rk := (1, [])) (sp := 0) (fuel := 3000) (by decide +kernel) (fun _ h => nomatch h) odX12_songLong
def ct_1791 : aCt := (mX12_songLong, [.inr (.inl [196]), .inl [(1, 1, 1)]], ([((199, 0), [(2, 4, 1)]), ((199, 4), [(7, 7, 1)]), ((199, 7), [(1, 8, 1)])], []), [(some (.inl [(2, 6, 1)]), [], [], [])], [], [], 0)
set_option maxRecDepth 100000 in
theorem S_1791 : aSpec wd ct_1791 := bChk_ok wx_ok btX12_songLong (lk := []) (nds := []) (fk := []) (rk := (1, [])) (sp := 0) (fuel := 3000) (by decide +kernel) (fun _ h => nomatch h) odX12_songLong
def ct_1792 : aCt := (mX12_songLong, [.inr (.inl [196]), .inl [(2, 2, 1)]], ([((199, 0), [(2, 4, 1)]), ((199, 4), [(7, 7, 1)]), ((199, 7), [(1, 8, 1)])], []), [(some (.inl [(2, 6, 1)]), [], [], [])], [], [], 0)
set_option maxRecDepth 100000 in
theorem S_1792 : aSpec wd ct_1792 := bChk_ok wx_ok btX12_songLong (lk := []) (nds := []) (fk := []) (rk := (1, [])) (sp := 0) (fuel := 3000) (by decide +kernel) (fun _ h => nomatch h) odX12_songLong
def ct_1793 : aCt := (mX12_songLong, [.inr (.inl [196]), .inl [(3, 3, 1)]], ([((199, 0), [(2, 4, 1)]), ((199, 4), [(7, 7, 1)]), ((199, 7), [(1, 8, 1)])], []), [(some (.inl [(2, 6, 1)]), [], [], [])], [], [], 0)
set_option maxRecDepth 100000 in
theorem S_1793 : aSpec wd ct_1793 := bChk_ok wx_ok btX12_songLong (lk := []) (nds := []) (fk := []) (rk := (1, [])) (sp := 0) (fuel := 3000) (by decide +kernel) (fun _ h => nomatch h) odX12_songLong
def ct_1794 : aCt := (mX12_songLong, [.inr (.inl [196]), .inl [(4, 4, 1)]], ([((199, 0), [(2, 4, 1)]), ((199, 4), [(7, 7, 1)]), ((199, 7), [(1, 8, 1)])], []), [(some (.inl [(2, 6, 1)]), [], [], [])], [], [], 0)
set_option maxRecDepth 100000 in
theorem S_1794 : aSpec wd ct_1794 := bChk_ok wx_ok btX12_songLong (lk := []) (nds := []) (fk := []) (rk := (1, [])) (sp := 0) (fuel := 3000) (by decide +kernel) (fun _ h => nomatch h) odX12_songLong
def ct_1795 : aCt := (mX12_songLong, [.inr (.inl [196]), .inl [(5, 5, 1)]], ([((199, 0), [(2, 4, 1)]), ((199, 4), [(7, 7, 1)]), ((199, 7), [(1, 8, 1)])], []), [(some (.inl [(2, 6, 1)]), [], [], [])], [], [], 0)
set_option maxRecDepth 100000 in
theorem S_1795 : aSpec wd ct_1795 := bChk_ok wx_ok btX12_songLong (lk := []) (nds := []) (fk := []) (rk := (1, [])) (sp := 0) (fuel := 3000) (by decide +kernel) (fun _ h => nomatch h) odX12_songLong
def ct_1796 : aCt := (mX12_songLong, [.inr (.inl [196]), .inl [(6, 6, 1)]], ([((199, 0), [(2, 4, 1)]), ((199, 4), [(7, 7, 1)]), ((199, 7), [(1, 8, 1)])], []), [(some (.inl [(2, 6, 1)]), [], [], [])], [], [], 0)
set_option maxRecDepth 100000 in
theorem S_1796 : aSpec wd ct_1796 := bChk_ok wx_ok btX12_songLong (lk := []) (nds := []) (fk := []) (rk := (1, [])) (sp := 0) (fuel := 3000) (by decide +kernel) (fun _ h => nomatch h) odX12_songLong
def ct_1797 : aCt := (mX12_boxLong, [.inr (.inl [196]), .inl [(0, 0, 1)]], ([((199, 0), [(2, 4, 1)]), ((199, 4), [(7, 7, 1)]), ((199, 7), [(1, 8, 1)])], []), [(some (.inl [(2, 6, 1)]), [], [], [])], [], [], 1)
set_option maxRecDepth 100000 in
theorem S_1797 : aSpec wd ct_1797 := bChk_ok wx_ok btX12_boxLong (lk := [(265, 0, 2, ct_1790), (265, 0, 2, ct_1791), (265, 0, 2, ct_1792), (265, 0, 2, ct_1793), (265, 0, 2, ct_1794), (265, 0, 2, ct_1795), (265, 0, 2, ct_1796), (262, 0, 3, ct_1789)]) (nds := []) (fk := [7]) (rk := (1, [])) (sp := 0) (fuel := 3000) (by decide +kernel) (List.forall_mem_cons.mpr ⟨⟨ml_12_265, S_1790⟩, List.forall_mem_cons.mpr ⟨⟨ml_12_265, S_1791⟩, List.forall_mem_cons.mpr ⟨⟨ml_12_265, S_1792⟩, List.forall_mem_cons.mpr ⟨⟨ml_12_265, S_1793⟩, List.forall_mem_cons.mpr ⟨⟨ml_12_265, S_1794⟩, List.forall_mem_cons.mpr ⟨⟨ml_12_265, S_1795⟩, List.forall_mem_cons.mpr ⟨⟨ml_12_265, S_1796⟩, List.forall_mem_cons.mpr ⟨⟨ml_12_262, S_1789⟩, fun _ h => nomatch h⟩⟩⟩⟩⟩⟩⟩⟩) odX12_boxLong
def ct_1798 : aCt := (mX12_ofBox, [.inr (.inl [196]), .inl [(1, 1, 1)], .inl [(1, 1, 1)]], ([((199, 0), [(2, 4, 1)]), ((199, 4), [(7, 7, 1)]), ((199, 7), [(2, 8, 1)])], []), [(some (.inl [(0, 6, 1)]), [], [], [])], [], [], 0)
set_option maxRecDepth 100000 in
theorem S_1798 : aSpec wd ct_1798 := bChk_ok wx_ok btX12_ofBox (lk := []) (nds := []) (fk := []) (rk := (1, [])) (sp := 0) (fuel := 3000) (by decide +kernel) (fun _ h => nomatch h) odX12_ofBox
def ct_1799 : aCt := (mX12_songLong, [.inr (.inl [196]), .inl [(0, 0, 1)]], ([((199, 0), [(2, 4, 1)]), ((199, 4), [(7, 7, 1)]), ((199, 7), [(2, 8, 1)])], []), [(some (.inl [(2, 6, 1)]), [], [], [])], [], [], 0)
set_option maxRecDepth 100000 in
theorem S_1799 : aSpec wd ct_1799 := bChk_ok wx_ok btX12_songLong (lk := []) (nds := []) (fk := []) (rk := (1, [])) (sp := 0) (fuel := 3000) (by decide +kernel) (fun _ h => nomatch h) odX12_songLong
def ct_1800 : aCt := (mX12_songLong, [.inr (.inl [196]), .inl [(1, 1, 1)]], ([((199, 0), [(2, 4, 1)]), ((199, 4), [(7, 7, 1)]), ((199, 7), [(2, 8, 1)])], []), [(some (.inl [(2, 6, 1)]), [], [], [])], [], [], 0)
set_option maxRecDepth 100000 in
theorem S_1800 : aSpec wd ct_1800 := bChk_ok wx_ok btX12_songLong (lk := []) (nds := []) (fk := []) (rk := (1, [])) (sp := 0) (fuel := 3000) (by decide +kernel) (fun _ h => nomatch h) odX12_songLong
def ct_1801 : aCt := (mX12_songLong, [.inr (.inl [196]), .inl [(2, 2, 1)]], ([((199, 0), [(2, 4, 1)]), ((199, 4), [(7, 7, 1)]), ((199, 7), [(2, 8, 1)])], []), [(some (.inl [(2, 6, 1)]), [], [], [])], [], [], 0)
set_option maxRecDepth 100000 in
theorem S_1801 : aSpec wd ct_1801 := bChk_ok wx_ok btX12_songLong (lk := []) (nds := []) (fk := []) (rk := (1, [])) (sp := 0) (fuel := 3000) (by decide +kernel) (fun _ h => nomatch h) odX12_songLong
def ct_1802 : aCt := (mX12_songLong, [.inr (.inl [196]), .inl [(3, 3, 1)]], ([((199, 0), [(2, 4, 1)]), ((199, 4), [(7, 7, 1)]), ((199, 7), [(2, 8, 1)])], []), [(some (.inl [(2, 6, 1)]), [], [], [])], [], [], 0)
set_option maxRecDepth 100000 in
theorem S_1802 : aSpec wd ct_1802 := bChk_ok wx_ok btX12_songLong (lk := []) (nds := []) (fk := []) (rk := (1, [])) (sp := 0) (fuel := 3000) (by decide +kernel) (fun _ h => nomatch h) odX12_songLong
def ct_1803 : aCt := (mX12_songLong, [.inr (.inl [196]), .inl [(4, 4, 1)]], ([((199, 0), [(2, 4, 1)]), ((199, 4), [(7, 7, 1)]), ((199, 7), [(2, 8, 1)])], []), [(some (.inl [(2, 6, 1)]), [], [], [])], [], [], 0)
set_option maxRecDepth 100000 in
theorem S_1803 : aSpec wd ct_1803 := bChk_ok wx_ok btX12_songLong (lk := []) (nds := []) (fk := []) (rk := (1, [])) (sp := 0) (fuel := 3000) (by decide +kernel) (fun _ h => nomatch h) odX12_songLong
def ct_1804 : aCt := (mX12_songLong, [.inr (.inl [196]), .inl [(5, 5, 1)]], ([((199, 0), [(2, 4, 1)]), ((199, 4), [(7, 7, 1)]), ((199, 7), [(2, 8, 1)])], []), [(some (.inl [(2, 6, 1)]), [], [], [])], [], [], 0)
set_option maxRecDepth 100000 in
theorem S_1804 : aSpec wd ct_1804 := bChk_ok wx_ok btX12_songLong (lk := []) (nds := []) (fk := []) (rk := (1, [])) (sp := 0) (fuel := 3000) (by decide +kernel) (fun _ h => nomatch h) odX12_songLong
def ct_1805 : aCt := (mX12_songLong, [.inr (.inl [196]), .inl [(6, 6, 1)]], ([((199, 0), [(2, 4, 1)]), ((199, 4), [(7, 7, 1)]), ((199, 7), [(2, 8, 1)])], []), [(some (.inl [(2, 6, 1)]), [], [], [])], [], [], 0)
set_option maxRecDepth 100000 in
theorem S_1805 : aSpec wd ct_1805 := bChk_ok wx_ok btX12_songLong (lk := []) (nds := []) (fk := []) (rk := (1, [])) (sp := 0) (fuel := 3000) (by decide +kernel) (fun _ h => nomatch h) odX12_songLong
def ct_1806 : aCt := (mX12_boxLong, [.inr (.inl [196]), .inl [(1, 1, 1)]], ([((199, 0), [(2, 4, 1)]), ((199, 4), [(7, 7, 1)]), ((199, 7), [(2, 8, 1)])], []), [(some (.inl [(2, 6, 1)]), [], [], [])], [], [], 1)
set_option maxRecDepth 100000 in
theorem S_1806 : aSpec wd ct_1806 := bChk_ok wx_ok btX12_boxLong (lk := [(265, 0, 2, ct_1799), (265, 0, 2, ct_1800), (265, 0, 2, ct_1801), (265, 0, 2, ct_1802), (265, 0, 2, ct_1803), (265, 0, 2, ct_1804), (265, 0, 2, ct_1805), (262, 0, 3, ct_1798)]) (nds := []) (fk := [7]) (rk := (1, [])) (sp := 0) (fuel := 3000) (by decide +kernel) (List.forall_mem_cons.mpr ⟨⟨ml_12_265, S_1799⟩, List.forall_mem_cons.mpr ⟨⟨ml_12_265, S_1800⟩, List.forall_mem_cons.mpr ⟨⟨ml_12_265, S_1801⟩, List.forall_mem_cons.mpr ⟨⟨ml_12_265, S_1802⟩, List.forall_mem_cons.mpr ⟨⟨ml_12_265, S_1803⟩, List.forall_mem_cons.mpr ⟨⟨ml_12_265, S_1804⟩, List.forall_mem_cons.mpr ⟨⟨ml_12_265, S_1805⟩, List.forall_mem_cons.mpr ⟨⟨ml_12_262, S_1798⟩, fun _ h => nomatch h⟩⟩⟩⟩⟩⟩⟩⟩) odX12_boxLong
def ct_1807 : aCt := (mX12_ofBox, [.inr (.inl [196]), .inl [(2, 2, 1)], .inl [(1, 1, 1)]], ([((199, 0), [(2, 4, 1)]), ((199, 4), [(7, 7, 1)]), ((199, 7), [(3, 8, 1)])], []), [(some (.inl [(0, 6, 1)]), [], [], [])], [], [], 0)
set_option maxRecDepth 100000 in
theorem S_1807 : aSpec wd ct_1807 := bChk_ok wx_ok btX12_ofBox (lk := []) (nds := []) (fk := []) (rk := (1, [])) (sp := 0) (fuel := 3000) (by decide +kernel) (fun _ h => nomatch h) odX12_ofBox
def ct_1808 : aCt := (mX12_songLong, [.inr (.inl [196]), .inl [(0, 0, 1)]], ([((199, 0), [(2, 4, 1)]), ((199, 4), [(7, 7, 1)]), ((199, 7), [(3, 8, 1)])], []), [(some (.inl [(2, 6, 1)]), [], [], [])], [], [], 0)
set_option maxRecDepth 100000 in
theorem S_1808 : aSpec wd ct_1808 := bChk_ok wx_ok btX12_songLong (lk := []) (nds := []) (fk := []) (rk := (1, [])) (sp := 0) (fuel := 3000) (by decide +kernel) (fun _ h => nomatch h) odX12_songLong
def ct_1809 : aCt := (mX12_songLong, [.inr (.inl [196]), .inl [(1, 1, 1)]], ([((199, 0), [(2, 4, 1)]), ((199, 4), [(7, 7, 1)]), ((199, 7), [(3, 8, 1)])], []), [(some (.inl [(2, 6, 1)]), [], [], [])], [], [], 0)
set_option maxRecDepth 100000 in
theorem S_1809 : aSpec wd ct_1809 := bChk_ok wx_ok btX12_songLong (lk := []) (nds := []) (fk := []) (rk := (1, [])) (sp := 0) (fuel := 3000) (by decide +kernel) (fun _ h => nomatch h) odX12_songLong
def ct_1810 : aCt := (mX12_songLong, [.inr (.inl [196]), .inl [(2, 2, 1)]], ([((199, 0), [(2, 4, 1)]), ((199, 4), [(7, 7, 1)]), ((199, 7), [(3, 8, 1)])], []), [(some (.inl [(2, 6, 1)]), [], [], [])], [], [], 0)
set_option maxRecDepth 100000 in
theorem S_1810 : aSpec wd ct_1810 := bChk_ok wx_ok btX12_songLong (lk := []) (nds := []) (fk := []) (rk := (1, [])) (sp := 0) (fuel := 3000) (by decide +kernel) (fun _ h => nomatch h) odX12_songLong
def ct_1811 : aCt := (mX12_songLong, [.inr (.inl [196]), .inl [(3, 3, 1)]], ([((199, 0), [(2, 4, 1)]), ((199, 4), [(7, 7, 1)]), ((199, 7), [(3, 8, 1)])], []), [(some (.inl [(2, 6, 1)]), [], [], [])], [], [], 0)
set_option maxRecDepth 100000 in
theorem S_1811 : aSpec wd ct_1811 := bChk_ok wx_ok btX12_songLong (lk := []) (nds := []) (fk := []) (rk := (1, [])) (sp := 0) (fuel := 3000) (by decide +kernel) (fun _ h => nomatch h) odX12_songLong
def ct_1812 : aCt := (mX12_songLong, [.inr (.inl [196]), .inl [(4, 4, 1)]], ([((199, 0), [(2, 4, 1)]), ((199, 4), [(7, 7, 1)]), ((199, 7), [(3, 8, 1)])], []), [(some (.inl [(2, 6, 1)]), [], [], [])], [], [], 0)
set_option maxRecDepth 100000 in
theorem S_1812 : aSpec wd ct_1812 := bChk_ok wx_ok btX12_songLong (lk := []) (nds := []) (fk := []) (rk := (1, [])) (sp := 0) (fuel := 3000) (by decide +kernel) (fun _ h => nomatch h) odX12_songLong
def ct_1813 : aCt := (mX12_songLong, [.inr (.inl [196]), .inl [(5, 5, 1)]], ([((199, 0), [(2, 4, 1)]), ((199, 4), [(7, 7, 1)]), ((199, 7), [(3, 8, 1)])], []), [(some (.inl [(2, 6, 1)]), [], [], [])], [], [], 0)
set_option maxRecDepth 100000 in
theorem S_1813 : aSpec wd ct_1813 := bChk_ok wx_ok btX12_songLong (lk := []) (nds := []) (fk := []) (rk := (1, [])) (sp := 0) (fuel := 3000) (by decide +kernel) (fun _ h => nomatch h) odX12_songLong
def ct_1814 : aCt := (mX12_songLong, [.inr (.inl [196]), .inl [(6, 6, 1)]], ([((199, 0), [(2, 4, 1)]), ((199, 4), [(7, 7, 1)]), ((199, 7), [(3, 8, 1)])], []), [(some (.inl [(2, 6, 1)]), [], [], [])], [], [], 0)
set_option maxRecDepth 100000 in
theorem S_1814 : aSpec wd ct_1814 := bChk_ok wx_ok btX12_songLong (lk := []) (nds := []) (fk := []) (rk := (1, [])) (sp := 0) (fuel := 3000) (by decide +kernel) (fun _ h => nomatch h) odX12_songLong
