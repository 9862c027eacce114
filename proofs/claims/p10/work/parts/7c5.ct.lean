section Pk0
set_option maxRecDepth 100000 in
theorem btX12_decade : bTab oX12_decade tX12_decade := ⟨ofX12_decade, by decide +kernel⟩
def ct_1517 : aCt := (mX12_decade, [.inr (.inl [196]), .inl aTop, .inl aTop], ([((196, 14), [(0, 0, 1)])], []), [(some (.inl [(-1, -1, 1)]), [], [((196, 11), [(1, 1, 1)])], [])], [(196, 0, 1), (196, 11, 12)], [], 1)
set_option maxRecDepth 100000 in
theorem S_1517 : aSpec wd ct_1517 := bChk_ok wx_ok btX12_decade (nds := []) (fk := []) (rk := (1, [])) (sp := 0) (fuel := 3000) (by decide +kernel) (lk_c ml_12_167 S_651 (lk_c ml_12_170 S_1112 lk_n)) odX12_decade
def ct_1518 : aCt := (mX12_in, [.inl aTop, .inl [(0, 0, 1)], .inl [(65536, 65536, 1)]], ([], []), [(some (.inl [(0, 0, 1)]), [some [(-2147483648, -1, 1), (65537, 2147483647, 1)], none, none], [], []), (some (.inl [(1, 1, 1)]), [some [(0, 65536, 1)], none, none], [], [])], [(1000002, 0, 0)], [], 0)
set_option maxRecDepth 100000 in
theorem S_1518 : aSpec wd ct_1518 := bChk_ok wx_ok btX12_in (nds := []) (fk := []) (rk := (1, [])) (sp := 0) (fuel := 3000) (by decide +kernel) lk_n odX12_in
def ct_1519 : aCt := (mX12_ofBox, [.inr (.inl [196]), .inl [(0, 0, 1)], .inl [(1, 1, 1)]], ([((199, 0), [(2, 4, 1)]), ((199, 4), [(1, 1, 1)]), ((199, 7), [(1, 8, 1)])], []), [(some (.inl [(0, 0, 1)]), [], [], [])], [], [], 0)
set_option maxRecDepth 100000 in
theorem S_1519 : aSpec wd ct_1519 := bChk_ok wx_ok btX12_ofBox (nds := []) (fk := []) (rk := (1, [])) (sp := 0) (fuel := 3000) (by decide +kernel) lk_n odX12_ofBox
def ct_1520 : aCt := (mX12_songLong, [.inr (.inl [196]), .inl [(0, 0, 1)]], ([((199, 0), [(2, 4, 1)]), ((199, 4), [(1, 1, 1)]), ((199, 7), [(1, 8, 1)])], []), [(some (.inl [(2, 6, 1)]), [], [], [])], [], [], 0)
set_option maxRecDepth 100000 in
theorem S_1520 : aSpec wd ct_1520 := bChk_ok wx_ok btX12_songLong (nds := []) (fk := []) (rk := (1, [])) (sp := 0) (fuel := 3000) (by decide +kernel) lk_n odX12_songLong
def ct_1521 : aCt := (mX12_boxLong, [.inr (.inl [196]), .inl [(0, 0, 1)]], ([((199, 0), [(2, 4, 1)]), ((199, 4), [(1, 1, 1)]), ((199, 7), [(1, 8, 1)])], []), [(some (.inl [(2, 6, 1)]), [], [], [])], [], [], 1)
set_option maxRecDepth 100000 in
theorem S_1521 : aSpec wd ct_1521 := bChk_ok wx_ok btX12_boxLong (nds := []) (fk := [7]) (rk := (1, [])) (sp := 0) (fuel := 3000) (by decide +kernel) (lk_c ml_12_265 S_1520 (lk_c ml_12_262 S_1519 lk_n)) odX12_boxLong
def ct_1522 : aCt := (mX12_ofBox, [.inr (.inl [196]), .inl [(1, 1, 1)], .inl [(1, 1, 1)]], ([((199, 0), [(2, 4, 1)]), ((199, 4), [(1, 1, 1)]), ((199, 7), [(2, 8, 1)])], []), [(some (.inl [(0, 0, 1)]), [], [], [])], [], [], 0)
set_option maxRecDepth 100000 in
theorem S_1522 : aSpec wd ct_1522 := bChk_ok wx_ok btX12_ofBox (nds := []) (fk := []) (rk := (1, [])) (sp := 0) (fuel := 3000) (by decide +kernel) lk_n odX12_ofBox
def ct_1523 : aCt := (mX12_songLong, [.inr (.inl [196]), .inl [(0, 0, 1)]], ([((199, 0), [(2, 4, 1)]), ((199, 4), [(1, 1, 1)]), ((199, 7), [(2, 8, 1)])], []), [(some (.inl [(2, 6, 1)]), [], [], [])], [], [], 0)
set_option maxRecDepth 100000 in
theorem S_1523 : aSpec wd ct_1523 := bChk_ok wx_ok btX12_songLong (nds := []) (fk := []) (rk := (1, [])) (sp := 0) (fuel := 3000) (by decide +kernel) lk_n odX12_songLong
def ct_1524 : aCt := (mX12_boxLong, [.inr (.inl [196]), .inl [(1, 1, 1)]], ([((199, 0), [(2, 4, 1)]), ((199, 4), [(1, 1, 1)]), ((199, 7), [(2, 8, 1)])], []), [(some (.inl [(2, 6, 1)]), [], [], [])], [], [], 1)
set_option maxRecDepth 100000 in
theorem S_1524 : aSpec wd ct_1524 := bChk_ok wx_ok btX12_boxLong (nds := []) (fk := [7]) (rk := (1, [])) (sp := 0) (fuel := 3000) (by decide +kernel) (lk_c ml_12_265 S_1523 (lk_c ml_12_262 S_1522 lk_n)) odX12_boxLong
def ct_1525 : aCt := (mX12_ofBox, [.inr (.inl [196]), .inl [(2, 2, 1)], .inl [(1, 1, 1)]], ([((199, 0), [(2, 4, 1)]), ((199, 4), [(1, 1, 1)]), ((199, 7), [(3, 8, 1)])], []), [(some (.inl [(0, 0, 1)]), [], [], [])], [], [], 0)
set_option maxRecDepth 100000 in
theorem S_1525 : aSpec wd ct_1525 := bChk_ok wx_ok btX12_ofBox (nds := []) (fk := []) (rk := (1, [])) (sp := 0) (fuel := 3000) (by decide +kernel) lk_n odX12_ofBox
def ct_1526 : aCt := (mX12_songLong, [.inr (.inl [196]), .inl [(0, 0, 1)]], ([((199, 0), [(2, 4, 1)]), ((199, 4), [(1, 1, 1)]), ((199, 7), [(3, 8, 1)])], []), [(some (.inl [(2, 6, 1)]), [], [], [])], [], [], 0)
set_option maxRecDepth 100000 in
theorem S_1526 : aSpec wd ct_1526 := bChk_ok wx_ok btX12_songLong (nds := []) (fk := []) (rk := (1, [])) (sp := 0) (fuel := 3000) (by decide +kernel) lk_n odX12_songLong
def ct_1527 : aCt := (mX12_boxLong, [.inr (.inl [196]), .inl [(2, 2, 1)]], ([((199, 0), [(2, 4, 1)]), ((199, 4), [(1, 1, 1)]), ((199, 7), [(3, 8, 1)])], []), [(some (.inl [(2, 6, 1)]), [], [], [])], [], [], 1)
set_option maxRecDepth 100000 in
theorem S_1527 : aSpec wd ct_1527 := bChk_ok wx_ok btX12_boxLong (nds := []) (fk := [7]) (rk := (1, [])) (sp := 0) (fuel := 3000) (by decide +kernel) (lk_c ml_12_265 S_1526 (lk_c ml_12_262 S_1525 lk_n)) odX12_boxLong
def ct_1528 : aCt := (mX12_ofBox, [.inr (.inl [196]), .inl [(3, 3, 1)], .inl [(1, 1, 1)]], ([((199, 0), [(2, 4, 1)]), ((199, 4), [(1, 1, 1)]), ((199, 7), [(4, 8, 1)])], []), [(some (.inl [(0, 0, 1)]), [], [], [])], [], [], 0)
set_option maxRecDepth 100000 in
theorem S_1528 : aSpec wd ct_1528 := bChk_ok wx_ok btX12_ofBox (nds := []) (fk := []) (rk := (1, [])) (sp := 0) (fuel := 3000) (by decide +kernel) lk_n odX12_ofBox
def ct_1529 : aCt := (mX12_songLong, [.inr (.inl [196]), .inl [(0, 0, 1)]], ([((199, 0), [(2, 4, 1)]), ((199, 4), [(1, 1, 1)]), ((199, 7), [(4, 8, 1)])], []), [(some (.inl [(2, 6, 1)]), [], [], [])], [], [], 0)
set_option maxRecDepth 100000 in
theorem S_1529 : aSpec wd ct_1529 := bChk_ok wx_ok btX12_songLong (nds := []) (fk := []) (rk := (1, [])) (sp := 0) (fuel := 3000) (by decide +kernel) lk_n odX12_songLong
def ct_1530 : aCt := (mX12_boxLong, [.inr (.inl [196]), .inl [(3, 3, 1)]], ([((199, 0), [(2, 4, 1)]), ((199, 4), [(1, 1, 1)]), ((199, 7), [(4, 8, 1)])], []), [(some (.inl [(2, 6, 1)]), [], [], [])], [], [], 1)
set_option maxRecDepth 100000 in
theorem S_1530 : aSpec wd ct_1530 := bChk_ok wx_ok btX12_boxLong (nds := []) (fk := [7]) (rk := (1, [])) (sp := 0) (fuel := 3000) (by decide +kernel) (lk_c ml_12_265 S_1529 (lk_c ml_12_262 S_1528 lk_n)) odX12_boxLong
def ct_1531 : aCt := (mX12_ofBox, [.inr (.inl [196]), .inl [(4, 4, 1)], .inl [(1, 1, 1)]], ([((199, 0), [(2, 4, 1)]), ((199, 4), [(1, 1, 1)]), ((199, 7), [(5, 8, 1)])], []), [(some (.inl [(0, 0, 1)]), [], [], [])], [], [], 0)
set_option maxRecDepth 100000 in
theorem S_1531 : aSpec wd ct_1531 := bChk_ok wx_ok btX12_ofBox (nds := []) (fk := []) (rk := (1, [])) (sp := 0) (fuel := 3000) (by decide +kernel) lk_n odX12_ofBox
def ct_1532 : aCt := (mX12_songLong, [.inr (.inl [196]), .inl [(0, 0, 1)]], ([((199, 0), [(2, 4, 1)]), ((199, 4), [(1, 1, 1)]), ((199, 7), [(5, 8, 1)])], []), [(some (.inl [(2, 6, 1)]), [], [], [])], [], [], 0)
set_option maxRecDepth 100000 in
theorem S_1532 : aSpec wd ct_1532 := bChk_ok wx_ok btX12_songLong (nds := []) (fk := []) (rk := (1, [])) (sp := 0) (fuel := 3000) (by decide +kernel) lk_n odX12_songLong
def ct_1533 : aCt := (mX12_boxLong, [.inr (.inl [196]), .inl [(4, 4, 1)]], ([((199, 0), [(2, 4, 1)]), ((199, 4), [(1, 1, 1)]), ((199, 7), [(5, 8, 1)])], []), [(some (.inl [(2, 6, 1)]), [], [], [])], [], [], 1)
set_option maxRecDepth 100000 in
theorem S_1533 : aSpec wd ct_1533 := bChk_ok wx_ok btX12_boxLong (nds := []) (fk := [7]) (rk := (1, [])) (sp := 0) (fuel := 3000) (by decide +kernel) (lk_c ml_12_265 S_1532 (lk_c ml_12_262 S_1531 lk_n)) odX12_boxLong
def ct_1534 : aCt := (mX12_ofBox, [.inr (.inl [196]), .inl [(5, 5, 1)], .inl [(1, 1, 1)]], ([((199, 0), [(2, 4, 1)]), ((199, 4), [(1, 1, 1)]), ((199, 7), [(6, 8, 1)])], []), [(some (.inl [(0, 0, 1)]), [], [], [])], [], [], 0)
set_option maxRecDepth 100000 in
theorem S_1534 : aSpec wd ct_1534 := bChk_ok wx_ok btX12_ofBox (nds := []) (fk := []) (rk := (1, [])) (sp := 0) (fuel := 3000) (by decide +kernel) lk_n odX12_ofBox
def ct_1535 : aCt := (mX12_songLong, [.inr (.inl [196]), .inl [(0, 0, 1)]], ([((199, 0), [(2, 4, 1)]), ((199, 4), [(1, 1, 1)]), ((199, 7), [(6, 8, 1)])], []), [(some (.inl [(2, 6, 1)]), [], [], [])], [], [], 0)
set_option maxRecDepth 100000 in
theorem S_1535 : aSpec wd ct_1535 := bChk_ok wx_ok btX12_songLong (nds := []) (fk := []) (rk := (1, [])) (sp := 0) (fuel := 3000) (by decide +kernel) lk_n odX12_songLong
def ct_1536 : aCt := (mX12_boxLong, [.inr (.inl [196]), .inl [(5, 5, 1)]], ([((199, 0), [(2, 4, 1)]), ((199, 4), [(1, 1, 1)]), ((199, 7), [(6, 8, 1)])], []), [(some (.inl [(2, 6, 1)]), [], [], [])], [], [], 1)
set_option maxRecDepth 100000 in
theorem S_1536 : aSpec wd ct_1536 := bChk_ok wx_ok btX12_boxLong (nds := []) (fk := [7]) (rk := (1, [])) (sp := 0) (fuel := 3000) (by decide +kernel) (lk_c ml_12_265 S_1535 (lk_c ml_12_262 S_1534 lk_n)) odX12_boxLong
def ct_1537 : aCt := (mX12_ofBox, [.inr (.inl [196]), .inl [(6, 6, 1)], .inl [(1, 1, 1)]], ([((199, 0), [(2, 4, 1)]), ((199, 4), [(1, 1, 1)]), ((199, 7), [(7, 8, 1)])], []), [(some (.inl [(0, 0, 1)]), [], [], [])], [], [], 0)
set_option maxRecDepth 100000 in
theorem S_1537 : aSpec wd ct_1537 := bChk_ok wx_ok btX12_ofBox (nds := []) (fk := []) (rk := (1, [])) (sp := 0) (fuel := 3000) (by decide +kernel) lk_n odX12_ofBox
def ct_1538 : aCt := (mX12_songLong, [.inr (.inl [196]), .inl [(0, 0, 1)]], ([((199, 0), [(2, 4, 1)]), ((199, 4), [(1, 1, 1)]), ((199, 7), [(7, 8, 1)])], []), [(some (.inl [(2, 6, 1)]), [], [], [])], [], [], 0)
set_option maxRecDepth 100000 in
theorem S_1538 : aSpec wd ct_1538 := bChk_ok wx_ok btX12_songLong (nds := []) (fk := []) (rk := (1, [])) (sp := 0) (fuel := 3000) (by decide +kernel) lk_n odX12_songLong
def ct_1539 : aCt := (mX12_boxLong, [.inr (.inl [196]), .inl [(6, 6, 1)]], ([((199, 0), [(2, 4, 1)]), ((199, 4), [(1, 1, 1)]), ((199, 7), [(7, 8, 1)])], []), [(some (.inl [(2, 6, 1)]), [], [], [])], [], [], 1)
set_option maxRecDepth 100000 in
theorem S_1539 : aSpec wd ct_1539 := bChk_ok wx_ok btX12_boxLong (nds := []) (fk := [7]) (rk := (1, [])) (sp := 0) (fuel := 3000) (by decide +kernel) (lk_c ml_12_265 S_1538 (lk_c ml_12_262 S_1537 lk_n)) odX12_boxLong
def ct_1540 : aCt := (mX12_ofBox, [.inr (.inl [196]), .inl [(7, 7, 1)], .inl [(1, 1, 1)]], ([((199, 0), [(2, 4, 1)]), ((199, 4), [(1, 1, 1)]), ((199, 7), [(8, 8, 1)])], []), [(some (.inl [(0, 0, 1)]), [], [], [])], [], [], 0)
set_option maxRecDepth 100000 in
theorem S_1540 : aSpec wd ct_1540 := bChk_ok wx_ok btX12_ofBox (nds := []) (fk := []) (rk := (1, [])) (sp := 0) (fuel := 3000) (by decide +kernel) lk_n odX12_ofBox
def ct_1541 : aCt := (mX12_songLong, [.inr (.inl [196]), .inl [(0, 0, 1)]], ([((199, 0), [(2, 4, 1)]), ((199, 4), [(1, 1, 1)]), ((199, 7), [(8, 8, 1)])], []), [(some (.inl [(2, 6, 1)]), [], [], [])], [], [], 0)
set_option maxRecDepth 100000 in
theorem S_1541 : aSpec wd ct_1541 := bChk_ok wx_ok btX12_songLong (nds := []) (fk := []) (rk := (1, [])) (sp := 0) (fuel := 3000) (by decide +kernel) lk_n odX12_songLong
def ct_1542 : aCt := (mX12_boxLong, [.inr (.inl [196]), .inl [(7, 7, 1)]], ([((199, 0), [(2, 4, 1)]), ((199, 4), [(1, 1, 1)]), ((199, 7), [(8, 8, 1)])], []), [(some (.inl [(2, 6, 1)]), [], [], [])], [], [], 1)
set_option maxRecDepth 100000 in
theorem S_1542 : aSpec wd ct_1542 := bChk_ok wx_ok btX12_boxLong (nds := []) (fk := [7]) (rk := (1, [])) (sp := 0) (fuel := 3000) (by decide +kernel) (lk_c ml_12_265 S_1541 (lk_c ml_12_262 S_1540 lk_n)) odX12_boxLong
def lcn_1081 : Nat × aAg := ((nat_lit 3), .inl [((.ofNat (nat_lit 0)), (.ofNat (nat_lit 65536)), (nat_lit 1))])
def sl_1082 : (Nat × Nat) × aI := (((nat_lit 199), (nat_lit 4)), [((.ofNat (nat_lit 1)), (.ofNat (nat_lit 1)), (nat_lit 1))])
def lcn_1083 : Nat × aAg := ((nat_lit 2), .inl [((.ofNat (nat_lit 1)), (.ofNat (nat_lit 50)), (nat_lit 1))])
def lcn_1084 : Nat × aAg := ((nat_lit 7), .inl [((.negSucc (nat_lit 0)), (.ofNat (nat_lit 5)), (nat_lit 1))])
def lcn_1085 : Nat × aAg := ((nat_lit 8), .inl [((.ofNat (nat_lit 0)), (.ofNat (nat_lit 3)), (nat_lit 1))])
def ct_1543 : aCt := (mX12_decade, [.inr (.inl [196]), .inl aTop, .inl aTop], ([((199, 4), [(1, 1, 1)])], []), [(some (.inl aTop), [], [((196, 11), [(0, 0, 1)]), ((196, 14), [(1, 1, 1)]), ((199, 0), [(2, 4, 1)])], []), (some (.inl [(-1, -1, 1)]), [], [((196, 11), [(1, 2, 1)])], [])], [(196, 0, 1), (196, 11, 12)], [], 4)
set_option maxRecDepth 100000 in
theorem S_1543 : aSpec wd ct_1543 := bChk_ok wx_ok btX12_decade (nds := [((nat_lit 52), [lcn_306, lcn_280, lcn_281, lcn_1081, lcn_88, lcn_1016], [], [sl_632, sl_1002, sl_633, sl_1082], [], (759, [(4, -10)])), ((nat_lit 61), [lcn_306, lcn_280, lcn_1083, lcn_1081, lcn_88, lcn_1014, lcn_231], [], [sl_632, sl_1002, sl_633, sl_1082], [], (758, [(4, -10)])), ((nat_lit 61), [lcn_306, lcn_280, lcn_1083, lcn_1081, lcn_88, lcn_1014, lcn_1033, lcn_1084, lcn_1085], [], [sl_632, sl_1002, sl_633, sl_1082, sl_1031], [], (757, [(4, -10)])), ((nat_lit 61), [lcn_306, lcn_280, lcn_1083, lcn_1081, lcn_88, lcn_1014, lcn_1035, lcn_1084, lcn_1085], [], [sl_632, sl_1002, sl_633, sl_1082, sl_1065], [], (756, [(4, -10)])), ((nat_lit 61), [lcn_306, lcn_280, lcn_1083, lcn_1081, lcn_88, lcn_1014, lcn_1037, lcn_1084, lcn_1085], [], [sl_632, sl_1002, sl_633, sl_1082, sl_1064], [], (755, [(4, -10)])), ((nat_lit 61), [lcn_306, lcn_280, lcn_1083, lcn_1081, lcn_88, lcn_1014, lcn_1039, lcn_1084, lcn_1085], [], [sl_632, sl_1002, sl_633, sl_1082, sl_1063], [], (754, [(4, -10)])), ((nat_lit 61), [lcn_306, lcn_280, lcn_1083, lcn_1081, lcn_88, lcn_1014, lcn_1041, lcn_1084, lcn_1085], [], [sl_632, sl_1002, sl_633, sl_1082, sl_1062], [], (753, [(4, -10)])), ((nat_lit 61), [lcn_306, lcn_280, lcn_1083, lcn_1081, lcn_88, lcn_1014, lcn_1043, lcn_1084, lcn_1085], [], [sl_632, sl_1002, sl_633, sl_1082, sl_1061], [], (752, [(4, -10)])), ((nat_lit 61), [lcn_306, lcn_280, lcn_1083, lcn_1081, lcn_88, lcn_1014, lcn_1045, lcn_1084, lcn_1085], [], [sl_632, sl_1002, sl_633, sl_1082, sl_1060], [], (751, [(4, -10)])), ((nat_lit 61), [lcn_306, lcn_280, lcn_1083, lcn_1081, lcn_88, lcn_1014, lcn_1047, lcn_1084, lcn_1085], [], [sl_632, sl_1002, sl_633, sl_1082, sl_1059], [], (750, [(4, -10)]))]) (fk := []) (rk := (760, [])) (sp := 2310346608841064448) (fuel := 3000) (by decide +kernel) (lk_c ml_12_167 S_651 (lk_c ml_12_284 S_1542 (lk_c ml_12_284 S_1539 (lk_c ml_12_284 S_1536 (lk_c ml_12_284 S_1533 (lk_c ml_12_284 S_1530 (lk_c ml_12_284 S_1527 (lk_c ml_12_284 S_1524 (lk_c ml_12_284 S_1521 (lk_c ml_12_170 S_1112 (lk_c ml_12_170 S_653 (lk_c ml_12_262 S_1540 (lk_c ml_12_262 S_1537 (lk_c ml_12_262 S_1534 (lk_c ml_12_262 S_1531 (lk_c ml_12_262 S_1528 (lk_c ml_12_262 S_1525 (lk_c ml_12_262 S_1522 (lk_c ml_12_262 S_1519 (lk_c ml_12_291 S_1155 (lk_c ml_12_149 S_1518 (lk_c ml_12_149 S_678 lk_n)))))))))))))))))))))) odX12_decade
def ct_1544 : aCt := (mX12_ofBox, [.inr (.inl [196]), .inl [(0, 0, 1)], .inl [(1, 1, 1)]], ([((199, 0), [(2, 4, 1)]), ((199, 4), [(2, 2, 1)]), ((199, 7), [(1, 8, 1)])], []), [(some (.inl [(0, 1, 1)]), [], [], [])], [], [], 0)
set_option maxRecDepth 100000 in
theorem S_1544 : aSpec wd ct_1544 := bChk_ok wx_ok btX12_ofBox (nds := []) (fk := []) (rk := (1, [])) (sp := 0) (fuel := 3000) (by decide +kernel) lk_n odX12_ofBox
def ct_1545 : aCt := (mX12_songLong, [.inr (.inl [196]), .inl [(0, 0, 1)]], ([((199, 0), [(2, 4, 1)]), ((199, 4), [(2, 2, 1)]), ((199, 7), [(1, 8, 1)])], []), [(some (.inl [(2, 6, 1)]), [], [], [])], [], [], 0)
set_option maxRecDepth 100000 in
theorem S_1545 : aSpec wd ct_1545 := bChk_ok wx_ok btX12_songLong (nds := []) (fk := []) (rk := (1, [])) (sp := 0) (fuel := 3000) (by decide +kernel) lk_n odX12_songLong
def ct_1546 : aCt := (mX12_songLong, [.inr (.inl [196]), .inl [(1, 1, 1)]], ([((199, 0), [(2, 4, 1)]), ((199, 4), [(2, 2, 1)]), ((199, 7), [(1, 8, 1)])], []), [(some (.inl [(2, 6, 1)]), [], [], [])], [], [], 0)
set_option maxRecDepth 100000 in
theorem S_1546 : aSpec wd ct_1546 := bChk_ok wx_ok btX12_songLong (nds := []) (fk := []) (rk := (1, [])) (sp := 0) (fuel := 3000) (by decide +kernel) lk_n odX12_songLong
def ct_1547 : aCt := (mX12_boxLong, [.inr (.inl [196]), .inl [(0, 0, 1)]], ([((199, 0), [(2, 4, 1)]), ((199, 4), [(2, 2, 1)]), ((199, 7), [(1, 8, 1)])], []), [(some (.inl [(2, 6, 1)]), [], [], [])], [], [], 1)
set_option maxRecDepth 100000 in
theorem S_1547 : aSpec wd ct_1547 := bChk_ok wx_ok btX12_boxLong (nds := []) (fk := [7]) (rk := (1, [])) (sp := 0) (fuel := 3000) (by decide +kernel) (lk_c ml_12_265 S_1545 (lk_c ml_12_265 S_1546 (lk_c ml_12_262 S_1544 lk_n))) odX12_boxLong
def ct_1548 : aCt := (mX12_ofBox, [.inr (.inl [196]), .inl [(1, 1, 1)], .inl [(1, 1, 1)]], ([((199, 0), [(2, 4, 1)]), ((199, 4), [(2, 2, 1)]), ((199, 7), [(2, 8, 1)])], []), [(some (.inl [(0, 1, 1)]), [], [], [])], [], [], 0)
set_option maxRecDepth 100000 in
theorem S_1548 : aSpec wd ct_1548 := bChk_ok wx_ok btX12_ofBox (nds := []) (fk := []) (rk := (1, [])) (sp := 0) (fuel := 3000) (by decide +kernel) lk_n odX12_ofBox
def ct_1549 : aCt := (mX12_songLong, [.inr (.inl [196]), .inl [(0, 0, 1)]], ([((199, 0), [(2, 4, 1)]), ((199, 4), [(2, 2, 1)]), ((199, 7), [(2, 8, 1)])], []), [(some (.inl [(2, 6, 1)]), [], [], [])], [], [], 0)
set_option maxRecDepth 100000 in
theorem S_1549 : aSpec wd ct_1549 := bChk_ok wx_ok btX12_songLong (nds := []) (fk := []) (rk := (1, [])) (sp := 0) (fuel := 3000) (by decide +kernel) lk_n odX12_songLong
def ct_1550 : aCt := (mX12_songLong, [.inr (.inl [196]), .inl [(1, 1, 1)]], ([((199, 0), [(2, 4, 1)]), ((199, 4), [(2, 2, 1)]), ((199, 7), [(2, 8, 1)])], []), [(some (.inl [(2, 6, 1)]), [], [], [])], [], [], 0)
set_option maxRecDepth 100000 in
theorem S_1550 : aSpec wd ct_1550 := bChk_ok wx_ok btX12_songLong (nds := []) (fk := []) (rk := (1, [])) (sp := 0) (fuel := 3000) (by decide +kernel) lk_n odX12_songLong
def ct_1551 : aCt := (mX12_boxLong, [.inr (.inl [196]), .inl [(1, 1, 1)]], ([((199, 0), [(2, 4, 1)]), ((199, 4), [(2, 2, 1)]), ((199, 7), [(2, 8, 1)])], []), [(some (.inl [(2, 6, 1)]), [], [], [])], [], [], 1)
set_option maxRecDepth 100000 in
theorem S_1551 : aSpec wd ct_1551 := bChk_ok wx_ok btX12_boxLong (nds := []) (fk := [7]) (rk := (1, [])) (sp := 0) (fuel := 3000) (by decide +kernel) (lk_c ml_12_265 S_1549 (lk_c ml_12_265 S_1550 (lk_c ml_12_262 S_1548 lk_n))) odX12_boxLong
def ct_1552 : aCt := (mX12_ofBox, [.inr (.inl [196]), .inl [(2, 2, 1)], .inl [(1, 1, 1)]], ([((199, 0), [(2, 4, 1)]), ((199, 4), [(2, 2, 1)]), ((199, 7), [(3, 8, 1)])], []), [(some (.inl [(0, 1, 1)]), [], [], [])], [], [], 0)
set_option maxRecDepth 100000 in
theorem S_1552 : aSpec wd ct_1552 := bChk_ok wx_ok btX12_ofBox (nds := []) (fk := []) (rk := (1, [])) (sp := 0) (fuel := 3000) (by decide +kernel) lk_n odX12_ofBox
def ct_1553 : aCt := (mX12_songLong, [.inr (.inl [196]), .inl [(0, 0, 1)]], ([((199, 0), [(2, 4, 1)]), ((199, 4), [(2, 2, 1)]), ((199, 7), [(3, 8, 1)])], []), [(some (.inl [(2, 6, 1)]), [], [], [])], [], [], 0)
set_option maxRecDepth 100000 in
theorem S_1553 : aSpec wd ct_1553 := bChk_ok wx_ok btX12_songLong (nds := []) (fk := []) (rk := (1, [])) (sp := 0) (fuel := 3000) (by decide +kernel) lk_n odX12_songLong
def ct_1554 : aCt := (mX12_songLong, [.inr (.inl [196]), .inl [(1, 1, 1)]], ([((199, 0), [(2, 4, 1)]), ((199, 4), [(2, 2, 1)]), ((199, 7), [(3, 8, 1)])], []), [(some (.inl [(2, 6, 1)]), [], [], [])], [], [], 0)
set_option maxRecDepth 100000 in
theorem S_1554 : aSpec wd ct_1554 := bChk_ok wx_ok btX12_songLong (nds := []) (fk := []) (rk := (1, [])) (sp := 0) (fuel := 3000) (by decide +kernel) lk_n odX12_songLong
def ct_1555 : aCt := (mX12_boxLong, [.inr (.inl [196]), .inl [(2, 2, 1)]], ([((199, 0), [(2, 4, 1)]), ((199, 4), [(2, 2, 1)]), ((199, 7), [(3, 8, 1)])], []), [(some (.inl [(2, 6, 1)]), [], [], [])], [], [], 1)
set_option maxRecDepth 100000 in
theorem S_1555 : aSpec wd ct_1555 := bChk_ok wx_ok btX12_boxLong (nds := []) (fk := [7]) (rk := (1, [])) (sp := 0) (fuel := 3000) (by decide +kernel) (lk_c ml_12_265 S_1553 (lk_c ml_12_265 S_1554 (lk_c ml_12_262 S_1552 lk_n))) odX12_boxLong
def ct_1556 : aCt := (mX12_ofBox, [.inr (.inl [196]), .inl [(3, 3, 1)], .inl [(1, 1, 1)]], ([((199, 0), [(2, 4, 1)]), ((199, 4), [(2, 2, 1)]), ((199, 7), [(4, 8, 1)])], []), [(some (.inl [(0, 1, 1)]), [], [], [])], [], [], 0)
set_option maxRecDepth 100000 in
theorem S_1556 : aSpec wd ct_1556 := bChk_ok wx_ok btX12_ofBox (nds := []) (fk := []) (rk := (1, [])) (sp := 0) (fuel := 3000) (by decide +kernel) lk_n odX12_ofBox
def ct_1557 : aCt := (mX12_songLong, [.inr (.inl [196]), .inl [(0, 0, 1)]], ([((199, 0), [(2, 4, 1)]), ((199, 4), [(2, 2, 1)]), ((199, 7), [(4, 8, 1)])], []), [(some (.inl [(2, 6, 1)]), [], [], [])], [], [], 0)
set_option maxRecDepth 100000 in
theorem S_1557 : aSpec wd ct_1557 := bChk_ok wx_ok btX12_songLong (nds := []) (fk := []) (rk := (1, [])) (sp := 0) (fuel := 3000) (by decide +kernel) lk_n odX12_songLong
def ct_1558 : aCt := (mX12_songLong, [.inr (.inl [196]), .inl [(1, 1, 1)]], ([((199, 0), [(2, 4, 1)]), ((199, 4), [(2, 2, 1)]), ((199, 7), [(4, 8, 1)])], []), [(some (.inl [(2, 6, 1)]), [], [], [])], [], [], 0)
set_option maxRecDepth 100000 in
theorem S_1558 : aSpec wd ct_1558 := bChk_ok wx_ok btX12_songLong (nds := []) (fk := []) (rk := (1, [])) (sp := 0) (fuel := 3000) (by decide +kernel) lk_n odX12_songLong
def ct_1559 : aCt := (mX12_boxLong, [.inr (.inl [196]), .inl [(3, 3, 1)]], ([((199, 0), [(2, 4, 1)]), ((199, 4), [(2, 2, 1)]), ((199, 7), [(4, 8, 1)])], []), [(some (.inl [(2, 6, 1)]), [], [], [])], [], [], 1)
set_option maxRecDepth 100000 in
theorem S_1559 : aSpec wd ct_1559 := bChk_ok wx_ok btX12_boxLong (nds := []) (fk := [7]) (rk := (1, [])) (sp := 0) (fuel := 3000) (by decide +kernel) (lk_c ml_12_265 S_1557 (lk_c ml_12_265 S_1558 (lk_c ml_12_262 S_1556 lk_n))) odX12_boxLong
def ct_1560 : aCt := (mX12_ofBox, [.inr (.inl [196]), .inl [(4, 4, 1)], .inl [(1, 1, 1)]], ([((199, 0), [(2, 4, 1)]), ((199, 4), [(2, 2, 1)]), ((199, 7), [(5, 8, 1)])], []), [(some (.inl [(0, 1, 1)]), [], [], [])], [], [], 0)
set_option maxRecDepth 100000 in
theorem S_1560 : aSpec wd ct_1560 := bChk_ok wx_ok btX12_ofBox (nds := []) (fk := []) (rk := (1, [])) (sp := 0) (fuel := 3000) (by decide +kernel) lk_n odX12_ofBox
def ct_1561 : aCt := (mX12_songLong, [.inr (.inl [196]), .inl [(0, 0, 1)]], ([((199, 0), [(2, 4, 1)]), ((199, 4), [(2, 2, 1)]), ((199, 7), [(5, 8, 1)])], []), [(some (.inl [(2, 6, 1)]), [], [], [])], [], [], 0)
set_option maxRecDepth 100000 in
theorem S_1561 : aSpec wd ct_1561 := bChk_ok wx_ok btX12_songLong (nds := []) (fk := []) (rk := (1, [])) (sp := 0) (fuel := 3000) (by decide +kernel) lk_n odX12_songLong
def ct_1562 : aCt := (mX12_songLong, [.inr (.inl [196]), .inl [(1, 1, 1)]], ([((199, 0), [(2, 4, 1)]), ((199, 4), [(2, 2, 1)]), ((199, 7), [(5, 8, 1)])], []), [(some (.inl [(2, 6, 1)]), [], [], [])], [], [], 0)
set_option maxRecDepth 100000 in
theorem S_1562 : aSpec wd ct_1562 := bChk_ok wx_ok btX12_songLong (nds := []) (fk := []) (rk := (1, [])) (sp := 0) (fuel := 3000) (by decide +kernel) lk_n odX12_songLong
def ct_1563 : aCt := (mX12_boxLong, [.inr (.inl [196]), .inl [(4, 4, 1)]], ([((199, 0), [(2, 4, 1)]), ((199, 4), [(2, 2, 1)]), ((199, 7), [(5, 8, 1)])], []), [(some (.inl [(2, 6, 1)]), [], [], [])], [], [], 1)
set_option maxRecDepth 100000 in
theorem S_1563 : aSpec wd ct_1563 := bChk_ok wx_ok btX12_boxLong (nds := []) (fk := [7]) (rk := (1, [])) (sp := 0) (fuel := 3000) (by decide +kernel) (lk_c ml_12_265 S_1561 (lk_c ml_12_265 S_1562 (lk_c ml_12_262 S_1560 lk_n))) odX12_boxLong
def ct_1564 : aCt := (mX12_ofBox, [.inr (.inl [196]), .inl [(5, 5, 1)], .inl [(1, 1, 1)]], ([((199, 0), [(2, 4, 1)]), ((199, 4), [(2, 2, 1)]), ((199, 7), [(6, 8, 1)])], []), [(some (.inl [(0, 1, 1)]), [], [], [])], [], [], 0)
set_option maxRecDepth 100000 in
theorem S_1564 : aSpec wd ct_1564 := bChk_ok wx_ok btX12_ofBox (nds := []) (fk := []) (rk := (1, [])) (sp := 0) (fuel := 3000) (by decide +kernel) lk_n odX12_ofBox
def ct_1565 : aCt := (mX12_songLong, [.inr (.inl [196]), .inl [(0, 0, 1)]], ([((199, 0), [(2, 4, 1)]), ((199, 4), [(2, 2, 1)]), ((199, 7), [(6, 8, 1)])], []), [(some (.inl [(2, 6, 1)]), [], [], [])], [], [], 0)
set_option maxRecDepth 100000 in
theorem S_1565 : aSpec wd ct_1565 := bChk_ok wx_ok btX12_songLong (nds := []) (fk := []) (rk := (1, [])) (sp := 0) (fuel := 3000) (by decide +kernel) lk_n odX12_songLong
def ct_1566 : aCt := (mX12_songLong, [.inr (.inl [196]), .inl [(1, 1, 1)]], ([((199, 0), [(2, 4, 1)]), ((199, 4), [(2, 2, 1)]), ((199, 7), [(6, 8, 1)])], []), [(some (.inl [(2, 6, 1)]), [], [], [])], [], [], 0)
set_option maxRecDepth 100000 in
theorem S_1566 : aSpec wd ct_1566 := bChk_ok wx_ok btX12_songLong (nds := []) (fk := []) (rk := (1, [])) (sp := 0) (fuel := 3000) (by decide +kernel) lk_n odX12_songLong
def ct_1567 : aCt := (mX12_boxLong, [.inr (.inl [196]), .inl [(5, 5, 1)]], ([((199, 0), [(2, 4, 1)]), ((199, 4), [(2, 2, 1)]), ((199, 7), [(6, 8, 1)])], []), [(some (.inl [(2, 6, 1)]), [], [], [])], [], [], 1)
set_option maxRecDepth 100000 in
theorem S_1567 : aSpec wd ct_1567 := bChk_ok wx_ok btX12_boxLong (nds := []) (fk := [7]) (rk := (1, [])) (sp := 0) (fuel := 3000) (by decide +kernel) (lk_c ml_12_265 S_1565 (lk_c ml_12_265 S_1566 (lk_c ml_12_262 S_1564 lk_n))) odX12_boxLong
def ct_1568 : aCt := (mX12_ofBox, [.inr (.inl [196]), .inl [(6, 6, 1)], .inl [(1, 1, 1)]], ([((199, 0), [(2, 4, 1)]), ((199, 4), [(2, 2, 1)]), ((199, 7), [(7, 8, 1)])], []), [(some (.inl [(0, 1, 1)]), [], [], [])], [], [], 0)
set_option maxRecDepth 100000 in
theorem S_1568 : aSpec wd ct_1568 := bChk_ok wx_ok btX12_ofBox (nds := []) (fk := []) (rk := (1, [])) (sp := 0) (fuel := 3000) (by decide +kernel) lk_n odX12_ofBox
def ct_1569 : aCt := (mX12_songLong, [.inr (.inl [196]), .inl [(0, 0, 1)]], ([((199, 0), [(2, 4, 1)]), ((199, 4), [(2, 2, 1)]), ((199, 7), [(7, 8, 1)])], []), [(some (.inl [(2, 6, 1)]), [], [], [])], [], [], 0)
set_option maxRecDepth 100000 in
theorem S_1569 : aSpec wd ct_1569 := bChk_ok wx_ok btX12_songLong (nds := []) (fk := []) (rk := (1, [])) (sp := 0) (fuel := 3000) (by decide +kernel) lk_n odX12_songLong
def ct_1570 : aCt := (mX12_songLong, [.inr (.inl [196]), .inl [(1, 1, 1)]], ([((199, 0), [(2, 4, 1)]), ((199, 4), [(2, 2, 1)]), ((199, 7), [(7, 8, 1)])], []), [(some (.inl [(2, 6, 1)]), [], [], [])], [], [], 0)
set_option maxRecDepth 100000 in
theorem S_1570 : aSpec wd ct_1570 := bChk_ok wx_ok btX12_songLong (nds := []) (fk := []) (rk := (1, [])) (sp := 0) (fuel := 3000) (by decide +kernel) lk_n odX12_songLong
def ct_1571 : aCt := (mX12_boxLong, [.inr (.inl [196]), .inl [(6, 6, 1)]], ([((199, 0), [(2, 4, 1)]), ((199, 4), [(2, 2, 1)]), ((199, 7), [(7, 8, 1)])], []), [(some (.inl [(2, 6, 1)]), [], [], [])], [], [], 1)
set_option maxRecDepth 100000 in
theorem S_1571 : aSpec wd ct_1571 := bChk_ok wx_ok btX12_boxLong (nds := []) (fk := [7]) (rk := (1, [])) (sp := 0) (fuel := 3000) (by decide +kernel) (lk_c ml_12_265 S_1569 (lk_c ml_12_265 S_1570 (lk_c ml_12_262 S_1568 lk_n))) odX12_boxLong
def ct_1572 : aCt := (mX12_ofBox, [.inr (.inl [196]), .inl [(7, 7, 1)], .inl [(1, 1, 1)]], ([((199, 0), [(2, 4, 1)]), ((199, 4), [(2, 2, 1)]), ((199, 7), [(8, 8, 1)])], []), [(some (.inl [(0, 1, 1)]), [], [], [])], [], [], 0)
set_option maxRecDepth 100000 in
theorem S_1572 : aSpec wd ct_1572 := bChk_ok wx_ok btX12_ofBox (nds := []) (fk := []) (rk := (1, [])) (sp := 0) (fuel := 3000) (by decide +kernel) lk_n odX12_ofBox
def ct_1573 : aCt := (mX12_songLong, [.inr (.inl [196]), .inl [(0, 0, 1)]], ([((199, 0), [(2, 4, 1)]), ((199, 4), [(2, 2, 1)]), ((199, 7), [(8, 8, 1)])], []), [(some (.inl [(2, 6, 1)]), [], [], [])], [], [], 0)
set_option maxRecDepth 100000 in
theorem S_1573 : aSpec wd ct_1573 := bChk_ok wx_ok btX12_songLong (nds := []) (fk := []) (rk := (1, [])) (sp := 0) (fuel := 3000) (by decide +kernel) lk_n odX12_songLong
def ct_1574 : aCt := (mX12_songLong, [.inr (.inl [196]), .inl [(1, 1, 1)]], ([((199, 0), [(2, 4, 1)]), ((199, 4), [(2, 2, 1)]), ((199, 7), [(8, 8, 1)])], []), [(some (.inl [(2, 6, 1)]), [], [], [])], [], [], 0)
set_option maxRecDepth 100000 in
theorem S_1574 : aSpec wd ct_1574 := bChk_ok wx_ok btX12_songLong (nds := []) (fk := []) (rk := (1, [])) (sp := 0) (fuel := 3000) (by decide +kernel) lk_n odX12_songLong
def ct_1575 : aCt := (mX12_boxLong, [.inr (.inl [196]), .inl [(7, 7, 1)]], ([((199, 0), [(2, 4, 1)]), ((199, 4), [(2, 2, 1)]), ((199, 7), [(8, 8, 1)])], []), [(some (.inl [(2, 6, 1)]), [], [], [])], [], [], 1)
set_option maxRecDepth 100000 in
theorem S_1575 : aSpec wd ct_1575 := bChk_ok wx_ok btX12_boxLong (nds := []) (fk := [7]) (rk := (1, [])) (sp := 0) (fuel := 3000) (by decide +kernel) (lk_c ml_12_265 S_1573 (lk_c ml_12_265 S_1574 (lk_c ml_12_262 S_1572 lk_n))) odX12_boxLong
def sl_1086 : (Nat × Nat) × aI := (((nat_lit 199), (nat_lit 4)), [((.ofNat (nat_lit 2)), (.ofNat (nat_lit 2)), (nat_lit 1))])
def ct_1576 : aCt := (mX12_decade, [.inr (.inl [196]), .inl aTop, .inl aTop], ([((199, 4), [(2, 2, 1)])], []), [(some (.inl aTop), [], [((196, 11), [(0, 0, 1)]), ((196, 14), [(1, 1, 1)]), ((199, 0), [(2, 4, 1)])], []), (some (.inl [(-1, -1, 1)]), [], [((196, 11), [(1, 2, 1)])], [])], [(196, 0, 1), (196, 11, 12)], [], 4)
set_option maxRecDepth 100000 in
theorem S_1576 : aSpec wd ct_1576 := bChk_ok wx_ok btX12_decade (nds := [((nat_lit 52), [lcn_306, lcn_280, lcn_281, lcn_1081, lcn_88, lcn_1016], [], [sl_632, sl_1002, sl_633, sl_1086], [], (759, [(4, -10)])), ((nat_lit 61), [lcn_306, lcn_280, lcn_1083, lcn_1081, lcn_88, lcn_1014, lcn_231], [], [sl_632, sl_1002, sl_633, sl_1086], [], (758, [(4, -10)])), ((nat_lit 61), [lcn_306, lcn_280, lcn_1083, lcn_1081, lcn_88, lcn_1014, lcn_1033, lcn_1084, lcn_1085], [], [sl_632, sl_1002, sl_633, sl_1086, sl_1031], [], (757, [(4, -10)])), ((nat_lit 61), [lcn_306, lcn_280, lcn_1083, lcn_1081, lcn_88, lcn_1014, lcn_1035, lcn_1084, lcn_1085], [], [sl_632, sl_1002, sl_633, sl_1086, sl_1065], [], (756, [(4, -10)])), ((nat_lit 61), [lcn_306, lcn_280, lcn_1083, lcn_1081, lcn_88, lcn_1014, lcn_1037, lcn_1084, lcn_1085], [], [sl_632, sl_1002, sl_633, sl_1086, sl_1064], [], (755, [(4, -10)])), ((nat_lit 61), [lcn_306, lcn_280, lcn_1083, lcn_1081, lcn_88, lcn_1014, lcn_1039, lcn_1084, lcn_1085], [], [sl_632, sl_1002, sl_633, sl_1086, sl_1063], [], (754, [(4, -10)])), ((nat_lit 61), [lcn_306, lcn_280, lcn_1083, lcn_1081, lcn_88, lcn_1014, lcn_1041, lcn_1084, lcn_1085], [], [sl_632, sl_1002, sl_633, sl_1086, sl_1062], [], (753, [(4, -10)])), ((nat_lit 61), [lcn_306, lcn_280, lcn_1083, lcn_1081, lcn_88, lcn_1014, lcn_1043, lcn_1084, lcn_1085], [], [sl_632, sl_1002, sl_633, sl_1086, sl_1061], [], (752, [(4, -10)])), ((nat_lit 61), [lcn_306, lcn_280, lcn_1083, lcn_1081, lcn_88, lcn_1014, lcn_1045, lcn_1084, lcn_1085], [], [sl_632, sl_1002, sl_633, sl_1086, sl_1060], [], (751, [(4, -10)])), ((nat_lit 61), [lcn_306, lcn_280, lcn_1083, lcn_1081, lcn_88, lcn_1014, lcn_1047, lcn_1084, lcn_1085], [], [sl_632, sl_1002, sl_633, sl_1086, sl_1059], [], (750, [(4, -10)]))]) (fk := []) (rk := (760, [])) (sp := 2310346608841064448) (fuel := 3000) (by decide +kernel) (lk_c ml_12_167 S_651 (lk_c ml_12_284 S_1575 (lk_c ml_12_284 S_1571 (lk_c ml_12_284 S_1567 (lk_c ml_12_284 S_1563 (lk_c ml_12_284 S_1559 (lk_c ml_12_284 S_1555 (lk_c ml_12_284 S_1551 (lk_c ml_12_284 S_1547 (lk_c ml_12_170 S_1112 (lk_c ml_12_170 S_653 (lk_c ml_12_262 S_1572 (lk_c ml_12_262 S_1568 (lk_c ml_12_262 S_1564 (lk_c ml_12_262 S_1560 (lk_c ml_12_262 S_1556 (lk_c ml_12_262 S_1552 (lk_c ml_12_262 S_1548 (lk_c ml_12_262 S_1544 (lk_c ml_12_291 S_1155 (lk_c ml_12_149 S_1518 (lk_c ml_12_149 S_678 lk_n)))))))))))))))))))))) odX12_decade
def ct_1577 : aCt := (mX12_ofBox, [.inr (.inl [196]), .inl [(0, 0, 1)], .inl [(1, 1, 1)]], ([((199, 0), [(2, 4, 1)]), ((199, 4), [(3, 3, 1)]), ((199, 7), [(1, 8, 1)])], []), [(some (.inl [(0, 2, 1)]), [], [], [])], [], [], 0)
set_option maxRecDepth 100000 in
theorem S_1577 : aSpec wd ct_1577 := bChk_ok wx_ok btX12_ofBox (nds := []) (fk := []) (rk := (1, [])) (sp := 0) (fuel := 3000) (by decide +kernel) lk_n odX12_ofBox
def ct_1578 : aCt := (mX12_songLong, [.inr (.inl [196]), .inl [(0, 0, 1)]], ([((199, 0), [(2, 4, 1)]), ((199, 4), [(3, 3, 1)]), ((199, 7), [(1, 8, 1)])], []), [(some (.inl [(2, 6, 1)]), [], [], [])], [], [], 0)
set_option maxRecDepth 100000 in
theorem S_1578 : aSpec wd ct_1578 := bChk_ok wx_ok btX12_songLong (nds := []) (fk := []) (rk := (1, [])) (sp := 0) (fuel := 3000) (by decide +kernel) lk_n odX12_songLong
def ct_1579 : aCt := (mX12_songLong, [.inr (.inl [196]), .inl [(1, 1, 1)]], ([((199, 0), [(2, 4, 1)]), ((199, 4), [(3, 3, 1)]), ((199, 7), [(1, 8, 1)])], []), [(some (.inl [(2, 6, 1)]), [], [], [])], [], [], 0)
set_option maxRecDepth 100000 in
theorem S_1579 : aSpec wd ct_1579 := bChk_ok wx_ok btX12_songLong (nds := []) (fk := []) (rk := (1, [])) (sp := 0) (fuel := 3000) (by decide +kernel) lk_n odX12_songLong
def ct_1580 : aCt := (mX12_songLong, [.inr (.inl [196]), .inl [(2, 2, 1)]], ([((199, 0), [(2, 4, 1)]), ((199, 4), [(3, 3, 1)]), ((199, 7), [(1, 8, 1)])], []), [(some (.inl [(2, 6, 1)]), [], [], [])], [], [], 0)
set_option maxRecDepth 100000 in
theorem S_1580 : aSpec wd ct_1580 := bChk_ok wx_ok btX12_songLong (nds := []) (fk := []) (rk := (1, [])) (sp := 0) (fuel := 3000) (by decide +kernel) lk_n odX12_songLong
def ct_1581 : aCt := (mX12_boxLong, [.inr (.inl [196]), .inl [(0, 0, 1)]], ([((199, 0), [(2, 4, 1)]), ((199, 4), [(3, 3, 1)]), ((199, 7), [(1, 8, 1)])], []), [(some (.inl [(2, 6, 1)]), [], [], [])], [], [], 1)
set_option maxRecDepth 100000 in
theorem S_1581 : aSpec wd ct_1581 := bChk_ok wx_ok btX12_boxLong (nds := []) (fk := [7]) (rk := (1, [])) (sp := 0) (fuel := 3000) (by decide +kernel) (lk_c ml_12_265 S_1578 (lk_c ml_12_265 S_1579 (lk_c ml_12_265 S_1580 (lk_c ml_12_262 S_1577 lk_n)))) odX12_boxLong
def ct_1582 : aCt := (mX12_ofBox, [.inr (.inl [196]), .inl [(1, 1, 1)], .inl [(1, 1, 1)]], ([((199, 0), [(2, 4, 1)]), ((199, 4), [(3, 3, 1)]), ((199, 7), [(2, 8, 1)])], []), [(some (.inl [(0, 2, 1)]), [], [], [])], [], [], 0)
set_option maxRecDepth 100000 in
theorem S_1582 : aSpec wd ct_1582 := bChk_ok wx_ok btX12_ofBox (nds := []) (fk := []) (rk := (1, [])) (sp := 0) (fuel := 3000) (by decide +kernel) lk_n odX12_ofBox
def ct_1583 : aCt := (mX12_songLong, [.inr (.inl [196]), .inl [(0, 0, 1)]], ([((199, 0), [(2, 4, 1)]), ((199, 4), [(3, 3, 1)]), ((199, 7), [(2, 8, 1)])], []), [(some (.inl [(2, 6, 1)]), [], [], [])], [], [], 0)
set_option maxRecDepth 100000 in
theorem S_1583 : aSpec wd ct_1583 := bChk_ok wx_ok btX12_songLong (nds := []) (fk := []) (rk := (1, [])) (sp := 0) (fuel := 3000) (by decide +kernel) lk_n odX12_songLong
def ct_1584 : aCt := (mX12_songLong, [.inr (.inl [196]), .inl [(1, 1, 1)]], ([((199, 0), [(2, 4, 1)]), ((199, 4), [(3, 3, 1)]), ((199, 7), [(2, 8, 1)])], []), [(some (.inl [(2, 6, 1)]), [], [], [])], [], [], 0)
set_option maxRecDepth 100000 in
theorem S_1584 : aSpec wd ct_1584 := bChk_ok wx_ok btX12_songLong (nds := []) (fk := []) (rk := (1, [])) (sp := 0) (fuel := 3000) (by decide +kernel) lk_n odX12_songLong
def ct_1585 : aCt := (mX12_songLong, [.inr (.inl [196]), .inl [(2, 2, 1)]], ([((199, 0), [(2, 4, 1)]), ((199, 4), [(3, 3, 1)]), ((199, 7), [(2, 8, 1)])], []), [(some (.inl [(2, 6, 1)]), [], [], [])], [], [], 0)
set_option maxRecDepth 100000 in
theorem S_1585 : aSpec wd ct_1585 := bChk_ok wx_ok btX12_songLong (nds := []) (fk := []) (rk := (1, [])) (sp := 0) (fuel := 3000) (by decide +kernel) lk_n odX12_songLong
def ct_1586 : aCt := (mX12_boxLong, [.inr (.inl [196]), .inl [(1, 1, 1)]], ([((199, 0), [(2, 4, 1)]), ((199, 4), [(3, 3, 1)]), ((199, 7), [(2, 8, 1)])], []), [(some (.inl [(2, 6, 1)]), [], [], [])], [], [], 1)
set_option maxRecDepth 100000 in
theorem S_1586 : aSpec wd ct_1586 := bChk_ok wx_ok btX12_boxLong (nds := []) (fk := [7]) (rk := (1, [])) (sp := 0) (fuel := 3000) (by decide +kernel) (lk_c ml_12_265 S_1583 (lk_c ml_12_265 S_1584 (lk_c ml_12_265 S_1585 (lk_c ml_12_262 S_1582 lk_n)))) odX12_boxLong
def ct_1587 : aCt := (mX12_ofBox, [.inr (.inl [196]), .inl [(2, 2, 1)], .inl [(1, 1, 1)]], ([((199, 0), [(2, 4, 1)]), ((199, 4), [(3, 3, 1)]), ((199, 7), [(3, 8, 1)])], []), [(some (.inl [(0, 2, 1)]), [], [], [])], [], [], 0)
set_option maxRecDepth 100000 in
theorem S_1587 : aSpec wd ct_1587 := bChk_ok wx_ok btX12_ofBox (nds := []) (fk := []) (rk := (1, [])) (sp := 0) (fuel := 3000) (by decide +kernel) lk_n odX12_ofBox
def ct_1588 : aCt := (mX12_songLong, [.inr (.inl [196]), .inl [(0, 0, 1)]], ([((199, 0), [(2, 4, 1)]), ((199, 4), [(3, 3, 1)]), ((199, 7), [(3, 8, 1)])], []), [(some (.inl [(2, 6, 1)]), [], [], [])], [], [], 0)
set_option maxRecDepth 100000 in
theorem S_1588 : aSpec wd ct_1588 := bChk_ok wx_ok btX12_songLong (nds := []) (fk := []) (rk := (1, [])) (sp := 0) (fuel := 3000) (by decide +kernel) lk_n odX12_songLong
def ct_1589 : aCt := (mX12_songLong, [.inr (.inl [196]), .inl [(1, 1, 1)]], ([((199, 0), [(2, 4, 1)]), ((199, 4), [(3, 3, 1)]), ((199, 7), [(3, 8, 1)])], []), [(some (.inl [(2, 6, 1)]), [], [], [])], [], [], 0)
set_option maxRecDepth 100000 in
theorem S_1589 : aSpec wd ct_1589 := bChk_ok wx_ok btX12_songLong (nds := []) (fk := []) (rk := (1, [])) (sp := 0) (fuel := 3000) (by decide +kernel) lk_n odX12_songLong
def ct_1590 : aCt := (mX12_songLong, [.inr (.inl [196]), .inl [(2, 2, 1)]], ([((199, 0), [(2, 4, 1)]), ((199, 4), [(3, 3, 1)]), ((199, 7), [(3, 8, 1)])], []), [(some (.inl [(2, 6, 1)]), [], [], [])], [], [], 0)
set_option maxRecDepth 100000 in
theorem S_1590 : aSpec wd ct_1590 := bChk_ok wx_ok btX12_songLong (nds := []) (fk := []) (rk := (1, [])) (sp := 0) (fuel := 3000) (by decide +kernel) lk_n odX12_songLong
def ct_1591 : aCt := (mX12_boxLong, [.inr (.inl [196]), .inl [(2, 2, 1)]], ([((199, 0), [(2, 4, 1)]), ((199, 4), [(3, 3, 1)]), ((199, 7), [(3, 8, 1)])], []), [(some (.inl [(2, 6, 1)]), [], [], [])], [], [], 1)
set_option maxRecDepth 100000 in
theorem S_1591 : aSpec wd ct_1591 := bChk_ok wx_ok btX12_boxLong (nds := []) (fk := [7]) (rk := (1, [])) (sp := 0) (fuel := 3000) (by decide +kernel) (lk_c ml_12_265 S_1588 (lk_c ml_12_265 S_1589 (lk_c ml_12_265 S_1590 (lk_c ml_12_262 S_1587 lk_n)))) odX12_boxLong
def ct_1592 : aCt := (mX12_ofBox, [.inr (.inl [196]), .inl [(3, 3, 1)], .inl [(1, 1, 1)]], ([((199, 0), [(2, 4, 1)]), ((199, 4), [(3, 3, 1)]), ((199, 7), [(4, 8, 1)])], []), [(some (.inl [(0, 2, 1)]), [], [], [])], [], [], 0)
set_option maxRecDepth 100000 in
theorem S_1592 : aSpec wd ct_1592 := bChk_ok wx_ok btX12_ofBox (nds := []) (fk := []) (rk := (1, [])) (sp := 0) (fuel := 3000) (by decide +kernel) lk_n odX12_ofBox
def ct_1593 : aCt := (mX12_songLong, [.inr (.inl [196]), .inl [(0, 0, 1)]], ([((199, 0), [(2, 4, 1)]), ((199, 4), [(3, 3, 1)]), ((199, 7), [(4, 8, 1)])], []), [(some (.inl [(2, 6, 1)]), [], [], [])], [], [], 0)
set_option maxRecDepth 100000 in
theorem S_1593 : aSpec wd ct_1593 := bChk_ok wx_ok btX12_songLong (nds := []) (fk := []) (rk := (1, [])) (sp := 0) (fuel := 3000) (by decide +kernel) lk_n odX12_songLong
def ct_1594 : aCt := (mX12_songLong, [.inr (.inl [196]), .inl [(1, 1, 1)]], ([((199, 0), [(2, 4, 1)]), ((199, 4), [(3, 3, 1)]), ((199, 7), [(4, 8, 1)])], []), [(some (.inl [(2, 6, 1)]), [], [], [])], [], [], 0)
set_option maxRecDepth 100000 in
theorem S_1594 : aSpec wd ct_1594 := bChk_ok wx_ok btX12_songLong (nds := []) (fk := []) (rk := (1, [])) (sp := 0) (fuel := 3000) (by decide +kernel) lk_n odX12_songLong
def ct_1595 : aCt := (mX12_songLong, [.inr (.inl [196]), .inl [(2, 2, 1)]], ([((199, 0), [(2, 4, 1)]), ((199, 4), [(3, 3, 1)]), ((199, 7), [(4, 8, 1)])], []), [(some (.inl [(2, 6, 1)]), [], [], [])], [], [], 0)
set_option maxRecDepth 100000 in
theorem S_1595 : aSpec wd ct_1595 := bChk_ok wx_ok btX12_songLong (nds := []) (fk := []) (rk := (1, [])) (sp := 0) (fuel := 3000) (by decide +kernel) lk_n odX12_songLong
def ct_1596 : aCt := (mX12_boxLong, [.inr (.inl [196]), .inl [(3, 3, 1)]], ([((199, 0), [(2, 4, 1)]), ((199, 4), [(3, 3, 1)]), ((199, 7), [(4, 8, 1)])], []), [(some (.inl [(2, 6, 1)]), [], [], [])], [], [], 1)
set_option maxRecDepth 100000 in
theorem S_1596 : aSpec wd ct_1596 := bChk_ok wx_ok btX12_boxLong (nds := []) (fk := [7]) (rk := (1, [])) (sp := 0) (fuel := 3000) (by decide +kernel) (lk_c ml_12_265 S_1593 (lk_c ml_12_265 S_1594 (lk_c ml_12_265 S_1595 (lk_c ml_12_262 S_1592 lk_n)))) odX12_boxLong
def ct_1597 : aCt := (mX12_ofBox, [.inr (.inl [196]), .inl [(4, 4, 1)], .inl [(1, 1, 1)]], ([((199, 0), [(2, 4, 1)]), ((199, 4), [(3, 3, 1)]), ((199, 7), [(5, 8, 1)])], []), [(some (.inl [(0, 2, 1)]), [], [], [])], [], [], 0)
set_option maxRecDepth 100000 in
theorem S_1597 : aSpec wd ct_1597 := bChk_ok wx_ok btX12_ofBox (nds := []) (fk := []) (rk := (1, [])) (sp := 0) (fuel := 3000) (by decide +kernel) lk_n odX12_ofBox
def ct_1598 : aCt := (mX12_songLong, [.inr (.inl [196]), .inl [(0, 0, 1)]], ([((199, 0), [(2, 4, 1)]), ((199, 4), [(3, 3, 1)]), ((199, 7), [(5, 8, 1)])], []), [(some (.inl [(2, 6, 1)]), [], [], [])], [], [], 0)
set_option maxRecDepth 100000 in
theorem S_1598 : aSpec wd ct_1598 := bChk_ok wx_ok btX12_songLong (nds := []) (fk := []) (rk := (1, [])) (sp := 0) (fuel := 3000) (by decide +kernel) lk_n odX12_songLong
def ct_1599 : aCt := (mX12_songLong, [.inr (.inl [196]), .inl [(1, 1, 1)]], ([((199, 0), [(2, 4, 1)]), ((199, 4), [(3, 3, 1)]), ((199, 7), [(5, 8, 1)])], []), [(some (.inl [(2, 6, 1)]), [], [], [])], [], [], 0)
set_option maxRecDepth 100000 in
theorem S_1599 : aSpec wd ct_1599 := bChk_ok wx_ok btX12_songLong (nds := []) (fk := []) (rk := (1, [])) (sp := 0) (fuel := 3000) (by decide +kernel) lk_n odX12_songLong
def ct_1600 : aCt := (mX12_songLong, [.inr (.inl [196]), .inl [(2, 2, 1)]], ([((199, 0), [(2, 4, 1)]), ((199, 4), [(3, 3, 1)]), ((199, 7), [(5, 8, 1)])], []), [(some (.inl [(2, 6, 1)]), [], [], [])], [], [], 0)
set_option maxRecDepth 100000 in
theorem S_1600 : aSpec wd ct_1600 := bChk_ok wx_ok btX12_songLong (nds := []) (fk := []) (rk := (1, [])) (sp := 0) (fuel := 3000) (by decide +kernel) lk_n odX12_songLong
def ct_1601 : aCt := (mX12_boxLong, [.inr (.inl [196]), .inl [(4, 4, 1)]], ([((199, 0), [(2, 4, 1)]), ((199, 4), [(3, 3, 1)]), ((199, 7), [(5, 8, 1)])], []), [(some (.inl [(2, 6, 1)]), [], [], [])], [], [], 1)
set_option maxRecDepth 100000 in
theorem S_1601 : aSpec wd ct_1601 := bChk_ok wx_ok btX12_boxLong (nds := []) (fk := [7]) (rk := (1, [])) (sp := 0) (fuel := 3000) (by decide +kernel) (lk_c ml_12_265 S_1598 (lk_c ml_12_265 S_1599 (lk_c ml_12_265 S_1600 (lk_c ml_12_262 S_1597 lk_n)))) odX12_boxLong
def ct_1602 : aCt := (mX12_ofBox, [.inr (.inl [196]), .inl [(5, 5, 1)], .inl [(1, 1, 1)]], ([((199, 0), [(2, 4, 1)]), ((199, 4), [(3, 3, 1)]), ((199, 7), [(6, 8, 1)])], []), [(some (.inl [(0, 2, 1)]), [], [], [])], [], [], 0)
set_option maxRecDepth 100000 in
theorem S_1602 : aSpec wd ct_1602 := bChk_ok wx_ok btX12_ofBox (nds := []) (fk := []) (rk := (1, [])) (sp := 0) (fuel := 3000) (by decide +kernel) lk_n odX12_ofBox
def ct_1603 : aCt := (mX12_songLong, [.inr (.inl [196]), .inl [(0, 0, 1)]], ([((199, 0), [(2, 4, 1)]), ((199, 4), [(3, 3, 1)]), ((199, 7), [(6, 8, 1)])], []), [(some (.inl [(2, 6, 1)]), [], [], [])], [], [], 0)
set_option maxRecDepth 100000 in
theorem S_1603 : aSpec wd ct_1603 := bChk_ok wx_ok btX12_songLong (nds := []) (fk := []) (rk := (1, [])) (sp := 0) (fuel := 3000) (by decide +kernel) lk_n odX12_songLong
def ct_1604 : aCt := (mX12_songLong, [.inr (.inl [196]), .inl [(1, 1, 1)]], ([((199, 0), [(2, 4, 1)]), ((199, 4), [(3, 3, 1)]), ((199, 7), [(6, 8, 1)])], []), [(some (.inl [(2, 6, 1)]), [], [], [])], [], [], 0)
set_option maxRecDepth 100000 in
theorem S_1604 : aSpec wd ct_1604 := bChk_ok wx_ok btX12_songLong (nds := []) (fk := []) (rk := (1, [])) (sp := 0) (fuel := 3000) (by decide +kernel) lk_n odX12_songLong
def ct_1605 : aCt := (mX12_songLong, [.inr (.inl [196]), .inl [(2, 2, 1)]], ([((199, 0), [(2, 4, 1)]), ((199, 4), [(3, 3, 1)]), ((199, 7), [(6, 8, 1)])], []), [(some (.inl [(2, 6, 1)]), [], [], [])], [], [], 0)
set_option maxRecDepth 100000 in
theorem S_1605 : aSpec wd ct_1605 := bChk_ok wx_ok btX12_songLong (nds := []) (fk := []) (rk := (1, [])) (sp := 0) (fuel := 3000) (by decide +kernel) lk_n odX12_songLong
def ct_1606 : aCt := (mX12_boxLong, [.inr (.inl [196]), .inl [(5, 5, 1)]], ([((199, 0), [(2, 4, 1)]), ((199, 4), [(3, 3, 1)]), ((199, 7), [(6, 8, 1)])], []), [(some (.inl [(2, 6, 1)]), [], [], [])], [], [], 1)
set_option maxRecDepth 100000 in
theorem S_1606 : aSpec wd ct_1606 := bChk_ok wx_ok btX12_boxLong (nds := []) (fk := [7]) (rk := (1, [])) (sp := 0) (fuel := 3000) (by decide +kernel) (lk_c ml_12_265 S_1603 (lk_c ml_12_265 S_1604 (lk_c ml_12_265 S_1605 (lk_c ml_12_262 S_1602 lk_n)))) odX12_boxLong
def ct_1607 : aCt := (mX12_ofBox, [.inr (.inl [196]), .inl [(6, 6, 1)], .inl [(1, 1, 1)]], ([((199, 0), [(2, 4, 1)]), ((199, 4), [(3, 3, 1)]), ((199, 7), [(7, 8, 1)])], []), [(some (.inl [(0, 2, 1)]), [], [], [])], [], [], 0)
set_option maxRecDepth 100000 in
theorem S_1607 : aSpec wd ct_1607 := bChk_ok wx_ok btX12_ofBox (nds := []) (fk := []) (rk := (1, [])) (sp := 0) (fuel := 3000) (by decide +kernel) lk_n odX12_ofBox
def ct_1608 : aCt := (mX12_songLong, [.inr (.inl [196]), .inl [(0, 0, 1)]], ([((199, 0), [(2, 4, 1)]), ((199, 4), [(3, 3, 1)]), ((199, 7), [(7, 8, 1)])], []), [(some (.inl [(2, 6, 1)]), [], [], [])], [], [], 0)
set_option maxRecDepth 100000 in
theorem S_1608 : aSpec wd ct_1608 := bChk_ok wx_ok btX12_songLong (nds := []) (fk := []) (rk := (1, [])) (sp := 0) (fuel := 3000) (by decide +kernel) lk_n odX12_songLong
def ct_1609 : aCt := (mX12_songLong, [.inr (.inl [196]), .inl [(1, 1, 1)]], ([((199, 0), [(2, 4, 1)]), ((199, 4), [(3, 3, 1)]), ((199, 7), [(7, 8, 1)])], []), [(some (.inl [(2, 6, 1)]), [], [], [])], [], [], 0)
set_option maxRecDepth 100000 in
theorem S_1609 : aSpec wd ct_1609 := bChk_ok wx_ok btX12_songLong (nds := []) (fk := []) (rk := (1, [])) (sp := 0) (fuel := 3000) (by decide +kernel) lk_n odX12_songLong
def ct_1610 : aCt := (mX12_songLong, [.inr (.inl [196]), .inl [(2, 2, 1)]], ([((199, 0), [(2, 4, 1)]), ((199, 4), [(3, 3, 1)]), ((199, 7), [(7, 8, 1)])], []), [(some (.inl [(2, 6, 1)]), [], [], [])], [], [], 0)
set_option maxRecDepth 100000 in
theorem S_1610 : aSpec wd ct_1610 := bChk_ok wx_ok btX12_songLong (nds := []) (fk := []) (rk := (1, [])) (sp := 0) (fuel := 3000) (by decide +kernel) lk_n odX12_songLong
def ct_1611 : aCt := (mX12_boxLong, [.inr (.inl [196]), .inl [(6, 6, 1)]], ([((199, 0), [(2, 4, 1)]), ((199, 4), [(3, 3, 1)]), ((199, 7), [(7, 8, 1)])], []), [(some (.inl [(2, 6, 1)]), [], [], [])], [], [], 1)
set_option maxRecDepth 100000 in
theorem S_1611 : aSpec wd ct_1611 := bChk_ok wx_ok btX12_boxLong (nds := []) (fk := [7]) (rk := (1, [])) (sp := 0) (fuel := 3000) (by decide +kernel) (lk_c ml_12_265 S_1608 (lk_c ml_12_265 S_1609 (lk_c ml_12_265 S_1610 (lk_c ml_12_262 S_1607 lk_n)))) odX12_boxLong
def ct_1612 : aCt := (mX12_ofBox, [.inr (.inl [196]), .inl [(7, 7, 1)], .inl [(1, 1, 1)]], ([((199, 0), [(2, 4, 1)]), ((199, 4), [(3, 3, 1)]), ((199, 7), [(8, 8, 1)])], []), [(some (.inl [(0, 2, 1)]), [], [], [])], [], [], 0)
set_option maxRecDepth 100000 in
theorem S_1612 : aSpec wd ct_1612 := bChk_ok wx_ok btX12_ofBox (nds := []) (fk := []) (rk := (1, [])) (sp := 0) (fuel := 3000) (by decide +kernel) lk_n odX12_ofBox
def ct_1613 : aCt := (mX12_songLong, [.inr (.inl [196]), .inl [(0, 0, 1)]], ([((199, 0), [(2, 4, 1)]), ((199, 4), [(3, 3, 1)]), ((199, 7), [(8, 8, 1)])], []), [(some (.inl [(2, 6, 1)]), [], [], [])], [], [], 0)
set_option maxRecDepth 100000 in
theorem S_1613 : aSpec wd ct_1613 := bChk_ok wx_ok btX12_songLong (nds := []) (fk := []) (rk := (1, [])) (sp := 0) (fuel := 3000) (by decide +kernel) lk_n odX12_songLong
def ct_1614 : aCt := (mX12_songLong, [.inr (.inl [196]), .inl [(1, 1, 1)]], ([((199, 0), [(2, 4, 1)]), ((199, 4), [(3, 3, 1)]), ((199, 7), [(8, 8, 1)])], []), [(some (.inl [(2, 6, 1)]), [], [], [])], [], [], 0)
set_option maxRecDepth 100000 in
theorem S_1614 : aSpec wd ct_1614 := bChk_ok wx_ok btX12_songLong (nds := []) (fk := []) (rk := (1, [])) (sp := 0) (fuel := 3000) (by decide +kernel) lk_n odX12_songLong
def ct_1615 : aCt := (mX12_songLong, [.inr (.inl [196]), .inl [(2, 2, 1)]], ([((199, 0), [(2, 4, 1)]), ((199, 4), [(3, 3, 1)]), ((199, 7), [(8, 8, 1)])], []), [(some (.inl [(2, 6, 1)]), [], [], [])], [], [], 0)
set_option maxRecDepth 100000 in
theorem S_1615 : aSpec wd ct_1615 := bChk_ok wx_ok btX12_songLong (nds := []) (fk := []) (rk := (1, [])) (sp := 0) (fuel := 3000) (by decide +kernel) lk_n odX12_songLong
def ct_1616 : aCt := (mX12_boxLong, [.inr (.inl [196]), .inl [(7, 7, 1)]], ([((199, 0), [(2, 4, 1)]), ((199, 4), [(3, 3, 1)]), ((199, 7), [(8, 8, 1)])], []), [(some (.inl [(2, 6, 1)]), [], [], [])], [], [], 1)
set_option maxRecDepth 100000 in
theorem S_1616 : aSpec wd ct_1616 := bChk_ok wx_ok btX12_boxLong (nds := []) (fk := [7]) (rk := (1, [])) (sp := 0) (fuel := 3000) (by decide +kernel) (lk_c ml_12_265 S_1613 (lk_c ml_12_265 S_1614 (lk_c ml_12_265 S_1615 (lk_c ml_12_262 S_1612 lk_n)))) odX12_boxLong
end Pk0
section Pk1
def sl_1087 : (Nat × Nat) × aI := (((nat_lit 199), (nat_lit 4)), [((.ofNat (nat_lit 3)), (.ofNat (nat_lit 3)), (nat_lit 1))])
def ct_1617 : aCt := (mX12_decade, [.inr (.inl [196]), .inl aTop, .inl aTop], ([((199, 4), [(3, 3, 1)])], []), [(some (.inl aTop), [], [((196, 11), [(0, 0, 1)]), ((196, 14), [(1, 1, 1)]), ((199, 0), [(2, 4, 1)])], []), (some (.inl [(-1, -1, 1)]), [], [((196, 11), [(1, 2, 1)])], [])], [(196, 0, 1), (196, 11, 12)], [], 4)
set_option maxRecDepth 100000 in
theorem S_1617 : aSpec wd ct_1617 := bChk_ok wx_ok btX12_decade (nds := [((nat_lit 52), [lcn_306, lcn_280, lcn_281, lcn_1081, lcn_88, lcn_1016], [], [sl_632, sl_1002, sl_633, sl_1087], [], (759, [(4, -10)])), ((nat_lit 61), [lcn_306, lcn_280, lcn_1083, lcn_1081, lcn_88, lcn_1014, lcn_231], [], [sl_632, sl_1002, sl_633, sl_1087], [], (758, [(4, -10)])), ((nat_lit 61), [lcn_306, lcn_280, lcn_1083, lcn_1081, lcn_88, lcn_1014, lcn_1033, lcn_1084, lcn_1085], [], [sl_632, sl_1002, sl_633, sl_1087, sl_1031], [], (757, [(4, -10)])), ((nat_lit 61), [lcn_306, lcn_280, lcn_1083, lcn_1081, lcn_88, lcn_1014, lcn_1035, lcn_1084, lcn_1085], [], [sl_632, sl_1002, sl_633, sl_1087, sl_1065], [], (756, [(4, -10)])), ((nat_lit 61), [lcn_306, lcn_280, lcn_1083, lcn_1081, lcn_88, lcn_1014, lcn_1037, lcn_1084, lcn_1085], [], [sl_632, sl_1002, sl_633, sl_1087, sl_1064], [], (755, [(4, -10)])), ((nat_lit 61), [lcn_306, lcn_280, lcn_1083, lcn_1081, lcn_88, lcn_1014, lcn_1039, lcn_1084, lcn_1085], [], [sl_632, sl_1002, sl_633, sl_1087, sl_1063], [], (754, [(4, -10)])), ((nat_lit 61), [lcn_306, lcn_280, lcn_1083, lcn_1081, lcn_88, lcn_1014, lcn_1041, lcn_1084, lcn_1085], [], [sl_632, sl_1002, sl_633, sl_1087, sl_1062], [], (753, [(4, -10)])), ((nat_lit 61), [lcn_306, lcn_280, lcn_1083, lcn_1081, lcn_88, lcn_1014, lcn_1043, lcn_1084, lcn_1085], [], [sl_632, sl_1002, sl_633, sl_1087, sl_1061], [], (752, [(4, -10)])), ((nat_lit 61), [lcn_306, lcn_280, lcn_1083, lcn_1081, lcn_88, lcn_1014, lcn_1045, lcn_1084, lcn_1085], [], [sl_632, sl_1002, sl_633, sl_1087, sl_1060], [], (751, [(4, -10)])), ((nat_lit 61), [lcn_306, lcn_280, lcn_1083, lcn_1081, lcn_88, lcn_1014, lcn_1047, lcn_1084, lcn_1085], [], [sl_632, sl_1002, sl_633, sl_1087, sl_1059], [], (750, [(4, -10)]))]) (fk := []) (rk := (760, [])) (sp := 2310346608841064448) (fuel := 3000) (by decide +kernel) (lk_c ml_12_167 S_651 (lk_c ml_12_284 S_1616 (lk_c ml_12_284 S_1611 (lk_c ml_12_284 S_1606 (lk_c ml_12_284 S_1601 (lk_c ml_12_284 S_1596 (lk_c ml_12_284 S_1591 (lk_c ml_12_284 S_1586 (lk_c ml_12_284 S_1581 (lk_c ml_12_170 S_1112 (lk_c ml_12_170 S_653 (lk_c ml_12_262 S_1612 (lk_c ml_12_262 S_1607 (lk_c ml_12_262 S_1602 (lk_c ml_12_262 S_1597 (lk_c ml_12_262 S_1592 (lk_c ml_12_262 S_1587 (lk_c ml_12_262 S_1582 (lk_c ml_12_262 S_1577 (lk_c ml_12_291 S_1155 (lk_c ml_12_149 S_1518 (lk_c ml_12_149 S_678 lk_n)))))))))))))))))))))) odX12_decade
def ct_1618 : aCt := (mX12_ofBox, [.inr (.inl [196]), .inl [(0, 0, 1)], .inl [(1, 1, 1)]], ([((199, 0), [(2, 4, 1)]), ((199, 4), [(4, 4, 1)]), ((199, 7), [(1, 8, 1)])], []), [(some (.inl [(0, 3, 1)]), [], [], [])], [], [], 0)
set_option maxRecDepth 100000 in
theorem S_1618 : aSpec wd ct_1618 := bChk_ok wx_ok btX12_ofBox (nds := []) (fk := []) (rk := (1, [])) (sp := 0) (fuel := 3000) (by decide +kernel) lk_n odX12_ofBox
def ct_1619 : aCt := (mX12_songLong, [.inr (.inl [196]), .inl [(0, 0, 1)]], ([((199, 0), [(2, 4, 1)]), ((199, 4), [(4, 4, 1)]), ((199, 7), [(1, 8, 1)])], []), [(some (.inl [(2, 6, 1)]), [], [], [])], [], [], 0)
set_option maxRecDepth 100000 in
theorem S_1619 : aSpec wd ct_1619 := bChk_ok wx_ok btX12_songLong (nds := []) (fk := []) (rk := (1, [])) (sp := 0) (fuel := 3000) (by decide +kernel) lk_n odX12_songLong
def ct_1620 : aCt := (mX12_songLong, [.inr (.inl [196]), .inl [(1, 1, 1)]], ([((199, 0), [(2, 4, 1)]), ((199, 4), [(4, 4, 1)]), ((199, 7), [(1, 8, 1)])], []), [(some (.inl [(2, 6, 1)]), [], [], [])], [], [], 0)
set_option maxRecDepth 100000 in
theorem S_1620 : aSpec wd ct_1620 := bChk_ok wx_ok btX12_songLong (nds := []) (fk := []) (rk := (1, [])) (sp := 0) (fuel := 3000) (by decide +kernel) lk_n odX12_songLong
def ct_1621 : aCt := (mX12_songLong, [.inr (.inl [196]), .inl [(2, 2, 1)]], ([((199, 0), [(2, 4, 1)]), ((199, 4), [(4, 4, 1)]), ((199, 7), [(1, 8, 1)])], []), [(some (.inl [(2, 6, 1)]), [], [], [])], [], [], 0)
set_option maxRecDepth 100000 in
theorem S_1621 : aSpec wd ct_1621 := bChk_ok wx_ok btX12_songLong (nds := []) (fk := []) (rk := (1, [])) (sp := 0) (fuel := 3000) (by decide +kernel) lk_n odX12_songLong
def ct_1622 : aCt := (mX12_songLong, [.inr (.inl [196]), .inl [(3, 3, 1)]], ([((199, 0), [(2, 4, 1)]), ((199, 4), [(4, 4, 1)]), ((199, 7), [(1, 8, 1)])], []), [(some (.inl [(2, 6, 1)]), [], [], [])], [], [], 0)
set_option maxRecDepth 100000 in
theorem S_1622 : aSpec wd ct_1622 := bChk_ok wx_ok btX12_songLong (nds := []) (fk := []) (rk := (1, [])) (sp := 0) (fuel := 3000) (by decide +kernel) lk_n odX12_songLong
def ct_1623 : aCt := (mX12_boxLong, [.inr (.inl [196]), .inl [(0, 0, 1)]], ([((199, 0), [(2, 4, 1)]), ((199, 4), [(4, 4, 1)]), ((199, 7), [(1, 8, 1)])], []), [(some (.inl [(2, 6, 1)]), [], [], [])], [], [], 1)
set_option maxRecDepth 100000 in
theorem S_1623 : aSpec wd ct_1623 := bChk_ok wx_ok btX12_boxLong (nds := []) (fk := [7]) (rk := (1, [])) (sp := 0) (fuel := 3000) (by decide +kernel) (lk_c ml_12_265 S_1619 (lk_c ml_12_265 S_1620 (lk_c ml_12_265 S_1621 (lk_c ml_12_265 S_1622 (lk_c ml_12_262 S_1618 lk_n))))) odX12_boxLong
def ct_1624 : aCt := (mX12_ofBox, [.inr (.inl [196]), .inl [(1, 1, 1)], .inl [(1, 1, 1)]], ([((199, 0), [(2, 4, 1)]), ((199, 4), [(4, 4, 1)]), ((199, 7), [(2, 8, 1)])], []), [(some (.inl [(0, 3, 1)]), [], [], [])], [], [], 0)
set_option maxRecDepth 100000 in
theorem S_1624 : aSpec wd ct_1624 := bChk_ok wx_ok btX12_ofBox (nds := []) (fk := []) (rk := (1, [])) (sp := 0) (fuel := 3000) (by decide +kernel) lk_n odX12_ofBox
def ct_1625 : aCt := (mX12_songLong, [.inr (.inl [196]), .inl [(0, 0, 1)]], ([((199, 0), [(2, 4, 1)]), ((199, 4), [(4, 4, 1)]), ((199, 7), [(2, 8, 1)])], []), [(some (.inl [(2, 6, 1)]), [], [], [])], [], [], 0)
set_option maxRecDepth 100000 in
theorem S_1625 : aSpec wd ct_1625 := bChk_ok wx_ok btX12_songLong (nds := []) (fk := []) (rk := (1, [])) (sp := 0) (fuel := 3000) (by decide +kernel) lk_n odX12_songLong
def ct_1626 : aCt := (mX12_songLong, [.inr (.inl [196]), .inl [(1, 1, 1)]], ([((199, 0), [(2, 4, 1)]), ((199, 4), [(4, 4, 1)]), ((199, 7), [(2, 8, 1)])], []), [(some (.inl [(2, 6, 1)]), [], [], [])], [], [], 0)
set_option maxRecDepth 100000 in
theorem S_1626 : aSpec wd ct_1626 := bChk_ok wx_ok btX12_songLong (nds := []) (fk := []) (rk := (1, [])) (sp := 0) (fuel := 3000) (by decide +kernel) lk_n odX12_songLong
def ct_1627 : aCt := (mX12_songLong, [.inr (.inl [196]), .inl [(2, 2, 1)]], ([((199, 0), [(2, 4, 1)]), ((199, 4), [(4, 4, 1)]), ((199, 7), [(2, 8, 1)])], []), [(some (.inl [(2, 6, 1)]), [], [], [])], [], [], 0)
set_option maxRecDepth 100000 in
theorem S_1627 : aSpec wd ct_1627 := bChk_ok wx_ok btX12_songLong (nds := []) (fk := []) (rk := (1, [])) (sp := 0) (fuel := 3000) (by decide +kernel) lk_n odX12_songLong
def ct_1628 : aCt := (mX12_songLong, [.inr (.inl [196]), .inl [(3, 3, 1)]], ([((199, 0), [(2, 4, 1)]), ((199, 4), [(4, 4, 1)]), ((199, 7), [(2, 8, 1)])], []), [(some (.inl [(2, 6, 1)]), [], [], [])], [], [], 0)
set_option maxRecDepth 100000 in
theorem S_1628 : aSpec wd ct_1628 := bChk_ok wx_ok btX12_songLong (nds := []) (fk := []) (rk := (1, [])) (sp := 0) (fuel := 3000) (by decide +kernel) lk_n odX12_songLong
def ct_1629 : aCt := (mX12_boxLong, [.inr (.inl [196]), .inl [(1, 1, 1)]], ([((199, 0), [(2, 4, 1)]), ((199, 4), [(4, 4, 1)]), ((199, 7), [(2, 8, 1)])], []), [(some (.inl [(2, 6, 1)]), [], [], [])], [], [], 1)
set_option maxRecDepth 100000 in
theorem S_1629 : aSpec wd ct_1629 := bChk_ok wx_ok btX12_boxLong (nds := []) (fk := [7]) (rk := (1, [])) (sp := 0) (fuel := 3000) (by decide +kernel) (lk_c ml_12_265 S_1625 (lk_c ml_12_265 S_1626 (lk_c ml_12_265 S_1627 (lk_c ml_12_265 S_1628 (lk_c ml_12_262 S_1624 lk_n))))) odX12_boxLong
def ct_1630 : aCt := (mX12_ofBox, [.inr (.inl [196]), .inl [(2, 2, 1)], .inl [(1, 1, 1)]], ([((199, 0), [(2, 4, 1)]), ((199, 4), [(4, 4, 1)]), ((199, 7), [(3, 8, 1)])], []), [(some (.inl [(0, 3, 1)]), [], [], [])], [], [], 0)
set_option maxRecDepth 100000 in
theorem S_1630 : aSpec wd ct_1630 := bChk_ok wx_ok btX12_ofBox (nds := []) (fk := []) (rk := (1, [])) (sp := 0) (fuel := 3000) (by decide +kernel) lk_n odX12_ofBox
def ct_1631 : aCt := (mX12_songLong, [.inr (.inl [196]), .inl [(0, 0, 1)]], ([((199, 0), [(2, 4, 1)]), ((199, 4), [(4, 4, 1)]), ((199, 7), [(3, 8, 1)])], []), [(some (.inl [(2, 6, 1)]), [], [], [])], [], [], 0)
set_option maxRecDepth 100000 in
theorem S_1631 : aSpec wd ct_1631 := bChk_ok wx_ok btX12_songLong (nds := []) (fk := []) (rk := (1, [])) (sp := 0) (fuel := 3000) (by decide +kernel) lk_n odX12_songLong
def ct_1632 : aCt := (mX12_songLong, [.inr (.inl [196]), .inl [(1, 1, 1)]], ([((199, 0), [(2, 4, 1)]), ((199, 4), [(4, 4, 1)]), ((199, 7), [(3, 8, 1)])], []), [(some (.inl [(2, 6, 1)]), [], [], [])], [], [], 0)
set_option maxRecDepth 100000 in
theorem S_1632 : aSpec wd ct_1632 := bChk_ok wx_ok btX12_songLong (nds := []) (fk := []) (rk := (1, [])) (sp := 0) (fuel := 3000) (by decide +kernel) lk_n odX12_songLong
def ct_1633 : aCt := (mX12_songLong, [.inr (.inl [196]), .inl [(2, 2, 1)]], ([((199, 0), [(2, 4, 1)]), ((199, 4), [(4, 4, 1)]), ((199, 7), [(3, 8, 1)])], []), [(some (.inl [(2, 6, 1)]), [], [], [])], [], [], 0)
set_option maxRecDepth 100000 in
theorem S_1633 : aSpec wd ct_1633 := bChk_ok wx_ok btX12_songLong (nds := []) (fk := []) (rk := (1, [])) (sp := 0) (fuel := 3000) (by decide +kernel) lk_n odX12_songLong
def ct_1634 : aCt := (mX12_songLong, [.inr (.inl [196]), .inl [(3, 3, 1)]], ([((199, 0), [(2, 4, 1)]), ((199, 4), [(4, 4, 1)]), ((199, 7), [(3, 8, 1)])], []), [(some (.inl [(2, 6, 1)]), [], [], [])], [], [], 0)
set_option maxRecDepth 100000 in
theorem S_1634 : aSpec wd ct_1634 := bChk_ok wx_ok btX12_songLong (nds := []) (fk := []) (rk := (1, [])) (sp := 0) (fuel := 3000) (by decide +kernel) lk_n odX12_songLong
def ct_1635 : aCt := (mX12_boxLong, [.inr (.inl [196]), .inl [(2, 2, 1)]], ([((199, 0), [(2, 4, 1)]), ((199, 4), [(4, 4, 1)]), ((199, 7), [(3, 8, 1)])], []), [(some (.inl [(2, 6, 1)]), [], [], [])], [], [], 1)
set_option maxRecDepth 100000 in
theorem S_1635 : aSpec wd ct_1635 := bChk_ok wx_ok btX12_boxLong (nds := []) (fk := [7]) (rk := (1, [])) (sp := 0) (fuel := 3000) (by decide +kernel) (lk_c ml_12_265 S_1631 (lk_c ml_12_265 S_1632 (lk_c ml_12_265 S_1633 (lk_c ml_12_265 S_1634 (lk_c ml_12_262 S_1630 lk_n))))) odX12_boxLong
def ct_1636 : aCt := (mX12_ofBox, [.inr (.inl [196]), .inl [(3, 3, 1)], .inl [(1, 1, 1)]], ([((199, 0), [(2, 4, 1)]), ((199, 4), [(4, 4, 1)]), ((199, 7), [(4, 8, 1)])], []), [(some (.inl [(0, 3, 1)]), [], [], [])], [], [], 0)
set_option maxRecDepth 100000 in
theorem S_1636 : aSpec wd ct_1636 := bChk_ok wx_ok btX12_ofBox (nds := []) (fk := []) (rk := (1, [])) (sp := 0) (fuel := 3000) (by decide +kernel) lk_n odX12_ofBox
def ct_1637 : aCt := (mX12_songLong, [.inr (.inl [196]), .inl [(0, 0, 1)]], ([((199, 0), [(2, 4, 1)]), ((199, 4), [(4, 4, 1)]), ((199, 7), [(4, 8, 1)])], []), [(some (.inl [(2, 6, 1)]), [], [], [])], [], [], 0)
set_option maxRecDepth 100000 in
theorem S_1637 : aSpec wd ct_1637 := bChk_ok wx_ok btX12_songLong (nds := []) (fk := []) (rk := (1, [])) (sp := 0) (fuel := 3000) (by decide +kernel) lk_n odX12_songLong
def ct_1638 : aCt := (mX12_songLong, [.inr (.inl [196]), .inl [(1, 1, 1)]], ([((199, 0), [(2, 4, 1)]), ((199, 4), [(4, 4, 1)]), ((199, 7), [(4, 8, 1)])], []), [(some (.inl [(2, 6, 1)]), [], [], [])], [], [], 0)
set_option maxRecDepth 100000 in
theorem S_1638 : aSpec wd ct_1638 := bChk_ok wx_ok btX12_songLong (nds := []) (fk := []) (rk := (1, [])) (sp := 0) (fuel := 3000) (by decide +kernel) lk_n odX12_songLong
def ct_1639 : aCt := (mX12_songLong, [.inr (.inl [196]), .inl [(2, 2, 1)]], ([((199, 0), [(2, 4, 1)]), ((199, 4), [(4, 4, 1)]), ((199, 7), [(4, 8, 1)])], []), [(some (.inl [(2, 6, 1)]), [], [], [])], [], [], 0)
set_option maxRecDepth 100000 in
theorem S_1639 : aSpec wd ct_1639 := bChk_ok wx_ok btX12_songLong (nds := []) (fk := []) (rk := (1, [])) (sp := 0) (fuel := 3000) (by decide +kernel) lk_n odX12_songLong
def ct_1640 : aCt := (mX12_songLong, [.inr (.inl [196]), .inl [(3, 3, 1)]], ([((199, 0), [(2, 4, 1)]), ((199, 4), [(4, 4, 1)]), ((199, 7), [(4, 8, 1)])], []), [(some (.inl [(2, 6, 1)]), [], [], [])], [], [], 0)
set_option maxRecDepth 100000 in
theorem S_1640 : aSpec wd ct_1640 := bChk_ok wx_ok btX12_songLong (nds := []) (fk := []) (rk := (1, [])) (sp := 0) (fuel := 3000) (by decide +kernel) lk_n odX12_songLong
def ct_1641 : aCt := (mX12_boxLong, [.inr (.inl [196]), .inl [(3, 3, 1)]], ([((199, 0), [(2, 4, 1)]), ((199, 4), [(4, 4, 1)]), ((199, 7), [(4, 8, 1)])], []), [(some (.inl [(2, 6, 1)]), [], [], [])], [], [], 1)
set_option maxRecDepth 100000 in
theorem S_1641 : aSpec wd ct_1641 := bChk_ok wx_ok btX12_boxLong (nds := []) (fk := [7]) (rk := (1, [])) (sp := 0) (fuel := 3000) (by decide +kernel) (lk_c ml_12_265 S_1637 (lk_c ml_12_265 S_1638 (lk_c ml_12_265 S_1639 (lk_c ml_12_265 S_1640 (lk_c ml_12_262 S_1636 lk_n))))) odX12_boxLong
def ct_1642 : aCt := (mX12_ofBox, [.inr (.inl [196]), .inl [(4, 4, 1)], .inl [(1, 1, 1)]], ([((199, 0), [(2, 4, 1)]), ((199, 4), [(4, 4, 1)]), ((199, 7), [(5, 8, 1)])], []), [(some (.inl [(0, 3, 1)]), [], [], [])], [], [], 0)
set_option maxRecDepth 100000 in
theorem S_1642 : aSpec wd ct_1642 := bChk_ok wx_ok btX12_ofBox (nds := []) (fk := []) (rk := (1, [])) (sp := 0) (fuel := 3000) (by decide +kernel) lk_n odX12_ofBox
def ct_1643 : aCt := (mX12_songLong, [.inr (.inl [196]), .inl [(0, 0, 1)]], ([((199, 0), [(2, 4, 1)]), ((199, 4), [(4, 4, 1)]), ((199, 7), [(5, 8, 1)])], []), [(some (.inl [(2, 6, 1)]), [], [], [])], [], [], 0)
set_option maxRecDepth 100000 in
theorem S_1643 : aSpec wd ct_1643 := bChk_ok wx_ok btX12_songLong (nds := []) (fk := []) (rk := (1, [])) (sp := 0) (fuel := 3000) (by decide +kernel) lk_n odX12_songLong
def ct_1644 : aCt := (mX12_songLong, [.inr (.inl [196]), .inl [(1, 1, 1)]], ([((199, 0), [(2, 4, 1)]), ((199, 4), [(4, 4, 1)]), ((199, 7), [(5, 8, 1)])], []), [(some (.inl [(2, 6, 1)]), [], [], [])], [], [], 0)
set_option maxRecDepth 100000 in
theorem S_1644 : aSpec wd ct_1644 := bChk_ok wx_ok btX12_songLong (nds := []) (fk := []) (rk := (1, [])) (sp := 0) (fuel := 3000) (by decide +kernel) lk_n odX12_songLong
def ct_1645 : aCt := (mX12_songLong, [.inr (.inl [196]), .inl [(2, 2, 1)]], ([((199, 0), [(2, 4, 1)]), ((199, 4), [(4, 4, 1)]), ((199, 7), [(5, 8, 1)])], []), [(some (.inl [(2, 6, 1)]), [], [], [])], [], [], 0)
set_option maxRecDepth 100000 in
theorem S_1645 : aSpec wd ct_1645 := bChk_ok wx_ok btX12_songLong (nds := []) (fk := []) (rk := (1, [])) (sp := 0) (fuel := 3000) (by decide +kernel) lk_n odX12_songLong
def ct_1646 : aCt := (mX12_songLong, [.inr (.inl [196]), .inl [(3, 3, 1)]], ([((199, 0), [(2, 4, 1)]), ((199, 4), [(4, 4, 1)]), ((199, 7), [(5, 8, 1)])], []), [(some (.inl [(2, 6, 1)]), [], [], [])], [], [], 0)
set_option maxRecDepth 100000 in
theorem S_1646 : aSpec wd ct_1646 := bChk_ok wx_ok btX12_songLong (nds := []) (fk := []) (rk := (1, [])) (sp := 0) (fuel := 3000) (by decide +kernel) lk_n odX12_songLong
def ct_1647 : aCt := (mX12_boxLong, [.inr (.inl [196]), .inl [(4, 4, 1)]], ([((199, 0), [(2, 4, 1)]), ((199, 4), [(4, 4, 1)]), ((199, 7), [(5, 8, 1)])], []), [(some (.inl [(2, 6, 1)]), [], [], [])], [], [], 1)
set_option maxRecDepth 100000 in
theorem S_1647 : aSpec wd ct_1647 := bChk_ok wx_ok btX12_boxLong (nds := []) (fk := [7]) (rk := (1, [])) (sp := 0) (fuel := 3000) (by decide +kernel) (lk_c ml_12_265 S_1643 (lk_c ml_12_265 S_1644 (lk_c ml_12_265 S_1645 (lk_c ml_12_265 S_1646 (lk_c ml_12_262 S_1642 lk_n))))) odX12_boxLong
def ct_1648 : aCt := (mX12_ofBox, [.inr (.inl [196]), .inl [(5, 5, 1)], .inl [(1, 1, 1)]], ([((199, 0), [(2, 4, 1)]), ((199, 4), [(4, 4, 1)]), ((199, 7), [(6, 8, 1)])], []), [(some (.inl [(0, 3, 1)]), [], [], [])], [], [], 0)
set_option maxRecDepth 100000 in
theorem S_1648 : aSpec wd ct_1648 := bChk_ok wx_ok btX12_ofBox (nds := []) (fk := []) (rk := (1, [])) (sp := 0) (fuel := 3000) (by decide +kernel) lk_n odX12_ofBox
def ct_1649 : aCt := (mX12_songLong, [.inr (.inl [196]), .inl [(0, 0, 1)]], ([((199, 0), [(2, 4, 1)]), ((199, 4), [(4, 4, 1)]), ((199, 7), [(6, 8, 1)])], []), [(some (.inl [(2, 6, 1)]), [], [], [])], [], [], 0)
set_option maxRecDepth 100000 in
theorem S_1649 : aSpec wd ct_1649 := bChk_ok wx_ok btX12_songLong (nds := []) (fk := []) (rk := (1, [])) (sp := 0) (fuel := 3000) (by decide +kernel) lk_n odX12_songLong
def ct_1650 : aCt := (mX12_songLong, [.inr (.inl [196]), .inl [(1, 1, 1)]], ([((199, 0), [(2, 4, 1)]), ((199, 4), [(4, 4, 1)]), ((199, 7), [(6, 8, 1)])], []), [(some (.inl [(2, 6, 1)]), [], [], [])], [], [], 0)
set_option maxRecDepth 100000 in
theorem S_1650 : aSpec wd ct_1650 := bChk_ok wx_ok btX12_songLong (nds := []) (fk := []) (rk := (1, [])) (sp := 0) (fuel := 3000) (by decide +kernel) lk_n odX12_songLong
def ct_1651 : aCt := (mX12_songLong, [.inr (.inl [196]), .inl [(2, 2, 1)]], ([((199, 0), [(2, 4, 1)]), ((199, 4), [(4, 4, 1)]), ((199, 7), [(6, 8, 1)])], []), [(some (.inl [(2, 6, 1)]), [], [], [])], [], [], 0)
set_option maxRecDepth 100000 in
theorem S_1651 : aSpec wd ct_1651 := bChk_ok wx_ok btX12_songLong (nds := []) (fk := []) (rk := (1, [])) (sp := 0) (fuel := 3000) (by decide +kernel) lk_n odX12_songLong
def ct_1652 : aCt := (mX12_songLong, [.inr (.inl [196]), .inl [(3, 3, 1)]], ([((199, 0), [(2, 4, 1)]), ((199, 4), [(4, 4, 1)]), ((199, 7), [(6, 8, 1)])], []), [(some (.inl [(2, 6, 1)]), [], [], [])], [], [], 0)
set_option maxRecDepth 100000 in
theorem S_1652 : aSpec wd ct_1652 := bChk_ok wx_ok btX12_songLong (nds := []) (fk := []) (rk := (1, [])) (sp := 0) (fuel := 3000) (by decide +kernel) lk_n odX12_songLong
def ct_1653 : aCt := (mX12_boxLong, [.inr (.inl [196]), .inl [(5, 5, 1)]], ([((199, 0), [(2, 4, 1)]), ((199, 4), [(4, 4, 1)]), ((199, 7), [(6, 8, 1)])], []), [(some (.inl [(2, 6, 1)]), [], [], [])], [], [], 1)
set_option maxRecDepth 100000 in
theorem S_1653 : aSpec wd ct_1653 := bChk_ok wx_ok btX12_boxLong (nds := []) (fk := [7]) (rk := (1, [])) (sp := 0) (fuel := 3000) (by decide +kernel) (lk_c ml_12_265 S_1649 (lk_c ml_12_265 S_1650 (lk_c ml_12_265 S_1651 (lk_c ml_12_265 S_1652 (lk_c ml_12_262 S_1648 lk_n))))) odX12_boxLong
def ct_1654 : aCt := (mX12_ofBox, [.inr (.inl [196]), .inl [(6, 6, 1)], .inl [(1, 1, 1)]], ([((199, 0), [(2, 4, 1)]), ((199, 4), [(4, 4, 1)]), ((199, 7), [(7, 8, 1)])], []), [(some (.inl [(0, 3, 1)]), [], [], [])], [], [], 0)
set_option maxRecDepth 100000 in
theorem S_1654 : aSpec wd ct_1654 := bChk_ok wx_ok btX12_ofBox (nds := []) (fk := []) (rk := (1, [])) (sp := 0) (fuel := 3000) (by decide +kernel) lk_n odX12_ofBox
def ct_1655 : aCt := (mX12_songLong, [.inr (.inl [196]), .inl [(0, 0, 1)]], ([((199, 0), [(2, 4, 1)]), ((199, 4), [(4, 4, 1)]), ((199, 7), [(7, 8, 1)])], []), [(some (.inl [(2, 6, 1)]), [], [], [])], [], [], 0)
set_option maxRecDepth 100000 in
theorem S_1655 : aSpec wd ct_1655 := bChk_ok wx_ok btX12_songLong (nds := []) (fk := []) (rk := (1, [])) (sp := 0) (fuel := 3000) (by decide +kernel) lk_n odX12_songLong
def ct_1656 : aCt := (mX12_songLong, [.inr (.inl [196]), .inl [(1, 1, 1)]], ([((199, 0), [(2, 4, 1)]), ((199, 4), [(4, 4, 1)]), ((199, 7), [(7, 8, 1)])], []), [(some (.inl [(2, 6, 1)]), [], [], [])], [], [], 0)
set_option maxRecDepth 100000 in
theorem S_1656 : aSpec wd ct_1656 := bChk_ok wx_ok btX12_songLong (nds := []) (fk := []) (rk := (1, [])) (sp := 0) (fuel := 3000) (by decide +kernel) lk_n odX12_songLong
def ct_1657 : aCt := (mX12_songLong, [.inr (.inl [196]), .inl [(2, 2, 1)]], ([((199, 0), [(2, 4, 1)]), ((199, 4), [(4, 4, 1)]), ((199, 7), [(7, 8, 1)])], []), [(some (.inl [(2, 6, 1)]), [], [], [])], [], [], 0)
set_option maxRecDepth 100000 in
theorem S_1657 : aSpec wd ct_1657 := bChk_ok wx_ok btX12_songLong (nds := []) (fk := []) (rk := (1, [])) (sp := 0) (fuel := 3000) (by decide +kernel) lk_n odX12_songLong
def ct_1658 : aCt := (mX12_songLong, [.inr (.inl [196]), .inl [(3, 3, 1)]], ([((199, 0), [(2, 4, 1)]), ((199, 4), [(4, 4, 1)]), ((199, 7), [(7, 8, 1)])], []), [(some (.inl [(2, 6, 1)]), [], [], [])], [], [], 0)
set_option maxRecDepth 100000 in
theorem S_1658 : aSpec wd ct_1658 := bChk_ok wx_ok btX12_songLong (nds := []) (fk := []) (rk := (1, [])) (sp := 0) (fuel := 3000) (by decide +kernel) lk_n odX12_songLong
def ct_1659 : aCt := (mX12_boxLong, [.inr (.inl [196]), .inl [(6, 6, 1)]], ([((199, 0), [(2, 4, 1)]), ((199, 4), [(4, 4, 1)]), ((199, 7), [(7, 8, 1)])], []), [(some (.inl [(2, 6, 1)]), [], [], [])], [], [], 1)
set_option maxRecDepth 100000 in
theorem S_1659 : aSpec wd ct_1659 := bChk_ok wx_ok btX12_boxLong (nds := []) (fk := [7]) (rk := (1, [])) (sp := 0) (fuel := 3000) (by decide +kernel) (lk_c ml_12_265 S_1655 (lk_c ml_12_265 S_1656 (lk_c ml_12_265 S_1657 (lk_c ml_12_265 S_1658 (lk_c ml_12_262 S_1654 lk_n))))) odX12_boxLong
def ct_1660 : aCt := (mX12_ofBox, [.inr (.inl [196]), .inl [(7, 7, 1)], .inl [(1, 1, 1)]], ([((199, 0), [(2, 4, 1)]), ((199, 4), [(4, 4, 1)]), ((199, 7), [(8, 8, 1)])], []), [(some (.inl [(0, 3, 1)]), [], [], [])], [], [], 0)
set_option maxRecDepth 100000 in
theorem S_1660 : aSpec wd ct_1660 := bChk_ok wx_ok btX12_ofBox (nds := []) (fk := []) (rk := (1, [])) (sp := 0) (fuel := 3000) (by decide +kernel) lk_n odX12_ofBox
def ct_1661 : aCt := (mX12_songLong, [.inr (.inl [196]), .inl [(0, 0, 1)]], ([((199, 0), [(2, 4, 1)]), ((199, 4), [(4, 4, 1)]), ((199, 7), [(8, 8, 1)])], []), [(some (.inl [(2, 6, 1)]), [], [], [])], [], [], 0)
set_option maxRecDepth 100000 in
theorem S_1661 : aSpec wd ct_1661 := bChk_ok wx_ok btX12_songLong (nds := []) (fk := []) (rk := (1, [])) (sp := 0) (fuel := 3000) (by decide +kernel) lk_n odX12_songLong
def ct_1662 : aCt := (mX12_songLong, [.inr (.inl [196]), .inl [(1, 1, 1)]], ([((199, 0), [(2, 4, 1)]), ((199, 4), [(4, 4, 1)]), ((199, 7), [(8, 8, 1)])], []), [(some (.inl [(2, 6, 1)]), [], [], [])], [], [], 0)
set_option maxRecDepth 100000 in
theorem S_1662 : aSpec wd ct_1662 := bChk_ok wx_ok btX12_songLong (nds := []) (fk := []) (rk := (1, [])) (sp := 0) (fuel := 3000) (by decide +kernel) lk_n odX12_songLong
def ct_1663 : aCt := (mX12_songLong, [.inr (.inl [196]), .inl [(2, 2, 1)]], ([((199, 0), [(2, 4, 1)]), ((199, 4), [(4, 4, 1)]), ((199, 7), [(8, 8, 1)])], []), [(some (.inl [(2, 6, 1)]), [], [], [])], [], [], 0)
set_option maxRecDepth 100000 in
theorem S_1663 : aSpec wd ct_1663 := bChk_ok wx_ok btX12_songLong (nds := []) (fk := []) (rk := (1, [])) (sp := 0) (fuel := 3000) (by decide +kernel) lk_n odX12_songLong
def ct_1664 : aCt := (mX12_songLong, [.inr (.inl [196]), .inl [(3, 3, 1)]], ([((199, 0), [(2, 4, 1)]), ((199, 4), [(4, 4, 1)]), ((199, 7), [(8, 8, 1)])], []), [(some (.inl [(2, 6, 1)]), [], [], [])], [], [], 0)
set_option maxRecDepth 100000 in
theorem S_1664 : aSpec wd ct_1664 := bChk_ok wx_ok btX12_songLong (nds := []) (fk := []) (rk := (1, [])) (sp := 0) (fuel := 3000) (by decide +kernel) lk_n odX12_songLong
def ct_1665 : aCt := (mX12_boxLong, [.inr (.inl [196]), .inl [(7, 7, 1)]], ([((199, 0), [(2, 4, 1)]), ((199, 4), [(4, 4, 1)]), ((199, 7), [(8, 8, 1)])], []), [(some (.inl [(2, 6, 1)]), [], [], [])], [], [], 1)
set_option maxRecDepth 100000 in
theorem S_1665 : aSpec wd ct_1665 := bChk_ok wx_ok btX12_boxLong (nds := []) (fk := [7]) (rk := (1, [])) (sp := 0) (fuel := 3000) (by decide +kernel) (lk_c ml_12_265 S_1661 (lk_c ml_12_265 S_1662 (lk_c ml_12_265 S_1663 (lk_c ml_12_265 S_1664 (lk_c ml_12_262 S_1660 lk_n))))) odX12_boxLong
def sl_1088 : (Nat × Nat) × aI := (((nat_lit 199), (nat_lit 4)), [((.ofNat (nat_lit 4)), (.ofNat (nat_lit 4)), (nat_lit 1))])
def ct_1666 : aCt := (mX12_decade, [.inr (.inl [196]), .inl aTop, .inl aTop], ([((199, 4), [(4, 4, 1)])], []), [(some (.inl aTop), [], [((196, 11), [(0, 0, 1)]), ((196, 14), [(1, 1, 1)]), ((199, 0), [(2, 4, 1)])], []), (some (.inl [(-1, -1, 1)]), [], [((196, 11), [(1, 2, 1)])], [])], [(196, 0, 1), (196, 11, 12)], [], 4)
set_option maxRecDepth 100000 in
theorem S_1666 : aSpec wd ct_1666 := bChk_ok wx_ok btX12_decade (nds := [((nat_lit 52), [lcn_306, lcn_280, lcn_281, lcn_1081, lcn_88, lcn_1016], [], [sl_632, sl_1002, sl_633, sl_1088], [], (759, [(4, -10)])), ((nat_lit 61), [lcn_306, lcn_280, lcn_1083, lcn_1081, lcn_88, lcn_1014, lcn_231], [], [sl_632, sl_1002, sl_633, sl_1088], [], (758, [(4, -10)])), ((nat_lit 61), [lcn_306, lcn_280, lcn_1083, lcn_1081, lcn_88, lcn_1014, lcn_1033, lcn_1084, lcn_1085], [], [sl_632, sl_1002, sl_633, sl_1088, sl_1031], [], (757, [(4, -10)])), ((nat_lit 61), [lcn_306, lcn_280, lcn_1083, lcn_1081, lcn_88, lcn_1014, lcn_1035, lcn_1084, lcn_1085], [], [sl_632, sl_1002, sl_633, sl_1088, sl_1065], [], (756, [(4, -10)])), ((nat_lit 61), [lcn_306, lcn_280, lcn_1083, lcn_1081, lcn_88, lcn_1014, lcn_1037, lcn_1084, lcn_1085], [], [sl_632, sl_1002, sl_633, sl_1088, sl_1064], [], (755, [(4, -10)])), ((nat_lit 61), [lcn_306, lcn_280, lcn_1083, lcn_1081, lcn_88, lcn_1014, lcn_1039, lcn_1084, lcn_1085], [], [sl_632, sl_1002, sl_633, sl_1088, sl_1063], [], (754, [(4, -10)])), ((nat_lit 61), [lcn_306, lcn_280, lcn_1083, lcn_1081, lcn_88, lcn_1014, lcn_1041, lcn_1084, lcn_1085], [], [sl_632, sl_1002, sl_633, sl_1088, sl_1062], [], (753, [(4, -10)])), ((nat_lit 61), [lcn_306, lcn_280, lcn_1083, lcn_1081, lcn_88, lcn_1014, lcn_1043, lcn_1084, lcn_1085], [], [sl_632, sl_1002, sl_633, sl_1088, sl_1061], [], (752, [(4, -10)])), ((nat_lit 61), [lcn_306, lcn_280, lcn_1083, lcn_1081, lcn_88, lcn_1014, lcn_1045, lcn_1084, lcn_1085], [], [sl_632, sl_1002, sl_633, sl_1088, sl_1060], [], (751, [(4, -10)])), ((nat_lit 61), [lcn_306, lcn_280, lcn_1083, lcn_1081, lcn_88, lcn_1014, lcn_1047, lcn_1084, lcn_1085], [], [sl_632, sl_1002, sl_633, sl_1088, sl_1059], [], (750, [(4, -10)]))]) (fk := []) (rk := (760, [])) (sp := 2310346608841064448) (fuel := 3000) (by decide +kernel) (lk_c ml_12_167 S_651 (lk_c ml_12_284 S_1665 (lk_c ml_12_284 S_1659 (lk_c ml_12_284 S_1653 (lk_c ml_12_284 S_1647 (lk_c ml_12_284 S_1641 (lk_c ml_12_284 S_1635 (lk_c ml_12_284 S_1629 (lk_c ml_12_284 S_1623 (lk_c ml_12_170 S_1112 (lk_c ml_12_170 S_653 (lk_c ml_12_262 S_1660 (lk_c ml_12_262 S_1654 (lk_c ml_12_262 S_1648 (lk_c ml_12_262 S_1642 (lk_c ml_12_262 S_1636 (lk_c ml_12_262 S_1630 (lk_c ml_12_262 S_1624 (lk_c ml_12_262 S_1618 (lk_c ml_12_291 S_1155 (lk_c ml_12_149 S_1518 (lk_c ml_12_149 S_678 lk_n)))))))))))))))))))))) odX12_decade
def ct_1667 : aCt := (mX12_ofBox, [.inr (.inl [196]), .inl [(0, 0, 1)], .inl [(1, 1, 1)]], ([((199, 0), [(2, 4, 1)]), ((199, 4), [(5, 5, 1)]), ((199, 7), [(1, 8, 1)])], []), [(some (.inl [(0, 4, 1)]), [], [], [])], [], [], 0)
set_option maxRecDepth 100000 in
theorem S_1667 : aSpec wd ct_1667 := bChk_ok wx_ok btX12_ofBox (nds := []) (fk := []) (rk := (1, [])) (sp := 0) (fuel := 3000) (by decide +kernel) lk_n odX12_ofBox
def ct_1668 : aCt := (mX12_songLong, [.inr (.inl [196]), .inl [(0, 0, 1)]], ([((199, 0), [(2, 4, 1)]), ((199, 4), [(5, 5, 1)]), ((199, 7), [(1, 8, 1)])], []), [(some (.inl [(2, 6, 1)]), [], [], [])], [], [], 0)
set_option maxRecDepth 100000 in
theorem S_1668 : aSpec wd ct_1668 := bChk_ok wx_ok btX12_songLong (nds := []) (fk := []) (rk := (1, [])) (sp := 0) (fuel := 3000) (by decide +kernel) lk_n odX12_songLong
def ct_1669 : aCt := (mX12_songLong, [.inr (.inl [196]), .inl [(1, 1, 1)]], ([((199, 0), [(2, 4, 1)]), ((199, 4), [(5, 5, 1)]), ((199, 7), [(1, 8, 1)])], []), [(some (.inl [(2, 6, 1)]), [], [], [])], [], [], 0)
set_option maxRecDepth 100000 in
theorem S_1669 : aSpec wd ct_1669 := bChk_ok wx_ok btX12_songLong (nds := []) (fk := []) (rk := (1, [])) (sp := 0) (fuel := 3000) (by decide +kernel) lk_n odX12_songLong
def ct_1670 : aCt := (mX12_songLong, [.inr (.inl [196]), .inl [(2, 2, 1)]], ([((199, 0), [(2, 4, 1)]), ((199, 4), [(5, 5, 1)]), ((199, 7), [(1, 8, 1)])], []), [(some (.inl [(2, 6, 1)]), [], [], [])], [], [], 0)
set_option maxRecDepth 100000 in
theorem S_1670 : aSpec wd ct_1670 := bChk_ok wx_ok btX12_songLong (nds := []) (fk := []) (rk := (1, [])) (sp := 0) (fuel := 3000) (by decide +kernel) lk_n odX12_songLong
def ct_1671 : aCt := (mX12_songLong, [.inr (.inl [196]), .inl [(3, 3, 1)]], ([((199, 0), [(2, 4, 1)]), ((199, 4), [(5, 5, 1)]), ((199, 7), [(1, 8, 1)])], []), [(some (.inl [(2, 6, 1)]), [], [], [])], [], [], 0)
set_option maxRecDepth 100000 in
theorem S_1671 : aSpec wd ct_1671 := bChk_ok wx_ok btX12_songLong (nds := []) (fk := []) (rk := (1, [])) (sp := 0) (fuel := 3000) (by decide +kernel) lk_n odX12_songLong
def ct_1672 : aCt := (mX12_songLong, [.inr (.inl [196]), .inl [(4, 4, 1)]], ([((199, 0), [(2, 4, 1)]), ((199, 4), [(5, 5, 1)]), ((199, 7), [(1, 8, 1)])], []), [(some (.inl [(2, 6, 1)]), [], [], [])], [], [], 0)
set_option maxRecDepth 100000 in
theorem S_1672 : aSpec wd ct_1672 := bChk_ok wx_ok btX12_songLong (nds := []) (fk := []) (rk := (1, [])) (sp := 0) (fuel := 3000) (by decide +kernel) lk_n odX12_songLong
def ct_1673 : aCt := (mX12_boxLong, [.inr (.inl [196]), .inl [(0, 0, 1)]], ([((199, 0), [(2, 4, 1)]), ((199, 4), [(5, 5, 1)]), ((199, 7), [(1, 8, 1)])], []), [(some (.inl [(2, 6, 1)]), [], [], [])], [], [], 1)
set_option maxRecDepth 100000 in
theorem S_1673 : aSpec wd ct_1673 := bChk_ok wx_ok btX12_boxLong (nds := []) (fk := [7]) (rk := (1, [])) (sp := 0) (fuel := 3000) (by decide +kernel) (lk_c ml_12_265 S_1668 (lk_c ml_12_265 S_1669 (lk_c ml_12_265 S_1670 (lk_c ml_12_265 S_1671 (lk_c ml_12_265 S_1672 (lk_c ml_12_262 S_1667 lk_n)))))) odX12_boxLong
def ct_1674 : aCt := (mX12_ofBox, [.inr (.inl [196]), .inl [(1, 1, 1)], .inl [(1, 1, 1)]], ([((199, 0), [(2, 4, 1)]), ((199, 4), [(5, 5, 1)]), ((199, 7), [(2, 8, 1)])], []), [(some (.inl [(0, 4, 1)]), [], [], [])], [], [], 0)
set_option maxRecDepth 100000 in
theorem S_1674 : aSpec wd ct_1674 := bChk_ok wx_ok btX12_ofBox (nds := []) (fk := []) (rk := (1, [])) (sp := 0) (fuel := 3000) (by decide +kernel) lk_n odX12_ofBox
def ct_1675 : aCt := (mX12_songLong, [.inr (.inl [196]), .inl [(0, 0, 1)]], ([((199, 0), [(2, 4, 1)]), ((199, 4), [(5, 5, 1)]), ((199, 7), [(2, 8, 1)])], []), [(some (.inl [(2, 6, 1)]), [], [], [])], [], [], 0)
set_option maxRecDepth 100000 in
theorem S_1675 : aSpec wd ct_1675 := bChk_ok wx_ok btX12_songLong (nds := []) (fk := []) (rk := (1, [])) (sp := 0) (fuel := 3000) (by decide +kernel) lk_n odX12_songLong
def ct_1676 : aCt := (mX12_songLong, [.inr (.inl [196]), .inl [(1, 1, 1)]], ([((199, 0), [(2, 4, 1)]), ((199, 4), [(5, 5, 1)]), ((199, 7), [(2, 8, 1)])], []), [(some (.inl [(2, 6, 1)]), [], [], [])], [], [], 0)
set_option maxRecDepth 100000 in
theorem S_1676 : aSpec wd ct_1676 := bChk_ok wx_ok btX12_songLong (nds := []) (fk := []) (rk := (1, [])) (sp := 0) (fuel := 3000) (by decide +kernel) lk_n odX12_songLong
def ct_1677 : aCt := (mX12_songLong, [.inr (.inl [196]), .inl [(2, 2, 1)]], ([((199, 0), [(2, 4, 1)]), ((199, 4), [(5, 5, 1)]), ((199, 7), [(2, 8, 1)])], []), [(some (.inl [(2, 6, 1)]), [], [], [])], [], [], 0)
set_option maxRecDepth 100000 in
theorem S_1677 : aSpec wd ct_1677 := bChk_ok wx_ok btX12_songLong (nds := []) (fk := []) (rk := (1, [])) (sp := 0) (fuel := 3000) (by decide +kernel) lk_n odX12_songLong
def ct_1678 : aCt := (mX12_songLong, [.inr (.inl [196]), .inl [(3, 3, 1)]], ([((199, 0), [(2, 4, 1)]), ((199, 4), [(5, 5, 1)]), ((199, 7), [(2, 8, 1)])], []), [(some (.inl [(2, 6, 1)]), [], [], [])], [], [], 0)
set_option maxRecDepth 100000 in
theorem S_1678 : aSpec wd ct_1678 := bChk_ok wx_ok btX12_songLong (nds := []) (fk := []) (rk := (1, [])) (sp := 0) (fuel := 3000) (by decide +kernel) lk_n odX12_songLong
def ct_1679 : aCt := (mX12_songLong, [.inr (.inl [196]), .inl [(4, 4, 1)]], ([((199, 0), [(2, 4, 1)]), ((199, 4), [(5, 5, 1)]), ((199, 7), [(2, 8, 1)])], []), [(some (.inl [(2, 6, 1)]), [], [], [])], [], [], 0)
set_option maxRecDepth 100000 in
theorem S_1679 : aSpec wd ct_1679 := bChk_ok wx_ok btX12_songLong (nds := []) (fk := []) (rk := (1, [])) (sp := 0) (fuel := 3000) (by decide +kernel) lk_n odX12_songLong
def ct_1680 : aCt := (mX12_boxLong, [.inr (.inl [196]), .inl [(1, 1, 1)]], ([((199, 0), [(2, 4, 1)]), ((199, 4), [(5, 5, 1)]), ((199, 7), [(2, 8, 1)])], []), [(some (.inl [(2, 6, 1)]), [], [], [])], [], [], 1)
set_option maxRecDepth 100000 in
theorem S_1680 : aSpec wd ct_1680 := bChk_ok wx_ok btX12_boxLong (nds := []) (fk := [7]) (rk := (1, [])) (sp := 0) (fuel := 3000) (by decide +kernel) (lk_c ml_12_265 S_1675 (lk_c ml_12_265 S_1676 (lk_c ml_12_265 S_1677 (lk_c ml_12_265 S_1678 (lk_c ml_12_265 S_1679 (lk_c ml_12_262 S_1674 lk_n)))))) odX12_boxLong
def ct_1681 : aCt := (mX12_ofBox, [.inr (.inl [196]), .inl [(2, 2, 1)], .inl [(1, 1, 1)]], ([((199, 0), [(2, 4, 1)]), ((199, 4), [(5, 5, 1)]), ((199, 7), [(3, 8, 1)])], []), [(some (.inl [(0, 4, 1)]), [], [], [])], [], [], 0)
set_option maxRecDepth 100000 in
theorem S_1681 : aSpec wd ct_1681 := bChk_ok wx_ok btX12_ofBox (nds := []) (fk := []) (rk := (1, [])) (sp := 0) (fuel := 3000) (by decide +kernel) lk_n odX12_ofBox
def ct_1682 : aCt := (mX12_songLong, [.inr (.inl [196]), .inl [(0, 0, 1)]], ([((199, 0), [(2, 4, 1)]), ((199, 4), [(5, 5, 1)]), ((199, 7), [(3, 8, 1)])], []), [(some (.inl [(2, 6, 1)]), [], [], [])], [], [], 0)
set_option maxRecDepth 100000 in
theorem S_1682 : aSpec wd ct_1682 := bChk_ok wx_ok btX12_songLong (nds := []) (fk := []) (rk := (1, [])) (sp := 0) (fuel := 3000) (by decide +kernel) lk_n odX12_songLong
def ct_1683 : aCt := (mX12_songLong, [.inr (.inl [196]), .inl [(1, 1, 1)]], ([((199, 0), [(2, 4, 1)]), ((199, 4), [(5, 5, 1)]), ((199, 7), [(3, 8, 1)])], []), [(some (.inl [(2, 6, 1)]), [], [], [])], [], [], 0)
set_option maxRecDepth 100000 in
theorem S_1683 : aSpec wd ct_1683 := bChk_ok wx_ok btX12_songLong (nds := []) (fk := []) (rk := (1, [])) (sp := 0) (fuel := 3000) (by decide +kernel) lk_n odX12_songLong
def ct_1684 : aCt := (mX12_songLong, [.inr (.inl [196]), .inl [(2, 2, 1)]], ([((199, 0), [(2, 4, 1)]), ((199, 4), [(5, 5, 1)]), ((199, 7), [(3, 8, 1)])], []), [(some (.inl [(2, 6, 1)]), [], [], [])], [], [], 0)
set_option maxRecDepth 100000 in
theorem S_1684 : aSpec wd ct_1684 := bChk_ok wx_ok btX12_songLong (nds := []) (fk := []) (rk := (1, [])) (sp := 0) (fuel := 3000) (by decide +kernel) lk_n odX12_songLong
def ct_1685 : aCt := (mX12_songLong, [.inr (.inl [196]), .inl [(3, 3, 1)]], ([((199, 0), [(2, 4, 1)]), ((199, 4), [(5, 5, 1)]), ((199, 7), [(3, 8, 1)])], []), [(some (.inl [(2, 6, 1)]), [], [], [])], [], [], 0)
set_option maxRecDepth 100000 in
theorem S_1685 : aSpec wd ct_1685 := bChk_ok wx_ok btX12_songLong (nds := []) (fk := []) (rk := (1, [])) (sp := 0) (fuel := 3000) (by decide +kernel) lk_n odX12_songLong
def ct_1686 : aCt := (mX12_songLong, [.inr (.inl [196]), .inl [(4, 4, 1)]], ([((199, 0), [(2, 4, 1)]), ((199, 4), [(5, 5, 1)]), ((199, 7), [(3, 8, 1)])], []), [(some (.inl [(2, 6, 1)]), [], [], [])], [], [], 0)
set_option maxRecDepth 100000 in
theorem S_1686 : aSpec wd ct_1686 := bChk_ok wx_ok btX12_songLong (nds := []) (fk := []) (rk := (1, [])) (sp := 0) (fuel := 3000) (by decide +kernel) lk_n odX12_songLong
def ct_1687 : aCt := (mX12_boxLong, [.inr (.inl [196]), .inl [(2, 2, 1)]], ([((199, 0), [(2, 4, 1)]), ((199, 4), [(5, 5, 1)]), ((199, 7), [(3, 8, 1)])], []), [(some (.inl [(2, 6, 1)]), [], [], [])], [], [], 1)
set_option maxRecDepth 100000 in
theorem S_1687 : aSpec wd ct_1687 := bChk_ok wx_ok btX12_boxLong (nds := []) (fk := [7]) (rk := (1, [])) (sp := 0) (fuel := 3000) (by decide +kernel) (lk_c ml_12_265 S_1682 (lk_c ml_12_265 S_1683 (lk_c ml_12_265 S_1684 (lk_c ml_12_265 S_1685 (lk_c ml_12_265 S_1686 (lk_c ml_12_262 S_1681 lk_n)))))) odX12_boxLong
def ct_1688 : aCt := (mX12_ofBox, [.inr (.inl [196]), .inl [(3, 3, 1)], .inl [(1, 1, 1)]], ([((199, 0), [(2, 4, 1)]), ((199, 4), [(5, 5, 1)]), ((199, 7), [(4, 8, 1)])], []), [(some (.inl [(0, 4, 1)]), [], [], [])], [], [], 0)
set_option maxRecDepth 100000 in
theorem S_1688 : aSpec wd ct_1688 := bChk_ok wx_ok btX12_ofBox (nds := []) (fk := []) (rk := (1, [])) (sp := 0) (fuel := 3000) (by decide +kernel) lk_n odX12_ofBox
def ct_1689 : aCt := (mX12_songLong, [.inr (.inl [196]), .inl [(0, 0, 1)]], ([((199, 0), [(2, 4, 1)]), ((199, 4), [(5, 5, 1)]), ((199, 7), [(4, 8, 1)])], []), [(some (.inl [(2, 6, 1)]), [], [], [])], [], [], 0)
set_option maxRecDepth 100000 in
theorem S_1689 : aSpec wd ct_1689 := bChk_ok wx_ok btX12_songLong (nds := []) (fk := []) (rk := (1, [])) (sp := 0) (fuel := 3000) (by decide +kernel) lk_n odX12_songLong
def ct_1690 : aCt := (mX12_songLong, [.inr (.inl [196]), .inl [(1, 1, 1)]], ([((199, 0), [(2, 4, 1)]), ((199, 4), [(5, 5, 1)]), ((199, 7), [(4, 8, 1)])], []), [(some (.inl [(2, 6, 1)]), [], [], [])], [], [], 0)
set_option maxRecDepth 100000 in
theorem S_1690 : aSpec wd ct_1690 := bChk_ok wx_ok btX12_songLong (nds := []) (fk := []) (rk := (1, [])) (sp := 0) (fuel := 3000) (by decide +kernel) lk_n odX12_songLong
def ct_1691 : aCt := (mX12_songLong, [.inr (.inl [196]), .inl [(2, 2, 1)]], ([((199, 0), [(2, 4, 1)]), ((199, 4), [(5, 5, 1)]), ((199, 7), [(4, 8, 1)])], []), [(some (.inl [(2, 6, 1)]), [], [], [])], [], [], 0)
set_option maxRecDepth 100000 in
theorem S_1691 : aSpec wd ct_1691 := bChk_ok wx_ok btX12_songLong (nds := []) (fk := []) (rk := (1, [])) (sp := 0) (fuel := 3000) (by decide +kernel) lk_n odX12_songLong
def ct_1692 : aCt := (mX12_songLong, [.inr (.inl [196]), .inl [(3, 3, 1)]], ([((199, 0), [(2, 4, 1)]), ((199, 4), [(5, 5, 1)]), ((199, 7), [(4, 8, 1)])], []), [(some (.inl [(2, 6, 1)]), [], [], [])], [], [], 0)
set_option maxRecDepth 100000 in
theorem S_1692 : aSpec wd ct_1692 := bChk_ok wx_ok btX12_songLong (nds := []) (fk := []) (rk := (1, [])) (sp := 0) (fuel := 3000) (by decide +kernel) lk_n odX12_songLong
def ct_1693 : aCt := (mX12_songLong, [.inr (.inl [196]), .inl [(4, 4, 1)]], ([((199, 0), [(2, 4, 1)]), ((199, 4), [(5, 5, 1)]), ((199, 7), [(4, 8, 1)])], []), [(some (.inl [(2, 6, 1)]), [], [], [])], [], [], 0)
set_option maxRecDepth 100000 in
theorem S_1693 : aSpec wd ct_1693 := bChk_ok wx_ok btX12_songLong (nds := []) (fk := []) (rk := (1, [])) (sp := 0) (fuel := 3000) (by decide +kernel) lk_n odX12_songLong
def ct_1694 : aCt := (mX12_boxLong, [.inr (.inl [196]), .inl [(3, 3, 1)]], ([((199, 0), [(2, 4, 1)]), ((199, 4), [(5, 5, 1)]), ((199, 7), [(4, 8, 1)])], []), [(some (.inl [(2, 6, 1)]), [], [], [])], [], [], 1)
set_option maxRecDepth 100000 in
theorem S_1694 : aSpec wd ct_1694 := bChk_ok wx_ok btX12_boxLong (nds := []) (fk := [7]) (rk := (1, [])) (sp := 0) (fuel := 3000) (by decide +kernel) (lk_c ml_12_265 S_1689 (lk_c ml_12_265 S_1690 (lk_c ml_12_265 S_1691 (lk_c ml_12_265 S_1692 (lk_c ml_12_265 S_1693 (lk_c ml_12_262 S_1688 lk_n)))))) odX12_boxLong
def ct_1695 : aCt := (mX12_ofBox, [.inr (.inl [196]), .inl [(4, 4, 1)], .inl [(1, 1, 1)]], ([((199, 0), [(2, 4, 1)]), ((199, 4), [(5, 5, 1)]), ((199, 7), [(5, 8, 1)])], []), [(some (.inl [(0, 4, 1)]), [], [], [])], [], [], 0)
set_option maxRecDepth 100000 in
theorem S_1695 : aSpec wd ct_1695 := bChk_ok wx_ok btX12_ofBox (nds := []) (fk := []) (rk := (1, [])) (sp := 0) (fuel := 3000) (by decide +kernel) lk_n odX12_ofBox
def ct_1696 : aCt := (mX12_songLong, [.inr (.inl [196]), .inl [(0, 0, 1)]], ([((199, 0), [(2, 4, 1)]), ((199, 4), [(5, 5, 1)]), ((199, 7), [(5, 8, 1)])], []), [(some (.inl [(2, 6, 1)]), [], [], [])], [], [], 0)
set_option maxRecDepth 100000 in
theorem S_1696 : aSpec wd ct_1696 := bChk_ok wx_ok btX12_songLong (nds := []) (fk := []) (rk := (1, [])) (sp := 0) (fuel := 3000) (by decide +kernel) lk_n odX12_songLong
def ct_1697 : aCt := (mX12_songLong, [.inr (.inl [196]), .inl [(1, 1, 1)]], ([((199, 0), [(2, 4, 1)]), ((199, 4), [(5, 5, 1)]), ((199, 7), [(5, 8, 1)])], []), [(some (.inl [(2, 6, 1)]), [], [], [])], [], [], 0)
set_option maxRecDepth 100000 in
theorem S_1697 : aSpec wd ct_1697 := bChk_ok wx_ok btX12_songLong (nds := []) (fk := []) (rk := (1, [])) (sp := 0) (fuel := 3000) (by decide +kernel) lk_n odX12_songLong
def ct_1698 : aCt := (mX12_songLong, [.inr (.inl [196]), .inl [(2, 2, 1)]], ([((199, 0), [(2, 4, 1)]), ((199, 4), [(5, 5, 1)]), ((199, 7), [(5, 8, 1)])], []), [(some (.inl [(2, 6, 1)]), [], [], [])], [], [], 0)
set_option maxRecDepth 100000 in
theorem S_1698 : aSpec wd ct_1698 := bChk_ok wx_ok btX12_songLong (nds := []) (fk := []) (rk := (1, [])) (sp := 0) (fuel := 3000) (by decide +kernel) lk_n odX12_songLong
def ct_1699 : aCt := (mX12_songLong, [.inr (.inl [196]), .inl [(3, 3, 1)]], ([((199, 0), [(2, 4, 1)]), ((199, 4), [(5, 5, 1)]), ((199, 7), [(5, 8, 1)])], []), [(some (.inl [(2, 6, 1)]), [], [], [])], [], [], 0)
set_option maxRecDepth 100000 in
theorem S_1699 : aSpec wd ct_1699 := bChk_ok wx_ok btX12_songLong (nds := []) (fk := []) (rk := (1, [])) (sp := 0) (fuel := 3000) (by decide +kernel) lk_n odX12_songLong
def ct_1700 : aCt := (mX12_songLong, [.inr (.inl [196]), .inl [(4, 4, 1)]], ([((199, 0), [(2, 4, 1)]), ((199, 4), [(5, 5, 1)]), ((199, 7), [(5, 8, 1)])], []), [(some (.inl [(2, 6, 1)]), [], [], [])], [], [], 0)
set_option maxRecDepth 100000 in
theorem S_1700 : aSpec wd ct_1700 := bChk_ok wx_ok btX12_songLong (nds := []) (fk := []) (rk := (1, [])) (sp := 0) (fuel := 3000) (by decide +kernel) lk_n odX12_songLong
def ct_1701 : aCt := (mX12_boxLong, [.inr (.inl [196]), .inl [(4, 4, 1)]], ([((199, 0), [(2, 4, 1)]), ((199, 4), [(5, 5, 1)]), ((199, 7), [(5, 8, 1)])], []), [(some (.inl [(2, 6, 1)]), [], [], [])], [], [], 1)
set_option maxRecDepth 100000 in
theorem S_1701 : aSpec wd ct_1701 := bChk_ok wx_ok btX12_boxLong (nds := []) (fk := [7]) (rk := (1, [])) (sp := 0) (fuel := 3000) (by decide +kernel) (lk_c ml_12_265 S_1696 (lk_c ml_12_265 S_1697 (lk_c ml_12_265 S_1698 (lk_c ml_12_265 S_1699 (lk_c ml_12_265 S_1700 (lk_c ml_12_262 S_1695 lk_n)))))) odX12_boxLong
def ct_1702 : aCt := (mX12_ofBox, [.inr (.inl [196]), .inl [(5, 5, 1)], .inl [(1, 1, 1)]], ([((199, 0), [(2, 4, 1)]), ((199, 4), [(5, 5, 1)]), ((199, 7), [(6, 8, 1)])], []), [(some (.inl [(0, 4, 1)]), [], [], [])], [], [], 0)
set_option maxRecDepth 100000 in
theorem S_1702 : aSpec wd ct_1702 := bChk_ok wx_ok btX12_ofBox (nds := []) (fk := []) (rk := (1, [])) (sp := 0) (fuel := 3000) (by decide +kernel) lk_n odX12_ofBox
def ct_1703 : aCt := (mX12_songLong, [.inr (.inl [196]), .inl [(0, 0, 1)]], ([((199, 0), [(2, 4, 1)]), ((199, 4), [(5, 5, 1)]), ((199, 7), [(6, 8, 1)])], []), [(some (.inl [(2, 6, 1)]), [], [], [])], [], [], 0)
set_option maxRecDepth 100000 in
theorem S_1703 : aSpec wd ct_1703 := bChk_ok wx_ok btX12_songLong (nds := []) (fk := []) (rk := (1, [])) (sp := 0) (fuel := 3000) (by decide +kernel) lk_n odX12_songLong
def ct_1704 : aCt := (mX12_songLong, [.inr (.inl [196]), .inl [(1, 1, 1)]], ([((199, 0), [(2, 4, 1)]), ((199, 4), [(5, 5, 1)]), ((199, 7), [(6, 8, 1)])], []), [(some (.inl [(2, 6, 1)]), [], [], [])], [], [], 0)
set_option maxRecDepth 100000 in
theorem S_1704 : aSpec wd ct_1704 := bChk_ok wx_ok btX12_songLong (nds := []) (fk := []) (rk := (1, [])) (sp := 0) (fuel := 3000) (by decide +kernel) lk_n odX12_songLong
def ct_1705 : aCt := (mX12_songLong, [.inr (.inl [196]), .inl [(2, 2, 1)]], ([((199, 0), [(2, 4, 1)]), ((199, 4), [(5, 5, 1)]), ((199, 7), [(6, 8, 1)])], []), [(some (.inl [(2, 6, 1)]), [], [], [])], [], [], 0)
set_option maxRecDepth 100000 in
theorem S_1705 : aSpec wd ct_1705 := bChk_ok wx_ok btX12_songLong (nds := []) (fk := []) (rk := (1, [])) (sp := 0) (fuel := 3000) (by decide +kernel) lk_n odX12_songLong
def ct_1706 : aCt := (mX12_songLong, [.inr (.inl [196]), .inl [(3, 3, 1)]], ([((199, 0), [(2, 4, 1)]), ((199, 4), [(5, 5, 1)]), ((199, 7), [(6, 8, 1)])], []), [(some (.inl [(2, 6, 1)]), [], [], [])], [], [], 0)
set_option maxRecDepth 100000 in
theorem S_1706 : aSpec wd ct_1706 := bChk_ok wx_ok btX12_songLong (nds := []) (fk := []) (rk := (1, [])) (sp := 0) (fuel := 3000) (by decide +kernel) lk_n odX12_songLong
def ct_1707 : aCt := (mX12_songLong, [.inr (.inl [196]), .inl [(4, 4, 1)]], ([((199, 0), [(2, 4, 1)]), ((199, 4), [(5, 5, 1)]), ((199, 7), [(6, 8, 1)])], []), [(some (.inl [(2, 6, 1)]), [], [], [])], [], [], 0)
set_option maxRecDepth 100000 in
theorem S_1707 : aSpec wd ct_1707 := bChk_ok wx_ok btX12_songLong (nds := []) (fk := []) (rk := (1, [])) (sp := 0) (fuel := 3000) (by decide +kernel) lk_n odX12_songLong
def ct_1708 : aCt := (mX12_boxLong, [.inr (.inl [196]), .inl [(5, 5, 1)]], ([((199, 0), [(2, 4, 1)]), ((199, 4), [(5, 5, 1)]), ((199, 7), [(6, 8, 1)])], []), [(some (.inl [(2, 6, 1)]), [], [], [])], [], [], 1)
set_option maxRecDepth 100000 in
theorem S_1708 : aSpec wd ct_1708 := bChk_ok wx_ok btX12_boxLong (nds := []) (fk := [7]) (rk := (1, [])) (sp := 0) (fuel := 3000) (by decide +kernel) (lk_c ml_12_265 S_1703 (lk_c ml_12_265 S_1704 (lk_c ml_12_265 S_1705 (lk_c ml_12_265 S_1706 (lk_c ml_12_265 S_1707 (lk_c ml_12_262 S_1702 lk_n)))))) odX12_boxLong
def ct_1709 : aCt := (mX12_ofBox, [.inr (.inl [196]), .inl [(6, 6, 1)], .inl [(1, 1, 1)]], ([((199, 0), [(2, 4, 1)]), ((199, 4), [(5, 5, 1)]), ((199, 7), [(7, 8, 1)])], []), [(some (.inl [(0, 4, 1)]), [], [], [])], [], [], 0)
set_option maxRecDepth 100000 in
theorem S_1709 : aSpec wd ct_1709 := bChk_ok wx_ok btX12_ofBox (nds := []) (fk := []) (rk := (1, [])) (sp := 0) (fuel := 3000) (by decide +kernel) lk_n odX12_ofBox
def ct_1710 : aCt := (mX12_songLong, [.inr (.inl [196]), .inl [(0, 0, 1)]], ([((199, 0), [(2, 4, 1)]), ((199, 4), [(5, 5, 1)]), ((199, 7), [(7, 8, 1)])], []), [(some (.inl [(2, 6, 1)]), [], [], [])], [], [], 0)
set_option maxRecDepth 100000 in
theorem S_1710 : aSpec wd ct_1710 := bChk_ok wx_ok btX12_songLong (nds := []) (fk := []) (rk := (1, [])) (sp := 0) (fuel := 3000) (by decide +kernel) lk_n odX12_songLong
def ct_1711 : aCt := (mX12_songLong, [.inr (.inl [196]), .inl [(1, 1, 1)]], ([((199, 0), [(2, 4, 1)]), ((199, 4), [(5, 5, 1)]), ((199, 7), [(7, 8, 1)])], []), [(some (.inl [(2, 6, 1)]), [], [], [])], [], [], 0)
set_option maxRecDepth 100000 in
theorem S_1711 : aSpec wd ct_1711 := bChk_ok wx_ok btX12_songLong (nds := []) (fk := []) (rk := (1, [])) (sp := 0) (fuel := 3000) (by decide +kernel) lk_n odX12_songLong
def ct_1712 : aCt := (mX12_songLong, [.inr (.inl [196]), .inl [(2, 2, 1)]], ([((199, 0), [(2, 4, 1)]), ((199, 4), [(5, 5, 1)]), ((199, 7), [(7, 8, 1)])], []), [(some (.inl [(2, 6, 1)]), [], [], [])], [], [], 0)
set_option maxRecDepth 100000 in
theorem S_1712 : aSpec wd ct_1712 := bChk_ok wx_ok btX12_songLong (nds := []) (fk := []) (rk := (1, [])) (sp := 0) (fuel := 3000) (by decide +kernel) lk_n odX12_songLong
def ct_1713 : aCt := (mX12_songLong, [.inr (.inl [196]), .inl [(3, 3, 1)]], ([((199, 0), [(2, 4, 1)]), ((199, 4), [(5, 5, 1)]), ((199, 7), [(7, 8, 1)])], []), [(some (.inl [(2, 6, 1)]), [], [], [])], [], [], 0)
set_option maxRecDepth 100000 in
theorem S_1713 : aSpec wd ct_1713 := bChk_ok wx_ok btX12_songLong (nds := []) (fk := []) (rk := (1, [])) (sp := 0) (fuel := 3000) (by decide +kernel) lk_n odX12_songLong
def ct_1714 : aCt := (mX12_songLong, [.inr (.inl [196]), .inl [(4, 4, 1)]], ([((199, 0), [(2, 4, 1)]), ((199, 4), [(5, 5, 1)]), ((199, 7), [(7, 8, 1)])], []), [(some (.inl [(2, 6, 1)]), [], [], [])], [], [], 0)
set_option maxRecDepth 100000 in
theorem S_1714 : aSpec wd ct_1714 := bChk_ok wx_ok btX12_songLong (nds := []) (fk := []) (rk := (1, [])) (sp := 0) (fuel := 3000) (by decide +kernel) lk_n odX12_songLong
def ct_1715 : aCt := (mX12_boxLong, [.inr (.inl [196]), .inl [(6, 6, 1)]], ([((199, 0), [(2, 4, 1)]), ((199, 4), [(5, 5, 1)]), ((199, 7), [(7, 8, 1)])], []), [(some (.inl [(2, 6, 1)]), [], [], [])], [], [], 1)
set_option maxRecDepth 100000 in
theorem S_1715 : aSpec wd ct_1715 := bChk_ok wx_ok btX12_boxLong (nds := []) (fk := [7]) (rk := (1, [])) (sp := 0) (fuel := 3000) (by decide +kernel) (lk_c ml_12_265 S_1710 (lk_c ml_12_265 S_1711 (lk_c ml_12_265 S_1712 (lk_c ml_12_265 S_1713 (lk_c ml_12_265 S_1714 (lk_c ml_12_262 S_1709 lk_n)))))) odX12_boxLong
end Pk1
section Pk2
def ct_1716 : aCt := (mX12_ofBox, [.inr (.inl [196]), .inl [(7, 7, 1)], .inl [(1, 1, 1)]], ([((199, 0), [(2, 4, 1)]), ((199, 4), [(5, 5, 1)]), ((199, 7), [(8, 8, 1)])], []), [(some (.inl [(0, 4, 1)]), [], [], [])], [], [], 0)
set_option maxRecDepth 100000 in
theorem S_1716 : aSpec wd ct_1716 := bChk_ok wx_ok btX12_ofBox (nds := []) (fk := []) (rk := (1, [])) (sp := 0) (fuel := 3000) (by decide +kernel) lk_n odX12_ofBox
def ct_1717 : aCt := (mX12_songLong, [.inr (.inl [196]), .inl [(0, 0, 1)]], ([((199, 0), [(2, 4, 1)]), ((199, 4), [(5, 5, 1)]), ((199, 7), [(8, 8, 1)])], []), [(some (.inl [(2, 6, 1)]), [], [], [])], [], [], 0)
set_option maxRecDepth 100000 in
theorem S_1717 : aSpec wd ct_1717 := bChk_ok wx_ok btX12_songLong (nds := []) (fk := []) (rk := (1, [])) (sp := 0) (fuel := 3000) (by decide +kernel) lk_n odX12_songLong
def ct_1718 : aCt := (mX12_songLong, [.inr (.inl [196]), .inl [(1, 1, 1)]], ([((199, 0), [(2, 4, 1)]), ((199, 4), [(5, 5, 1)]), ((199, 7), [(8, 8, 1)])], []), [(some (.inl [(2, 6, 1)]), [], [], [])], [], [], 0)
set_option maxRecDepth 100000 in
theorem S_1718 : aSpec wd ct_1718 := bChk_ok wx_ok btX12_songLong (nds := []) (fk := []) (rk := (1, [])) (sp := 0) (fuel := 3000) (by decide +kernel) lk_n odX12_songLong
def ct_1719 : aCt := (mX12_songLong, [.inr (.inl [196]), .inl [(2, 2, 1)]], ([((199, 0), [(2, 4, 1)]), ((199, 4), [(5, 5, 1)]), ((199, 7), [(8, 8, 1)])], []), [(some (.inl [(2, 6, 1)]), [], [], [])], [], [], 0)
set_option maxRecDepth 100000 in
theorem S_1719 : aSpec wd ct_1719 := bChk_ok wx_ok btX12_songLong (nds := []) (fk := []) (rk := (1, [])) (sp := 0) (fuel := 3000) (by decide +kernel) lk_n odX12_songLong
def ct_1720 : aCt := (mX12_songLong, [.inr (.inl [196]), .inl [(3, 3, 1)]], ([((199, 0), [(2, 4, 1)]), ((199, 4), [(5, 5, 1)]), ((199, 7), [(8, 8, 1)])], []), [(some (.inl [(2, 6, 1)]), [], [], [])], [], [], 0)
set_option maxRecDepth 100000 in
theorem S_1720 : aSpec wd ct_1720 := bChk_ok wx_ok btX12_songLong (nds := []) (fk := []) (rk := (1, [])) (sp := 0) (fuel := 3000) (by decide +kernel) lk_n odX12_songLong
def ct_1721 : aCt := (mX12_songLong, [.inr (.inl [196]), .inl [(4, 4, 1)]], ([((199, 0), [(2, 4, 1)]), ((199, 4), [(5, 5, 1)]), ((199, 7), [(8, 8, 1)])], []), [(some (.inl [(2, 6, 1)]), [], [], [])], [], [], 0)
set_option maxRecDepth 100000 in
theorem S_1721 : aSpec wd ct_1721 := bChk_ok wx_ok btX12_songLong (nds := []) (fk := []) (rk := (1, [])) (sp := 0) (fuel := 3000) (by decide +kernel) lk_n odX12_songLong
def ct_1722 : aCt := (mX12_boxLong, [.inr (.inl [196]), .inl [(7, 7, 1)]], ([((199, 0), [(2, 4, 1)]), ((199, 4), [(5, 5, 1)]), ((199, 7), [(8, 8, 1)])], []), [(some (.inl [(2, 6, 1)]), [], [], [])], [], [], 1)
set_option maxRecDepth 100000 in
theorem S_1722 : aSpec wd ct_1722 := bChk_ok wx_ok btX12_boxLong (nds := []) (fk := [7]) (rk := (1, [])) (sp := 0) (fuel := 3000) (by decide +kernel) (lk_c ml_12_265 S_1717 (lk_c ml_12_265 S_1718 (lk_c ml_12_265 S_1719 (lk_c ml_12_265 S_1720 (lk_c ml_12_265 S_1721 (lk_c ml_12_262 S_1716 lk_n)))))) odX12_boxLong
def sl_1089 : (Nat × Nat) × aI := (((nat_lit 199), (nat_lit 4)), [((.ofNat (nat_lit 5)), (.ofNat (nat_lit 5)), (nat_lit 1))])
def ct_1723 : aCt := (mX12_decade, [.inr (.inl [196]), .inl aTop, .inl aTop], ([((199, 4), [(5, 5, 1)])], []), [(some (.inl aTop), [], [((196, 11), [(0, 0, 1)]), ((196, 14), [(1, 1, 1)]), ((199, 0), [(2, 4, 1)])], []), (some (.inl [(-1, -1, 1)]), [], [((196, 11), [(1, 2, 1)])], [])], [(196, 0, 1), (196, 11, 12)], [], 4)
set_option maxRecDepth 100000 in
theorem S_1723 : aSpec wd ct_1723 := bChk_ok wx_ok btX12_decade (nds := [((nat_lit 52), [lcn_306, lcn_280, lcn_281, lcn_1081, lcn_88, lcn_1016], [], [sl_632, sl_1002, sl_633, sl_1089], [], (759, [(4, -10)])), ((nat_lit 61), [lcn_306, lcn_280, lcn_1083, lcn_1081, lcn_88, lcn_1014, lcn_231], [], [sl_632, sl_1002, sl_633, sl_1089], [], (758, [(4, -10)])), ((nat_lit 61), [lcn_306, lcn_280, lcn_1083, lcn_1081, lcn_88, lcn_1014, lcn_1033, lcn_1084, lcn_1085], [], [sl_632, sl_1002, sl_633, sl_1089, sl_1031], [], (757, [(4, -10)])), ((nat_lit 61), [lcn_306, lcn_280, lcn_1083, lcn_1081, lcn_88, lcn_1014, lcn_1035, lcn_1084, lcn_1085], [], [sl_632, sl_1002, sl_633, sl_1089, sl_1065], [], (756, [(4, -10)])), ((nat_lit 61), [lcn_306, lcn_280, lcn_1083, lcn_1081, lcn_88, lcn_1014, lcn_1037, lcn_1084, lcn_1085], [], [sl_632, sl_1002, sl_633, sl_1089, sl_1064], [], (755, [(4, -10)])), ((nat_lit 61), [lcn_306, lcn_280, lcn_1083, lcn_1081, lcn_88, lcn_1014, lcn_1039, lcn_1084, lcn_1085], [], [sl_632, sl_1002, sl_633, sl_1089, sl_1063], [], (754, [(4, -10)])), ((nat_lit 61), [lcn_306, lcn_280, lcn_1083, lcn_1081, lcn_88, lcn_1014, lcn_1041, lcn_1084, lcn_1085], [], [sl_632, sl_1002, sl_633, sl_1089, sl_1062], [], (753, [(4, -10)])), ((nat_lit 61), [lcn_306, lcn_280, lcn_1083, lcn_1081, lcn_88, lcn_1014, lcn_1043, lcn_1084, lcn_1085], [], [sl_632, sl_1002, sl_633, sl_1089, sl_1061], [], (752, [(4, -10)])), ((nat_lit 61), [lcn_306, lcn_280, lcn_1083, lcn_1081, lcn_88, lcn_1014, lcn_1045, lcn_1084, lcn_1085], [], [sl_632, sl_1002, sl_633, sl_1089, sl_1060], [], (751, [(4, -10)])), ((nat_lit 61), [lcn_306, lcn_280, lcn_1083, lcn_1081, lcn_88, lcn_1014, lcn_1047, lcn_1084, lcn_1085], [], [sl_632, sl_1002, sl_633, sl_1089, sl_1059], [], (750, [(4, -10)]))]) (fk := []) (rk := (760, [])) (sp := 2310346608841064448) (fuel := 3000) (by decide +kernel) (lk_c ml_12_167 S_651 (lk_c ml_12_284 S_1722 (lk_c ml_12_284 S_1715 (lk_c ml_12_284 S_1708 (lk_c ml_12_284 S_1701 (lk_c ml_12_284 S_1694 (lk_c ml_12_284 S_1687 (lk_c ml_12_284 S_1680 (lk_c ml_12_284 S_1673 (lk_c ml_12_170 S_1112 (lk_c ml_12_170 S_653 (lk_c ml_12_262 S_1716 (lk_c ml_12_262 S_1709 (lk_c ml_12_262 S_1702 (lk_c ml_12_262 S_1695 (lk_c ml_12_262 S_1688 (lk_c ml_12_262 S_1681 (lk_c ml_12_262 S_1674 (lk_c ml_12_262 S_1667 (lk_c ml_12_291 S_1155 (lk_c ml_12_149 S_1518 (lk_c ml_12_149 S_678 lk_n)))))))))))))))))))))) odX12_decade
def ct_1724 : aCt := (mX12_ofBox, [.inr (.inl [196]), .inl [(0, 0, 1)], .inl [(1, 1, 1)]], ([((199, 0), [(2, 4, 1)]), ((199, 4), [(6, 6, 1)]), ((199, 7), [(1, 8, 1)])], []), [(some (.inl [(0, 5, 1)]), [], [], [])], [], [], 0)
set_option maxRecDepth 100000 in
theorem S_1724 : aSpec wd ct_1724 := bChk_ok wx_ok btX12_ofBox (nds := []) (fk := []) (rk := (1, [])) (sp := 0) (fuel := 3000) (by decide +kernel) lk_n odX12_ofBox
def ct_1725 : aCt := (mX12_songLong, [.inr (.inl [196]), .inl [(0, 0, 1)]], ([((199, 0), [(2, 4, 1)]), ((199, 4), [(6, 6, 1)]), ((199, 7), [(1, 8, 1)])], []), [(some (.inl [(2, 6, 1)]), [], [], [])], [], [], 0)
set_option maxRecDepth 100000 in
theorem S_1725 : aSpec wd ct_1725 := bChk_ok wx_ok btX12_songLong (nds := []) (fk := []) (rk := (1, [])) (sp := 0) (fuel := 3000) (by decide +kernel) lk_n odX12_songLong
def ct_1726 : aCt := (mX12_songLong, [.inr (.inl [196]), .inl [(1, 1, 1)]], ([((199, 0), [(2, 4, 1)]), ((199, 4), [(6, 6, 1)]), ((199, 7), [(1, 8, 1)])], []), [(some (.inl [(2, 6, 1)]), [], [], [])], [], [], 0)
set_option maxRecDepth 100000 in
theorem S_1726 : aSpec wd ct_1726 := bChk_ok wx_ok btX12_songLong (nds := []) (fk := []) (rk := (1, [])) (sp := 0) (fuel := 3000) (by decide +kernel) lk_n odX12_songLong
def ct_1727 : aCt := (mX12_songLong, [.inr (.inl [196]), .inl [(2, 2, 1)]], ([((199, 0), [(2, 4, 1)]), ((199, 4), [(6, 6, 1)]), ((199, 7), [(1, 8, 1)])], []), [(some (.inl [(2, 6, 1)]), [], [], [])], [], [], 0)
set_option maxRecDepth 100000 in
theorem S_1727 : aSpec wd ct_1727 := bChk_ok wx_ok btX12_songLong (nds := []) (fk := []) (rk := (1, [])) (sp := 0) (fuel := 3000) (by decide +kernel) lk_n odX12_songLong
def ct_1728 : aCt := (mX12_songLong, [.inr (.inl [196]), .inl [(3, 3, 1)]], ([((199, 0), [(2, 4, 1)]), ((199, 4), [(6, 6, 1)]), ((199, 7), [(1, 8, 1)])], []), [(some (.inl [(2, 6, 1)]), [], [], [])], [], [], 0)
set_option maxRecDepth 100000 in
theorem S_1728 : aSpec wd ct_1728 := bChk_ok wx_ok btX12_songLong (nds := []) (fk := []) (rk := (1, [])) (sp := 0) (fuel := 3000) (by decide +kernel) lk_n odX12_songLong
def ct_1729 : aCt := (mX12_songLong, [.inr (.inl [196]), .inl [(4, 4, 1)]], ([((199, 0), [(2, 4, 1)]), ((199, 4), [(6, 6, 1)]), ((199, 7), [(1, 8, 1)])], []), [(some (.inl [(2, 6, 1)]), [], [], [])], [], [], 0)
set_option maxRecDepth 100000 in
theorem S_1729 : aSpec wd ct_1729 := bChk_ok wx_ok btX12_songLong (nds := []) (fk := []) (rk := (1, [])) (sp := 0) (fuel := 3000) (by decide +kernel) lk_n odX12_songLong
def ct_1730 : aCt := (mX12_songLong, [.inr (.inl [196]), .inl [(5, 5, 1)]], ([((199, 0), [(2, 4, 1)]), ((199, 4), [(6, 6, 1)]), ((199, 7), [(1, 8, 1)])], []), [(some (.inl [(2, 6, 1)]), [], [], [])], [], [], 0)
set_option maxRecDepth 100000 in
theorem S_1730 : aSpec wd ct_1730 := bChk_ok wx_ok btX12_songLong (nds := []) (fk := []) (rk := (1, [])) (sp := 0) (fuel := 3000) (by decide +kernel) lk_n odX12_songLong
def ct_1731 : aCt := (mX12_boxLong, [.inr (.inl [196]), .inl [(0, 0, 1)]], ([((199, 0), [(2, 4, 1)]), ((199, 4), [(6, 6, 1)]), ((199, 7), [(1, 8, 1)])], []), [(some (.inl [(2, 6, 1)]), [], [], [])], [], [], 1)
set_option maxRecDepth 100000 in
theorem S_1731 : aSpec wd ct_1731 := bChk_ok wx_ok btX12_boxLong (nds := []) (fk := [7]) (rk := (1, [])) (sp := 0) (fuel := 3000) (by decide +kernel) (lk_c ml_12_265 S_1725 (lk_c ml_12_265 S_1726 (lk_c ml_12_265 S_1727 (lk_c ml_12_265 S_1728 (lk_c ml_12_265 S_1729 (lk_c ml_12_265 S_1730 (lk_c ml_12_262 S_1724 lk_n))))))) odX12_boxLong
def ct_1732 : aCt := (mX12_ofBox, [.inr (.inl [196]), .inl [(1, 1, 1)], .inl [(1, 1, 1)]], ([((199, 0), [(2, 4, 1)]), ((199, 4), [(6, 6, 1)]), ((199, 7), [(2, 8, 1)])], []), [(some (.inl [(0, 5, 1)]), [], [], [])], [], [], 0)
set_option maxRecDepth 100000 in
theorem S_1732 : aSpec wd ct_1732 := bChk_ok wx_ok btX12_ofBox (nds := []) (fk := []) (rk := (1, [])) (sp := 0) (fuel := 3000) (by decide +kernel) lk_n odX12_ofBox
def ct_1733 : aCt := (mX12_songLong, [.inr (.inl [196]), .inl [(0, 0, 1)]], ([((199, 0), [(2, 4, 1)]), ((199, 4), [(6, 6, 1)]), ((199, 7), [(2, 8, 1)])], []), [(some (.inl [(2, 6, 1)]), [], [], [])], [], [], 0)
set_option maxRecDepth 100000 in
theorem S_1733 : aSpec wd ct_1733 := bChk_ok wx_ok btX12_songLong (nds := []) (fk := []) (rk := (1, [])) (sp := 0) (fuel := 3000) (by decide +kernel) lk_n odX12_songLong
def ct_1734 : aCt := (mX12_songLong, [.inr (.inl [196]), .inl [(1, 1, 1)]], ([((199, 0), [(2, 4, 1)]), ((199, 4), [(6, 6, 1)]), ((199, 7), [(2, 8, 1)])], []), [(some (.inl [(2, 6, 1)]), [], [], [])], [], [], 0)
set_option maxRecDepth 100000 in
theorem S_1734 : aSpec wd ct_1734 := bChk_ok wx_ok btX12_songLong (nds := []) (fk := []) (rk := (1, [])) (sp := 0) (fuel := 3000) (by decide +kernel) lk_n odX12_songLong
def ct_1735 : aCt := (mX12_songLong, [.inr (.inl [196]), .inl [(2, 2, 1)]], ([((199, 0), [(2, 4, 1)]), ((199, 4), [(6, 6, 1)]), ((199, 7), [(2, 8, 1)])], []), [(some (.inl [(2, 6, 1)]), [], [], [])], [], [], 0)
set_option maxRecDepth 100000 in
theorem S_1735 : aSpec wd ct_1735 := bChk_ok wx_ok btX12_songLong (nds := []) (fk := []) (rk := (1, [])) (sp := 0) (fuel := 3000) (by decide +kernel) lk_n odX12_songLong
def ct_1736 : aCt := (mX12_songLong, [.inr (.inl [196]), .inl [(3, 3, 1)]], ([((199, 0), [(2, 4, 1)]), ((199, 4), [(6, 6, 1)]), ((199, 7), [(2, 8, 1)])], []), [(some (.inl [(2, 6, 1)]), [], [], [])], [], [], 0)
set_option maxRecDepth 100000 in
theorem S_1736 : aSpec wd ct_1736 := bChk_ok wx_ok btX12_songLong (nds := []) (fk := []) (rk := (1, [])) (sp := 0) (fuel := 3000) (by decide +kernel) lk_n odX12_songLong
def ct_1737 : aCt := (mX12_songLong, [.inr (.inl [196]), .inl [(4, 4, 1)]], ([((199, 0), [(2, 4, 1)]), ((199, 4), [(6, 6, 1)]), ((199, 7), [(2, 8, 1)])], []), [(some (.inl [(2, 6, 1)]), [], [], [])], [], [], 0)
set_option maxRecDepth 100000 in
theorem S_1737 : aSpec wd ct_1737 := bChk_ok wx_ok btX12_songLong (nds := []) (fk := []) (rk := (1, [])) (sp := 0) (fuel := 3000) (by decide +kernel) lk_n odX12_songLong
def ct_1738 : aCt := (mX12_songLong, [.inr (.inl [196]), .inl [(5, 5, 1)]], ([((199, 0), [(2, 4, 1)]), ((199, 4), [(6, 6, 1)]), ((199, 7), [(2, 8, 1)])], []), [(some (.inl [(2, 6, 1)]), [], [], [])], [], [], 0)
set_option maxRecDepth 100000 in
theorem S_1738 : aSpec wd ct_1738 := bChk_ok wx_ok btX12_songLong (nds := []) (fk := []) (rk := (1, [])) (sp := 0) (fuel := 3000) (by decide +kernel) lk_n odX12_songLong
def ct_1739 : aCt := (mX12_boxLong, [.inr (.inl [196]), .inl [(1, 1, 1)]], ([((199, 0), [(2, 4, 1)]), ((199, 4), [(6, 6, 1)]), ((199, 7), [(2, 8, 1)])], []), [(some (.inl [(2, 6, 1)]), [], [], [])], [], [], 1)
set_option maxRecDepth 100000 in
theorem S_1739 : aSpec wd ct_1739 := bChk_ok wx_ok btX12_boxLong (nds := []) (fk := [7]) (rk := (1, [])) (sp := 0) (fuel := 3000) (by decide +kernel) (lk_c ml_12_265 S_1733 (lk_c ml_12_265 S_1734 (lk_c ml_12_265 S_1735 (lk_c ml_12_265 S_1736 (lk_c ml_12_265 S_1737 (lk_c ml_12_265 S_1738 (lk_c ml_12_262 S_1732 lk_n))))))) odX12_boxLong
def ct_1740 : aCt := (mX12_ofBox, [.inr (.inl [196]), .inl [(2, 2, 1)], .inl [(1, 1, 1)]], ([((199, 0), [(2, 4, 1)]), ((199, 4), [(6, 6, 1)]), ((199, 7), [(3, 8, 1)])], []), [(some (.inl [(0, 5, 1)]), [], [], [])], [], [], 0)
set_option maxRecDepth 100000 in
theorem S_1740 : aSpec wd ct_1740 := bChk_ok wx_ok btX12_ofBox (nds := []) (fk := []) (rk := (1, [])) (sp := 0) (fuel := 3000) (by decide +kernel) lk_n odX12_ofBox
def ct_1741 : aCt := (mX12_songLong, [.inr (.inl [196]), .inl [(0, 0, 1)]], ([((199, 0), [(2, 4, 1)]), ((199, 4), [(6, 6, 1)]), ((199, 7), [(3, 8, 1)])], []), [(some (.inl [(2, 6, 1)]), [], [], [])], [], [], 0)
set_option maxRecDepth 100000 in
theorem S_1741 : aSpec wd ct_1741 := bChk_ok wx_ok btX12_songLong (nds := []) (fk := []) (rk := (1, [])) (sp := 0) (fuel := 3000) (by decide +kernel) lk_n odX12_songLong
def ct_1742 : aCt := (mX12_songLong, [.inr (.inl [196]), .inl [(1, 1, 1)]], ([((199, 0), [(2, 4, 1)]), ((199, 4), [(6, 6, 1)]), ((199, 7), [(3, 8, 1)])], []), [(some (.inl [(2, 6, 1)]), [], [], [])], [], [], 0)
set_option maxRecDepth 100000 in
theorem S_1742 : aSpec wd ct_1742 := bChk_ok wx_ok btX12_songLong (nds := []) (fk := []) (rk := (1, [])) (sp := 0) (fuel := 3000) (by decide +kernel) lk_n odX12_songLong
def ct_1743 : aCt := (mX12_songLong, [.inr (.inl [196]), .inl [(2, 2, 1)]], ([((199, 0), [(2, 4, 1)]), ((199, 4), [(6, 6, 1)]), ((199, 7), [(3, 8, 1)])], []), [(some (.inl [(2, 6, 1)]), [], [], [])], [], [], 0)
set_option maxRecDepth 100000 in
theorem S_1743 : aSpec wd ct_1743 := bChk_ok wx_ok btX12_songLong (nds := []) (fk := []) (rk := (1, [])) (sp := 0) (fuel := 3000) (by decide +kernel) lk_n odX12_songLong
def ct_1744 : aCt := (mX12_songLong, [.inr (.inl [196]), .inl [(3, 3, 1)]], ([((199, 0), [(2, 4, 1)]), ((199, 4), [(6, 6, 1)]), ((199, 7), [(3, 8, 1)])], []), [(some (.inl [(2, 6, 1)]), [], [], [])], [], [], 0)
set_option maxRecDepth 100000 in
theorem S_1744 : aSpec wd ct_1744 := bChk_ok wx_ok btX12_songLong (nds := []) (fk := []) (rk := (1, [])) (sp := 0) (fuel := 3000) (by decide +kernel) lk_n odX12_songLong
def ct_1745 : aCt := (mX12_songLong, [.inr (.inl [196]), .inl [(4, 4, 1)]], ([((199, 0), [(2, 4, 1)]), ((199, 4), [(6, 6, 1)]), ((199, 7), [(3, 8, 1)])], []), [(some (.inl [(2, 6, 1)]), [], [], [])], [], [], 0)
set_option maxRecDepth 100000 in
theorem S_1745 : aSpec wd ct_1745 := bChk_ok wx_ok btX12_songLong (nds := []) (fk := []) (rk := (1, [])) (sp := 0) (fuel := 3000) (by decide +kernel) lk_n odX12_songLong
def ct_1746 : aCt := (mX12_songLong, [.inr (.inl [196]), .inl [(5, 5, 1)]], ([((199, 0), [(2, 4, 1)]), ((199, 4), [(6, 6, 1)]), ((199, 7), [(3, 8, 1)])], []), [(some (.inl [(2, 6, 1)]), [], [], [])], [], [], 0)
set_option maxRecDepth 100000 in
theorem S_1746 : aSpec wd ct_1746 := bChk_ok wx_ok btX12_songLong (nds := []) (fk := []) (rk := (1, [])) (sp := 0) (fuel := 3000) (by decide +kernel) lk_n odX12_songLong
def ct_1747 : aCt := (mX12_boxLong, [.inr (.inl [196]), .inl [(2, 2, 1)]], ([((199, 0), [(2, 4, 1)]), ((199, 4), [(6, 6, 1)]), ((199, 7), [(3, 8, 1)])], []), [(some (.inl [(2, 6, 1)]), [], [], [])], [], [], 1)
set_option maxRecDepth 100000 in
theorem S_1747 : aSpec wd ct_1747 := bChk_ok wx_ok btX12_boxLong (nds := []) (fk := [7]) (rk := (1, [])) (sp := 0) (fuel := 3000) (by decide +kernel) (lk_c ml_12_265 S_1741 (lk_c ml_12_265 S_1742 (lk_c ml_12_265 S_1743 (lk_c ml_12_265 S_1744 (lk_c ml_12_265 S_1745 (lk_c ml_12_265 S_1746 (lk_c ml_12_262 S_1740 lk_n))))))) odX12_boxLong
def ct_1748 : aCt := (mX12_ofBox, [.inr (.inl [196]), .inl [(3, 3, 1)], .inl [(1, 1, 1)]], ([((199, 0), [(2, 4, 1)]), ((199, 4), [(6, 6, 1)]), ((199, 7), [(4, 8, 1)])], []), [(some (.inl [(0, 5, 1)]), [], [], [])], [], [], 0)
set_option maxRecDepth 100000 in
theorem S_1748 : aSpec wd ct_1748 := bChk_ok wx_ok btX12_ofBox (nds := []) (fk := []) (rk := (1, [])) (sp := 0) (fuel := 3000) (by decide +kernel) lk_n odX12_ofBox
def ct_1749 : aCt := (mX12_songLong, [.inr (.inl [196]), .inl [(0, 0, 1)]], ([((199, 0), [(2, 4, 1)]), ((199, 4), [(6, 6, 1)]), ((199, 7), [(4, 8, 1)])], []), [(some (.inl [(2, 6, 1)]), [], [], [])], [], [], 0)
set_option maxRecDepth 100000 in
theorem S_1749 : aSpec wd ct_1749 := bChk_ok wx_ok btX12_songLong (nds := []) (fk := []) (rk := (1, [])) (sp := 0) (fuel := 3000) (by decide +kernel) lk_n odX12_songLong
def ct_1750 : aCt := (mX12_songLong, [.inr (.inl [196]), .inl [(1, 1, 1)]], ([((199, 0), [(2, 4, 1)]), ((199, 4), [(6, 6, 1)]), ((199, 7), [(4, 8, 1)])], []), [(some (.inl [(2, 6, 1)]), [], [], [])], [], [], 0)
set_option maxRecDepth 100000 in
theorem S_1750 : aSpec wd ct_1750 := bChk_ok wx_ok btX12_songLong (nds := []) (fk := []) (rk := (1, [])) (sp := 0) (fuel := 3000) (by decide +kernel) lk_n odX12_songLong
def ct_1751 : aCt := (mX12_songLong, [.inr (.inl [196]), .inl [(2, 2, 1)]], ([((199, 0), [(2, 4, 1)]), ((199, 4), [(6, 6, 1)]), ((199, 7), [(4, 8, 1)])], []), [(some (.inl [(2, 6, 1)]), [], [], [])], [], [], 0)
set_option maxRecDepth 100000 in
theorem S_1751 : aSpec wd ct_1751 := bChk_ok wx_ok btX12_songLong (nds := []) (fk := []) (rk := (1, [])) (sp := 0) (fuel := 3000) (by decide +kernel) lk_n odX12_songLong
def ct_1752 : aCt := (mX12_songLong, [.inr (.inl [196]), .inl [(3, 3, 1)]], ([((199, 0), [(2, 4, 1)]), ((199, 4), [(6, 6, 1)]), ((199, 7), [(4, 8, 1)])], []), [(some (.inl [(2, 6, 1)]), [], [], [])], [], [], 0)
set_option maxRecDepth 100000 in
theorem S_1752 : aSpec wd ct_1752 := bChk_ok wx_ok btX12_songLong (nds := []) (fk := []) (rk := (1, [])) (sp := 0) (fuel := 3000) (by decide +kernel) lk_n odX12_songLong
def ct_1753 : aCt := (mX12_songLong, [.inr (.inl [196]), .inl [(4, 4, 1)]], ([((199, 0), [(2, 4, 1)]), ((199, 4), [(6, 6, 1)]), ((199, 7), [(4, 8, 1)])], []), [(some (.inl [(2, 6, 1)]), [], [], [])], [], [], 0)
set_option maxRecDepth 100000 in
theorem S_1753 : aSpec wd ct_1753 := bChk_ok wx_ok btX12_songLong (nds := []) (fk := []) (rk := (1, [])) (sp := 0) (fuel := 3000) (by decide +kernel) lk_n odX12_songLong
def ct_1754 : aCt := (mX12_songLong, [.inr (.inl [196]), .inl [(5, 5, 1)]], ([((199, 0), [(2, 4, 1)]), ((199, 4), [(6, 6, 1)]), ((199, 7), [(4, 8, 1)])], []), [(some (.inl [(2, 6, 1)]), [], [], [])], [], [], 0)
set_option maxRecDepth 100000 in
theorem S_1754 : aSpec wd ct_1754 := bChk_ok wx_ok btX12_songLong (nds := []) (fk := []) (rk := (1, [])) (sp := 0) (fuel := 3000) (by decide +kernel) lk_n odX12_songLong
def ct_1755 : aCt := (mX12_boxLong, [.inr (.inl [196]), .inl [(3, 3, 1)]], ([((199, 0), [(2, 4, 1)]), ((199, 4), [(6, 6, 1)]), ((199, 7), [(4, 8, 1)])], []), [(some (.inl [(2, 6, 1)]), [], [], [])], [], [], 1)
set_option maxRecDepth 100000 in
theorem S_1755 : aSpec wd ct_1755 := bChk_ok wx_ok btX12_boxLong (nds := []) (fk := [7]) (rk := (1, [])) (sp := 0) (fuel := 3000) (by decide +kernel) (lk_c ml_12_265 S_1749 (lk_c ml_12_265 S_1750 (lk_c ml_12_265 S_1751 (lk_c ml_12_265 S_1752 (lk_c ml_12_265 S_1753 (lk_c ml_12_265 S_1754 (lk_c ml_12_262 S_1748 lk_n))))))) odX12_boxLong
def ct_1756 : aCt := (mX12_ofBox, [.inr (.inl [196]), .inl [(4, 4, 1)], .inl [(1, 1, 1)]], ([((199, 0), [(2, 4, 1)]), ((199, 4), [(6, 6, 1)]), ((199, 7), [(5, 8, 1)])], []), [(some (.inl [(0, 5, 1)]), [], [], [])], [], [], 0)
set_option maxRecDepth 100000 in
theorem S_1756 : aSpec wd ct_1756 := bChk_ok wx_ok btX12_ofBox (nds := []) (fk := []) (rk := (1, [])) (sp := 0) (fuel := 3000) (by decide +kernel) lk_n odX12_ofBox
def ct_1757 : aCt := (mX12_songLong, [.inr (.inl [196]), .inl [(0, 0, 1)]], ([((199, 0), [(2, 4, 1)]), ((199, 4), [(6, 6, 1)]), ((199, 7), [(5, 8, 1)])], []), [(some (.inl [(2, 6, 1)]), [], [], [])], [], [], 0)
set_option maxRecDepth 100000 in
theorem S_1757 : aSpec wd ct_1757 := bChk_ok wx_ok btX12_songLong (nds := []) (fk := []) (rk := (1, [])) (sp := 0) (fuel := 3000) (by decide +kernel) lk_n odX12_songLong
def ct_1758 : aCt := (mX12_songLong, [.inr (.inl [196]), .inl [(1, 1, 1)]], ([((199, 0), [(2, 4, 1)]), ((199, 4), [(6, 6, 1)]), ((199, 7), [(5, 8, 1)])], []), [(some (.inl [(2, 6, 1)]), [], [], [])], [], [], 0)
set_option maxRecDepth 100000 in
theorem S_1758 : aSpec wd ct_1758 := bChk_ok wx_ok btX12_songLong (nds := []) (fk := []) (rk := (1, [])) (sp := 0) (fuel := 3000) (by decide +kernel) lk_n odX12_songLong
def ct_1759 : aCt := (mX12_songLong, [.inr (.inl [196]), .inl [(2, 2, 1)]], ([((199, 0), [(2, 4, 1)]), ((199, 4), [(6, 6, 1)]), ((199, 7), [(5, 8, 1)])], []), [(some (.inl [(2, 6, 1)]), [], [], [])], [], [], 0)
set_option maxRecDepth 100000 in
theorem S_1759 : aSpec wd ct_1759 := bChk_ok wx_ok btX12_songLong (nds := []) (fk := []) (rk := (1, [])) (sp := 0) (fuel := 3000) (by decide +kernel) lk_n odX12_songLong
def ct_1760 : aCt := (mX12_songLong, [.inr (.inl [196]), .inl [(3, 3, 1)]], ([((199, 0), [(2, 4, 1)]), ((199, 4), [(6, 6, 1)]), ((199, 7), [(5, 8, 1)])], []), [(some (.inl [(2, 6, 1)]), [], [], [])], [], [], 0)
set_option maxRecDepth 100000 in
theorem S_1760 : aSpec wd ct_1760 := bChk_ok wx_ok btX12_songLong (nds := []) (fk := []) (rk := (1, [])) (sp := 0) (fuel := 3000) (by decide +kernel) lk_n odX12_songLong
def ct_1761 : aCt := (mX12_songLong, [.inr (.inl [196]), .inl [(4, 4, 1)]], ([((199, 0), [(2, 4, 1)]), ((199, 4), [(6, 6, 1)]), ((199, 7), [(5, 8, 1)])], []), [(some (.inl [(2, 6, 1)]), [], [], [])], [], [], 0)
set_option maxRecDepth 100000 in
theorem S_1761 : aSpec wd ct_1761 := bChk_ok wx_ok btX12_songLong (nds := []) (fk := []) (rk := (1, [])) (sp := 0) (fuel := 3000) (by decide +kernel) lk_n odX12_songLong
def ct_1762 : aCt := (mX12_songLong, [.inr (.inl [196]), .inl [(5, 5, 1)]], ([((199, 0), [(2, 4, 1)]), ((199, 4), [(6, 6, 1)]), ((199, 7), [(5, 8, 1)])], []), [(some (.inl [(2, 6, 1)]), [], [], [])], [], [], 0)
set_option maxRecDepth 100000 in
theorem S_1762 : aSpec wd ct_1762 := bChk_ok wx_ok btX12_songLong (nds := []) (fk := []) (rk := (1, [])) (sp := 0) (fuel := 3000) (by decide +kernel) lk_n odX12_songLong
def ct_1763 : aCt := (mX12_boxLong, [.inr (.inl [196]), .inl [(4, 4, 1)]], ([((199, 0), [(2, 4, 1)]), ((199, 4), [(6, 6, 1)]), ((199, 7), [(5, 8, 1)])], []), [(some (.inl [(2, 6, 1)]), [], [], [])], [], [], 1)
set_option maxRecDepth 100000 in
theorem S_1763 : aSpec wd ct_1763 := bChk_ok wx_ok btX12_boxLong (nds := []) (fk := [7]) (rk := (1, [])) (sp := 0) (fuel := 3000) (by decide +kernel) (lk_c ml_12_265 S_1757 (lk_c ml_12_265 S_1758 (lk_c ml_12_265 S_1759 (lk_c ml_12_265 S_1760 (lk_c ml_12_265 S_1761 (lk_c ml_12_265 S_1762 (lk_c ml_12_262 S_1756 lk_n))))))) odX12_boxLong
def ct_1764 : aCt := (mX12_ofBox, [.inr (.inl [196]), .inl [(5, 5, 1)], .inl [(1, 1, 1)]], ([((199, 0), [(2, 4, 1)]), ((199, 4), [(6, 6, 1)]), ((199, 7), [(6, 8, 1)])], []), [(some (.inl [(0, 5, 1)]), [], [], [])], [], [], 0)
set_option maxRecDepth 100000 in
theorem S_1764 : aSpec wd ct_1764 := bChk_ok wx_ok btX12_ofBox (nds := []) (fk := []) (rk := (1, [])) (sp := 0) (fuel := 3000) (by decide +kernel) lk_n odX12_ofBox
def ct_1765 : aCt := (mX12_songLong, [.inr (.inl [196]), .inl [(0, 0, 1)]], ([((199, 0), [(2, 4, 1)]), ((199, 4), [(6, 6, 1)]), ((199, 7), [(6, 8, 1)])], []), [(some (.inl [(2, 6, 1)]), [], [], [])], [], [], 0)
set_option maxRecDepth 100000 in
theorem S_1765 : aSpec wd ct_1765 := bChk_ok wx_ok btX12_songLong (nds := []) (fk := []) (rk := (1, [])) (sp := 0) (fuel := 3000) (by decide +kernel) lk_n odX12_songLong
def ct_1766 : aCt := (mX12_songLong, [.inr (.inl [196]), .inl [(1, 1, 1)]], ([((199, 0), [(2, 4, 1)]), ((199, 4), [(6, 6, 1)]), ((199, 7), [(6, 8, 1)])], []), [(some (.inl [(2, 6, 1)]), [], [], [])], [], [], 0)
set_option maxRecDepth 100000 in
theorem S_1766 : aSpec wd ct_1766 := bChk_ok wx_ok btX12_songLong (nds := []) (fk := []) (rk := (1, [])) (sp := 0) (fuel := 3000) (by decide +kernel) lk_n odX12_songLong
def ct_1767 : aCt := (mX12_songLong, [.inr (.inl [196]), .inl [(2, 2, 1)]], ([((199, 0), [(2, 4, 1)]), ((199, 4), [(6, 6, 1)]), ((199, 7), [(6, 8, 1)])], []), [(some (.inl [(2, 6, 1)]), [], [], [])], [], [], 0)
set_option maxRecDepth 100000 in
theorem S_1767 : aSpec wd ct_1767 := bChk_ok wx_ok btX12_songLong (nds := []) (fk := []) (rk := (1, [])) (sp := 0) (fuel := 3000) (by decide +kernel) lk_n odX12_songLong
def ct_1768 : aCt := (mX12_songLong, [.inr (.inl [196]), .inl [(3, 3, 1)]], ([((199, 0), [(2, 4, 1)]), ((199, 4), [(6, 6, 1)]), ((199, 7), [(6, 8, 1)])], []), [(some (.inl [(2, 6, 1)]), [], [], [])], [], [], 0)
set_option maxRecDepth 100000 in
theorem S_1768 : aSpec wd ct_1768 := bChk_ok wx_ok btX12_songLong (nds := []) (fk := []) (rk := (1, [])) (sp := 0) (fuel := 3000) (by decide +kernel) lk_n odX12_songLong
def ct_1769 : aCt := (mX12_songLong, [.inr (.inl [196]), .inl [(4, 4, 1)]], ([((199, 0), [(2, 4, 1)]), ((199, 4), [(6, 6, 1)]), ((199, 7), [(6, 8, 1)])], []), [(some (.inl [(2, 6, 1)]), [], [], [])], [], [], 0)
set_option maxRecDepth 100000 in
theorem S_1769 : aSpec wd ct_1769 := bChk_ok wx_ok btX12_songLong (nds := []) (fk := []) (rk := (1, [])) (sp := 0) (fuel := 3000) (by decide +kernel) lk_n odX12_songLong
def ct_1770 : aCt := (mX12_songLong, [.inr (.inl [196]), .inl [(5, 5, 1)]], ([((199, 0), [(2, 4, 1)]), ((199, 4), [(6, 6, 1)]), ((199, 7), [(6, 8, 1)])], []), [(some (.inl [(2, 6, 1)]), [], [], [])], [], [], 0)
set_option maxRecDepth 100000 in
theorem S_1770 : aSpec wd ct_1770 := bChk_ok wx_ok btX12_songLong (nds := []) (fk := []) (rk := (1, [])) (sp := 0) (fuel := 3000) (by decide +kernel) lk_n odX12_songLong
def ct_1771 : aCt := (mX12_boxLong, [.inr (.inl [196]), .inl [(5, 5, 1)]], ([((199, 0), [(2, 4, 1)]), ((199, 4), [(6, 6, 1)]), ((199, 7), [(6, 8, 1)])], []), [(some (.inl [(2, 6, 1)]), [], [], [])], [], [], 1)
set_option maxRecDepth 100000 in
theorem S_1771 : aSpec wd ct_1771 := bChk_ok wx_ok btX12_boxLong (nds := []) (fk := [7]) (rk := (1, [])) (sp := 0) (fuel := 3000) (by decide +kernel) (lk_c ml_12_265 S_1765 (lk_c ml_12_265 S_1766 (lk_c ml_12_265 S_1767 (lk_c ml_12_265 S_1768 (lk_c ml_12_265 S_1769 (lk_c ml_12_265 S_1770 (lk_c ml_12_262 S_1764 lk_n))))))) odX12_boxLong
def ct_1772 : aCt := (mX12_ofBox, [.inr (.inl [196]), .inl [(6, 6, 1)], .inl [(1, 1, 1)]], ([((199, 0), [(2, 4, 1)]), ((199, 4), [(6, 6, 1)]), ((199, 7), [(7, 8, 1)])], []), [(some (.inl [(0, 5, 1)]), [], [], [])], [], [], 0)
set_option maxRecDepth 100000 in
theorem S_1772 : aSpec wd ct_1772 := bChk_ok wx_ok btX12_ofBox (nds := []) (fk := []) (rk := (1, [])) (sp := 0) (fuel := 3000) (by decide +kernel) lk_n odX12_ofBox
def ct_1773 : aCt := (mX12_songLong, [.inr (.inl [196]), .inl [(0, 0, 1)]], ([((199, 0), [(2, 4, 1)]), ((199, 4), [(6, 6, 1)]), ((199, 7), [(7, 8, 1)])], []), [(some (.inl [(2, 6, 1)]), [], [], [])], [], [], 0)
set_option maxRecDepth 100000 in
theorem S_1773 : aSpec wd ct_1773 := bChk_ok wx_ok btX12_songLong (nds := []) (fk := []) (rk := (1, [])) (sp := 0) (fuel := 3000) (by decide +kernel) lk_n odX12_songLong
def ct_1774 : aCt := (mX12_songLong, [.inr (.inl [196]), .inl [(1, 1, 1)]], ([((199, 0), [(2, 4, 1)]), ((199, 4), [(6, 6, 1)]), ((199, 7), [(7, 8, 1)])], []), [(some (.inl [(2, 6, 1)]), [], [], [])], [], [], 0)
set_option maxRecDepth 100000 in
theorem S_1774 : aSpec wd ct_1774 := bChk_ok wx_ok btX12_songLong (nds := []) (fk := []) (rk := (1, [])) (sp := 0) (fuel := 3000) (by decide +kernel) lk_n odX12_songLong
def ct_1775 : aCt := (mX12_songLong, [.inr (.inl [196]), .inl [(2, 2, 1)]], ([((199, 0), [(2, 4, 1)]), ((199, 4), [(6, 6, 1)]), ((199, 7), [(7, 8, 1)])], []), [(some (.inl [(2, 6, 1)]), [], [], [])], [], [], 0)
set_option maxRecDepth 100000 in
theorem S_1775 : aSpec wd ct_1775 := bChk_ok wx_ok btX12_songLong (nds := []) (fk := []) (rk := (1, [])) (sp := 0) (fuel := 3000) (by decide +kernel) lk_n odX12_songLong
def ct_1776 : aCt := (mX12_songLong, [.inr (.inl [196]), .inl [(3, 3, 1)]], ([((199, 0), [(2, 4, 1)]), ((199, 4), [(6, 6, 1)]), ((199, 7), [(7, 8, 1)])], []), [(some (.inl [(2, 6, 1)]), [], [], [])], [], [], 0)
set_option maxRecDepth 100000 in
theorem S_1776 : aSpec wd ct_1776 := bChk_ok wx_ok btX12_songLong (nds := []) (fk := []) (rk := (1, [])) (sp := 0) (fuel := 3000) (by decide +kernel) lk_n odX12_songLong
def ct_1777 : aCt := (mX12_songLong, [.inr (.inl [196]), .inl [(4, 4, 1)]], ([((199, 0), [(2, 4, 1)]), ((199, 4), [(6, 6, 1)]), ((199, 7), [(7, 8, 1)])], []), [(some (.inl [(2, 6, 1)]), [], [], [])], [], [], 0)
set_option maxRecDepth 100000 in
theorem S_1777 : aSpec wd ct_1777 := bChk_ok wx_ok btX12_songLong (nds := []) (fk := []) (rk := (1, [])) (sp := 0) (fuel := 3000) (by decide +kernel) lk_n odX12_songLong
def ct_1778 : aCt := (mX12_songLong, [.inr (.inl [196]), .inl [(5, 5, 1)]], ([((199, 0), [(2, 4, 1)]), ((199, 4), [(6, 6, 1)]), ((199, 7), [(7, 8, 1)])], []), [(some (.inl [(2, 6, 1)]), [], [], [])], [], [], 0)
set_option maxRecDepth 100000 in
theorem S_1778 : aSpec wd ct_1778 := bChk_ok wx_ok btX12_songLong (nds := []) (fk := []) (rk := (1, [])) (sp := 0) (fuel := 3000) (by decide +kernel) lk_n odX12_songLong
def ct_1779 : aCt := (mX12_boxLong, [.inr (.inl [196]), .inl [(6, 6, 1)]], ([((199, 0), [(2, 4, 1)]), ((199, 4), [(6, 6, 1)]), ((199, 7), [(7, 8, 1)])], []), [(some (.inl [(2, 6, 1)]), [], [], [])], [], [], 1)
set_option maxRecDepth 100000 in
theorem S_1779 : aSpec wd ct_1779 := bChk_ok wx_ok btX12_boxLong (nds := []) (fk := [7]) (rk := (1, [])) (sp := 0) (fuel := 3000) (by decide +kernel) (lk_c ml_12_265 S_1773 (lk_c ml_12_265 S_1774 (lk_c ml_12_265 S_1775 (lk_c ml_12_265 S_1776 (lk_c ml_12_265 S_1777 (lk_c ml_12_265 S_1778 (lk_c ml_12_262 S_1772 lk_n))))))) odX12_boxLong
def ct_1780 : aCt := (mX12_ofBox, [.inr (.inl [196]), .inl [(7, 7, 1)], .inl [(1, 1, 1)]], ([((199, 0), [(2, 4, 1)]), ((199, 4), [(6, 6, 1)]), ((199, 7), [(8, 8, 1)])], []), [(some (.inl [(0, 5, 1)]), [], [], [])], [], [], 0)
set_option maxRecDepth 100000 in
theorem S_1780 : aSpec wd ct_1780 := bChk_ok wx_ok btX12_ofBox (nds := []) (fk := []) (rk := (1, [])) (sp := 0) (fuel := 3000) (by decide +kernel) lk_n odX12_ofBox
def ct_1781 : aCt := (mX12_songLong, [.inr (.inl [196]), .inl [(0, 0, 1)]], ([((199, 0), [(2, 4, 1)]), ((199, 4), [(6, 6, 1)]), ((199, 7), [(8, 8, 1)])], []), [(some (.inl [(2, 6, 1)]), [], [], [])], [], [], 0)
set_option maxRecDepth 100000 in
theorem S_1781 : aSpec wd ct_1781 := bChk_ok wx_ok btX12_songLong (nds := []) (fk := []) (rk := (1, [])) (sp := 0) (fuel := 3000) (by decide +kernel) lk_n odX12_songLong
def ct_1782 : aCt := (mX12_songLong, [.inr (.inl [196]), .inl [(1, 1, 1)]], ([((199, 0), [(2, 4, 1)]), ((199, 4), [(6, 6, 1)]), ((199, 7), [(8, 8, 1)])], []), [(some (.inl [(2, 6, 1)]), [], [], [])], [], [], 0)
set_option maxRecDepth 100000 in
theorem S_1782 : aSpec wd ct_1782 := bChk_ok wx_ok btX12_songLong (nds := []) (fk := []) (rk := (1, [])) (sp := 0) (fuel := 3000) (by decide +kernel) lk_n odX12_songLong
def ct_1783 : aCt := (mX12_songLong, [.inr (.inl [196]), .inl [(2, 2, 1)]], ([((199, 0), [(2, 4, 1)]), ((199, 4), [(6, 6, 1)]), ((199, 7), [(8, 8, 1)])], []), [(some (.inl [(2, 6, 1)]), [], [], [])], [], [], 0)
set_option maxRecDepth 100000 in
theorem S_1783 : aSpec wd ct_1783 := bChk_ok wx_ok btX12_songLong (nds := []) (fk := []) (rk := (1, [])) (sp := 0) (fuel := 3000) (by decide +kernel) lk_n odX12_songLong
def ct_1784 : aCt := (mX12_songLong, [.inr (.inl [196]), .inl [(3, 3, 1)]], ([((199, 0), [(2, 4, 1)]), ((199, 4), [(6, 6, 1)]), ((199, 7), [(8, 8, 1)])], []), [(some (.inl [(2, 6, 1)]), [], [], [])], [], [], 0)
set_option maxRecDepth 100000 in
theorem S_1784 : aSpec wd ct_1784 := bChk_ok wx_ok btX12_songLong (nds := []) (fk := []) (rk := (1, [])) (sp := 0) (fuel := 3000) (by decide +kernel) lk_n odX12_songLong
def ct_1785 : aCt := (mX12_songLong, [.inr (.inl [196]), .inl [(4, 4, 1)]], ([((199, 0), [(2, 4, 1)]), ((199, 4), [(6, 6, 1)]), ((199, 7), [(8, 8, 1)])], []), [(some (.inl [(2, 6, 1)]), [], [], [])], [], [], 0)
set_option maxRecDepth 100000 in
theorem S_1785 : aSpec wd ct_1785 := bChk_ok wx_ok btX12_songLong (nds := []) (fk := []) (rk := (1, [])) (sp := 0) (fuel := 3000) (by decide +kernel) lk_n odX12_songLong
def ct_1786 : aCt := (mX12_songLong, [.inr (.inl [196]), .inl [(5, 5, 1)]], ([((199, 0), [(2, 4, 1)]), ((199, 4), [(6, 6, 1)]), ((199, 7), [(8, 8, 1)])], []), [(some (.inl [(2, 6, 1)]), [], [], [])], [], [], 0)
set_option maxRecDepth 100000 in
theorem S_1786 : aSpec wd ct_1786 := bChk_ok wx_ok btX12_songLong (nds := []) (fk := []) (rk := (1, [])) (sp := 0) (fuel := 3000) (by decide +kernel) lk_n odX12_songLong
def ct_1787 : aCt := (mX12_boxLong, [.inr (.inl [196]), .inl [(7, 7, 1)]], ([((199, 0), [(2, 4, 1)]), ((199, 4), [(6, 6, 1)]), ((199, 7), [(8, 8, 1)])], []), [(some (.inl [(2, 6, 1)]), [], [], [])], [], [], 1)
set_option maxRecDepth 100000 in
theorem S_1787 : aSpec wd ct_1787 := bChk_ok wx_ok btX12_boxLong (nds := []) (fk := [7]) (rk := (1, [])) (sp := 0) (fuel := 3000) (by decide +kernel) (lk_c ml_12_265 S_1781 (lk_c ml_12_265 S_1782 (lk_c ml_12_265 S_1783 (lk_c ml_12_265 S_1784 (lk_c ml_12_265 S_1785 (lk_c ml_12_265 S_1786 (lk_c ml_12_262 S_1780 lk_n))))))) odX12_boxLong
def sl_1090 : (Nat × Nat) × aI := (((nat_lit 199), (nat_lit 4)), [((.ofNat (nat_lit 6)), (.ofNat (nat_lit 6)), (nat_lit 1))])
def ct_1788 : aCt := (mX12_decade, [.inr (.inl [196]), .inl aTop, .inl aTop], ([((199, 4), [(6, 6, 1)])], []), [(some (.inl aTop), [], [((196, 11), [(0, 0, 1)]), ((196, 14), [(1, 1, 1)]), ((199, 0), [(2, 4, 1)])], []), (some (.inl [(-1, -1, 1)]), [], [((196, 11), [(1, 2, 1)])], [])], [(196, 0, 1), (196, 11, 12)], [], 4)
set_option maxRecDepth 100000 in
theorem S_1788 : aSpec wd ct_1788 := bChk_ok wx_ok btX12_decade (nds := [((nat_lit 52), [lcn_306, lcn_280, lcn_281, lcn_1081, lcn_88, lcn_1016], [], [sl_632, sl_1002, sl_633, sl_1090], [], (759, [(4, -10)])), ((nat_lit 61), [lcn_306, lcn_280, lcn_1083, lcn_1081, lcn_88, lcn_1014, lcn_231], [], [sl_632, sl_1002, sl_633, sl_1090], [], (758, [(4, -10)])), ((nat_lit 61), [lcn_306, lcn_280, lcn_1083, lcn_1081, lcn_88, lcn_1014, lcn_1033, lcn_1084, lcn_1085], [], [sl_632, sl_1002, sl_633, sl_1090, sl_1031], [], (757, [(4, -10)])), ((nat_lit 61), [lcn_306, lcn_280, lcn_1083, lcn_1081, lcn_88, lcn_1014, lcn_1035, lcn_1084, lcn_1085], [], [sl_632, sl_1002, sl_633, sl_1090, sl_1065], [], (756, [(4, -10)])), ((nat_lit 61), [lcn_306, lcn_280, lcn_1083, lcn_1081, lcn_88, lcn_1014, lcn_1037, lcn_1084, lcn_1085], [], [sl_632, sl_1002, sl_633, sl_1090, sl_1064], [], (755, [(4, -10)])), ((nat_lit 61), [lcn_306, lcn_280, lcn_1083, lcn_1081, lcn_88, lcn_1014, lcn_1039, lcn_1084, lcn_1085], [], [sl_632, sl_1002, sl_633, sl_1090, sl_1063], [], (754, [(4, -10)])), ((nat_lit 61), [lcn_306, lcn_280, lcn_1083, lcn_1081, lcn_88, lcn_1014, lcn_1041, lcn_1084, lcn_1085], [], [sl_632, sl_1002, sl_633, sl_1090, sl_1062], [], (753, [(4, -10)])), ((nat_lit 61), [lcn_306, lcn_280, lcn_1083, lcn_1081, lcn_88, lcn_1014, lcn_1043, lcn_1084, lcn_1085], [], [sl_632, sl_1002, sl_633, sl_1090, sl_1061], [], (752, [(4, -10)])), ((nat_lit 61), [lcn_306, lcn_280, lcn_1083, lcn_1081, lcn_88, lcn_1014, lcn_1045, lcn_1084, lcn_1085], [], [sl_632, sl_1002, sl_633, sl_1090, sl_1060], [], (751, [(4, -10)])), ((nat_lit 61), [lcn_306, lcn_280, lcn_1083, lcn_1081, lcn_88, lcn_1014, lcn_1047, lcn_1084, lcn_1085], [], [sl_632, sl_1002, sl_633, sl_1090, sl_1059], [], (750, [(4, -10)]))]) (fk := []) (rk := (760, [])) (sp := 2310346608841064448) (fuel := 3000) (by decide +kernel) (lk_c ml_12_167 S_651 (lk_c ml_12_284 S_1787 (lk_c ml_12_284 S_1779 (lk_c ml_12_284 S_1771 (lk_c ml_12_284 S_1763 (lk_c ml_12_284 S_1755 (lk_c ml_12_284 S_1747 (lk_c ml_12_284 S_1739 (lk_c ml_12_284 S_1731 (lk_c ml_12_170 S_1112 (lk_c ml_12_170 S_653 (lk_c ml_12_262 S_1780 (lk_c ml_12_262 S_1772 (lk_c ml_12_262 S_1764 (lk_c ml_12_262 S_1756 (lk_c ml_12_262 S_1748 (lk_c ml_12_262 S_1740 (lk_c ml_12_262 S_1732 (lk_c ml_12_262 S_1724 (lk_c ml_12_291 S_1155 (lk_c ml_12_149 S_1518 (lk_c ml_12_149 S_678 lk_n)))))))))))))))))))))) odX12_decade
def ct_1789 : aCt := (mX12_ofBox, [.inr (.inl [196]), .inl [(0, 0, 1)], .inl [(1, 1, 1)]], ([((199, 0), [(2, 4, 1)]), ((199, 4), [(7, 7, 1)]), ((199, 7), [(1, 8, 1)])], []), [(some (.inl [(0, 6, 1)]), [], [], [])], [], [], 0)
set_option maxRecDepth 100000 in
theorem S_1789 : aSpec wd ct_1789 := bChk_ok wx_ok btX12_ofBox (nds := []) (fk := []) (rk := (1, [])) (sp := 0) (fuel := 3000) (by decide +kernel) lk_n odX12_ofBox
def ct_1790 : aCt := (mX12_songLong, [.inr (.inl [196]), .inl [(0, 0, 1)]], ([((199, 0), [(2, 4, 1)]), ((199, 4), [(7, 7, 1)]), ((199, 7), [(1, 8, 1)])], []), [(some (.inl [(2, 6, 1)]), [], [], [])], [], [], 0)
set_option maxRecDepth 100000 in
theorem S_1790 : aSpec wd ct_1790 := bChk_ok wx_ok btX12_songLong (nds := []) (fk := []) (rk := (1, [])) (sp := 0) (fuel := 3000) (by decide +kernel) lk_n odX12_songLong
def ct_1791 : aCt := (mX12_songLong, [.inr (.inl [196]), .inl [(1, 1, 1)]], ([((199, 0), [(2, 4, 1)]), ((199, 4), [(7, 7, 1)]), ((199, 7), [(1, 8, 1)])], []), [(some (.inl [(2, 6, 1)]), [], [], [])], [], [], 0)
set_option maxRecDepth 100000 in
theorem S_1791 : aSpec wd ct_1791 := bChk_ok wx_ok btX12_songLong (nds := []) (fk := []) (rk := (1, [])) (sp := 0) (fuel := 3000) (by decide +kernel) lk_n odX12_songLong
def ct_1792 : aCt := (mX12_songLong, [.inr (.inl [196]), .inl [(2, 2, 1)]], ([((199, 0), [(2, 4, 1)]), ((199, 4), [(7, 7, 1)]), ((199, 7), [(1, 8, 1)])], []), [(some (.inl [(2, 6, 1)]), [], [], [])], [], [], 0)
set_option maxRecDepth 100000 in
theorem S_1792 : aSpec wd ct_1792 := bChk_ok wx_ok btX12_songLong (nds := []) (fk := []) (rk := (1, [])) (sp := 0) (fuel := 3000) (by decide +kernel) lk_n odX12_songLong
def ct_1793 : aCt := (mX12_songLong, [.inr (.inl [196]), .inl [(3, 3, 1)]], ([((199, 0), [(2, 4, 1)]), ((199, 4), [(7, 7, 1)]), ((199, 7), [(1, 8, 1)])], []), [(some (.inl [(2, 6, 1)]), [], [], [])], [], [], 0)
set_option maxRecDepth 100000 in
theorem S_1793 : aSpec wd ct_1793 := bChk_ok wx_ok btX12_songLong (nds := []) (fk := []) (rk := (1, [])) (sp := 0) (fuel := 3000) (by decide +kernel) lk_n odX12_songLong
def ct_1794 : aCt := (mX12_songLong, [.inr (.inl [196]), .inl [(4, 4, 1)]], ([((199, 0), [(2, 4, 1)]), ((199, 4), [(7, 7, 1)]), ((199, 7), [(1, 8, 1)])], []), [(some (.inl [(2, 6, 1)]), [], [], [])], [], [], 0)
set_option maxRecDepth 100000 in
theorem S_1794 : aSpec wd ct_1794 := bChk_ok wx_ok btX12_songLong (nds := []) (fk := []) (rk := (1, [])) (sp := 0) (fuel := 3000) (by decide +kernel) lk_n odX12_songLong
def ct_1795 : aCt := (mX12_songLong, [.inr (.inl [196]), .inl [(5, 5, 1)]], ([((199, 0), [(2, 4, 1)]), ((199, 4), [(7, 7, 1)]), ((199, 7), [(1, 8, 1)])], []), [(some (.inl [(2, 6, 1)]), [], [], [])], [], [], 0)
set_option maxRecDepth 100000 in
theorem S_1795 : aSpec wd ct_1795 := bChk_ok wx_ok btX12_songLong (nds := []) (fk := []) (rk := (1, [])) (sp := 0) (fuel := 3000) (by decide +kernel) lk_n odX12_songLong
def ct_1796 : aCt := (mX12_songLong, [.inr (.inl [196]), .inl [(6, 6, 1)]], ([((199, 0), [(2, 4, 1)]), ((199, 4), [(7, 7, 1)]), ((199, 7), [(1, 8, 1)])], []), [(some (.inl [(2, 6, 1)]), [], [], [])], [], [], 0)
set_option maxRecDepth 100000 in
theorem S_1796 : aSpec wd ct_1796 := bChk_ok wx_ok btX12_songLong (nds := []) (fk := []) (rk := (1, [])) (sp := 0) (fuel := 3000) (by decide +kernel) lk_n odX12_songLong
def ct_1797 : aCt := (mX12_boxLong, [.inr (.inl [196]), .inl [(0, 0, 1)]], ([((199, 0), [(2, 4, 1)]), ((199, 4), [(7, 7, 1)]), ((199, 7), [(1, 8, 1)])], []), [(some (.inl [(2, 6, 1)]), [], [], [])], [], [], 1)
set_option maxRecDepth 100000 in
theorem S_1797 : aSpec wd ct_1797 := bChk_ok wx_ok btX12_boxLong (nds := []) (fk := [7]) (rk := (1, [])) (sp := 0) (fuel := 3000) (by decide +kernel) (lk_c ml_12_265 S_1790 (lk_c ml_12_265 S_1791 (lk_c ml_12_265 S_1792 (lk_c ml_12_265 S_1793 (lk_c ml_12_265 S_1794 (lk_c ml_12_265 S_1795 (lk_c ml_12_265 S_1796 (lk_c ml_12_262 S_1789 lk_n)))))))) odX12_boxLong
def ct_1798 : aCt := (mX12_ofBox, [.inr (.inl [196]), .inl [(1, 1, 1)], .inl [(1, 1, 1)]], ([((199, 0), [(2, 4, 1)]), ((199, 4), [(7, 7, 1)]), ((199, 7), [(2, 8, 1)])], []), [(some (.inl [(0, 6, 1)]), [], [], [])], [], [], 0)
set_option maxRecDepth 100000 in
theorem S_1798 : aSpec wd ct_1798 := bChk_ok wx_ok btX12_ofBox (nds := []) (fk := []) (rk := (1, [])) (sp := 0) (fuel := 3000) (by decide +kernel) lk_n odX12_ofBox
def ct_1799 : aCt := (mX12_songLong, [.inr (.inl [196]), .inl [(0, 0, 1)]], ([((199, 0), [(2, 4, 1)]), ((199, 4), [(7, 7, 1)]), ((199, 7), [(2, 8, 1)])], []), [(some (.inl [(2, 6, 1)]), [], [], [])], [], [], 0)
set_option maxRecDepth 100000 in
theorem S_1799 : aSpec wd ct_1799 := bChk_ok wx_ok btX12_songLong (nds := []) (fk := []) (rk := (1, [])) (sp := 0) (fuel := 3000) (by decide +kernel) lk_n odX12_songLong
def ct_1800 : aCt := (mX12_songLong, [.inr (.inl [196]), .inl [(1, 1, 1)]], ([((199, 0), [(2, 4, 1)]), ((199, 4), [(7, 7, 1)]), ((199, 7), [(2, 8, 1)])], []), [(some (.inl [(2, 6, 1)]), [], [], [])], [], [], 0)
set_option maxRecDepth 100000 in
theorem S_1800 : aSpec wd ct_1800 := bChk_ok wx_ok btX12_songLong (nds := []) (fk := []) (rk := (1, [])) (sp := 0) (fuel := 3000) (by decide +kernel) lk_n odX12_songLong
def ct_1801 : aCt := (mX12_songLong, [.inr (.inl [196]), .inl [(2, 2, 1)]], ([((199, 0), [(2, 4, 1)]), ((199, 4), [(7, 7, 1)]), ((199, 7), [(2, 8, 1)])], []), [(some (.inl [(2, 6, 1)]), [], [], [])], [], [], 0)
set_option maxRecDepth 100000 in
theorem S_1801 : aSpec wd ct_1801 := bChk_ok wx_ok btX12_songLong (nds := []) (fk := []) (rk := (1, [])) (sp := 0) (fuel := 3000) (by decide +kernel) lk_n odX12_songLong
def ct_1802 : aCt := (mX12_songLong, [.inr (.inl [196]), .inl [(3, 3, 1)]], ([((199, 0), [(2, 4, 1)]), ((199, 4), [(7, 7, 1)]), ((199, 7), [(2, 8, 1)])], []), [(some (.inl [(2, 6, 1)]), [], [], [])], [], [], 0)
set_option maxRecDepth 100000 in
theorem S_1802 : aSpec wd ct_1802 := bChk_ok wx_ok btX12_songLong (nds := []) (fk := []) (rk := (1, [])) (sp := 0) (fuel := 3000) (by decide +kernel) lk_n odX12_songLong
def ct_1803 : aCt := (mX12_songLong, [.inr (.inl [196]), .inl [(4, 4, 1)]], ([((199, 0), [(2, 4, 1)]), ((199, 4), [(7, 7, 1)]), ((199, 7), [(2, 8, 1)])], []), [(some (.inl [(2, 6, 1)]), [], [], [])], [], [], 0)
set_option maxRecDepth 100000 in
theorem S_1803 : aSpec wd ct_1803 := bChk_ok wx_ok btX12_songLong (nds := []) (fk := []) (rk := (1, [])) (sp := 0) (fuel := 3000) (by decide +kernel) lk_n odX12_songLong
def ct_1804 : aCt := (mX12_songLong, [.inr (.inl [196]), .inl [(5, 5, 1)]], ([((199, 0), [(2, 4, 1)]), ((199, 4), [(7, 7, 1)]), ((199, 7), [(2, 8, 1)])], []), [(some (.inl [(2, 6, 1)]), [], [], [])], [], [], 0)
set_option maxRecDepth 100000 in
theorem S_1804 : aSpec wd ct_1804 := bChk_ok wx_ok btX12_songLong (nds := []) (fk := []) (rk := (1, [])) (sp := 0) (fuel := 3000) (by decide +kernel) lk_n odX12_songLong
def ct_1805 : aCt := (mX12_songLong, [.inr (.inl [196]), .inl [(6, 6, 1)]], ([((199, 0), [(2, 4, 1)]), ((199, 4), [(7, 7, 1)]), ((199, 7), [(2, 8, 1)])], []), [(some (.inl [(2, 6, 1)]), [], [], [])], [], [], 0)
set_option maxRecDepth 100000 in
theorem S_1805 : aSpec wd ct_1805 := bChk_ok wx_ok btX12_songLong (nds := []) (fk := []) (rk := (1, [])) (sp := 0) (fuel := 3000) (by decide +kernel) lk_n odX12_songLong
def ct_1806 : aCt := (mX12_boxLong, [.inr (.inl [196]), .inl [(1, 1, 1)]], ([((199, 0), [(2, 4, 1)]), ((199, 4), [(7, 7, 1)]), ((199, 7), [(2, 8, 1)])], []), [(some (.inl [(2, 6, 1)]), [], [], [])], [], [], 1)
set_option maxRecDepth 100000 in
theorem S_1806 : aSpec wd ct_1806 := bChk_ok wx_ok btX12_boxLong (nds := []) (fk := [7]) (rk := (1, [])) (sp := 0) (fuel := 3000) (by decide +kernel) (lk_c ml_12_265 S_1799 (lk_c ml_12_265 S_1800 (lk_c ml_12_265 S_1801 (lk_c ml_12_265 S_1802 (lk_c ml_12_265 S_1803 (lk_c ml_12_265 S_1804 (lk_c ml_12_265 S_1805 (lk_c ml_12_262 S_1798 lk_n)))))))) odX12_boxLong
def ct_1807 : aCt := (mX12_ofBox, [.inr (.inl [196]), .inl [(2, 2, 1)], .inl [(1, 1, 1)]], ([((199, 0), [(2, 4, 1)]), ((199, 4), [(7, 7, 1)]), ((199, 7), [(3, 8, 1)])], []), [(some (.inl [(0, 6, 1)]), [], [], [])], [], [], 0)
set_option maxRecDepth 100000 in
theorem S_1807 : aSpec wd ct_1807 := bChk_ok wx_ok btX12_ofBox (nds := []) (fk := []) (rk := (1, [])) (sp := 0) (fuel := 3000) (by decide +kernel) lk_n odX12_ofBox
def ct_1808 : aCt := (mX12_songLong, [.inr (.inl [196]), .inl [(0, 0, 1)]], ([((199, 0), [(2, 4, 1)]), ((199, 4), [(7, 7, 1)]), ((199, 7), [(3, 8, 1)])], []), [(some (.inl [(2, 6, 1)]), [], [], [])], [], [], 0)
set_option maxRecDepth 100000 in
theorem S_1808 : aSpec wd ct_1808 := bChk_ok wx_ok btX12_songLong (nds := []) (fk := []) (rk := (1, [])) (sp := 0) (fuel := 3000) (by decide +kernel) lk_n odX12_songLong
def ct_1809 : aCt := (mX12_songLong, [.inr (.inl [196]), .inl [(1, 1, 1)]], ([((199, 0), [(2, 4, 1)]), ((199, 4), [(7, 7, 1)]), ((199, 7), [(3, 8, 1)])], []), [(some (.inl [(2, 6, 1)]), [], [], [])], [], [], 0)
set_option maxRecDepth 100000 in
theorem S_1809 : aSpec wd ct_1809 := bChk_ok wx_ok btX12_songLong (nds := []) (fk := []) (rk := (1, [])) (sp := 0) (fuel := 3000) (by decide +kernel) lk_n odX12_songLong
def ct_1810 : aCt := (mX12_songLong, [.inr (.inl [196]), .inl [(2, 2, 1)]], ([((199, 0), [(2, 4, 1)]), ((199, 4), [(7, 7, 1)]), ((199, 7), [(3, 8, 1)])], []), [(some (.inl [(2, 6, 1)]), [], [], [])], [], [], 0)
set_option maxRecDepth 100000 in
theorem S_1810 : aSpec wd ct_1810 := bChk_ok wx_ok btX12_songLong (nds := []) (fk := []) (rk := (1, [])) (sp := 0) (fuel := 3000) (by decide +kernel) lk_n odX12_songLong
def ct_1811 : aCt := (mX12_songLong, [.inr (.inl [196]), .inl [(3, 3, 1)]], ([((199, 0), [(2, 4, 1)]), ((199, 4), [(7, 7, 1)]), ((199, 7), [(3, 8, 1)])], []), [(some (.inl [(2, 6, 1)]), [], [], [])], [], [], 0)
set_option maxRecDepth 100000 in
theorem S_1811 : aSpec wd ct_1811 := bChk_ok wx_ok btX12_songLong (nds := []) (fk := []) (rk := (1, [])) (sp := 0) (fuel := 3000) (by decide +kernel) lk_n odX12_songLong
def ct_1812 : aCt := (mX12_songLong, [.inr (.inl [196]), .inl [(4, 4, 1)]], ([((199, 0), [(2, 4, 1)]), ((199, 4), [(7, 7, 1)]), ((199, 7), [(3, 8, 1)])], []), [(some (.inl [(2, 6, 1)]), [], [], [])], [], [], 0)
set_option maxRecDepth 100000 in
theorem S_1812 : aSpec wd ct_1812 := bChk_ok wx_ok btX12_songLong (nds := []) (fk := []) (rk := (1, [])) (sp := 0) (fuel := 3000) (by decide +kernel) lk_n odX12_songLong
def ct_1813 : aCt := (mX12_songLong, [.inr (.inl [196]), .inl [(5, 5, 1)]], ([((199, 0), [(2, 4, 1)]), ((199, 4), [(7, 7, 1)]), ((199, 7), [(3, 8, 1)])], []), [(some (.inl [(2, 6, 1)]), [], [], [])], [], [], 0)
set_option maxRecDepth 100000 in
theorem S_1813 : aSpec wd ct_1813 := bChk_ok wx_ok btX12_songLong (nds := []) (fk := []) (rk := (1, [])) (sp := 0) (fuel := 3000) (by decide +kernel) lk_n odX12_songLong
def ct_1814 : aCt := (mX12_songLong, [.inr (.inl [196]), .inl [(6, 6, 1)]], ([((199, 0), [(2, 4, 1)]), ((199, 4), [(7, 7, 1)]), ((199, 7), [(3, 8, 1)])], []), [(some (.inl [(2, 6, 1)]), [], [], [])], [], [], 0)
set_option maxRecDepth 100000 in
theorem S_1814 : aSpec wd ct_1814 := bChk_ok wx_ok btX12_songLong (nds := []) (fk := []) (rk := (1, [])) (sp := 0) (fuel := 3000) (by decide +kernel) lk_n odX12_songLong
end Pk2
section Pk3
def ct_1815 : aCt := (mX12_boxLong, [.inr (.inl [196]), .inl [(2, 2, 1)]], ([((199, 0), [(2, 4, 1)]), ((199, 4), [(7, 7, 1)]), ((199, 7), [(3, 8, 1)])], []), [(some (.inl [(2, 6, 1)]), [], [], [])], [], [], 1)
set_option maxRecDepth 100000 in
theorem S_1815 : aSpec wd ct_1815 := bChk_ok wx_ok btX12_boxLong (nds := []) (fk := [7]) (rk := (1, [])) (sp := 0) (fuel := 3000) (by decide +kernel) (lk_c ml_12_265 S_1808 (lk_c ml_12_265 S_1809 (lk_c ml_12_265 S_1810 (lk_c ml_12_265 S_1811 (lk_c ml_12_265 S_1812 (lk_c ml_12_265 S_1813 (lk_c ml_12_265 S_1814 (lk_c ml_12_262 S_1807 lk_n)))))))) odX12_boxLong
def ct_1816 : aCt := (mX12_ofBox, [.inr (.inl [196]), .inl [(3, 3, 1)], .inl [(1, 1, 1)]], ([((199, 0), [(2, 4, 1)]), ((199, 4), [(7, 7, 1)]), ((199, 7), [(4, 8, 1)])], []), [(some (.inl [(0, 6, 1)]), [], [], [])], [], [], 0)
set_option maxRecDepth 100000 in
theorem S_1816 : aSpec wd ct_1816 := bChk_ok wx_ok btX12_ofBox (nds := []) (fk := []) (rk := (1, [])) (sp := 0) (fuel := 3000) (by decide +kernel) lk_n odX12_ofBox
def ct_1817 : aCt := (mX12_songLong, [.inr (.inl [196]), .inl [(0, 0, 1)]], ([((199, 0), [(2, 4, 1)]), ((199, 4), [(7, 7, 1)]), ((199, 7), [(4, 8, 1)])], []), [(some (.inl [(2, 6, 1)]), [], [], [])], [], [], 0)
set_option maxRecDepth 100000 in
theorem S_1817 : aSpec wd ct_1817 := bChk_ok wx_ok btX12_songLong (nds := []) (fk := []) (rk := (1, [])) (sp := 0) (fuel := 3000) (by decide +kernel) lk_n odX12_songLong
def ct_1818 : aCt := (mX12_songLong, [.inr (.inl [196]), .inl [(1, 1, 1)]], ([((199, 0), [(2, 4, 1)]), ((199, 4), [(7, 7, 1)]), ((199, 7), [(4, 8, 1)])], []), [(some (.inl [(2, 6, 1)]), [], [], [])], [], [], 0)
set_option maxRecDepth 100000 in
theorem S_1818 : aSpec wd ct_1818 := bChk_ok wx_ok btX12_songLong (nds := []) (fk := []) (rk := (1, [])) (sp := 0) (fuel := 3000) (by decide +kernel) lk_n odX12_songLong
def ct_1819 : aCt := (mX12_songLong, [.inr (.inl [196]), .inl [(2, 2, 1)]], ([((199, 0), [(2, 4, 1)]), ((199, 4), [(7, 7, 1)]), ((199, 7), [(4, 8, 1)])], []), [(some (.inl [(2, 6, 1)]), [], [], [])], [], [], 0)
set_option maxRecDepth 100000 in
theorem S_1819 : aSpec wd ct_1819 := bChk_ok wx_ok btX12_songLong (nds := []) (fk := []) (rk := (1, [])) (sp := 0) (fuel := 3000) (by decide +kernel) lk_n odX12_songLong
def ct_1820 : aCt := (mX12_songLong, [.inr (.inl [196]), .inl [(3, 3, 1)]], ([((199, 0), [(2, 4, 1)]), ((199, 4), [(7, 7, 1)]), ((199, 7), [(4, 8, 1)])], []), [(some (.inl [(2, 6, 1)]), [], [], [])], [], [], 0)
set_option maxRecDepth 100000 in
theorem S_1820 : aSpec wd ct_1820 := bChk_ok wx_ok btX12_songLong (nds := []) (fk := []) (rk := (1, [])) (sp := 0) (fuel := 3000) (by decide +kernel) lk_n odX12_songLong
def ct_1821 : aCt := (mX12_songLong, [.inr (.inl [196]), .inl [(4, 4, 1)]], ([((199, 0), [(2, 4, 1)]), ((199, 4), [(7, 7, 1)]), ((199, 7), [(4, 8, 1)])], []), [(some (.inl [(2, 6, 1)]), [], [], [])], [], [], 0)
set_option maxRecDepth 100000 in
theorem S_1821 : aSpec wd ct_1821 := bChk_ok wx_ok btX12_songLong (nds := []) (fk := []) (rk := (1, [])) (sp := 0) (fuel := 3000) (by decide +kernel) lk_n odX12_songLong
def ct_1822 : aCt := (mX12_songLong, [.inr (.inl [196]), .inl [(5, 5, 1)]], ([((199, 0), [(2, 4, 1)]), ((199, 4), [(7, 7, 1)]), ((199, 7), [(4, 8, 1)])], []), [(some (.inl [(2, 6, 1)]), [], [], [])], [], [], 0)
set_option maxRecDepth 100000 in
theorem S_1822 : aSpec wd ct_1822 := bChk_ok wx_ok btX12_songLong (nds := []) (fk := []) (rk := (1, [])) (sp := 0) (fuel := 3000) (by decide +kernel) lk_n odX12_songLong
def ct_1823 : aCt := (mX12_songLong, [.inr (.inl [196]), .inl [(6, 6, 1)]], ([((199, 0), [(2, 4, 1)]), ((199, 4), [(7, 7, 1)]), ((199, 7), [(4, 8, 1)])], []), [(some (.inl [(2, 6, 1)]), [], [], [])], [], [], 0)
set_option maxRecDepth 100000 in
theorem S_1823 : aSpec wd ct_1823 := bChk_ok wx_ok btX12_songLong (nds := []) (fk := []) (rk := (1, [])) (sp := 0) (fuel := 3000) (by decide +kernel) lk_n odX12_songLong
def ct_1824 : aCt := (mX12_boxLong, [.inr (.inl [196]), .inl [(3, 3, 1)]], ([((199, 0), [(2, 4, 1)]), ((199, 4), [(7, 7, 1)]), ((199, 7), [(4, 8, 1)])], []), [(some (.inl [(2, 6, 1)]), [], [], [])], [], [], 1)
set_option maxRecDepth 100000 in
theorem S_1824 : aSpec wd ct_1824 := bChk_ok wx_ok btX12_boxLong (nds := []) (fk := [7]) (rk := (1, [])) (sp := 0) (fuel := 3000) (by decide +kernel) (lk_c ml_12_265 S_1817 (lk_c ml_12_265 S_1818 (lk_c ml_12_265 S_1819 (lk_c ml_12_265 S_1820 (lk_c ml_12_265 S_1821 (lk_c ml_12_265 S_1822 (lk_c ml_12_265 S_1823 (lk_c ml_12_262 S_1816 lk_n)))))))) odX12_boxLong
def ct_1825 : aCt := (mX12_ofBox, [.inr (.inl [196]), .inl [(4, 4, 1)], .inl [(1, 1, 1)]], ([((199, 0), [(2, 4, 1)]), ((199, 4), [(7, 7, 1)]), ((199, 7), [(5, 8, 1)])], []), [(some (.inl [(0, 6, 1)]), [], [], [])], [], [], 0)
set_option maxRecDepth 100000 in
theorem S_1825 : aSpec wd ct_1825 := bChk_ok wx_ok btX12_ofBox (nds := []) (fk := []) (rk := (1, [])) (sp := 0) (fuel := 3000) (by decide +kernel) lk_n odX12_ofBox
def ct_1826 : aCt := (mX12_songLong, [.inr (.inl [196]), .inl [(0, 0, 1)]], ([((199, 0), [(2, 4, 1)]), ((199, 4), [(7, 7, 1)]), ((199, 7), [(5, 8, 1)])], []), [(some (.inl [(2, 6, 1)]), [], [], [])], [], [], 0)
set_option maxRecDepth 100000 in
theorem S_1826 : aSpec wd ct_1826 := bChk_ok wx_ok btX12_songLong (nds := []) (fk := []) (rk := (1, [])) (sp := 0) (fuel := 3000) (by decide +kernel) lk_n odX12_songLong
def ct_1827 : aCt := (mX12_songLong, [.inr (.inl [196]), .inl [(1, 1, 1)]], ([((199, 0), [(2, 4, 1)]), ((199, 4), [(7, 7, 1)]), ((199, 7), [(5, 8, 1)])], []), [(some (.inl [(2, 6, 1)]), [], [], [])], [], [], 0)
set_option maxRecDepth 100000 in
theorem S_1827 : aSpec wd ct_1827 := bChk_ok wx_ok btX12_songLong (nds := []) (fk := []) (rk := (1, [])) (sp := 0) (fuel := 3000) (by decide +kernel) lk_n odX12_songLong
def ct_1828 : aCt := (mX12_songLong, [.inr (.inl [196]), .inl [(2, 2, 1)]], ([((199, 0), [(2, 4, 1)]), ((199, 4), [(7, 7, 1)]), ((199, 7), [(5, 8, 1)])], []), [(some (.inl [(2, 6, 1)]), [], [], [])], [], [], 0)
set_option maxRecDepth 100000 in
theorem S_1828 : aSpec wd ct_1828 := bChk_ok wx_ok btX12_songLong (nds := []) (fk := []) (rk := (1, [])) (sp := 0) (fuel := 3000) (by decide +kernel) lk_n odX12_songLong
def ct_1829 : aCt := (mX12_songLong, [.inr (.inl [196]), .inl [(3, 3, 1)]], ([((199, 0), [(2, 4, 1)]), ((199, 4), [(7, 7, 1)]), ((199, 7), [(5, 8, 1)])], []), [(some (.inl [(2, 6, 1)]), [], [], [])], [], [], 0)
set_option maxRecDepth 100000 in
theorem S_1829 : aSpec wd ct_1829 := bChk_ok wx_ok btX12_songLong (nds := []) (fk := []) (rk := (1, [])) (sp := 0) (fuel := 3000) (by decide +kernel) lk_n odX12_songLong
def ct_1830 : aCt := (mX12_songLong, [.inr (.inl [196]), .inl [(4, 4, 1)]], ([((199, 0), [(2, 4, 1)]), ((199, 4), [(7, 7, 1)]), ((199, 7), [(5, 8, 1)])], []), [(some (.inl [(2, 6, 1)]), [], [], [])], [], [], 0)
set_option maxRecDepth 100000 in
theorem S_1830 : aSpec wd ct_1830 := bChk_ok wx_ok btX12_songLong (nds := []) (fk := []) (rk := (1, [])) (sp := 0) (fuel := 3000) (by decide +kernel) lk_n odX12_songLong
def ct_1831 : aCt := (mX12_songLong, [.inr (.inl [196]), .inl [(5, 5, 1)]], ([((199, 0), [(2, 4, 1)]), ((199, 4), [(7, 7, 1)]), ((199, 7), [(5, 8, 1)])], []), [(some (.inl [(2, 6, 1)]), [], [], [])], [], [], 0)
set_option maxRecDepth 100000 in
theorem S_1831 : aSpec wd ct_1831 := bChk_ok wx_ok btX12_songLong (nds := []) (fk := []) (rk := (1, [])) (sp := 0) (fuel := 3000) (by decide +kernel) lk_n odX12_songLong
def ct_1832 : aCt := (mX12_songLong, [.inr (.inl [196]), .inl [(6, 6, 1)]], ([((199, 0), [(2, 4, 1)]), ((199, 4), [(7, 7, 1)]), ((199, 7), [(5, 8, 1)])], []), [(some (.inl [(2, 6, 1)]), [], [], [])], [], [], 0)
set_option maxRecDepth 100000 in
theorem S_1832 : aSpec wd ct_1832 := bChk_ok wx_ok btX12_songLong (nds := []) (fk := []) (rk := (1, [])) (sp := 0) (fuel := 3000) (by decide +kernel) lk_n odX12_songLong
def ct_1833 : aCt := (mX12_boxLong, [.inr (.inl [196]), .inl [(4, 4, 1)]], ([((199, 0), [(2, 4, 1)]), ((199, 4), [(7, 7, 1)]), ((199, 7), [(5, 8, 1)])], []), [(some (.inl [(2, 6, 1)]), [], [], [])], [], [], 1)
set_option maxRecDepth 100000 in
theorem S_1833 : aSpec wd ct_1833 := bChk_ok wx_ok btX12_boxLong (nds := []) (fk := [7]) (rk := (1, [])) (sp := 0) (fuel := 3000) (by decide +kernel) (lk_c ml_12_265 S_1826 (lk_c ml_12_265 S_1827 (lk_c ml_12_265 S_1828 (lk_c ml_12_265 S_1829 (lk_c ml_12_265 S_1830 (lk_c ml_12_265 S_1831 (lk_c ml_12_265 S_1832 (lk_c ml_12_262 S_1825 lk_n)))))))) odX12_boxLong
def ct_1834 : aCt := (mX12_ofBox, [.inr (.inl [196]), .inl [(5, 5, 1)], .inl [(1, 1, 1)]], ([((199, 0), [(2, 4, 1)]), ((199, 4), [(7, 7, 1)]), ((199, 7), [(6, 8, 1)])], []), [(some (.inl [(0, 6, 1)]), [], [], [])], [], [], 0)
set_option maxRecDepth 100000 in
theorem S_1834 : aSpec wd ct_1834 := bChk_ok wx_ok btX12_ofBox (nds := []) (fk := []) (rk := (1, [])) (sp := 0) (fuel := 3000) (by decide +kernel) lk_n odX12_ofBox
def ct_1835 : aCt := (mX12_songLong, [.inr (.inl [196]), .inl [(0, 0, 1)]], ([((199, 0), [(2, 4, 1)]), ((199, 4), [(7, 7, 1)]), ((199, 7), [(6, 8, 1)])], []), [(some (.inl [(2, 6, 1)]), [], [], [])], [], [], 0)
set_option maxRecDepth 100000 in
theorem S_1835 : aSpec wd ct_1835 := bChk_ok wx_ok btX12_songLong (nds := []) (fk := []) (rk := (1, [])) (sp := 0) (fuel := 3000) (by decide +kernel) lk_n odX12_songLong
def ct_1836 : aCt := (mX12_songLong, [.inr (.inl [196]), .inl [(1, 1, 1)]], ([((199, 0), [(2, 4, 1)]), ((199, 4), [(7, 7, 1)]), ((199, 7), [(6, 8, 1)])], []), [(some (.inl [(2, 6, 1)]), [], [], [])], [], [], 0)
set_option maxRecDepth 100000 in
theorem S_1836 : aSpec wd ct_1836 := bChk_ok wx_ok btX12_songLong (nds := []) (fk := []) (rk := (1, [])) (sp := 0) (fuel := 3000) (by decide +kernel) lk_n odX12_songLong
def ct_1837 : aCt := (mX12_songLong, [.inr (.inl [196]), .inl [(2, 2, 1)]], ([((199, 0), [(2, 4, 1)]), ((199, 4), [(7, 7, 1)]), ((199, 7), [(6, 8, 1)])], []), [(some (.inl [(2, 6, 1)]), [], [], [])], [], [], 0)
set_option maxRecDepth 100000 in
theorem S_1837 : aSpec wd ct_1837 := bChk_ok wx_ok btX12_songLong (nds := []) (fk := []) (rk := (1, [])) (sp := 0) (fuel := 3000) (by decide +kernel) lk_n odX12_songLong
def ct_1838 : aCt := (mX12_songLong, [.inr (.inl [196]), .inl [(3, 3, 1)]], ([((199, 0), [(2, 4, 1)]), ((199, 4), [(7, 7, 1)]), ((199, 7), [(6, 8, 1)])], []), [(some (.inl [(2, 6, 1)]), [], [], [])], [], [], 0)
set_option maxRecDepth 100000 in
theorem S_1838 : aSpec wd ct_1838 := bChk_ok wx_ok btX12_songLong (nds := []) (fk := []) (rk := (1, [])) (sp := 0) (fuel := 3000) (by decide +kernel) lk_n odX12_songLong
def ct_1839 : aCt := (mX12_songLong, [.inr (.inl [196]), .inl [(4, 4, 1)]], ([((199, 0), [(2, 4, 1)]), ((199, 4), [(7, 7, 1)]), ((199, 7), [(6, 8, 1)])], []), [(some (.inl [(2, 6, 1)]), [], [], [])], [], [], 0)
set_option maxRecDepth 100000 in
theorem S_1839 : aSpec wd ct_1839 := bChk_ok wx_ok btX12_songLong (nds := []) (fk := []) (rk := (1, [])) (sp := 0) (fuel := 3000) (by decide +kernel) lk_n odX12_songLong
def ct_1840 : aCt := (mX12_songLong, [.inr (.inl [196]), .inl [(5, 5, 1)]], ([((199, 0), [(2, 4, 1)]), ((199, 4), [(7, 7, 1)]), ((199, 7), [(6, 8, 1)])], []), [(some (.inl [(2, 6, 1)]), [], [], [])], [], [], 0)
set_option maxRecDepth 100000 in
theorem S_1840 : aSpec wd ct_1840 := bChk_ok wx_ok btX12_songLong (nds := []) (fk := []) (rk := (1, [])) (sp := 0) (fuel := 3000) (by decide +kernel) lk_n odX12_songLong
def ct_1841 : aCt := (mX12_songLong, [.inr (.inl [196]), .inl [(6, 6, 1)]], ([((199, 0), [(2, 4, 1)]), ((199, 4), [(7, 7, 1)]), ((199, 7), [(6, 8, 1)])], []), [(some (.inl [(2, 6, 1)]), [], [], [])], [], [], 0)
set_option maxRecDepth 100000 in
theorem S_1841 : aSpec wd ct_1841 := bChk_ok wx_ok btX12_songLong (nds := []) (fk := []) (rk := (1, [])) (sp := 0) (fuel := 3000) (by decide +kernel) lk_n odX12_songLong
def ct_1842 : aCt := (mX12_boxLong, [.inr (.inl [196]), .inl [(5, 5, 1)]], ([((199, 0), [(2, 4, 1)]), ((199, 4), [(7, 7, 1)]), ((199, 7), [(6, 8, 1)])], []), [(some (.inl [(2, 6, 1)]), [], [], [])], [], [], 1)
set_option maxRecDepth 100000 in
theorem S_1842 : aSpec wd ct_1842 := bChk_ok wx_ok btX12_boxLong (nds := []) (fk := [7]) (rk := (1, [])) (sp := 0) (fuel := 3000) (by decide +kernel) (lk_c ml_12_265 S_1835 (lk_c ml_12_265 S_1836 (lk_c ml_12_265 S_1837 (lk_c ml_12_265 S_1838 (lk_c ml_12_265 S_1839 (lk_c ml_12_265 S_1840 (lk_c ml_12_265 S_1841 (lk_c ml_12_262 S_1834 lk_n)))))))) odX12_boxLong
def ct_1843 : aCt := (mX12_ofBox, [.inr (.inl [196]), .inl [(6, 6, 1)], .inl [(1, 1, 1)]], ([((199, 0), [(2, 4, 1)]), ((199, 4), [(7, 7, 1)]), ((199, 7), [(7, 8, 1)])], []), [(some (.inl [(0, 6, 1)]), [], [], [])], [], [], 0)
set_option maxRecDepth 100000 in
theorem S_1843 : aSpec wd ct_1843 := bChk_ok wx_ok btX12_ofBox (nds := []) (fk := []) (rk := (1, [])) (sp := 0) (fuel := 3000) (by decide +kernel) lk_n odX12_ofBox
def ct_1844 : aCt := (mX12_songLong, [.inr (.inl [196]), .inl [(0, 0, 1)]], ([((199, 0), [(2, 4, 1)]), ((199, 4), [(7, 7, 1)]), ((199, 7), [(7, 8, 1)])], []), [(some (.inl [(2, 6, 1)]), [], [], [])], [], [], 0)
set_option maxRecDepth 100000 in
theorem S_1844 : aSpec wd ct_1844 := bChk_ok wx_ok btX12_songLong (nds := []) (fk := []) (rk := (1, [])) (sp := 0) (fuel := 3000) (by decide +kernel) lk_n odX12_songLong
def ct_1845 : aCt := (mX12_songLong, [.inr (.inl [196]), .inl [(1, 1, 1)]], ([((199, 0), [(2, 4, 1)]), ((199, 4), [(7, 7, 1)]), ((199, 7), [(7, 8, 1)])], []), [(some (.inl [(2, 6, 1)]), [], [], [])], [], [], 0)
set_option maxRecDepth 100000 in
theorem S_1845 : aSpec wd ct_1845 := bChk_ok wx_ok btX12_songLong (nds := []) (fk := []) (rk := (1, [])) (sp := 0) (fuel := 3000) (by decide +kernel) lk_n odX12_songLong
def ct_1846 : aCt := (mX12_songLong, [.inr (.inl [196]), .inl [(2, 2, 1)]], ([((199, 0), [(2, 4, 1)]), ((199, 4), [(7, 7, 1)]), ((199, 7), [(7, 8, 1)])], []), [(some (.inl [(2, 6, 1)]), [], [], [])], [], [], 0)
set_option maxRecDepth 100000 in
theorem S_1846 : aSpec wd ct_1846 := bChk_ok wx_ok btX12_songLong (nds := []) (fk := []) (rk := (1, [])) (sp := 0) (fuel := 3000) (by decide +kernel) lk_n odX12_songLong
def ct_1847 : aCt := (mX12_songLong, [.inr (.inl [196]), .inl [(3, 3, 1)]], ([((199, 0), [(2, 4, 1)]), ((199, 4), [(7, 7, 1)]), ((199, 7), [(7, 8, 1)])], []), [(some (.inl [(2, 6, 1)]), [], [], [])], [], [], 0)
set_option maxRecDepth 100000 in
theorem S_1847 : aSpec wd ct_1847 := bChk_ok wx_ok btX12_songLong (nds := []) (fk := []) (rk := (1, [])) (sp := 0) (fuel := 3000) (by decide +kernel) lk_n odX12_songLong
def ct_1848 : aCt := (mX12_songLong, [.inr (.inl [196]), .inl [(4, 4, 1)]], ([((199, 0), [(2, 4, 1)]), ((199, 4), [(7, 7, 1)]), ((199, 7), [(7, 8, 1)])], []), [(some (.inl [(2, 6, 1)]), [], [], [])], [], [], 0)
set_option maxRecDepth 100000 in
theorem S_1848 : aSpec wd ct_1848 := bChk_ok wx_ok btX12_songLong (nds := []) (fk := []) (rk := (1, [])) (sp := 0) (fuel := 3000) (by decide +kernel) lk_n odX12_songLong
def ct_1849 : aCt := (mX12_songLong, [.inr (.inl [196]), .inl [(5, 5, 1)]], ([((199, 0), [(2, 4, 1)]), ((199, 4), [(7, 7, 1)]), ((199, 7), [(7, 8, 1)])], []), [(some (.inl [(2, 6, 1)]), [], [], [])], [], [], 0)
set_option maxRecDepth 100000 in
theorem S_1849 : aSpec wd ct_1849 := bChk_ok wx_ok btX12_songLong (nds := []) (fk := []) (rk := (1, [])) (sp := 0) (fuel := 3000) (by decide +kernel) lk_n odX12_songLong
def ct_1850 : aCt := (mX12_songLong, [.inr (.inl [196]), .inl [(6, 6, 1)]], ([((199, 0), [(2, 4, 1)]), ((199, 4), [(7, 7, 1)]), ((199, 7), [(7, 8, 1)])], []), [(some (.inl [(2, 6, 1)]), [], [], [])], [], [], 0)
set_option maxRecDepth 100000 in
theorem S_1850 : aSpec wd ct_1850 := bChk_ok wx_ok btX12_songLong (nds := []) (fk := []) (rk := (1, [])) (sp := 0) (fuel := 3000) (by decide +kernel) lk_n odX12_songLong
def ct_1851 : aCt := (mX12_boxLong, [.inr (.inl [196]), .inl [(6, 6, 1)]], ([((199, 0), [(2, 4, 1)]), ((199, 4), [(7, 7, 1)]), ((199, 7), [(7, 8, 1)])], []), [(some (.inl [(2, 6, 1)]), [], [], [])], [], [], 1)
set_option maxRecDepth 100000 in
theorem S_1851 : aSpec wd ct_1851 := bChk_ok wx_ok btX12_boxLong (nds := []) (fk := [7]) (rk := (1, [])) (sp := 0) (fuel := 3000) (by decide +kernel) (lk_c ml_12_265 S_1844 (lk_c ml_12_265 S_1845 (lk_c ml_12_265 S_1846 (lk_c ml_12_265 S_1847 (lk_c ml_12_265 S_1848 (lk_c ml_12_265 S_1849 (lk_c ml_12_265 S_1850 (lk_c ml_12_262 S_1843 lk_n)))))))) odX12_boxLong
def ct_1852 : aCt := (mX12_ofBox, [.inr (.inl [196]), .inl [(7, 7, 1)], .inl [(1, 1, 1)]], ([((199, 0), [(2, 4, 1)]), ((199, 4), [(7, 7, 1)]), ((199, 7), [(8, 8, 1)])], []), [(some (.inl [(0, 6, 1)]), [], [], [])], [], [], 0)
set_option maxRecDepth 100000 in
theorem S_1852 : aSpec wd ct_1852 := bChk_ok wx_ok btX12_ofBox (nds := []) (fk := []) (rk := (1, [])) (sp := 0) (fuel := 3000) (by decide +kernel) lk_n odX12_ofBox
def ct_1853 : aCt := (mX12_songLong, [.inr (.inl [196]), .inl [(0, 0, 1)]], ([((199, 0), [(2, 4, 1)]), ((199, 4), [(7, 7, 1)]), ((199, 7), [(8, 8, 1)])], []), [(some (.inl [(2, 6, 1)]), [], [], [])], [], [], 0)
set_option maxRecDepth 100000 in
theorem S_1853 : aSpec wd ct_1853 := bChk_ok wx_ok btX12_songLong (nds := []) (fk := []) (rk := (1, [])) (sp := 0) (fuel := 3000) (by decide +kernel) lk_n odX12_songLong
def ct_1854 : aCt := (mX12_songLong, [.inr (.inl [196]), .inl [(1, 1, 1)]], ([((199, 0), [(2, 4, 1)]), ((199, 4), [(7, 7, 1)]), ((199, 7), [(8, 8, 1)])], []), [(some (.inl [(2, 6, 1)]), [], [], [])], [], [], 0)
set_option maxRecDepth 100000 in
theorem S_1854 : aSpec wd ct_1854 := bChk_ok wx_ok btX12_songLong (nds := []) (fk := []) (rk := (1, [])) (sp := 0) (fuel := 3000) (by decide +kernel) lk_n odX12_songLong
def ct_1855 : aCt := (mX12_songLong, [.inr (.inl [196]), .inl [(2, 2, 1)]], ([((199, 0), [(2, 4, 1)]), ((199, 4), [(7, 7, 1)]), ((199, 7), [(8, 8, 1)])], []), [(some (.inl [(2, 6, 1)]), [], [], [])], [], [], 0)
set_option maxRecDepth 100000 in
theorem S_1855 : aSpec wd ct_1855 := bChk_ok wx_ok btX12_songLong (nds := []) (fk := []) (rk := (1, [])) (sp := 0) (fuel := 3000) (by decide +kernel) lk_n odX12_songLong
def ct_1856 : aCt := (mX12_songLong, [.inr (.inl [196]), .inl [(3, 3, 1)]], ([((199, 0), [(2, 4, 1)]), ((199, 4), [(7, 7, 1)]), ((199, 7), [(8, 8, 1)])], []), [(some (.inl [(2, 6, 1)]), [], [], [])], [], [], 0)
set_option maxRecDepth 100000 in
theorem S_1856 : aSpec wd ct_1856 := bChk_ok wx_ok btX12_songLong (nds := []) (fk := []) (rk := (1, [])) (sp := 0) (fuel := 3000) (by decide +kernel) lk_n odX12_songLong
def ct_1857 : aCt := (mX12_songLong, [.inr (.inl [196]), .inl [(4, 4, 1)]], ([((199, 0), [(2, 4, 1)]), ((199, 4), [(7, 7, 1)]), ((199, 7), [(8, 8, 1)])], []), [(some (.inl [(2, 6, 1)]), [], [], [])], [], [], 0)
set_option maxRecDepth 100000 in
theorem S_1857 : aSpec wd ct_1857 := bChk_ok wx_ok btX12_songLong (nds := []) (fk := []) (rk := (1, [])) (sp := 0) (fuel := 3000) (by decide +kernel) lk_n odX12_songLong
def ct_1858 : aCt := (mX12_songLong, [.inr (.inl [196]), .inl [(5, 5, 1)]], ([((199, 0), [(2, 4, 1)]), ((199, 4), [(7, 7, 1)]), ((199, 7), [(8, 8, 1)])], []), [(some (.inl [(2, 6, 1)]), [], [], [])], [], [], 0)
set_option maxRecDepth 100000 in
theorem S_1858 : aSpec wd ct_1858 := bChk_ok wx_ok btX12_songLong (nds := []) (fk := []) (rk := (1, [])) (sp := 0) (fuel := 3000) (by decide +kernel) lk_n odX12_songLong
def ct_1859 : aCt := (mX12_songLong, [.inr (.inl [196]), .inl [(6, 6, 1)]], ([((199, 0), [(2, 4, 1)]), ((199, 4), [(7, 7, 1)]), ((199, 7), [(8, 8, 1)])], []), [(some (.inl [(2, 6, 1)]), [], [], [])], [], [], 0)
set_option maxRecDepth 100000 in
theorem S_1859 : aSpec wd ct_1859 := bChk_ok wx_ok btX12_songLong (nds := []) (fk := []) (rk := (1, [])) (sp := 0) (fuel := 3000) (by decide +kernel) lk_n odX12_songLong
def ct_1860 : aCt := (mX12_boxLong, [.inr (.inl [196]), .inl [(7, 7, 1)]], ([((199, 0), [(2, 4, 1)]), ((199, 4), [(7, 7, 1)]), ((199, 7), [(8, 8, 1)])], []), [(some (.inl [(2, 6, 1)]), [], [], [])], [], [], 1)
set_option maxRecDepth 100000 in
theorem S_1860 : aSpec wd ct_1860 := bChk_ok wx_ok btX12_boxLong (nds := []) (fk := [7]) (rk := (1, [])) (sp := 0) (fuel := 3000) (by decide +kernel) (lk_c ml_12_265 S_1853 (lk_c ml_12_265 S_1854 (lk_c ml_12_265 S_1855 (lk_c ml_12_265 S_1856 (lk_c ml_12_265 S_1857 (lk_c ml_12_265 S_1858 (lk_c ml_12_265 S_1859 (lk_c ml_12_262 S_1852 lk_n)))))))) odX12_boxLong
def ct_1861 : aCt := (mX12_decade, [.inr (.inl [196]), .inl aTop, .inl aTop], ([((199, 4), [(7, 7, 1)])], []), [(some (.inl aTop), [], [((196, 11), [(0, 0, 1)]), ((196, 14), [(1, 1, 1)]), ((199, 0), [(2, 4, 1)])], []), (some (.inl [(-1, -1, 1)]), [], [((196, 11), [(1, 2, 1)])], [])], [(196, 0, 1), (196, 11, 12)], [], 4)
set_option maxRecDepth 100000 in
theorem S_1861 : aSpec wd ct_1861 := bChk_ok wx_ok btX12_decade (nds := [((nat_lit 52), [lcn_306, lcn_280, lcn_281, lcn_1081, lcn_88, lcn_1016], [], [sl_632, sl_1002, sl_633, sl_1074], [], (759, [(4, -10)])), ((nat_lit 61), [lcn_306, lcn_280, lcn_1083, lcn_1081, lcn_88, lcn_1014, lcn_231], [], [sl_632, sl_1002, sl_633, sl_1074], [], (758, [(4, -10)])), ((nat_lit 61), [lcn_306, lcn_280, lcn_1083, lcn_1081, lcn_88, lcn_1014, lcn_1033, lcn_1084, lcn_1085], [], [sl_632, sl_1002, sl_633, sl_1074, sl_1031], [], (757, [(4, -10)])), ((nat_lit 61), [lcn_306, lcn_280, lcn_1083, lcn_1081, lcn_88, lcn_1014, lcn_1035, lcn_1084, lcn_1085], [], [sl_632, sl_1002, sl_633, sl_1074, sl_1065], [], (756, [(4, -10)])), ((nat_lit 61), [lcn_306, lcn_280, lcn_1083, lcn_1081, lcn_88, lcn_1014, lcn_1037, lcn_1084, lcn_1085], [], [sl_632, sl_1002, sl_633, sl_1074, sl_1064], [], (755, [(4, -10)])), ((nat_lit 61), [lcn_306, lcn_280, lcn_1083, lcn_1081, lcn_88, lcn_1014, lcn_1039, lcn_1084, lcn_1085], [], [sl_632, sl_1002, sl_633, sl_1074, sl_1063], [], (754, [(4, -10)])), ((nat_lit 61), [lcn_306, lcn_280, lcn_1083, lcn_1081, lcn_88, lcn_1014, lcn_1041, lcn_1084, lcn_1085], [], [sl_632, sl_1002, sl_633, sl_1074, sl_1062], [], (753, [(4, -10)])), ((nat_lit 61), [lcn_306, lcn_280, lcn_1083, lcn_1081, lcn_88, lcn_1014, lcn_1043, lcn_1084, lcn_1085], [], [sl_632, sl_1002, sl_633, sl_1074, sl_1061], [], (752, [(4, -10)])), ((nat_lit 61), [lcn_306, lcn_280, lcn_1083, lcn_1081, lcn_88, lcn_1014, lcn_1045, lcn_1084, lcn_1085], [], [sl_632, sl_1002, sl_633, sl_1074, sl_1060], [], (751, [(4, -10)])), ((nat_lit 61), [lcn_306, lcn_280, lcn_1083, lcn_1081, lcn_88, lcn_1014, lcn_1047, lcn_1084, lcn_1085], [], [sl_632, sl_1002, sl_633, sl_1074, sl_1059], [], (750, [(4, -10)]))]) (fk := []) (rk := (760, [])) (sp := 2310346608841064448) (fuel := 3000) (by decide +kernel) (lk_c ml_12_167 S_651 (lk_c ml_12_284 S_1860 (lk_c ml_12_284 S_1851 (lk_c ml_12_284 S_1842 (lk_c ml_12_284 S_1833 (lk_c ml_12_284 S_1824 (lk_c ml_12_284 S_1815 (lk_c ml_12_284 S_1806 (lk_c ml_12_284 S_1797 (lk_c ml_12_170 S_1112 (lk_c ml_12_170 S_653 (lk_c ml_12_262 S_1852 (lk_c ml_12_262 S_1843 (lk_c ml_12_262 S_1834 (lk_c ml_12_262 S_1825 (lk_c ml_12_262 S_1816 (lk_c ml_12_262 S_1807 (lk_c ml_12_262 S_1798 (lk_c ml_12_262 S_1789 (lk_c ml_12_291 S_1155 (lk_c ml_12_149 S_1518 (lk_c ml_12_149 S_678 lk_n)))))))))))))))))))))) odX12_decade
def ct_1862 : aCt := (mX12_in, [.inl aTop, .inl [(0, 0, 1)], .inl [(1, 3, 1)]], ([], []), [(some (.inl [(0, 0, 1)]), [some [(-2147483648, -1, 1), (2, 2147483647, 1)], none, none], [], []), (some (.inl [(1, 1, 1)]), [some [(0, 3, 1)], none, none], [], [])], [(1000002, 0, 0)], [], 0)
set_option maxRecDepth 100000 in
theorem S_1862 : aSpec wd ct_1862 := bChk_ok wx_ok btX12_in (nds := []) (fk := []) (rk := (1, [])) (sp := 0) (fuel := 3000) (by decide +kernel) lk_n odX12_in
set_option maxRecDepth 100000 in
theorem btX12_isNot : bTab oX12_isNot tX12_isNot := ⟨ofX12_isNot, by decide +kernel⟩
def ct_1863 : aCt := (mX12_isNot, [.inr (.inl [196]), .inl [(5, 5, 1)]], ([((196, 11), [(0, 0, 1)]), ((199, 0), [(2, 4, 1)]), ((199, 4), [(1, 7, 1)]), ((199, 7), [(1, 8, 1)])], []), [(some (.inl [(0, 0, 1)]), [], [((196, 11), [(5, 5, 1)])], [])], [(196, 11, 12)], [], 0)
set_option maxRecDepth 100000 in
theorem S_1863 : aSpec wd ct_1863 := bChk_ok wx_ok btX12_isNot (nds := []) (fk := []) (rk := (1, [])) (sp := 0) (fuel := 3000) (by decide +kernel) lk_n odX12_isNot
def ct_1864 : aCt := (mX12_isNot, [.inr (.inl [196]), .inl [(2, 2, 1)]], ([((196, 11), [(0, 0, 1)]), ((199, 0), [(2, 4, 1)]), ((199, 4), [(1, 7, 1)]), ((199, 7), [(1, 8, 1)])], []), [(some (.inl [(0, 0, 1)]), [], [((196, 11), [(2, 2, 1)])], [])], [(196, 11, 12)], [], 0)
set_option maxRecDepth 100000 in
theorem S_1864 : aSpec wd ct_1864 := bChk_ok wx_ok btX12_isNot (nds := []) (fk := []) (rk := (1, [])) (sp := 0) (fuel := 3000) (by decide +kernel) lk_n odX12_isNot
def ct_1865 : aCt := (mX12_isNot, [.inr (.inl [196]), .inl [(1, 1, 1)]], ([((196, 11), [(0, 0, 1)]), ((199, 0), [(2, 4, 1)]), ((199, 4), [(1, 7, 1)]), ((199, 7), [(1, 8, 1)])], []), [(some (.inl [(0, 0, 1)]), [], [((196, 11), [(1, 1, 1)])], [])], [(196, 11, 12)], [], 0)
set_option maxRecDepth 100000 in
theorem S_1865 : aSpec wd ct_1865 := bChk_ok wx_ok btX12_isNot (nds := []) (fk := []) (rk := (1, [])) (sp := 0) (fuel := 3000) (by decide +kernel) lk_n odX12_isNot
def ct_1866 : aCt := (mX12_isNot, [.inr (.inl [196]), .inl [(1, 1, 1)]], ([((196, 11), [(0, 0, 1)])], []), [(some (.inl [(0, 0, 1)]), [], [((196, 11), [(1, 1, 1)])], [])], [(196, 11, 12)], [], 0)
set_option maxRecDepth 100000 in
theorem S_1866 : aSpec wd ct_1866 := bChk_ok wx_ok btX12_isNot (nds := []) (fk := []) (rk := (1, [])) (sp := 0) (fuel := 3000) (by decide +kernel) lk_n odX12_isNot
set_option maxRecDepth 100000 in
theorem btX12_tune : bTab oX12_tune tX12_tune := ⟨ofX12_tune, by decide +kernel⟩
def ct_1867 : aCt := (mX12_tune, [.inr (.inl [196]), .inl aTop, .inl aTop, .inl aTop], ([], []), [(some (.inl [(0, 0, 1)]), [], [((196, 11), [(1, 2, 1), (5, 5, 1)])], []), (some (.inl [(1, 1, 1)]), [none, some [(0, 7, 1)], some [(0, 5, 1)], some [(0, 3, 1)]], [((196, 11), [(0, 0, 1)]), ((196, 14), [(1, 1, 1)]), ((196, 20), [(1, 12, 1)]), ((199, 0), [(2, 4, 1)]), ((199, 4), [(1, 7, 1)]), ((199, 7), [(1, 8, 1)])], [])], [(196, 0, 1), (196, 11, 12), (196, 20, 21), (201, 28, 76), (202, 0, 912)], [], 3)
set_option maxRecDepth 100000 in
theorem S_1867 : aSpec wd ct_1867 := bChk_ok wx_ok btX12_tune (nds := []) (fk := []) (rk := (1, [])) (sp := 0) (fuel := 3000) (by decide +kernel) (lk_c ml_12_167 S_651 (lk_c ml_12_424 S_X12_note1_0 (lk_c ml_12_427 S_1863 (lk_c ml_12_427 S_1864 (lk_c ml_12_427 S_1865 (lk_c ml_12_427 S_1866 (lk_c ml_12_284 S_1134 (lk_c ml_12_274 S_1115 (lk_c ml_12_149 S_1862 (lk_c ml_12_149 S_1123 lk_n)))))))))) odX12_tune
def ct_1868 : aCt := (mX12_no, [.inr (.inl [196]), .inl [(3, 3, 1)]], ([((196, 11), [(0, 0, 1)])], []), [(some (.inl [(-1, -1, 1)]), [], [((196, 11), [(3, 3, 1)])], [])], [(196, 11, 12)], [], 0)
set_option maxRecDepth 100000 in
theorem S_1868 : aSpec wd ct_1868 := bChk_ok wx_ok btX12_no (nds := []) (fk := []) (rk := (1, [])) (sp := 0) (fuel := 3000) (by decide +kernel) lk_n odX12_no
set_option maxRecDepth 100000 in
theorem btX12_years : bTab oX12_years tX12_years := ⟨ofX12_years, by decide +kernel⟩
def ct_1869 : aCt := (mX12_years, [.inr (.inl [196]), .inl aTop], ([], []), [(some (.inl [(1, 9999, 1)]), [none, some [(1, 99, 1)]], [((196, 11), [(0, 0, 1)]), ((196, 14), [(1, 1, 1)]), ((196, 20), [(1, 12, 1)]), ((199, 0), [(2, 4, 1)]), ((199, 4), [(1, 7, 1)])], []), (some (.inl [(-1, -1, 1)]), [], [((196, 11), [(1, 3, 1)])], [])], [(196, 0, 1), (196, 11, 12), (196, 20, 21), (201, 0, 1), (202, 0, 912)], [], 3)
set_option maxRecDepth 100000 in
theorem S_1869 : aSpec wd ct_1869 := bChk_ok wx_ok btX12_years (nds := []) (fk := [40]) (rk := (1, [])) (sp := 0) (fuel := 3000) (by decide +kernel) (lk_c ml_12_167 S_651 (lk_c ml_12_424 S_X12_note1_0 (lk_c ml_12_170 S_1112 (lk_c ml_12_170 S_1868 (lk_c ml_12_170 S_653 (lk_c ml_12_149 S_793 lk_n)))))) odX12_years
def ct_1870 : aCt := (mX12_in, [.inl aTop, .inl [(0, 0, 1)], .inl [(-1, 11, 1)]], ([], []), [(some (.inl [(0, 0, 1)]), [some aTop, none, none], [], []), (some (.inl [(1, 1, 1)]), [some [(0, 11, 1)], none, some [(0, 11, 1)]], [], [])], [(1000002, 0, 0)], [], 0)
set_option maxRecDepth 100000 in
theorem S_1870 : aSpec wd ct_1870 := bChk_ok wx_ok btX12_in (nds := []) (fk := []) (rk := (1, [])) (sp := 0) (fuel := 3000) (by decide +kernel) lk_n odX12_in
def ct_1871 : aCt := (mX12_isNot, [.inr (.inl [196]), .inl [(5, 5, 1)]], ([((196, 11), [(0, 0, 1)]), ((199, 0), [(2, 4, 1)]), ((199, 4), [(1, 7, 1)]), ((199, 5), [(1, 12, 1)])], []), [(some (.inl [(0, 0, 1)]), [], [((196, 11), [(5, 5, 1)])], [])], [(196, 11, 12)], [], 0)
set_option maxRecDepth 100000 in
theorem S_1871 : aSpec wd ct_1871 := bChk_ok wx_ok btX12_isNot (nds := []) (fk := []) (rk := (1, [])) (sp := 0) (fuel := 3000) (by decide +kernel) lk_n odX12_isNot
def ct_1872 : aCt := (mX12_isNot, [.inr (.inl [196]), .inl [(1, 1, 1)]], ([((196, 11), [(0, 0, 1)]), ((199, 0), [(2, 4, 1)]), ((199, 4), [(1, 7, 1)])], []), [(some (.inl [(0, 0, 1)]), [], [((196, 11), [(1, 1, 1)])], [])], [(196, 11, 12)], [], 0)
set_option maxRecDepth 100000 in
theorem S_1872 : aSpec wd ct_1872 := bChk_ok wx_ok btX12_isNot (nds := []) (fk := []) (rk := (1, [])) (sp := 0) (fuel := 3000) (by decide +kernel) lk_n odX12_isNot
set_option maxRecDepth 100000 in
theorem btX12_close : bTab oX12_close tX12_close := ⟨ofX12_close, by decide +kernel⟩
def ct_1873 : aCt := (mX12_close, [.inr (.inl [196]), .inl aTop, .inl [(0, 1, 1)]], ([], []), [(some (.inl [(0, 0, 1)]), [], [((196, 11), [(1, 1, 1), (5, 5, 1)])], []), (some (.inl [(1, 1, 1)]), [none, some [(0, 11, 1)], some [(0, 1, 1)]], [((196, 11), [(0, 0, 1)]), ((196, 14), [(1, 1, 1)]), ((196, 20), [(1, 12, 1)]), ((199, 0), [(2, 4, 1)]), ((199, 4), [(1, 7, 1)]), ((199, 5), [(1, 12, 1)])], [])], [(196, 0, 1), (196, 11, 12), (196, 20, 21), (201, 1, 2), (202, 0, 912)], [], 3)
set_option maxRecDepth 100000 in
theorem S_1873 : aSpec wd ct_1873 := bChk_ok wx_ok btX12_close (nds := []) (fk := []) (rk := (1, [])) (sp := 0) (fuel := 3000) (by decide +kernel) (lk_c ml_12_167 S_651 (lk_c ml_12_424 S_X12_note1_0 (lk_c ml_12_427 S_1871 (lk_c ml_12_427 S_1872 (lk_c ml_12_427 S_1866 (lk_c ml_12_302 S_1161 (lk_c ml_12_149 S_1870 lk_n))))))) odX12_close
def ct_1874 : aCt := (mX12_isNot, [.inr (.inl [196]), .inl [(6, 6, 1)]], ([((196, 11), [(0, 0, 1)])], []), [(some (.inl [(0, 0, 1)]), [], [((196, 11), [(6, 6, 1)])], [])], [(196, 11, 12)], [], 0)
set_option maxRecDepth 100000 in
theorem S_1874 : aSpec wd ct_1874 := bChk_ok wx_ok btX12_isNot (nds := []) (fk := []) (rk := (1, [])) (sp := 0) (fuel := 3000) (by decide +kernel) lk_n odX12_isNot
set_option maxRecDepth 100000 in
theorem btX12_undo : bTab oX12_undo tX12_undo := ⟨ofX12_undo, by decide +kernel⟩
def ct_1875 : aCt := (mX12_undo, [.inr (.inl [196])], ([], []), [(some (.inl [(0, 0, 1)]), [], [((196, 11), [(6, 6, 1)]), ((196, 20), [(0, 0, 1)])], []), (some (.inl [(1, 1, 1)]), [], [((196, 11), [(0, 0, 1)]), ((196, 20), [(0, 11, 1)])], [])], [(196, 0, 1), (196, 11, 12), (196, 20, 21), (201, 0, 76)], [], 2)
set_option maxRecDepth 100000 in
theorem S_1875 : aSpec wd ct_1875 := bChk_ok wx_ok btX12_undo (nds := []) (fk := []) (rk := (1, [])) (sp := 0) (fuel := 3000) (by decide +kernel) (lk_c ml_12_167 S_651 (lk_c ml_12_427 S_1874 (lk_c ml_12_176 S_X12_copy_32 lk_n))) odX12_undo
set_option maxRecDepth 100000 in
theorem btX12_image : bTab oX12_image tX12_image := ⟨ofX12_image, by decide +kernel⟩
def ct_1876 : aCt := (mX12_image, [.inr (.inl [196])], ([], []), [(some (.inl [(0, 2, 1)]), [], [((196, 11), [(0, 0, 1)]), ((196, 14), [(1, 1, 1)]), ((196, 21), [(1, 3, 1)]), ((199, 0), [(2, 4, 1)]), ((199, 4), [(1, 7, 1)])], []), (some (.inl [(-1, -1, 1)]), [], [((196, 11), [(1, 1, 1), (3, 3, 1)])], [])], [(196, 0, 1), (196, 11, 12), (196, 21, 22), (203, 0, 228)], [], 2)
set_option maxRecDepth 100000 in
theorem S_1876 : aSpec wd ct_1876 := bChk_ok wx_ok btX12_image (nds := []) (fk := []) (rk := (1, [])) (sp := 0) (fuel := 3000) (by decide +kernel) (lk_c ml_12_167 S_651 (lk_c ml_12_170 S_1112 (lk_c ml_12_170 S_1868 (lk_c ml_12_176 S_X12_copy_33 lk_n)))) odX12_image
def ct_1877 : aCt := (mX12_in, [.inl aTop, .inl [(0, 0, 1)], .inl [(-1, 2, 1)]], ([], []), [(some (.inl [(0, 0, 1)]), [some aTop, none, none], [], []), (some (.inl [(1, 1, 1)]), [some [(0, 2, 1)], none, some [(0, 2, 1)]], [], [])], [(1000002, 0, 0)], [], 0)
set_option maxRecDepth 100000 in
theorem S_1877 : aSpec wd ct_1877 := bChk_ok wx_ok btX12_in (nds := []) (fk := []) (rk := (1, [])) (sp := 0) (fuel := 3000) (by decide +kernel) lk_n odX12_in
set_option maxRecDepth 100000 in
theorem btX12_back : bTab oX12_back tX12_back := ⟨ofX12_back, by decide +kernel⟩
def ct_1878 : aCt := (mX12_back, [.inr (.inl [196]), .inl aTop], ([], []), [(some (.inl [(0, 0, 1)]), [], [((196, 11), [(1, 1, 1)])], []), (some (.inl [(1, 1, 1)]), [none, some [(0, 2, 1)]], [((196, 11), [(0, 0, 1)]), ((196, 20), [(0, 0, 1)]), ((196, 21), [(1, 3, 1)])], [])], [(196, 0, 1), (196, 11, 12), (196, 20, 21), (201, 0, 76)], [], 2)
set_option maxRecDepth 100000 in
theorem S_1878 : aSpec wd ct_1878 := bChk_ok wx_ok btX12_back (nds := []) (fk := []) (rk := (1, [])) (sp := 0) (fuel := 3000) (by decide +kernel) (lk_c ml_12_167 S_651 (lk_c ml_12_427 S_1866 (lk_c ml_12_176 S_X12_copy_34 (lk_c ml_12_149 S_1877 lk_n)))) odX12_back
def ct_1879 : aCt := (mX12_in, [.inl [(-2147483648, 11, 1), (13, 2147483647, 1)], .inl [(0, 0, 1)], .inl [(11, 11, 1)]], ([], []), [(some (.inl [(0, 0, 1)]), [some [(-2147483648, -1, 1), (13, 2147483647, 1)], none, none], [], []), (some (.inl [(1, 1, 1)]), [some [(0, 11, 1)], none, none], [], [])], [(1000002, 0, 0)], [], 0)
set_option maxRecDepth 100000 in
theorem S_1879 : aSpec wd ct_1879 := bChk_ok wx_ok btX12_in (nds := []) (fk := []) (rk := (1, [])) (sp := 0) (fuel := 3000) (by decide +kernel) lk_n odX12_in
def ct_1880 : aCt := (mX12_in, [.inl [(-2147483648, 11, 1), (13, 2147483647, 1)], .inl [(0, 0, 1)], .inl [(8, 8, 1)]], ([], []), [(some (.inl [(0, 0, 1)]), [some [(-2147483648, -1, 1), (9, 11, 1), (13, 2147483647, 1)], none, none], [], []), (some (.inl [(1, 1, 1)]), [some [(0, 8, 1)], none, none], [], [])], [(1000002, 0, 0)], [], 0)
set_option maxRecDepth 100000 in
theorem S_1880 : aSpec wd ct_1880 := bChk_ok wx_ok btX12_in (nds := []) (fk := []) (rk := (1, [])) (sp := 0) (fuel := 3000) (by decide +kernel) lk_n odX12_in
set_option maxRecDepth 100000 in
theorem btX12_size : bTab oX12_size tX12_size := ⟨ofX12_size, by decide +kernel⟩
def ct_1881 : aCt := (mX12_size, [.inr (.inl [196]), .inl aTop], ([], []), [(some (.inl aTop), [none, some [(0, 12, 1)]], [], []), (some (.inl [(-1, -1, 1)]), [none, some [(-2147483648, 11, 1), (13, 2147483647, 1)]], [], []), (some (.inl [(0, 0, 1)]), [none, some [(0, 11, 1)]], [((196, 14), [(0, 0, 1)])], [])], [(196, 0, 1)], [], 1)
set_option maxRecDepth 100000 in
theorem S_1881 : aSpec wd ct_1881 := bChk_ok wx_ok btX12_size (nds := []) (fk := []) (rk := (1, [])) (sp := 0) (fuel := 3000) (by decide +kernel) (lk_c ml_12_149 S_1879 (lk_c ml_12_149 S_1880 lk_n)) odX12_size
set_option maxRecDepth 100000 in
theorem btX12_trouble : bTab oX12_trouble tX12_trouble := ⟨ofX12_trouble, by decide +kernel⟩
def ct_1882 : aCt := (mX12_trouble, [.inr (.inl [196])], ([], []), [(some (.inl [(0, 6, 1)]), [], [], [])], [(196, 0, 1)], [], 0)
set_option maxRecDepth 100000 in
theorem S_1882 : aSpec wd ct_1882 := bChk_ok wx_ok btX12_trouble (nds := []) (fk := []) (rk := (1, [])) (sp := 0) (fuel := 3000) (by decide +kernel) lk_n odX12_trouble
set_option maxRecDepth 100000 in
theorem btX12_led : bTab oX12_led tX12_led := ⟨ofX12_led, by decide +kernel⟩
def ct_1883 : aCt := (mX12_led, [.inr (.inl [196]), .inl aTop], ([], []), [(some (.inl [(0, 7, 1)]), [], [((196, 14), [(1, 1, 1)]), ((199, 0), [(2, 4, 1)]), ((199, 4), [(1, 7, 1)]), ((199, 7), [(1, 8, 1)])], []), (some (.inl [(0, 0, 1)]), [], [], [])], [(196, 0, 1)], [], 0)
set_option maxRecDepth 100000 in
theorem S_1883 : aSpec wd ct_1883 := bChk_ok wx_ok btX12_led (nds := [((nat_lit 4), [lcn_306, lcn_76, lcn_51, lcn_104], [], [], [], (8, [(2, -1)]))]) (fk := []) (rk := (9, [])) (sp := 16) (fuel := 3000) (by decide +kernel) lk_n odX12_led
def ct_1884 : aCt := (mX12_no, [.inr (.inl [196]), .inl [(5, 5, 1)]], ([((196, 11), [(0, 0, 1)])], []), [(some (.inl [(-1, -1, 1)]), [], [((196, 11), [(5, 5, 1)])], [])], [(196, 11, 12)], [], 0)
set_option maxRecDepth 100000 in
theorem S_1884 : aSpec wd ct_1884 := bChk_ok wx_ok btX12_no (nds := []) (fk := []) (rk := (1, [])) (sp := 0) (fuel := 3000) (by decide +kernel) lk_n odX12_no
end Pk3
