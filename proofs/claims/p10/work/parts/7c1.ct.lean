section Pk0
set_option maxRecDepth 100000 in
theorem btX12_fault : bTab oX12_fault tX12_fault := ⟨ofX12_fault, by decide +kernel⟩
def ct_1105 : aCt := (mX12_fault, [.inr (.inl [196])], ([], []), [(some (.inl [(0, 7, 1)]), [], [], [])], [(196, 0, 1)], [], 0)
set_option maxRecDepth 100000 in
theorem S_1105 : aSpec wd ct_1105 := bChk_ok wx_ok btX12_fault (nds := []) (fk := []) (rk := (1, [])) (sp := 0) (fuel := 3000) (by decide +kernel) lk_n odX12_fault
set_option maxRecDepth 100000 in
theorem btX12_where : bTab oX12_where tX12_where := ⟨ofX12_where, by decide +kernel⟩
def ct_1106 : aCt := (mX12_where, [.inr (.inl [196])], ([], []), [(some (.inl aTop), [], [((196, 11), [(4, 4, 1)])], []), (some (.inl [(-1, -1, 1)]), [], [((196, 11), [(0, 3, 1), (5, 6, 1)])], [])], [(196, 0, 1)], [], 0)
set_option maxRecDepth 100000 in
theorem S_1106 : aSpec wd ct_1106 := bChk_ok wx_ok btX12_where (nds := []) (fk := []) (rk := (1, [])) (sp := 0) (fuel := 3000) (by decide +kernel) lk_n odX12_where
def ct_1107 : aCt := (mX12_in, [.inl aTop, .inl [(0, 0, 1)], .inl [(-1, 4, 1)]], ([], []), [(some (.inl [(0, 0, 1)]), [some aTop, none, none], [], []), (some (.inl [(1, 1, 1)]), [some [(0, 4, 1)], none, some [(0, 4, 1)]], [], [])], [(1000002, 0, 0)], [], 0)
set_option maxRecDepth 100000 in
theorem S_1107 : aSpec wd ct_1107 := bChk_ok wx_ok btX12_in (nds := []) (fk := []) (rk := (1, [])) (sp := 0) (fuel := 3000) (by decide +kernel) lk_n odX12_in
set_option maxRecDepth 100000 in
theorem btX12_isWhale : bTab oX12_isWhale tX12_isWhale := ⟨ofX12_isWhale, by decide +kernel⟩
def ct_1108 : aCt := (mX12_isWhale, [.inr (.inl [196]), .inl aTop], ([], []), [(some (.inl [(0, 0, 1)]), [], [], []), (some (.inl [(1, 1, 1)]), [none, some [(0, 4, 1)]], [((196, 14), [(1, 1, 1)]), ((199, 0), [(2, 4, 1)]), ((199, 4), [(1, 7, 1)]), ((199, 6), [(1, 5, 1)])], [])], [], [], 1)
set_option maxRecDepth 100000 in
theorem S_1108 : aSpec wd ct_1108 := bChk_ok wx_ok btX12_isWhale (nds := []) (fk := []) (rk := (1, [])) (sp := 0) (fuel := 3000) (by decide +kernel) (lk_c ml_12_149 S_1107 lk_n) odX12_isWhale
def ct_1109 : aCt := (mX12_in, [.inl aTop, .inl [(0, 0, 1)], .inl [(4, 4, 1)]], ([], []), [(some (.inl [(0, 0, 1)]), [some [(-2147483648, -1, 1), (5, 2147483647, 1)], none, none], [], []), (some (.inl [(1, 1, 1)]), [some [(0, 4, 1)], none, none], [], [])], [(1000002, 0, 0)], [], 0)
set_option maxRecDepth 100000 in
theorem S_1109 : aSpec wd ct_1109 := bChk_ok wx_ok btX12_in (nds := []) (fk := []) (rk := (1, [])) (sp := 0) (fuel := 3000) (by decide +kernel) lk_n odX12_in
set_option maxRecDepth 100000 in
theorem btX12_ofWhale : bTab oX12_ofWhale tX12_ofWhale := ⟨ofX12_ofWhale, by decide +kernel⟩
def ct_1110 : aCt := (mX12_ofWhale, [.inr (.inl [196]), .inl [(0, 4, 1)], .inl [(0, 0, 1)]], ([((199, 0), [(2, 4, 1)]), ((199, 4), [(1, 7, 1)]), ((199, 6), [(1, 5, 1)])], []), [(some (.inl [(0, 3, 1)]), [], [], [])], [], [], 0)
set_option maxRecDepth 100000 in
theorem S_1110 : aSpec wd ct_1110 := bChk_ok wx_ok btX12_ofWhale (nds := []) (fk := []) (rk := (1, [])) (sp := 0) (fuel := 3000) (by decide +kernel) lk_n odX12_ofWhale
def ct_1111 : aCt := (mX12_ofWhale, [.inr (.inl [196]), .inl [(0, 4, 1)], .inl [(2, 3, 1)]], ([((199, 0), [(2, 4, 1)]), ((199, 4), [(1, 7, 1)]), ((199, 6), [(1, 5, 1)])], []), [(some (.inl aTop), [], [], [])], [], [], 0)
set_option maxRecDepth 100000 in
theorem S_1111 : aSpec wd ct_1111 := bChk_ok wx_ok btX12_ofWhale (nds := []) (fk := []) (rk := (1, [])) (sp := 0) (fuel := 3000) (by decide +kernel) lk_n odX12_ofWhale
def ct_1112 : aCt := (mX12_no, [.inr (.inl [196]), .inl [(1, 1, 1)]], ([((196, 11), [(0, 0, 1)])], []), [(some (.inl [(-1, -1, 1)]), [], [((196, 11), [(1, 1, 1)])], [])], [(196, 11, 12)], [], 0)
set_option maxRecDepth 100000 in
theorem S_1112 : aSpec wd ct_1112 := bChk_ok wx_ok btX12_no (nds := []) (fk := []) (rk := (1, [])) (sp := 0) (fuel := 3000) (by decide +kernel) lk_n odX12_no
set_option maxRecDepth 100000 in
theorem btX12_whale : bTab oX12_whale tX12_whale := ⟨ofX12_whale, by decide +kernel⟩
def ct_1113 : aCt := (mX12_whale, [.inr (.inl [196]), .inl aTop, .inl aTop], ([], []), [(some (.inl aTop), [none, some [(0, 4, 1)], some [(0, 4, 1)]], [((196, 11), [(0, 0, 1)]), ((196, 14), [(1, 1, 1)]), ((199, 0), [(2, 4, 1)]), ((199, 4), [(1, 7, 1)]), ((199, 6), [(1, 5, 1)])], []), (some (.inl [(-1, -1, 1)]), [], [((196, 11), [(1, 1, 1)])], [])], [(196, 0, 1), (196, 11, 12)], [], 2)
set_option maxRecDepth 100000 in
theorem S_1113 : aSpec wd ct_1113 := bChk_ok wx_ok btX12_whale (nds := []) (fk := []) (rk := (1, [])) (sp := 0) (fuel := 3000) (by decide +kernel) (lk_c ml_12_167 S_651 (lk_c ml_12_170 S_1112 (lk_c ml_12_271 S_1110 (lk_c ml_12_271 S_1111 (lk_c ml_12_268 S_1108 (lk_c ml_12_149 S_1109 lk_n)))))) odX12_whale
def ct_1114 : aCt := (mX12_in, [.inl aTop, .inl [(0, 0, 1)], .inl [(-1, 7, 1)]], ([], []), [(some (.inl [(0, 0, 1)]), [some aTop, none, none], [], []), (some (.inl [(1, 1, 1)]), [some [(0, 7, 1)], none, some [(0, 7, 1)]], [], [])], [(1000002, 0, 0)], [], 0)
set_option maxRecDepth 100000 in
theorem S_1114 : aSpec wd ct_1114 := bChk_ok wx_ok btX12_in (nds := []) (fk := []) (rk := (1, [])) (sp := 0) (fuel := 3000) (by decide +kernel) lk_n odX12_in
set_option maxRecDepth 100000 in
theorem btX12_isBox : bTab oX12_isBox tX12_isBox := ⟨ofX12_isBox, by decide +kernel⟩
def ct_1115 : aCt := (mX12_isBox, [.inr (.inl [196]), .inl aTop], ([], []), [(some (.inl [(0, 0, 1)]), [], [], []), (some (.inl [(1, 1, 1)]), [none, some [(0, 7, 1)]], [((196, 14), [(1, 1, 1)]), ((199, 0), [(2, 4, 1)]), ((199, 4), [(1, 7, 1)]), ((199, 7), [(1, 8, 1)])], [])], [], [], 1)
set_option maxRecDepth 100000 in
theorem S_1115 : aSpec wd ct_1115 := bChk_ok wx_ok btX12_isBox (nds := []) (fk := []) (rk := (1, [])) (sp := 0) (fuel := 3000) (by decide +kernel) (lk_c ml_12_149 S_1114 lk_n) odX12_isBox
def ct_1116 : aCt := (mX12_in, [.inl aTop, .inl [(0, 0, 1)], .inl [(5, 5, 1)]], ([], []), [(some (.inl [(0, 0, 1)]), [some [(-2147483648, -1, 1), (6, 2147483647, 1)], none, none], [], []), (some (.inl [(1, 1, 1)]), [some [(0, 5, 1)], none, none], [], [])], [(1000002, 0, 0)], [], 0)
set_option maxRecDepth 100000 in
theorem S_1116 : aSpec wd ct_1116 := bChk_ok wx_ok btX12_in (nds := []) (fk := []) (rk := (1, [])) (sp := 0) (fuel := 3000) (by decide +kernel) lk_n odX12_in
set_option maxRecDepth 100000 in
theorem btX12_ofBox : bTab oX12_ofBox tX12_ofBox := ⟨ofX12_ofBox, by decide +kernel⟩
def ct_1117 : aCt := (mX12_ofBox, [.inr (.inl [196]), .inl [(0, 7, 1)], .inl [(0, 3, 1)]], ([((199, 0), [(2, 4, 1)]), ((199, 4), [(1, 7, 1)]), ((199, 7), [(1, 8, 1)])], []), [(some (.inl aTop), [], [], [])], [], [], 0)
set_option maxRecDepth 100000 in
theorem S_1117 : aSpec wd ct_1117 := bChk_ok wx_ok btX12_ofBox (nds := []) (fk := []) (rk := (1, [])) (sp := 0) (fuel := 3000) (by decide +kernel) lk_n odX12_ofBox
set_option maxRecDepth 100000 in
theorem btX12_box : bTab oX12_box tX12_box := ⟨ofX12_box, by decide +kernel⟩
def ct_1118 : aCt := (mX12_box, [.inr (.inl [196]), .inl aTop, .inl aTop], ([], []), [(some (.inl aTop), [none, some [(0, 7, 1)], some [(0, 5, 1)]], [((196, 11), [(0, 0, 1)]), ((196, 14), [(1, 1, 1)]), ((199, 0), [(2, 4, 1)]), ((199, 4), [(1, 7, 1)]), ((199, 7), [(1, 8, 1)])], []), (some (.inl [(-1, -1, 1)]), [], [((196, 11), [(1, 1, 1)])], []), (some (.inl [(-2, -2, 1)]), [none, some [(0, 7, 1)], some [(4, 5, 1)]], [((196, 11), [(0, 0, 1)]), ((196, 14), [(1, 1, 1)]), ((199, 0), [(2, 4, 1)]), ((199, 4), [(1, 7, 1)]), ((199, 7), [(1, 8, 1)])], [])], [(196, 0, 1), (196, 11, 12)], [], 2)
set_option maxRecDepth 100000 in
theorem S_1118 : aSpec wd ct_1118 := bChk_ok wx_ok btX12_box (nds := []) (fk := []) (rk := (1, [])) (sp := 0) (fuel := 3000) (by decide +kernel) (lk_c ml_12_167 S_651 (lk_c ml_12_170 S_1112 (lk_c ml_12_262 S_1117 (lk_c ml_12_274 S_1115 (lk_c ml_12_149 S_1116 lk_n))))) odX12_box
def ct_1119 : aCt := (mX12_in, [.inl aTop, .inl [(0, 0, 1)], .inl [(0, 6, 1)]], ([], []), [(some (.inl [(0, 0, 1)]), [some [(-2147483648, -1, 1), (1, 2147483647, 1)], none, none], [], []), (some (.inl [(1, 1, 1)]), [some [(0, 6, 1)], none, none], [], [])], [(1000002, 0, 0)], [], 0)
set_option maxRecDepth 100000 in
theorem S_1119 : aSpec wd ct_1119 := bChk_ok wx_ok btX12_in (nds := []) (fk := []) (rk := (1, [])) (sp := 0) (fuel := 3000) (by decide +kernel) lk_n odX12_in
set_option maxRecDepth 100000 in
theorem btX12_isIsland : bTab oX12_isIsland tX12_isIsland := ⟨ofX12_isIsland, by decide +kernel⟩
def ct_1120 : aCt := (mX12_isIsland, [.inr (.inl [196]), .inl aTop], ([], []), [(some (.inl [(0, 0, 1)]), [], [], []), (some (.inl [(1, 1, 1)]), [none, some [(0, 6, 1)]], [((196, 14), [(1, 1, 1)]), ((199, 0), [(2, 4, 1)]), ((199, 4), [(1, 7, 1)])], [])], [], [], 1)
set_option maxRecDepth 100000 in
theorem S_1120 : aSpec wd ct_1120 := bChk_ok wx_ok btX12_isIsland (nds := []) (fk := []) (rk := (1, [])) (sp := 0) (fuel := 3000) (by decide +kernel) (lk_c ml_12_149 S_1119 lk_n) odX12_isIsland
set_option maxRecDepth 100000 in
theorem btX12_songLong : bTab oX12_songLong tX12_songLong := ⟨ofX12_songLong, by decide +kernel⟩
def ct_1121 : aCt := (mX12_songLong, [.inr (.inl [196]), .inl [(0, 6, 1)]], ([((199, 0), [(2, 4, 1)]), ((199, 4), [(1, 7, 1)])], []), [(some (.inl [(0, 6, 1)]), [], [], [])], [], [], 0)
set_option maxRecDepth 100000 in
theorem S_1121 : aSpec wd ct_1121 := bChk_ok wx_ok btX12_songLong (nds := []) (fk := []) (rk := (1, [])) (sp := 0) (fuel := 3000) (by decide +kernel) lk_n odX12_songLong
set_option maxRecDepth 100000 in
theorem btX12_length : bTab oX12_length tX12_length := ⟨ofX12_length, by decide +kernel⟩
def ct_1122 : aCt := (mX12_length, [.inr (.inl [196]), .inl aTop], ([], []), [(some (.inl [(0, 6, 1)]), [none, some [(0, 6, 1)]], [((196, 11), [(0, 0, 1)]), ((196, 14), [(1, 1, 1)]), ((199, 0), [(2, 4, 1)]), ((199, 4), [(1, 7, 1)])], []), (some (.inl [(-1, -1, 1)]), [], [((196, 11), [(1, 1, 1)])], [])], [(196, 0, 1), (196, 11, 12)], [], 2)
set_option maxRecDepth 100000 in
theorem S_1122 : aSpec wd ct_1122 := bChk_ok wx_ok btX12_length (nds := []) (fk := []) (rk := (1, [])) (sp := 0) (fuel := 3000) (by decide +kernel) (lk_c ml_12_167 S_651 (lk_c ml_12_170 S_1112 (lk_c ml_12_265 S_1121 (lk_c ml_12_277 S_1120 lk_n)))) odX12_length
def ct_1123 : aCt := (mX12_in, [.inl aTop, .inl [(0, 0, 1)], .inl [(-1, 5, 1)]], ([], []), [(some (.inl [(0, 0, 1)]), [some aTop, none, none], [], []), (some (.inl [(1, 1, 1)]), [some [(0, 5, 1)], none, some [(0, 5, 1)]], [], [])], [(1000002, 0, 0)], [], 0)
set_option maxRecDepth 100000 in
theorem S_1123 : aSpec wd ct_1123 := bChk_ok wx_ok btX12_in (nds := []) (fk := []) (rk := (1, [])) (sp := 0) (fuel := 3000) (by decide +kernel) lk_n odX12_in
set_option maxRecDepth 100000 in
theorem btX12_noteIn : bTab oX12_noteIn tX12_noteIn := ⟨ofX12_noteIn, by decide +kernel⟩
def ct_1124 : aCt := (mX12_noteIn, [.inr (.inl [196]), .inl [(0, 6, 1)], .inl [(0, 5, 1)], .inl [(0, 10098, 1)]], ([((199, 0), [(2, 4, 1)])], []), [(some (.inl [(-3, 3, 1)]), [], [], [])], [], [], 0)
set_option maxRecDepth 100000 in
theorem S_1124 : aSpec wd ct_1124 := bChk_ok wx_ok btX12_noteIn (nds := []) (fk := []) (rk := (1, [])) (sp := 0) (fuel := 3000) (by decide +kernel) lk_n odX12_noteIn
set_option maxRecDepth 100000 in
theorem btX12_note : bTab oX12_note tX12_note := ⟨ofX12_note, by decide +kernel⟩
def ct_1125 : aCt := (mX12_note, [.inr (.inl [196]), .inl aTop, .inl aTop], ([], []), [(some (.inl [(-3, 3, 1)]), [none, some [(0, 6, 1)], some [(0, 5, 1)]], [((196, 11), [(0, 0, 1)]), ((196, 14), [(1, 1, 1)]), ((199, 0), [(2, 4, 1)]), ((199, 4), [(1, 7, 1)])], []), (some (.inl [(-1, -1, 1)]), [], [((196, 11), [(1, 1, 1)])], [])], [(196, 0, 1), (196, 11, 12)], [], 2)
set_option maxRecDepth 100000 in
theorem S_1125 : aSpec wd ct_1125 := bChk_ok wx_ok btX12_note (nds := []) (fk := []) (rk := (1, [])) (sp := 0) (fuel := 3000) (by decide +kernel) (lk_c ml_12_167 S_651 (lk_c ml_12_170 S_1112 (lk_c ml_12_265 S_1121 (lk_c ml_12_280 S_1124 (lk_c ml_12_277 S_1120 (lk_c ml_12_149 S_1123 lk_n)))))) odX12_note
def ct_1126 : aCt := (mX12_ofBox, [.inr (.inl [196]), .inl [(0, 7, 1)], .inl [(1, 1, 1)]], ([((199, 0), [(2, 4, 1)]), ((199, 4), [(1, 7, 1)]), ((199, 7), [(1, 8, 1)])], []), [(some (.inl [(0, 6, 1)]), [], [], [])], [], [], 0)
set_option maxRecDepth 100000 in
theorem S_1126 : aSpec wd ct_1126 := bChk_ok wx_ok btX12_ofBox (nds := []) (fk := []) (rk := (1, [])) (sp := 0) (fuel := 3000) (by decide +kernel) lk_n odX12_ofBox
def ct_1127 : aCt := (mX12_songLong, [.inr (.inl [196]), .inl [(0, 0, 1)]], ([((199, 0), [(2, 4, 1)]), ((199, 4), [(1, 7, 1)]), ((199, 7), [(1, 8, 1)])], []), [(some (.inl [(2, 6, 1)]), [], [], [])], [], [], 0)
set_option maxRecDepth 100000 in
theorem S_1127 : aSpec wd ct_1127 := bChk_ok wx_ok btX12_songLong (nds := []) (fk := []) (rk := (1, [])) (sp := 0) (fuel := 3000) (by decide +kernel) lk_n odX12_songLong
def ct_1128 : aCt := (mX12_songLong, [.inr (.inl [196]), .inl [(1, 1, 1)]], ([((199, 0), [(2, 4, 1)]), ((199, 4), [(1, 7, 1)]), ((199, 7), [(1, 8, 1)])], []), [(some (.inl [(0, 6, 1)]), [], [], [])], [], [], 0)
set_option maxRecDepth 100000 in
theorem S_1128 : aSpec wd ct_1128 := bChk_ok wx_ok btX12_songLong (nds := []) (fk := []) (rk := (1, [])) (sp := 0) (fuel := 3000) (by decide +kernel) lk_n odX12_songLong
def ct_1129 : aCt := (mX12_songLong, [.inr (.inl [196]), .inl [(2, 2, 1)]], ([((199, 0), [(2, 4, 1)]), ((199, 4), [(1, 7, 1)]), ((199, 7), [(1, 8, 1)])], []), [(some (.inl [(0, 6, 1)]), [], [], [])], [], [], 0)
set_option maxRecDepth 100000 in
theorem S_1129 : aSpec wd ct_1129 := bChk_ok wx_ok btX12_songLong (nds := []) (fk := []) (rk := (1, [])) (sp := 0) (fuel := 3000) (by decide +kernel) lk_n odX12_songLong
def ct_1130 : aCt := (mX12_songLong, [.inr (.inl [196]), .inl [(3, 3, 1)]], ([((199, 0), [(2, 4, 1)]), ((199, 4), [(1, 7, 1)]), ((199, 7), [(1, 8, 1)])], []), [(some (.inl [(0, 6, 1)]), [], [], [])], [], [], 0)
set_option maxRecDepth 100000 in
theorem S_1130 : aSpec wd ct_1130 := bChk_ok wx_ok btX12_songLong (nds := []) (fk := []) (rk := (1, [])) (sp := 0) (fuel := 3000) (by decide +kernel) lk_n odX12_songLong
def ct_1131 : aCt := (mX12_songLong, [.inr (.inl [196]), .inl [(4, 4, 1)]], ([((199, 0), [(2, 4, 1)]), ((199, 4), [(1, 7, 1)]), ((199, 7), [(1, 8, 1)])], []), [(some (.inl [(0, 6, 1)]), [], [], [])], [], [], 0)
set_option maxRecDepth 100000 in
theorem S_1131 : aSpec wd ct_1131 := bChk_ok wx_ok btX12_songLong (nds := []) (fk := []) (rk := (1, [])) (sp := 0) (fuel := 3000) (by decide +kernel) lk_n odX12_songLong
def ct_1132 : aCt := (mX12_songLong, [.inr (.inl [196]), .inl [(5, 5, 1)]], ([((199, 0), [(2, 4, 1)]), ((199, 4), [(1, 7, 1)]), ((199, 7), [(1, 8, 1)])], []), [(some (.inl [(0, 6, 1)]), [], [], [])], [], [], 0)
set_option maxRecDepth 100000 in
theorem S_1132 : aSpec wd ct_1132 := bChk_ok wx_ok btX12_songLong (nds := []) (fk := []) (rk := (1, [])) (sp := 0) (fuel := 3000) (by decide +kernel) lk_n odX12_songLong
def ct_1133 : aCt := (mX12_songLong, [.inr (.inl [196]), .inl [(6, 6, 1)]], ([((199, 0), [(2, 4, 1)]), ((199, 4), [(1, 7, 1)]), ((199, 7), [(1, 8, 1)])], []), [(some (.inl [(0, 6, 1)]), [], [], [])], [], [], 0)
set_option maxRecDepth 100000 in
theorem S_1133 : aSpec wd ct_1133 := bChk_ok wx_ok btX12_songLong (nds := []) (fk := []) (rk := (1, [])) (sp := 0) (fuel := 3000) (by decide +kernel) lk_n odX12_songLong
set_option maxRecDepth 100000 in
theorem btX12_boxLong : bTab oX12_boxLong tX12_boxLong := ⟨ofX12_boxLong, by decide +kernel⟩
def ct_1134 : aCt := (mX12_boxLong, [.inr (.inl [196]), .inl [(0, 7, 1)]], ([((199, 0), [(2, 4, 1)]), ((199, 4), [(1, 7, 1)]), ((199, 7), [(1, 8, 1)])], []), [(some (.inl [(0, 6, 1)]), [], [], [])], [], [], 1)
set_option maxRecDepth 100000 in
theorem S_1134 : aSpec wd ct_1134 := bChk_ok wx_ok btX12_boxLong (nds := []) (fk := [7]) (rk := (1, [])) (sp := 0) (fuel := 3000) (by decide +kernel) (lk_c ml_12_265 S_1127 (lk_c ml_12_265 S_1128 (lk_c ml_12_265 S_1129 (lk_c ml_12_265 S_1130 (lk_c ml_12_265 S_1131 (lk_c ml_12_265 S_1132 (lk_c ml_12_265 S_1133 (lk_c ml_12_262 S_1126 lk_n)))))))) odX12_boxLong
set_option maxRecDepth 100000 in
theorem btX12_sung : bTab oX12_sung tX12_sung := ⟨ofX12_sung, by decide +kernel⟩
def ct_1135 : aCt := (mX12_sung, [.inr (.inl [196]), .inl aTop, .inl aTop], ([], []), [(some (.inl aTop), [none, some [(0, 7, 1)], some [(0, 5, 1)]], [((196, 11), [(0, 0, 1)]), ((196, 14), [(1, 1, 1)]), ((199, 0), [(2, 4, 1)]), ((199, 4), [(1, 7, 1)]), ((199, 7), [(1, 8, 1)])], []), (some (.inl [(-1, -1, 1)]), [], [((196, 11), [(1, 1, 1)])], [])], [(196, 0, 1), (196, 11, 12)], [], 2)
set_option maxRecDepth 100000 in
theorem S_1135 : aSpec wd ct_1135 := bChk_ok wx_ok btX12_sung (nds := []) (fk := []) (rk := (1, [])) (sp := 0) (fuel := 3000) (by decide +kernel) (lk_c ml_12_167 S_651 (lk_c ml_12_170 S_1112 (lk_c ml_12_284 S_1134 (lk_c ml_12_274 S_1115 (lk_c ml_12_149 S_1123 lk_n))))) odX12_sung
def ct_1136 : aCt := (mX12_ofBox, [.inr (.inl [196]), .inl [(0, 7, 1)], .inl [(1, 1, 1)]], ([((199, 0), [(2, 4, 1)]), ((199, 4), [(1, 7, 1)])], []), [(some (.inl [(0, 6, 1)]), [], [], [])], [], [], 0)
set_option maxRecDepth 100000 in
theorem S_1136 : aSpec wd ct_1136 := bChk_ok wx_ok btX12_ofBox (nds := []) (fk := []) (rk := (1, [])) (sp := 0) (fuel := 3000) (by decide +kernel) lk_n odX12_ofBox
def ct_1137 : aCt := (mX12_songLong, [.inr (.inl [196]), .inl [(0, 0, 1)]], ([((199, 0), [(2, 4, 1)]), ((199, 4), [(1, 7, 1)])], []), [(some (.inl [(2, 6, 1)]), [], [], [])], [], [], 0)
set_option maxRecDepth 100000 in
theorem S_1137 : aSpec wd ct_1137 := bChk_ok wx_ok btX12_songLong (nds := []) (fk := []) (rk := (1, [])) (sp := 0) (fuel := 3000) (by decide +kernel) lk_n odX12_songLong
def ct_1138 : aCt := (mX12_songLong, [.inr (.inl [196]), .inl [(1, 1, 1)]], ([((199, 0), [(2, 4, 1)]), ((199, 4), [(1, 7, 1)])], []), [(some (.inl [(0, 6, 1)]), [], [], [])], [], [], 0)
set_option maxRecDepth 100000 in
theorem S_1138 : aSpec wd ct_1138 := bChk_ok wx_ok btX12_songLong (nds := []) (fk := []) (rk := (1, [])) (sp := 0) (fuel := 3000) (by decide +kernel) lk_n odX12_songLong
def ct_1139 : aCt := (mX12_songLong, [.inr (.inl [196]), .inl [(2, 2, 1)]], ([((199, 0), [(2, 4, 1)]), ((199, 4), [(1, 7, 1)])], []), [(some (.inl [(0, 6, 1)]), [], [], [])], [], [], 0)
set_option maxRecDepth 100000 in
theorem S_1139 : aSpec wd ct_1139 := bChk_ok wx_ok btX12_songLong (nds := []) (fk := []) (rk := (1, [])) (sp := 0) (fuel := 3000) (by decide +kernel) lk_n odX12_songLong
def ct_1140 : aCt := (mX12_songLong, [.inr (.inl [196]), .inl [(3, 3, 1)]], ([((199, 0), [(2, 4, 1)]), ((199, 4), [(1, 7, 1)])], []), [(some (.inl [(0, 6, 1)]), [], [], [])], [], [], 0)
set_option maxRecDepth 100000 in
theorem S_1140 : aSpec wd ct_1140 := bChk_ok wx_ok btX12_songLong (nds := []) (fk := []) (rk := (1, [])) (sp := 0) (fuel := 3000) (by decide +kernel) lk_n odX12_songLong
def ct_1141 : aCt := (mX12_songLong, [.inr (.inl [196]), .inl [(4, 4, 1)]], ([((199, 0), [(2, 4, 1)]), ((199, 4), [(1, 7, 1)])], []), [(some (.inl [(0, 6, 1)]), [], [], [])], [], [], 0)
set_option maxRecDepth 100000 in
theorem S_1141 : aSpec wd ct_1141 := bChk_ok wx_ok btX12_songLong (nds := []) (fk := []) (rk := (1, [])) (sp := 0) (fuel := 3000) (by decide +kernel) lk_n odX12_songLong
def ct_1142 : aCt := (mX12_songLong, [.inr (.inl [196]), .inl [(5, 5, 1)]], ([((199, 0), [(2, 4, 1)]), ((199, 4), [(1, 7, 1)])], []), [(some (.inl [(0, 6, 1)]), [], [], [])], [], [], 0)
set_option maxRecDepth 100000 in
theorem S_1142 : aSpec wd ct_1142 := bChk_ok wx_ok btX12_songLong (nds := []) (fk := []) (rk := (1, [])) (sp := 0) (fuel := 3000) (by decide +kernel) lk_n odX12_songLong
def ct_1143 : aCt := (mX12_songLong, [.inr (.inl [196]), .inl [(6, 6, 1)]], ([((199, 0), [(2, 4, 1)]), ((199, 4), [(1, 7, 1)])], []), [(some (.inl [(0, 6, 1)]), [], [], [])], [], [], 0)
set_option maxRecDepth 100000 in
theorem S_1143 : aSpec wd ct_1143 := bChk_ok wx_ok btX12_songLong (nds := []) (fk := []) (rk := (1, [])) (sp := 0) (fuel := 3000) (by decide +kernel) lk_n odX12_songLong
def ct_1144 : aCt := (mX12_boxLong, [.inr (.inl [196]), .inl [(0, 7, 1)]], ([((199, 0), [(2, 4, 1)]), ((199, 4), [(1, 7, 1)])], []), [(some (.inl [(0, 6, 1)]), [], [], [])], [], [], 1)
set_option maxRecDepth 100000 in
theorem S_1144 : aSpec wd ct_1144 := bChk_ok wx_ok btX12_boxLong (nds := []) (fk := [7]) (rk := (1, [])) (sp := 0) (fuel := 3000) (by decide +kernel) (lk_c ml_12_265 S_1137 (lk_c ml_12_265 S_1138 (lk_c ml_12_265 S_1139 (lk_c ml_12_265 S_1140 (lk_c ml_12_265 S_1141 (lk_c ml_12_265 S_1142 (lk_c ml_12_265 S_1143 (lk_c ml_12_262 S_1136 lk_n)))))))) odX12_boxLong
def ct_1145 : aCt := (mX12_ofBox, [.inr (.inl [196]), .inl [(0, 7, 1)], .inl [(1, 1, 1)]], ([((199, 0), [(2, 4, 1)])], []), [(some (.inl [(0, 6, 1)]), [], [], [])], [], [], 0)
set_option maxRecDepth 100000 in
theorem S_1145 : aSpec wd ct_1145 := bChk_ok wx_ok btX12_ofBox (nds := []) (fk := []) (rk := (1, [])) (sp := 0) (fuel := 3000) (by decide +kernel) lk_n odX12_ofBox
def ct_1146 : aCt := (mX12_songLong, [.inr (.inl [196]), .inl [(0, 0, 1)]], ([((199, 0), [(2, 4, 1)])], []), [(some (.inl [(0, 6, 1)]), [], [], [])], [], [], 0)
set_option maxRecDepth 100000 in
theorem S_1146 : aSpec wd ct_1146 := bChk_ok wx_ok btX12_songLong (nds := []) (fk := []) (rk := (1, [])) (sp := 0) (fuel := 3000) (by decide +kernel) lk_n odX12_songLong
def ct_1147 : aCt := (mX12_songLong, [.inr (.inl [196]), .inl [(1, 1, 1)]], ([((199, 0), [(2, 4, 1)])], []), [(some (.inl [(0, 6, 1)]), [], [], [])], [], [], 0)
set_option maxRecDepth 100000 in
theorem S_1147 : aSpec wd ct_1147 := bChk_ok wx_ok btX12_songLong (nds := []) (fk := []) (rk := (1, [])) (sp := 0) (fuel := 3000) (by decide +kernel) lk_n odX12_songLong
def ct_1148 : aCt := (mX12_songLong, [.inr (.inl [196]), .inl [(2, 2, 1)]], ([((199, 0), [(2, 4, 1)])], []), [(some (.inl [(0, 6, 1)]), [], [], [])], [], [], 0)
set_option maxRecDepth 100000 in
theorem S_1148 : aSpec wd ct_1148 := bChk_ok wx_ok btX12_songLong (nds := []) (fk := []) (rk := (1, [])) (sp := 0) (fuel := 3000) (by decide +kernel) lk_n odX12_songLong
def ct_1149 : aCt := (mX12_songLong, [.inr (.inl [196]), .inl [(3, 3, 1)]], ([((199, 0), [(2, 4, 1)])], []), [(some (.inl [(0, 6, 1)]), [], [], [])], [], [], 0)
set_option maxRecDepth 100000 in
theorem S_1149 : aSpec wd ct_1149 := bChk_ok wx_ok btX12_songLong (nds := []) (fk := []) (rk := (1, [])) (sp := 0) (fuel := 3000) (by decide +kernel) lk_n odX12_songLong
def ct_1150 : aCt := (mX12_songLong, [.inr (.inl [196]), .inl [(4, 4, 1)]], ([((199, 0), [(2, 4, 1)])], []), [(some (.inl [(0, 6, 1)]), [], [], [])], [], [], 0)
set_option maxRecDepth 100000 in
theorem S_1150 : aSpec wd ct_1150 := bChk_ok wx_ok btX12_songLong (nds := []) (fk := []) (rk := (1, [])) (sp := 0) (fuel := 3000) (by decide +kernel) lk_n odX12_songLong
def ct_1151 : aCt := (mX12_songLong, [.inr (.inl [196]), .inl [(5, 5, 1)]], ([((199, 0), [(2, 4, 1)])], []), [(some (.inl [(0, 6, 1)]), [], [], [])], [], [], 0)
set_option maxRecDepth 100000 in
theorem S_1151 : aSpec wd ct_1151 := bChk_ok wx_ok btX12_songLong (nds := []) (fk := []) (rk := (1, [])) (sp := 0) (fuel := 3000) (by decide +kernel) lk_n odX12_songLong
def ct_1152 : aCt := (mX12_songLong, [.inr (.inl [196]), .inl [(6, 6, 1)]], ([((199, 0), [(2, 4, 1)])], []), [(some (.inl [(0, 6, 1)]), [], [], [])], [], [], 0)
set_option maxRecDepth 100000 in
theorem S_1152 : aSpec wd ct_1152 := bChk_ok wx_ok btX12_songLong (nds := []) (fk := []) (rk := (1, [])) (sp := 0) (fuel := 3000) (by decide +kernel) lk_n odX12_songLong
def ct_1153 : aCt := (mX12_boxLong, [.inr (.inl [196]), .inl [(0, 7, 1)]], ([((199, 0), [(2, 4, 1)])], []), [(some (.inl [(0, 6, 1)]), [], [], [])], [], [], 1)
set_option maxRecDepth 100000 in
theorem S_1153 : aSpec wd ct_1153 := bChk_ok wx_ok btX12_boxLong (nds := []) (fk := [7]) (rk := (1, [])) (sp := 0) (fuel := 3000) (by decide +kernel) (lk_c ml_12_265 S_1146 (lk_c ml_12_265 S_1147 (lk_c ml_12_265 S_1148 (lk_c ml_12_265 S_1149 (lk_c ml_12_265 S_1150 (lk_c ml_12_265 S_1151 (lk_c ml_12_265 S_1152 (lk_c ml_12_262 S_1145 lk_n)))))))) odX12_boxLong
def lcn_995 : Nat × aAg := ((nat_lit 4), .inl [((.negSucc (nat_lit 0)), (.ofNat (nat_lit 5)), (nat_lit 1))])
def lcn_996 : Nat × aAg := ((nat_lit 6), .inl aTop)
def lcn_997 : Nat × aAg := ((nat_lit 7), .inl [((.ofNat (nat_lit 0)), (.ofNat (nat_lit 6)), (nat_lit 1))])
set_option maxRecDepth 100000 in
theorem btX12_unlike : bTab oX12_unlike tX12_unlike := ⟨ofX12_unlike, by decide +kernel⟩
def ct_1154 : aCt := (mX12_unlike, [.inr (.inl [196]), .inl [(0, 7, 1)], .inl [(0, 6, 1)], .inl [(0, 10098, 1)], .inl [(-1, 5, 1)], .inl [(0, 3, 1)]], ([((199, 0), [(2, 4, 1)])], []), [(some (.inl aTop), [], [], [])], [], [], 2)
set_option maxRecDepth 100000 in
theorem S_1154 : aSpec wd ct_1154 := bChk_ok wx_ok btX12_unlike (nds := [((nat_lit 6), [lcn_306, lcn_187, lcn_69, lcn_177, lcn_995, lcn_377, lcn_996, lcn_997], [], [sl_633], [], (6, [(6, -1)]))]) (fk := []) (rk := (7, [])) (sp := 64) (fuel := 3000) (by decide +kernel) (lk_c ml_12_284 S_1153 (lk_c ml_12_280 S_1124 lk_n)) odX12_unlike
def lcn_998 : Nat × aAg := ((nat_lit 2), .inl [((.ofNat (nat_lit 0)), (.ofNat (nat_lit 10098)), (nat_lit 1))])
def lcn_999 : Nat × aAg := ((nat_lit 3), .inl [((.negSucc (nat_lit 0)), (.ofNat (nat_lit 5)), (nat_lit 1))])
def lcn_1000 : Nat × aAg := ((nat_lit 6), .inl [((.negSucc (nat_lit 2147483647)), (.ofNat (nat_lit 7)), (nat_lit 1))])
def lcn_1001 : Nat × aAg := ((nat_lit 7), .inl [((.ofNat (nat_lit 0)), (.ofNat (nat_lit 7)), (nat_lit 1))])
set_option maxRecDepth 100000 in
theorem btX12_hearsIn : bTab oX12_hearsIn tX12_hearsIn := ⟨ofX12_hearsIn, by decide +kernel⟩
def ct_1155 : aCt := (mX12_hearsIn, [.inr (.inl [196]), .inl [(0, 7, 1)], .inl [(0, 10098, 1)], .inl [(-1, 5, 1)], .inl [(0, 3, 1)]], ([((199, 0), [(2, 4, 1)])], []), [(some (.inl [(-2, -2, 1), (0, 6, 1)]), [], [], []), (some (.inl [(-2, -2, 1)]), [], [], [])], [], [], 3)
set_option maxRecDepth 100000 in
theorem S_1155 : aSpec wd ct_1155 := bChk_ok wx_ok btX12_hearsIn (nds := [((nat_lit 11), [lcn_306, lcn_187, lcn_998, lcn_999, lcn_136, lcn_94, lcn_1000, lcn_1001], [], [sl_633], [], (7, [(6, -1)]))]) (fk := []) (rk := (8, [])) (sp := 2048) (fuel := 3000) (by decide +kernel) (lk_c ml_12_265 S_1121 (lk_c ml_12_284 S_1144 (lk_c ml_12_287 S_1154 lk_n))) odX12_hearsIn
set_option maxRecDepth 100000 in
theorem btX12_heardNow : bTab oX12_heardNow tX12_heardNow := ⟨ofX12_heardNow, by decide +kernel⟩
def ct_1156 : aCt := (mX12_heardNow, [.inr (.inl [196]), .inl [(0, 7, 1)]], ([((199, 0), [(2, 4, 1)]), ((199, 4), [(1, 7, 1)]), ((199, 7), [(1, 8, 1)])], []), [(some (.inl [(-2, -2, 1), (0, 6, 1)]), [], [], []), (some (.inl [(-2, -2, 1)]), [], [], [])], [], [], 4)
set_option maxRecDepth 100000 in
theorem S_1156 : aSpec wd ct_1156 := bChk_ok wx_ok btX12_heardNow (nds := []) (fk := []) (rk := (1, [])) (sp := 0) (fuel := 3000) (by decide +kernel) (lk_c ml_12_291 S_1155 lk_n) odX12_heardNow
set_option maxRecDepth 100000 in
theorem btX12_heard : bTab oX12_heard tX12_heard := ⟨ofX12_heard, by decide +kernel⟩
def ct_1157 : aCt := (mX12_heard, [.inr (.inl [196]), .inl aTop], ([], []), [(some (.inl [(-2, -2, 1), (0, 6, 1)]), [none, some [(0, 7, 1)]], [((196, 11), [(0, 0, 1)]), ((196, 14), [(1, 1, 1)]), ((199, 0), [(2, 4, 1)]), ((199, 4), [(1, 7, 1)]), ((199, 7), [(1, 8, 1)])], []), (some (.inl [(-1, -1, 1)]), [], [((196, 11), [(1, 1, 1)])], []), (some (.inl [(-2, -2, 1)]), [none, some [(0, 7, 1)]], [((196, 11), [(0, 0, 1)]), ((196, 14), [(1, 1, 1)]), ((199, 0), [(2, 4, 1)]), ((199, 4), [(1, 7, 1)]), ((199, 7), [(1, 8, 1)])], [])], [(196, 0, 1), (196, 11, 12)], [], 5)
set_option maxRecDepth 100000 in
theorem S_1157 : aSpec wd ct_1157 := bChk_ok wx_ok btX12_heard (nds := []) (fk := []) (rk := (1, [])) (sp := 0) (fuel := 3000) (by decide +kernel) (lk_c ml_12_167 S_651 (lk_c ml_12_170 S_1112 (lk_c ml_12_295 S_1156 (lk_c ml_12_274 S_1115 lk_n)))) odX12_heard
def ct_1158 : aCt := (mX12_isIsland, [.inr (.inl [196]), .inl aTop], ([((196, 14), [(1, 1, 1)]), ((199, 0), [(2, 4, 1)]), ((199, 4), [(1, 7, 1)])], []), [(some (.inl [(0, 0, 1)]), [], [], []), (some (.inl [(1, 1, 1)]), [none, some [(0, 6, 1)]], [], [])], [], [], 1)
set_option maxRecDepth 100000 in
theorem S_1158 : aSpec wd ct_1158 := bChk_ok wx_ok btX12_isIsland (nds := []) (fk := []) (rk := (1, [])) (sp := 0) (fuel := 3000) (by decide +kernel) (lk_c ml_12_149 S_1119 lk_n) odX12_isIsland
def ct_1159 : aCt := (mX12_joins, [.inr (.inl [199]), .inl [(0, 11, 1)], .inl [(0, 6, 1)], .inl [(0, 6, 1)]], ([], []), [(some (.inl [(0, 0, 1)]), [], [], []), (some (.inl [(1, 1, 1)]), [], [], [])], [(1000002, 0, 0)], [], 0)
set_option maxRecDepth 100000 in
theorem S_1159 : aSpec wd ct_1159 := bChk_ok wx_ok btX12_joins (nds := []) (fk := []) (rk := (1, [])) (sp := 0) (fuel := 3000) (by decide +kernel) lk_n odX12_joins
set_option maxRecDepth 100000 in
theorem btX12_hasBit : bTab oX12_hasBit tX12_hasBit := ⟨ofX12_hasBit, by decide +kernel⟩
def ct_1160 : aCt := (mX12_hasBit, [.inl aTop, .inl [(0, 11, 1)]], ([((199, 0), [(2, 4, 1)]), ((199, 4), [(1, 7, 1)]), ((199, 5), [(1, 12, 1)])], []), [(some (.inl [(0, 0, 1)]), [], [], []), (some (.inl [(1, 1, 1)]), [], [], [])], [], [], 0)
set_option maxRecDepth 100000 in
theorem S_1160 : aSpec wd ct_1160 := bChk_ok wx_ok btX12_hasBit (nds := []) (fk := []) (rk := (1, [])) (sp := 0) (fuel := 3000) (by decide +kernel) lk_n odX12_hasBit
set_option maxRecDepth 100000 in
theorem btX12_isClosed : bTab oX12_isClosed tX12_isClosed := ⟨ofX12_isClosed, by decide +kernel⟩
def ct_1161 : aCt := (mX12_isClosed, [.inr (.inl [196]), .inl [(0, 11, 1)]], ([((199, 0), [(2, 4, 1)]), ((199, 4), [(1, 7, 1)]), ((199, 5), [(1, 12, 1)])], []), [(some (.inl [(0, 0, 1)]), [], [], []), (some (.inl [(1, 1, 1)]), [], [], [])], [], [], 1)
set_option maxRecDepth 100000 in
theorem S_1161 : aSpec wd ct_1161 := bChk_ok wx_ok btX12_isClosed (nds := []) (fk := []) (rk := (1, [])) (sp := 0) (fuel := 3000) (by decide +kernel) (lk_c ml_12_298 S_1160 lk_n) odX12_isClosed
set_option maxRecDepth 100000 in
theorem btX12_wayOf : bTab oX12_wayOf tX12_wayOf := ⟨ofX12_wayOf, by decide +kernel⟩
def ct_1162 : aCt := (mX12_wayOf, [.inr (.inl [196]), .inl [(0, 6, 1)], .inl [(0, 6, 1)]], ([((199, 0), [(2, 4, 1)]), ((199, 4), [(1, 7, 1)])], []), [(some (.inl [(0, 11, 1)]), [], [((199, 5), [(1, 12, 1)])], []), (some (.inl [(-1, -1, 1)]), [], [], [])], [], [], 2)
set_option maxRecDepth 100000 in
theorem S_1162 : aSpec wd ct_1162 := bChk_ok wx_ok btX12_wayOf (nds := [((nat_lit 2), [lcn_306, lcn_68, lcn_69, lcn_98], [], [sl_633, sl_634], [], (12, [(2, -1)]))]) (fk := []) (rk := (13, [])) (sp := 4) (fuel := 3000) (by decide +kernel) (lk_c ml_12_302 S_1161 (lk_c ml_12_230 S_1159 lk_n)) odX12_wayOf
set_option maxRecDepth 100000 in
theorem btX12_way : bTab oX12_way tX12_way := ⟨ofX12_way, by decide +kernel⟩
def ct_1163 : aCt := (mX12_way, [.inr (.inl [196]), .inl aTop, .inl aTop], ([], []), [(some (.inl aTop), [none, some [(0, 6, 1)], some [(0, 6, 1)]], [((196, 11), [(0, 0, 1)]), ((196, 14), [(1, 1, 1)]), ((199, 0), [(2, 4, 1)]), ((199, 4), [(1, 7, 1)]), ((199, 5), [(1, 12, 1)])], []), (some (.inl [(-1, -1, 1)]), [], [((196, 11), [(1, 1, 1)])], []), (some (.inl [(-2, -2, 1)]), [none, some [(0, 6, 1)], some [(0, 6, 1)]], [((196, 11), [(0, 0, 1)]), ((196, 14), [(1, 1, 1)]), ((199, 0), [(2, 4, 1)]), ((199, 4), [(1, 7, 1)])], [])], [(196, 0, 1), (196, 11, 12)], [], 3)
set_option maxRecDepth 100000 in
theorem S_1163 : aSpec wd ct_1163 := bChk_ok wx_ok btX12_way (nds := []) (fk := []) (rk := (1, [])) (sp := 0) (fuel := 3000) (by decide +kernel) (lk_c ml_12_167 S_651 (lk_c ml_12_170 S_1112 (lk_c ml_12_305 S_1162 (lk_c ml_12_277 S_1158 (lk_c ml_12_277 S_1120 lk_n))))) odX12_way
def ct_1164 : aCt := (mX12_in, [.inl aTop, .inl [(0, 0, 1)], .inl [(99999, 99999, 1)]], ([], []), [(some (.inl [(0, 0, 1)]), [some [(-2147483648, -1, 1), (100000, 2147483647, 1)], none, none], [], []), (some (.inl [(1, 1, 1)]), [some [(0, 99999, 1)], none, none], [], [])], [(1000002, 0, 0)], [], 0)
set_option maxRecDepth 100000 in
theorem S_1164 : aSpec wd ct_1164 := bChk_ok wx_ok btX12_in (nds := []) (fk := []) (rk := (1, [])) (sp := 0) (fuel := 3000) (by decide +kernel) lk_n odX12_in
set_option maxRecDepth 100000 in
theorem btX12_seasonOf : bTab oX12_seasonOf tX12_seasonOf := ⟨ofX12_seasonOf, by decide +kernel⟩
def ct_1165 : aCt := (mX12_seasonOf, [.inl [(0, 99999, 1)]], ([((199, 0), [(2, 4, 1)]), ((199, 4), [(1, 7, 1)])], []), [(some (.inl [(0, 3, 1)]), [], [], [])], [], [], 0)
set_option maxRecDepth 100000 in
theorem S_1165 : aSpec wd ct_1165 := bChk_ok wx_ok btX12_seasonOf (nds := []) (fk := []) (rk := (1, [])) (sp := 0) (fuel := 3000) (by decide +kernel) lk_n odX12_seasonOf
set_option maxRecDepth 100000 in
theorem btX12_season : bTab oX12_season tX12_season := ⟨ofX12_season, by decide +kernel⟩
def ct_1166 : aCt := (mX12_season, [.inr (.inl [196]), .inl aTop], ([], []), [(some (.inl [(0, 3, 1)]), [none, some [(0, 99999, 1)]], [((196, 11), [(0, 0, 1)]), ((196, 14), [(1, 1, 1)]), ((199, 0), [(2, 4, 1)]), ((199, 4), [(1, 7, 1)])], []), (some (.inl [(-1, -1, 1)]), [], [((196, 11), [(1, 2, 1)])], [])], [(196, 0, 1), (196, 11, 12)], [], 1)
set_option maxRecDepth 100000 in
theorem S_1166 : aSpec wd ct_1166 := bChk_ok wx_ok btX12_season (nds := []) (fk := []) (rk := (1, [])) (sp := 0) (fuel := 3000) (by decide +kernel) (lk_c ml_12_167 S_651 (lk_c ml_12_170 S_1112 (lk_c ml_12_170 S_653 (lk_c ml_12_337 S_1165 (lk_c ml_12_149 S_1164 lk_n))))) odX12_season
def ct_1167 : aCt := (mX12_in, [.inl aTop, .inl [(0, 0, 1)], .inl [(11, 11, 1)]], ([], []), [(some (.inl [(0, 0, 1)]), [some [(-2147483648, -1, 1), (12, 2147483647, 1)], none, none], [], []), (some (.inl [(1, 1, 1)]), [some [(0, 11, 1)], none, none], [], [])], [(1000002, 0, 0)], [], 0)
set_option maxRecDepth 100000 in
theorem S_1167 : aSpec wd ct_1167 := bChk_ok wx_ok btX12_in (nds := []) (fk := []) (rk := (1, [])) (sp := 0) (fuel := 3000) (by decide +kernel) lk_n odX12_in
def ct_1168 : aCt := (mX12_hasBit, [.inl aTop, .inl [(0, 0, 1)]], ([((199, 0), [(2, 4, 1)]), ((199, 4), [(1, 7, 1)]), ((199, 5), [(12, 12, 1)]), ((199, 6), [(1, 5, 1)])], []), [(some (.inl [(0, 0, 1)]), [], [], []), (some (.inl [(1, 1, 1)]), [], [], [])], [], [], 0)
set_option maxRecDepth 100000 in
theorem S_1168 : aSpec wd ct_1168 := bChk_ok wx_ok btX12_hasBit (nds := []) (fk := []) (rk := (1, [])) (sp := 0) (fuel := 3000) (by decide +kernel) lk_n odX12_hasBit
def ct_1169 : aCt := (mX12_isClosed, [.inr (.inl [196]), .inl [(0, 0, 1)]], ([((199, 0), [(2, 4, 1)]), ((199, 4), [(1, 7, 1)]), ((199, 5), [(12, 12, 1)]), ((199, 6), [(1, 5, 1)])], []), [(some (.inl [(0, 0, 1)]), [], [], []), (some (.inl [(1, 1, 1)]), [], [], [])], [], [], 1)
set_option maxRecDepth 100000 in
theorem S_1169 : aSpec wd ct_1169 := bChk_ok wx_ok btX12_isClosed (nds := []) (fk := []) (rk := (1, [])) (sp := 0) (fuel := 3000) (by decide +kernel) (lk_c ml_12_298 S_1168 lk_n) odX12_isClosed
def ct_1170 : aCt := (mX12_hasBit, [.inl aTop, .inl [(1, 1, 1)]], ([((199, 0), [(2, 4, 1)]), ((199, 4), [(1, 7, 1)]), ((199, 5), [(12, 12, 1)]), ((199, 6), [(1, 5, 1)])], []), [(some (.inl [(0, 0, 1)]), [], [], []), (some (.inl [(1, 1, 1)]), [], [], [])], [], [], 0)
set_option maxRecDepth 100000 in
theorem S_1170 : aSpec wd ct_1170 := bChk_ok wx_ok btX12_hasBit (nds := []) (fk := []) (rk := (1, [])) (sp := 0) (fuel := 3000) (by decide +kernel) lk_n odX12_hasBit
def ct_1171 : aCt := (mX12_isClosed, [.inr (.inl [196]), .inl [(1, 1, 1)]], ([((199, 0), [(2, 4, 1)]), ((199, 4), [(1, 7, 1)]), ((199, 5), [(12, 12, 1)]), ((199, 6), [(1, 5, 1)])], []), [(some (.inl [(0, 0, 1)]), [], [], []), (some (.inl [(1, 1, 1)]), [], [], [])], [], [], 1)
set_option maxRecDepth 100000 in
theorem S_1171 : aSpec wd ct_1171 := bChk_ok wx_ok btX12_isClosed (nds := []) (fk := []) (rk := (1, [])) (sp := 0) (fuel := 3000) (by decide +kernel) (lk_c ml_12_298 S_1170 lk_n) odX12_isClosed
def ct_1172 : aCt := (mX12_hasBit, [.inl aTop, .inl [(2, 2, 1)]], ([((199, 0), [(2, 4, 1)]), ((199, 4), [(1, 7, 1)]), ((199, 5), [(12, 12, 1)]), ((199, 6), [(1, 5, 1)])], []), [(some (.inl [(0, 0, 1)]), [], [], []), (some (.inl [(1, 1, 1)]), [], [], [])], [], [], 0)
set_option maxRecDepth 100000 in
theorem S_1172 : aSpec wd ct_1172 := bChk_ok wx_ok btX12_hasBit (nds := []) (fk := []) (rk := (1, [])) (sp := 0) (fuel := 3000) (by decide +kernel) lk_n odX12_hasBit
def ct_1173 : aCt := (mX12_isClosed, [.inr (.inl [196]), .inl [(2, 2, 1)]], ([((199, 0), [(2, 4, 1)]), ((199, 4), [(1, 7, 1)]), ((199, 5), [(12, 12, 1)]), ((199, 6), [(1, 5, 1)])], []), [(some (.inl [(0, 0, 1)]), [], [], []), (some (.inl [(1, 1, 1)]), [], [], [])], [], [], 1)
set_option maxRecDepth 100000 in
theorem S_1173 : aSpec wd ct_1173 := bChk_ok wx_ok btX12_isClosed (nds := []) (fk := []) (rk := (1, [])) (sp := 0) (fuel := 3000) (by decide +kernel) (lk_c ml_12_298 S_1172 lk_n) odX12_isClosed
def ct_1174 : aCt := (mX12_hasBit, [.inl aTop, .inl [(3, 3, 1)]], ([((199, 0), [(2, 4, 1)]), ((199, 4), [(1, 7, 1)]), ((199, 5), [(12, 12, 1)]), ((199, 6), [(1, 5, 1)])], []), [(some (.inl [(0, 0, 1)]), [], [], []), (some (.inl [(1, 1, 1)]), [], [], [])], [], [], 0)
set_option maxRecDepth 100000 in
theorem S_1174 : aSpec wd ct_1174 := bChk_ok wx_ok btX12_hasBit (nds := []) (fk := []) (rk := (1, [])) (sp := 0) (fuel := 3000) (by decide +kernel) lk_n odX12_hasBit
def ct_1175 : aCt := (mX12_isClosed, [.inr (.inl [196]), .inl [(3, 3, 1)]], ([((199, 0), [(2, 4, 1)]), ((199, 4), [(1, 7, 1)]), ((199, 5), [(12, 12, 1)]), ((199, 6), [(1, 5, 1)])], []), [(some (.inl [(0, 0, 1)]), [], [], []), (some (.inl [(1, 1, 1)]), [], [], [])], [], [], 1)
set_option maxRecDepth 100000 in
theorem S_1175 : aSpec wd ct_1175 := bChk_ok wx_ok btX12_isClosed (nds := []) (fk := []) (rk := (1, [])) (sp := 0) (fuel := 3000) (by decide +kernel) (lk_c ml_12_298 S_1174 lk_n) odX12_isClosed
def ct_1176 : aCt := (mX12_hasBit, [.inl aTop, .inl [(4, 4, 1)]], ([((199, 0), [(2, 4, 1)]), ((199, 4), [(1, 7, 1)]), ((199, 5), [(12, 12, 1)]), ((199, 6), [(1, 5, 1)])], []), [(some (.inl [(0, 0, 1)]), [], [], []), (some (.inl [(1, 1, 1)]), [], [], [])], [], [], 0)
set_option maxRecDepth 100000 in
theorem S_1176 : aSpec wd ct_1176 := bChk_ok wx_ok btX12_hasBit (nds := []) (fk := []) (rk := (1, [])) (sp := 0) (fuel := 3000) (by decide +kernel) lk_n odX12_hasBit
def ct_1177 : aCt := (mX12_isClosed, [.inr (.inl [196]), .inl [(4, 4, 1)]], ([((199, 0), [(2, 4, 1)]), ((199, 4), [(1, 7, 1)]), ((199, 5), [(12, 12, 1)]), ((199, 6), [(1, 5, 1)])], []), [(some (.inl [(0, 0, 1)]), [], [], []), (some (.inl [(1, 1, 1)]), [], [], [])], [], [], 1)
set_option maxRecDepth 100000 in
theorem S_1177 : aSpec wd ct_1177 := bChk_ok wx_ok btX12_isClosed (nds := []) (fk := []) (rk := (1, [])) (sp := 0) (fuel := 3000) (by decide +kernel) (lk_c ml_12_298 S_1176 lk_n) odX12_isClosed
def ct_1178 : aCt := (mX12_hasBit, [.inl aTop, .inl [(5, 5, 1)]], ([((199, 0), [(2, 4, 1)]), ((199, 4), [(1, 7, 1)]), ((199, 5), [(12, 12, 1)]), ((199, 6), [(1, 5, 1)])], []), [(some (.inl [(0, 0, 1)]), [], [], []), (some (.inl [(1, 1, 1)]), [], [], [])], [], [], 0)
set_option maxRecDepth 100000 in
theorem S_1178 : aSpec wd ct_1178 := bChk_ok wx_ok btX12_hasBit (nds := []) (fk := []) (rk := (1, [])) (sp := 0) (fuel := 3000) (by decide +kernel) lk_n odX12_hasBit
def ct_1179 : aCt := (mX12_isClosed, [.inr (.inl [196]), .inl [(5, 5, 1)]], ([((199, 0), [(2, 4, 1)]), ((199, 4), [(1, 7, 1)]), ((199, 5), [(12, 12, 1)]), ((199, 6), [(1, 5, 1)])], []), [(some (.inl [(0, 0, 1)]), [], [], []), (some (.inl [(1, 1, 1)]), [], [], [])], [], [], 1)
set_option maxRecDepth 100000 in
theorem S_1179 : aSpec wd ct_1179 := bChk_ok wx_ok btX12_isClosed (nds := []) (fk := []) (rk := (1, [])) (sp := 0) (fuel := 3000) (by decide +kernel) (lk_c ml_12_298 S_1178 lk_n) odX12_isClosed
def ct_1180 : aCt := (mX12_hasBit, [.inl aTop, .inl [(6, 6, 1)]], ([((199, 0), [(2, 4, 1)]), ((199, 4), [(1, 7, 1)]), ((199, 5), [(12, 12, 1)]), ((199, 6), [(1, 5, 1)])], []), [(some (.inl [(0, 0, 1)]), [], [], []), (some (.inl [(1, 1, 1)]), [], [], [])], [], [], 0)
set_option maxRecDepth 100000 in
theorem S_1180 : aSpec wd ct_1180 := bChk_ok wx_ok btX12_hasBit (nds := []) (fk := []) (rk := (1, [])) (sp := 0) (fuel := 3000) (by decide +kernel) lk_n odX12_hasBit
def ct_1181 : aCt := (mX12_isClosed, [.inr (.inl [196]), .inl [(6, 6, 1)]], ([((199, 0), [(2, 4, 1)]), ((199, 4), [(1, 7, 1)]), ((199, 5), [(12, 12, 1)]), ((199, 6), [(1, 5, 1)])], []), [(some (.inl [(0, 0, 1)]), [], [], []), (some (.inl [(1, 1, 1)]), [], [], [])], [], [], 1)
set_option maxRecDepth 100000 in
theorem S_1181 : aSpec wd ct_1181 := bChk_ok wx_ok btX12_isClosed (nds := []) (fk := []) (rk := (1, [])) (sp := 0) (fuel := 3000) (by decide +kernel) (lk_c ml_12_298 S_1180 lk_n) odX12_isClosed
def ct_1182 : aCt := (mX12_hasBit, [.inl aTop, .inl [(7, 7, 1)]], ([((199, 0), [(2, 4, 1)]), ((199, 4), [(1, 7, 1)]), ((199, 5), [(12, 12, 1)]), ((199, 6), [(1, 5, 1)])], []), [(some (.inl [(0, 0, 1)]), [], [], []), (some (.inl [(1, 1, 1)]), [], [], [])], [], [], 0)
set_option maxRecDepth 100000 in
theorem S_1182 : aSpec wd ct_1182 := bChk_ok wx_ok btX12_hasBit (nds := []) (fk := []) (rk := (1, [])) (sp := 0) (fuel := 3000) (by decide +kernel) lk_n odX12_hasBit
def ct_1183 : aCt := (mX12_isClosed, [.inr (.inl [196]), .inl [(7, 7, 1)]], ([((199, 0), [(2, 4, 1)]), ((199, 4), [(1, 7, 1)]), ((199, 5), [(12, 12, 1)]), ((199, 6), [(1, 5, 1)])], []), [(some (.inl [(0, 0, 1)]), [], [], []), (some (.inl [(1, 1, 1)]), [], [], [])], [], [], 1)
set_option maxRecDepth 100000 in
theorem S_1183 : aSpec wd ct_1183 := bChk_ok wx_ok btX12_isClosed (nds := []) (fk := []) (rk := (1, [])) (sp := 0) (fuel := 3000) (by decide +kernel) (lk_c ml_12_298 S_1182 lk_n) odX12_isClosed
def ct_1184 : aCt := (mX12_hasBit, [.inl aTop, .inl [(8, 8, 1)]], ([((199, 0), [(2, 4, 1)]), ((199, 4), [(1, 7, 1)]), ((199, 5), [(12, 12, 1)]), ((199, 6), [(1, 5, 1)])], []), [(some (.inl [(0, 0, 1)]), [], [], []), (some (.inl [(1, 1, 1)]), [], [], [])], [], [], 0)
set_option maxRecDepth 100000 in
theorem S_1184 : aSpec wd ct_1184 := bChk_ok wx_ok btX12_hasBit (nds := []) (fk := []) (rk := (1, [])) (sp := 0) (fuel := 3000) (by decide +kernel) lk_n odX12_hasBit
def ct_1185 : aCt := (mX12_isClosed, [.inr (.inl [196]), .inl [(8, 8, 1)]], ([((199, 0), [(2, 4, 1)]), ((199, 4), [(1, 7, 1)]), ((199, 5), [(12, 12, 1)]), ((199, 6), [(1, 5, 1)])], []), [(some (.inl [(0, 0, 1)]), [], [], []), (some (.inl [(1, 1, 1)]), [], [], [])], [], [], 1)
set_option maxRecDepth 100000 in
theorem S_1185 : aSpec wd ct_1185 := bChk_ok wx_ok btX12_isClosed (nds := []) (fk := []) (rk := (1, [])) (sp := 0) (fuel := 3000) (by decide +kernel) (lk_c ml_12_298 S_1184 lk_n) odX12_isClosed
def ct_1186 : aCt := (mX12_hasBit, [.inl aTop, .inl [(9, 9, 1)]], ([((199, 0), [(2, 4, 1)]), ((199, 4), [(1, 7, 1)]), ((199, 5), [(12, 12, 1)]), ((199, 6), [(1, 5, 1)])], []), [(some (.inl [(0, 0, 1)]), [], [], []), (some (.inl [(1, 1, 1)]), [], [], [])], [], [], 0)
set_option maxRecDepth 100000 in
theorem S_1186 : aSpec wd ct_1186 := bChk_ok wx_ok btX12_hasBit (nds := []) (fk := []) (rk := (1, [])) (sp := 0) (fuel := 3000) (by decide +kernel) lk_n odX12_hasBit
def ct_1187 : aCt := (mX12_isClosed, [.inr (.inl [196]), .inl [(9, 9, 1)]], ([((199, 0), [(2, 4, 1)]), ((199, 4), [(1, 7, 1)]), ((199, 5), [(12, 12, 1)]), ((199, 6), [(1, 5, 1)])], []), [(some (.inl [(0, 0, 1)]), [], [], []), (some (.inl [(1, 1, 1)]), [], [], [])], [], [], 1)
set_option maxRecDepth 100000 in
theorem S_1187 : aSpec wd ct_1187 := bChk_ok wx_ok btX12_isClosed (nds := []) (fk := []) (rk := (1, [])) (sp := 0) (fuel := 3000) (by decide +kernel) (lk_c ml_12_298 S_1186 lk_n) odX12_isClosed
def ct_1188 : aCt := (mX12_hasBit, [.inl aTop, .inl [(10, 10, 1)]], ([((199, 0), [(2, 4, 1)]), ((199, 4), [(1, 7, 1)]), ((199, 5), [(12, 12, 1)]), ((199, 6), [(1, 5, 1)])], []), [(some (.inl [(0, 0, 1)]), [], [], []), (some (.inl [(1, 1, 1)]), [], [], [])], [], [], 0)
set_option maxRecDepth 100000 in
theorem S_1188 : aSpec wd ct_1188 := bChk_ok wx_ok btX12_hasBit (nds := []) (fk := []) (rk := (1, [])) (sp := 0) (fuel := 3000) (by decide +kernel) lk_n odX12_hasBit
def ct_1189 : aCt := (mX12_isClosed, [.inr (.inl [196]), .inl [(10, 10, 1)]], ([((199, 0), [(2, 4, 1)]), ((199, 4), [(1, 7, 1)]), ((199, 5), [(12, 12, 1)]), ((199, 6), [(1, 5, 1)])], []), [(some (.inl [(0, 0, 1)]), [], [], []), (some (.inl [(1, 1, 1)]), [], [], [])], [], [], 1)
set_option maxRecDepth 100000 in
theorem S_1189 : aSpec wd ct_1189 := bChk_ok wx_ok btX12_isClosed (nds := []) (fk := []) (rk := (1, [])) (sp := 0) (fuel := 3000) (by decide +kernel) (lk_c ml_12_298 S_1188 lk_n) odX12_isClosed
def ct_1190 : aCt := (mX12_hasBit, [.inl aTop, .inl [(11, 11, 1)]], ([((199, 0), [(2, 4, 1)]), ((199, 4), [(1, 7, 1)]), ((199, 5), [(12, 12, 1)]), ((199, 6), [(1, 5, 1)])], []), [(some (.inl [(0, 0, 1)]), [], [], []), (some (.inl [(1, 1, 1)]), [], [], [])], [], [], 0)
set_option maxRecDepth 100000 in
theorem S_1190 : aSpec wd ct_1190 := bChk_ok wx_ok btX12_hasBit (nds := []) (fk := []) (rk := (1, [])) (sp := 0) (fuel := 3000) (by decide +kernel) lk_n odX12_hasBit
def ct_1191 : aCt := (mX12_isClosed, [.inr (.inl [196]), .inl [(11, 11, 1)]], ([((199, 0), [(2, 4, 1)]), ((199, 4), [(1, 7, 1)]), ((199, 5), [(12, 12, 1)]), ((199, 6), [(1, 5, 1)])], []), [(some (.inl [(0, 0, 1)]), [], [], []), (some (.inl [(1, 1, 1)]), [], [], [])], [], [], 1)
set_option maxRecDepth 100000 in
theorem S_1191 : aSpec wd ct_1191 := bChk_ok wx_ok btX12_isClosed (nds := []) (fk := []) (rk := (1, [])) (sp := 0) (fuel := 3000) (by decide +kernel) (lk_c ml_12_298 S_1190 lk_n) odX12_isClosed
def ct_1192 : aCt := (mX12_ofWhale, [.inr (.inl [196]), .inl [(0, 4, 1)], .inl [(0, 0, 1)]], ([((199, 0), [(2, 4, 1)]), ((199, 4), [(1, 7, 1)]), ((199, 5), [(12, 12, 1)]), ((199, 6), [(1, 5, 1)])], []), [(some (.inl [(0, 3, 1)]), [], [], [])], [], [], 0)
set_option maxRecDepth 100000 in
theorem S_1192 : aSpec wd ct_1192 := bChk_ok wx_ok btX12_ofWhale (nds := []) (fk := []) (rk := (1, [])) (sp := 0) (fuel := 3000) (by decide +kernel) lk_n odX12_ofWhale
def ct_1193 : aCt := (mX12_in, [.inl aTop, .inl [(0, 0, 1)], .inl [(10, 10, 1)]], ([], []), [(some (.inl [(0, 0, 1)]), [some [(-2147483648, -1, 1), (11, 2147483647, 1)], none, none], [], []), (some (.inl [(1, 1, 1)]), [some [(0, 10, 1)], none, none], [], [])], [(1000002, 0, 0)], [], 0)
set_option maxRecDepth 100000 in
theorem S_1193 : aSpec wd ct_1193 := bChk_ok wx_ok btX12_in (nds := []) (fk := []) (rk := (1, [])) (sp := 0) (fuel := 3000) (by decide +kernel) lk_n odX12_in
def ct_1194 : aCt := (mX12_hasBit, [.inl aTop, .inl [(0, 0, 1)]], ([((199, 0), [(2, 4, 1)]), ((199, 4), [(1, 7, 1)]), ((199, 5), [(11, 11, 1)]), ((199, 6), [(1, 5, 1)])], []), [(some (.inl [(0, 0, 1)]), [], [], []), (some (.inl [(1, 1, 1)]), [], [], [])], [], [], 0)
set_option maxRecDepth 100000 in
theorem S_1194 : aSpec wd ct_1194 := bChk_ok wx_ok btX12_hasBit (nds := []) (fk := []) (rk := (1, [])) (sp := 0) (fuel := 3000) (by decide +kernel) lk_n odX12_hasBit
def ct_1195 : aCt := (mX12_isClosed, [.inr (.inl [196]), .inl [(0, 0, 1)]], ([((199, 0), [(2, 4, 1)]), ((199, 4), [(1, 7, 1)]), ((199, 5), [(11, 11, 1)]), ((199, 6), [(1, 5, 1)])], []), [(some (.inl [(0, 0, 1)]), [], [], []), (some (.inl [(1, 1, 1)]), [], [], [])], [], [], 1)
set_option maxRecDepth 100000 in
theorem S_1195 : aSpec wd ct_1195 := bChk_ok wx_ok btX12_isClosed (nds := []) (fk := []) (rk := (1, [])) (sp := 0) (fuel := 3000) (by decide +kernel) (lk_c ml_12_298 S_1194 lk_n) odX12_isClosed
def ct_1196 : aCt := (mX12_hasBit, [.inl aTop, .inl [(1, 1, 1)]], ([((199, 0), [(2, 4, 1)]), ((199, 4), [(1, 7, 1)]), ((199, 5), [(11, 11, 1)]), ((199, 6), [(1, 5, 1)])], []), [(some (.inl [(0, 0, 1)]), [], [], []), (some (.inl [(1, 1, 1)]), [], [], [])], [], [], 0)
set_option maxRecDepth 100000 in
theorem S_1196 : aSpec wd ct_1196 := bChk_ok wx_ok btX12_hasBit (nds := []) (fk := []) (rk := (1, [])) (sp := 0) (fuel := 3000) (by decide +kernel) lk_n odX12_hasBit
def ct_1197 : aCt := (mX12_isClosed, [.inr (.inl [196]), .inl [(1, 1, 1)]], ([((199, 0), [(2, 4, 1)]), ((199, 4), [(1, 7, 1)]), ((199, 5), [(11, 11, 1)]), ((199, 6), [(1, 5, 1)])], []), [(some (.inl [(0, 0, 1)]), [], [], []), (some (.inl [(1, 1, 1)]), [], [], [])], [], [], 1)
set_option maxRecDepth 100000 in
theorem S_1197 : aSpec wd ct_1197 := bChk_ok wx_ok btX12_isClosed (nds := []) (fk := []) (rk := (1, [])) (sp := 0) (fuel := 3000) (by decide +kernel) (lk_c ml_12_298 S_1196 lk_n) odX12_isClosed
def ct_1198 : aCt := (mX12_hasBit, [.inl aTop, .inl [(2, 2, 1)]], ([((199, 0), [(2, 4, 1)]), ((199, 4), [(1, 7, 1)]), ((199, 5), [(11, 11, 1)]), ((199, 6), [(1, 5, 1)])], []), [(some (.inl [(0, 0, 1)]), [], [], []), (some (.inl [(1, 1, 1)]), [], [], [])], [], [], 0)
set_option maxRecDepth 100000 in
theorem S_1198 : aSpec wd ct_1198 := bChk_ok wx_ok btX12_hasBit (nds := []) (fk := []) (rk := (1, [])) (sp := 0) (fuel := 3000) (by decide +kernel) lk_n odX12_hasBit
def ct_1199 : aCt := (mX12_isClosed, [.inr (.inl [196]), .inl [(2, 2, 1)]], ([((199, 0), [(2, 4, 1)]), ((199, 4), [(1, 7, 1)]), ((199, 5), [(11, 11, 1)]), ((199, 6), [(1, 5, 1)])], []), [(some (.inl [(0, 0, 1)]), [], [], []), (some (.inl [(1, 1, 1)]), [], [], [])], [], [], 1)
set_option maxRecDepth 100000 in
theorem S_1199 : aSpec wd ct_1199 := bChk_ok wx_ok btX12_isClosed (nds := []) (fk := []) (rk := (1, [])) (sp := 0) (fuel := 3000) (by decide +kernel) (lk_c ml_12_298 S_1198 lk_n) odX12_isClosed
def ct_1200 : aCt := (mX12_hasBit, [.inl aTop, .inl [(3, 3, 1)]], ([((199, 0), [(2, 4, 1)]), ((199, 4), [(1, 7, 1)]), ((199, 5), [(11, 11, 1)]), ((199, 6), [(1, 5, 1)])], []), [(some (.inl [(0, 0, 1)]), [], [], []), (some (.inl [(1, 1, 1)]), [], [], [])], [], [], 0)
set_option maxRecDepth 100000 in
theorem S_1200 : aSpec wd ct_1200 := bChk_ok wx_ok btX12_hasBit (nds := []) (fk := []) (rk := (1, [])) (sp := 0) (fuel := 3000) (by decide +kernel) lk_n odX12_hasBit
def ct_1201 : aCt := (mX12_isClosed, [.inr (.inl [196]), .inl [(3, 3, 1)]], ([((199, 0), [(2, 4, 1)]), ((199, 4), [(1, 7, 1)]), ((199, 5), [(11, 11, 1)]), ((199, 6), [(1, 5, 1)])], []), [(some (.inl [(0, 0, 1)]), [], [], []), (some (.inl [(1, 1, 1)]), [], [], [])], [], [], 1)
set_option maxRecDepth 100000 in
theorem S_1201 : aSpec wd ct_1201 := bChk_ok wx_ok btX12_isClosed (nds := []) (fk := []) (rk := (1, [])) (sp := 0) (fuel := 3000) (by decide +kernel) (lk_c ml_12_298 S_1200 lk_n) odX12_isClosed
def ct_1202 : aCt := (mX12_hasBit, [.inl aTop, .inl [(4, 4, 1)]], ([((199, 0), [(2, 4, 1)]), ((199, 4), [(1, 7, 1)]), ((199, 5), [(11, 11, 1)]), ((199, 6), [(1, 5, 1)])], []), [(some (.inl [(0, 0, 1)]), [], [], []), (some (.inl [(1, 1, 1)]), [], [], [])], [], [], 0)
set_option maxRecDepth 100000 in
theorem S_1202 : aSpec wd ct_1202 := bChk_ok wx_ok btX12_hasBit (nds := []) (fk := []) (rk := (1, [])) (sp := 0) (fuel := 3000) (by decide +kernel) lk_n odX12_hasBit
def ct_1203 : aCt := (mX12_isClosed, [.inr (.inl [196]), .inl [(4, 4, 1)]], ([((199, 0), [(2, 4, 1)]), ((199, 4), [(1, 7, 1)]), ((199, 5), [(11, 11, 1)]), ((199, 6), [(1, 5, 1)])], []), [(some (.inl [(0, 0, 1)]), [], [], []), (some (.inl [(1, 1, 1)]), [], [], [])], [], [], 1)
set_option maxRecDepth 100000 in
theorem S_1203 : aSpec wd ct_1203 := bChk_ok wx_ok btX12_isClosed (nds := []) (fk := []) (rk := (1, [])) (sp := 0) (fuel := 3000) (by decide +kernel) (lk_c ml_12_298 S_1202 lk_n) odX12_isClosed
def ct_1204 : aCt := (mX12_hasBit, [.inl aTop, .inl [(5, 5, 1)]], ([((199, 0), [(2, 4, 1)]), ((199, 4), [(1, 7, 1)]), ((199, 5), [(11, 11, 1)]), ((199, 6), [(1, 5, 1)])], []), [(some (.inl [(0, 0, 1)]), [], [], []), (some (.inl [(1, 1, 1)]), [], [], [])], [], [], 0)
set_option maxRecDepth 100000 in
theorem S_1204 : aSpec wd ct_1204 := bChk_ok wx_ok btX12_hasBit (nds := []) (fk := []) (rk := (1, [])) (sp := 0) (fuel := 3000) (by decide +kernel) lk_n odX12_hasBit
def ct_1205 : aCt := (mX12_isClosed, [.inr (.inl [196]), .inl [(5, 5, 1)]], ([((199, 0), [(2, 4, 1)]), ((199, 4), [(1, 7, 1)]), ((199, 5), [(11, 11, 1)]), ((199, 6), [(1, 5, 1)])], []), [(some (.inl [(0, 0, 1)]), [], [], []), (some (.inl [(1, 1, 1)]), [], [], [])], [], [], 1)
set_option maxRecDepth 100000 in
theorem S_1205 : aSpec wd ct_1205 := bChk_ok wx_ok btX12_isClosed (nds := []) (fk := []) (rk := (1, [])) (sp := 0) (fuel := 3000) (by decide +kernel) (lk_c ml_12_298 S_1204 lk_n) odX12_isClosed
def ct_1206 : aCt := (mX12_hasBit, [.inl aTop, .inl [(6, 6, 1)]], ([((199, 0), [(2, 4, 1)]), ((199, 4), [(1, 7, 1)]), ((199, 5), [(11, 11, 1)]), ((199, 6), [(1, 5, 1)])], []), [(some (.inl [(0, 0, 1)]), [], [], []), (some (.inl [(1, 1, 1)]), [], [], [])], [], [], 0)
set_option maxRecDepth 100000 in
theorem S_1206 : aSpec wd ct_1206 := bChk_ok wx_ok btX12_hasBit (nds := []) (fk := []) (rk := (1, [])) (sp := 0) (fuel := 3000) (by decide +kernel) lk_n odX12_hasBit
def ct_1207 : aCt := (mX12_isClosed, [.inr (.inl [196]), .inl [(6, 6, 1)]], ([((199, 0), [(2, 4, 1)]), ((199, 4), [(1, 7, 1)]), ((199, 5), [(11, 11, 1)]), ((199, 6), [(1, 5, 1)])], []), [(some (.inl [(0, 0, 1)]), [], [], []), (some (.inl [(1, 1, 1)]), [], [], [])], [], [], 1)
set_option maxRecDepth 100000 in
theorem S_1207 : aSpec wd ct_1207 := bChk_ok wx_ok btX12_isClosed (nds := []) (fk := []) (rk := (1, [])) (sp := 0) (fuel := 3000) (by decide +kernel) (lk_c ml_12_298 S_1206 lk_n) odX12_isClosed
def ct_1208 : aCt := (mX12_hasBit, [.inl aTop, .inl [(7, 7, 1)]], ([((199, 0), [(2, 4, 1)]), ((199, 4), [(1, 7, 1)]), ((199, 5), [(11, 11, 1)]), ((199, 6), [(1, 5, 1)])], []), [(some (.inl [(0, 0, 1)]), [], [], []), (some (.inl [(1, 1, 1)]), [], [], [])], [], [], 0)
set_option maxRecDepth 100000 in
theorem S_1208 : aSpec wd ct_1208 := bChk_ok wx_ok btX12_hasBit (nds := []) (fk := []) (rk := (1, [])) (sp := 0) (fuel := 3000) (by decide +kernel) lk_n odX12_hasBit
def ct_1209 : aCt := (mX12_isClosed, [.inr (.inl [196]), .inl [(7, 7, 1)]], ([((199, 0), [(2, 4, 1)]), ((199, 4), [(1, 7, 1)]), ((199, 5), [(11, 11, 1)]), ((199, 6), [(1, 5, 1)])], []), [(some (.inl [(0, 0, 1)]), [], [], []), (some (.inl [(1, 1, 1)]), [], [], [])], [], [], 1)
set_option maxRecDepth 100000 in
theorem S_1209 : aSpec wd ct_1209 := bChk_ok wx_ok btX12_isClosed (nds := []) (fk := []) (rk := (1, [])) (sp := 0) (fuel := 3000) (by decide +kernel) (lk_c ml_12_298 S_1208 lk_n) odX12_isClosed
def ct_1210 : aCt := (mX12_hasBit, [.inl aTop, .inl [(8, 8, 1)]], ([((199, 0), [(2, 4, 1)]), ((199, 4), [(1, 7, 1)]), ((199, 5), [(11, 11, 1)]), ((199, 6), [(1, 5, 1)])], []), [(some (.inl [(0, 0, 1)]), [], [], []), (some (.inl [(1, 1, 1)]), [], [], [])], [], [], 0)
set_option maxRecDepth 100000 in
theorem S_1210 : aSpec wd ct_1210 := bChk_ok wx_ok btX12_hasBit (nds := []) (fk := []) (rk := (1, [])) (sp := 0) (fuel := 3000) (by decide +kernel) lk_n odX12_hasBit
def ct_1211 : aCt := (mX12_isClosed, [.inr (.inl [196]), .inl [(8, 8, 1)]], ([((199, 0), [(2, 4, 1)]), ((199, 4), [(1, 7, 1)]), ((199, 5), [(11, 11, 1)]), ((199, 6), [(1, 5, 1)])], []), [(some (.inl [(0, 0, 1)]), [], [], []), (some (.inl [(1, 1, 1)]), [], [], [])], [], [], 1)
set_option maxRecDepth 100000 in
theorem S_1211 : aSpec wd ct_1211 := bChk_ok wx_ok btX12_isClosed (nds := []) (fk := []) (rk := (1, [])) (sp := 0) (fuel := 3000) (by decide +kernel) (lk_c ml_12_298 S_1210 lk_n) odX12_isClosed
def ct_1212 : aCt := (mX12_hasBit, [.inl aTop, .inl [(9, 9, 1)]], ([((199, 0), [(2, 4, 1)]), ((199, 4), [(1, 7, 1)]), ((199, 5), [(11, 11, 1)]), ((199, 6), [(1, 5, 1)])], []), [(some (.inl [(0, 0, 1)]), [], [], []), (some (.inl [(1, 1, 1)]), [], [], [])], [], [], 0)
set_option maxRecDepth 100000 in
theorem S_1212 : aSpec wd ct_1212 := bChk_ok wx_ok btX12_hasBit (nds := []) (fk := []) (rk := (1, [])) (sp := 0) (fuel := 3000) (by decide +kernel) lk_n odX12_hasBit
def ct_1213 : aCt := (mX12_isClosed, [.inr (.inl [196]), .inl [(9, 9, 1)]], ([((199, 0), [(2, 4, 1)]), ((199, 4), [(1, 7, 1)]), ((199, 5), [(11, 11, 1)]), ((199, 6), [(1, 5, 1)])], []), [(some (.inl [(0, 0, 1)]), [], [], []), (some (.inl [(1, 1, 1)]), [], [], [])], [], [], 1)
set_option maxRecDepth 100000 in
theorem S_1213 : aSpec wd ct_1213 := bChk_ok wx_ok btX12_isClosed (nds := []) (fk := []) (rk := (1, [])) (sp := 0) (fuel := 3000) (by decide +kernel) (lk_c ml_12_298 S_1212 lk_n) odX12_isClosed
def ct_1214 : aCt := (mX12_hasBit, [.inl aTop, .inl [(10, 10, 1)]], ([((199, 0), [(2, 4, 1)]), ((199, 4), [(1, 7, 1)]), ((199, 5), [(11, 11, 1)]), ((199, 6), [(1, 5, 1)])], []), [(some (.inl [(0, 0, 1)]), [], [], []), (some (.inl [(1, 1, 1)]), [], [], [])], [], [], 0)
set_option maxRecDepth 100000 in
theorem S_1214 : aSpec wd ct_1214 := bChk_ok wx_ok btX12_hasBit (nds := []) (fk := []) (rk := (1, [])) (sp := 0) (fuel := 3000) (by decide +kernel) lk_n odX12_hasBit
def ct_1215 : aCt := (mX12_isClosed, [.inr (.inl [196]), .inl [(10, 10, 1)]], ([((199, 0), [(2, 4, 1)]), ((199, 4), [(1, 7, 1)]), ((199, 5), [(11, 11, 1)]), ((199, 6), [(1, 5, 1)])], []), [(some (.inl [(0, 0, 1)]), [], [], []), (some (.inl [(1, 1, 1)]), [], [], [])], [], [], 1)
set_option maxRecDepth 100000 in
theorem S_1215 : aSpec wd ct_1215 := bChk_ok wx_ok btX12_isClosed (nds := []) (fk := []) (rk := (1, [])) (sp := 0) (fuel := 3000) (by decide +kernel) (lk_c ml_12_298 S_1214 lk_n) odX12_isClosed
def ct_1216 : aCt := (mX12_ofWhale, [.inr (.inl [196]), .inl [(0, 4, 1)], .inl [(0, 0, 1)]], ([((199, 0), [(2, 4, 1)]), ((199, 4), [(1, 7, 1)]), ((199, 5), [(11, 11, 1)]), ((199, 6), [(1, 5, 1)])], []), [(some (.inl [(0, 3, 1)]), [], [], [])], [], [], 0)
set_option maxRecDepth 100000 in
theorem S_1216 : aSpec wd ct_1216 := bChk_ok wx_ok btX12_ofWhale (nds := []) (fk := []) (rk := (1, [])) (sp := 0) (fuel := 3000) (by decide +kernel) lk_n odX12_ofWhale
def ct_1217 : aCt := (mX12_in, [.inl aTop, .inl [(0, 0, 1)], .inl [(9, 9, 1)]], ([], []), [(some (.inl [(0, 0, 1)]), [some [(-2147483648, -1, 1), (10, 2147483647, 1)], none, none], [], []), (some (.inl [(1, 1, 1)]), [some [(0, 9, 1)], none, none], [], [])], [(1000002, 0, 0)], [], 0)
set_option maxRecDepth 100000 in
theorem S_1217 : aSpec wd ct_1217 := bChk_ok wx_ok btX12_in (nds := []) (fk := []) (rk := (1, [])) (sp := 0) (fuel := 3000) (by decide +kernel) lk_n odX12_in
def ct_1218 : aCt := (mX12_hasBit, [.inl aTop, .inl [(0, 0, 1)]], ([((199, 0), [(2, 4, 1)]), ((199, 4), [(1, 7, 1)]), ((199, 5), [(10, 10, 1)]), ((199, 6), [(1, 5, 1)])], []), [(some (.inl [(0, 0, 1)]), [], [], []), (some (.inl [(1, 1, 1)]), [], [], [])], [], [], 0)
set_option maxRecDepth 100000 in
theorem S_1218 : aSpec wd ct_1218 := bChk_ok wx_ok btX12_hasBit (nds := []) (fk := []) (rk := (1, [])) (sp := 0) (fuel := 3000) (by decide +kernel) lk_n odX12_hasBit
def ct_1219 : aCt := (mX12_isClosed, [.inr (.inl [196]), .inl [(0, 0, 1)]], ([((199, 0), [(2, 4, 1)]), ((199, 4), [(1, 7, 1)]), ((199, 5), [(10, 10, 1)]), ((199, 6), [(1, 5, 1)])], []), [(some (.inl [(0, 0, 1)]), [], [], []), (some (.inl [(1, 1, 1)]), [], [], [])], [], [], 1)
set_option maxRecDepth 100000 in
theorem S_1219 : aSpec wd ct_1219 := bChk_ok wx_ok btX12_isClosed (nds := []) (fk := []) (rk := (1, [])) (sp := 0) (fuel := 3000) (by decide +kernel) (lk_c ml_12_298 S_1218 lk_n) odX12_isClosed
def ct_1220 : aCt := (mX12_hasBit, [.inl aTop, .inl [(1, 1, 1)]], ([((199, 0), [(2, 4, 1)]), ((199, 4), [(1, 7, 1)]), ((199, 5), [(10, 10, 1)]), ((199, 6), [(1, 5, 1)])], []), [(some (.inl [(0, 0, 1)]), [], [], []), (some (.inl [(1, 1, 1)]), [], [], [])], [], [], 0)
set_option maxRecDepth 100000 in
theorem S_1220 : aSpec wd ct_1220 := bChk_ok wx_ok btX12_hasBit (nds := []) (fk := []) (rk := (1, [])) (sp := 0) (fuel := 3000) (by decide +kernel) lk_n odX12_hasBit
def ct_1221 : aCt := (mX12_isClosed, [.inr (.inl [196]), .inl [(1, 1, 1)]], ([((199, 0), [(2, 4, 1)]), ((199, 4), [(1, 7, 1)]), ((199, 5), [(10, 10, 1)]), ((199, 6), [(1, 5, 1)])], []), [(some (.inl [(0, 0, 1)]), [], [], []), (some (.inl [(1, 1, 1)]), [], [], [])], [], [], 1)
set_option maxRecDepth 100000 in
theorem S_1221 : aSpec wd ct_1221 := bChk_ok wx_ok btX12_isClosed (nds := []) (fk := []) (rk := (1, [])) (sp := 0) (fuel := 3000) (by decide +kernel) (lk_c ml_12_298 S_1220 lk_n) odX12_isClosed
def ct_1222 : aCt := (mX12_hasBit, [.inl aTop, .inl [(2, 2, 1)]], ([((199, 0), [(2, 4, 1)]), ((199, 4), [(1, 7, 1)]), ((199, 5), [(10, 10, 1)]), ((199, 6), [(1, 5, 1)])], []), [(some (.inl [(0, 0, 1)]), [], [], []), (some (.inl [(1, 1, 1)]), [], [], [])], [], [], 0)
set_option maxRecDepth 100000 in
theorem S_1222 : aSpec wd ct_1222 := bChk_ok wx_ok btX12_hasBit (nds := []) (fk := []) (rk := (1, [])) (sp := 0) (fuel := 3000) (by decide +kernel) lk_n odX12_hasBit
def ct_1223 : aCt := (mX12_isClosed, [.inr (.inl [196]), .inl [(2, 2, 1)]], ([((199, 0), [(2, 4, 1)]), ((199, 4), [(1, 7, 1)]), ((199, 5), [(10, 10, 1)]), ((199, 6), [(1, 5, 1)])], []), [(some (.inl [(0, 0, 1)]), [], [], []), (some (.inl [(1, 1, 1)]), [], [], [])], [], [], 1)
set_option maxRecDepth 100000 in
theorem S_1223 : aSpec wd ct_1223 := bChk_ok wx_ok btX12_isClosed (nds := []) (fk := []) (rk := (1, [])) (sp := 0) (fuel := 3000) (by decide +kernel) (lk_c ml_12_298 S_1222 lk_n) odX12_isClosed
def ct_1224 : aCt := (mX12_hasBit, [.inl aTop, .inl [(3, 3, 1)]], ([((199, 0), [(2, 4, 1)]), ((199, 4), [(1, 7, 1)]), ((199, 5), [(10, 10, 1)]), ((199, 6), [(1, 5, 1)])], []), [(some (.inl [(0, 0, 1)]), [], [], []), (some (.inl [(1, 1, 1)]), [], [], [])], [], [], 0)
set_option maxRecDepth 100000 in
theorem S_1224 : aSpec wd ct_1224 := bChk_ok wx_ok btX12_hasBit (nds := []) (fk := []) (rk := (1, [])) (sp := 0) (fuel := 3000) (by decide +kernel) lk_n odX12_hasBit
def ct_1225 : aCt := (mX12_isClosed, [.inr (.inl [196]), .inl [(3, 3, 1)]], ([((199, 0), [(2, 4, 1)]), ((199, 4), [(1, 7, 1)]), ((199, 5), [(10, 10, 1)]), ((199, 6), [(1, 5, 1)])], []), [(some (.inl [(0, 0, 1)]), [], [], []), (some (.inl [(1, 1, 1)]), [], [], [])], [], [], 1)
set_option maxRecDepth 100000 in
theorem S_1225 : aSpec wd ct_1225 := bChk_ok wx_ok btX12_isClosed (nds := []) (fk := []) (rk := (1, [])) (sp := 0) (fuel := 3000) (by decide +kernel) (lk_c ml_12_298 S_1224 lk_n) odX12_isClosed
def ct_1226 : aCt := (mX12_hasBit, [.inl aTop, .inl [(4, 4, 1)]], ([((199, 0), [(2, 4, 1)]), ((199, 4), [(1, 7, 1)]), ((199, 5), [(10, 10, 1)]), ((199, 6), [(1, 5, 1)])], []), [(some (.inl [(0, 0, 1)]), [], [], []), (some (.inl [(1, 1, 1)]), [], [], [])], [], [], 0)
set_option maxRecDepth 100000 in
theorem S_1226 : aSpec wd ct_1226 := bChk_ok wx_ok btX12_hasBit (nds := []) (fk := []) (rk := (1, [])) (sp := 0) (fuel := 3000) (by decide +kernel) lk_n odX12_hasBit
def ct_1227 : aCt := (mX12_isClosed, [.inr (.inl [196]), .inl [(4, 4, 1)]], ([((199, 0), [(2, 4, 1)]), ((199, 4), [(1, 7, 1)]), ((199, 5), [(10, 10, 1)]), ((199, 6), [(1, 5, 1)])], []), [(some (.inl [(0, 0, 1)]), [], [], []), (some (.inl [(1, 1, 1)]), [], [], [])], [], [], 1)
set_option maxRecDepth 100000 in
theorem S_1227 : aSpec wd ct_1227 := bChk_ok wx_ok btX12_isClosed (nds := []) (fk := []) (rk := (1, [])) (sp := 0) (fuel := 3000) (by decide +kernel) (lk_c ml_12_298 S_1226 lk_n) odX12_isClosed
def ct_1228 : aCt := (mX12_hasBit, [.inl aTop, .inl [(5, 5, 1)]], ([((199, 0), [(2, 4, 1)]), ((199, 4), [(1, 7, 1)]), ((199, 5), [(10, 10, 1)]), ((199, 6), [(1, 5, 1)])], []), [(some (.inl [(0, 0, 1)]), [], [], []), (some (.inl [(1, 1, 1)]), [], [], [])], [], [], 0)
set_option maxRecDepth 100000 in
theorem S_1228 : aSpec wd ct_1228 := bChk_ok wx_ok btX12_hasBit (nds := []) (fk := []) (rk := (1, [])) (sp := 0) (fuel := 3000) (by decide +kernel) lk_n odX12_hasBit
def ct_1229 : aCt := (mX12_isClosed, [.inr (.inl [196]), .inl [(5, 5, 1)]], ([((199, 0), [(2, 4, 1)]), ((199, 4), [(1, 7, 1)]), ((199, 5), [(10, 10, 1)]), ((199, 6), [(1, 5, 1)])], []), [(some (.inl [(0, 0, 1)]), [], [], []), (some (.inl [(1, 1, 1)]), [], [], [])], [], [], 1)
set_option maxRecDepth 100000 in
theorem S_1229 : aSpec wd ct_1229 := bChk_ok wx_ok btX12_isClosed (nds := []) (fk := []) (rk := (1, [])) (sp := 0) (fuel := 3000) (by decide +kernel) (lk_c ml_12_298 S_1228 lk_n) odX12_isClosed
def ct_1230 : aCt := (mX12_hasBit, [.inl aTop, .inl [(6, 6, 1)]], ([((199, 0), [(2, 4, 1)]), ((199, 4), [(1, 7, 1)]), ((199, 5), [(10, 10, 1)]), ((199, 6), [(1, 5, 1)])], []), [(some (.inl [(0, 0, 1)]), [], [], []), (some (.inl [(1, 1, 1)]), [], [], [])], [], [], 0)
set_option maxRecDepth 100000 in
theorem S_1230 : aSpec wd ct_1230 := bChk_ok wx_ok btX12_hasBit (nds := []) (fk := []) (rk := (1, [])) (sp := 0) (fuel := 3000) (by decide +kernel) lk_n odX12_hasBit
def ct_1231 : aCt := (mX12_isClosed, [.inr (.inl [196]), .inl [(6, 6, 1)]], ([((199, 0), [(2, 4, 1)]), ((199, 4), [(1, 7, 1)]), ((199, 5), [(10, 10, 1)]), ((199, 6), [(1, 5, 1)])], []), [(some (.inl [(0, 0, 1)]), [], [], []), (some (.inl [(1, 1, 1)]), [], [], [])], [], [], 1)
set_option maxRecDepth 100000 in
theorem S_1231 : aSpec wd ct_1231 := bChk_ok wx_ok btX12_isClosed (nds := []) (fk := []) (rk := (1, [])) (sp := 0) (fuel := 3000) (by decide +kernel) (lk_c ml_12_298 S_1230 lk_n) odX12_isClosed
def ct_1232 : aCt := (mX12_hasBit, [.inl aTop, .inl [(7, 7, 1)]], ([((199, 0), [(2, 4, 1)]), ((199, 4), [(1, 7, 1)]), ((199, 5), [(10, 10, 1)]), ((199, 6), [(1, 5, 1)])], []), [(some (.inl [(0, 0, 1)]), [], [], []), (some (.inl [(1, 1, 1)]), [], [], [])], [], [], 0)
set_option maxRecDepth 100000 in
theorem S_1232 : aSpec wd ct_1232 := bChk_ok wx_ok btX12_hasBit (nds := []) (fk := []) (rk := (1, [])) (sp := 0) (fuel := 3000) (by decide +kernel) lk_n odX12_hasBit
def ct_1233 : aCt := (mX12_isClosed, [.inr (.inl [196]), .inl [(7, 7, 1)]], ([((199, 0), [(2, 4, 1)]), ((199, 4), [(1, 7, 1)]), ((199, 5), [(10, 10, 1)]), ((199, 6), [(1, 5, 1)])], []), [(some (.inl [(0, 0, 1)]), [], [], []), (some (.inl [(1, 1, 1)]), [], [], [])], [], [], 1)
set_option maxRecDepth 100000 in
theorem S_1233 : aSpec wd ct_1233 := bChk_ok wx_ok btX12_isClosed (nds := []) (fk := []) (rk := (1, [])) (sp := 0) (fuel := 3000) (by decide +kernel) (lk_c ml_12_298 S_1232 lk_n) odX12_isClosed
def ct_1234 : aCt := (mX12_hasBit, [.inl aTop, .inl [(8, 8, 1)]], ([((199, 0), [(2, 4, 1)]), ((199, 4), [(1, 7, 1)]), ((199, 5), [(10, 10, 1)]), ((199, 6), [(1, 5, 1)])], []), [(some (.inl [(0, 0, 1)]), [], [], []), (some (.inl [(1, 1, 1)]), [], [], [])], [], [], 0)
set_option maxRecDepth 100000 in
theorem S_1234 : aSpec wd ct_1234 := bChk_ok wx_ok btX12_hasBit (nds := []) (fk := []) (rk := (1, [])) (sp := 0) (fuel := 3000) (by decide +kernel) lk_n odX12_hasBit
def ct_1235 : aCt := (mX12_isClosed, [.inr (.inl [196]), .inl [(8, 8, 1)]], ([((199, 0), [(2, 4, 1)]), ((199, 4), [(1, 7, 1)]), ((199, 5), [(10, 10, 1)]), ((199, 6), [(1, 5, 1)])], []), [(some (.inl [(0, 0, 1)]), [], [], []), (some (.inl [(1, 1, 1)]), [], [], [])], [], [], 1)
set_option maxRecDepth 100000 in
theorem S_1235 : aSpec wd ct_1235 := bChk_ok wx_ok btX12_isClosed (nds := []) (fk := []) (rk := (1, [])) (sp := 0) (fuel := 3000) (by decide +kernel) (lk_c ml_12_298 S_1234 lk_n) odX12_isClosed
def ct_1236 : aCt := (mX12_hasBit, [.inl aTop, .inl [(9, 9, 1)]], ([((199, 0), [(2, 4, 1)]), ((199, 4), [(1, 7, 1)]), ((199, 5), [(10, 10, 1)]), ((199, 6), [(1, 5, 1)])], []), [(some (.inl [(0, 0, 1)]), [], [], []), (some (.inl [(1, 1, 1)]), [], [], [])], [], [], 0)
set_option maxRecDepth 100000 in
theorem S_1236 : aSpec wd ct_1236 := bChk_ok wx_ok btX12_hasBit (nds := []) (fk := []) (rk := (1, [])) (sp := 0) (fuel := 3000) (by decide +kernel) lk_n odX12_hasBit
def ct_1237 : aCt := (mX12_isClosed, [.inr (.inl [196]), .inl [(9, 9, 1)]], ([((199, 0), [(2, 4, 1)]), ((199, 4), [(1, 7, 1)]), ((199, 5), [(10, 10, 1)]), ((199, 6), [(1, 5, 1)])], []), [(some (.inl [(0, 0, 1)]), [], [], []), (some (.inl [(1, 1, 1)]), [], [], [])], [], [], 1)
set_option maxRecDepth 100000 in
theorem S_1237 : aSpec wd ct_1237 := bChk_ok wx_ok btX12_isClosed (nds := []) (fk := []) (rk := (1, [])) (sp := 0) (fuel := 3000) (by decide +kernel) (lk_c ml_12_298 S_1236 lk_n) odX12_isClosed
def ct_1238 : aCt := (mX12_ofWhale, [.inr (.inl [196]), .inl [(0, 4, 1)], .inl [(0, 0, 1)]], ([((199, 0), [(2, 4, 1)]), ((199, 4), [(1, 7, 1)]), ((199, 5), [(10, 10, 1)]), ((199, 6), [(1, 5, 1)])], []), [(some (.inl [(0, 3, 1)]), [], [], [])], [], [], 0)
set_option maxRecDepth 100000 in
theorem S_1238 : aSpec wd ct_1238 := bChk_ok wx_ok btX12_ofWhale (nds := []) (fk := []) (rk := (1, [])) (sp := 0) (fuel := 3000) (by decide +kernel) lk_n odX12_ofWhale
def ct_1239 : aCt := (mX12_in, [.inl aTop, .inl [(0, 0, 1)], .inl [(8, 8, 1)]], ([], []), [(some (.inl [(0, 0, 1)]), [some [(-2147483648, -1, 1), (9, 2147483647, 1)], none, none], [], []), (some (.inl [(1, 1, 1)]), [some [(0, 8, 1)], none, none], [], [])], [(1000002, 0, 0)], [], 0)
set_option maxRecDepth 100000 in
theorem S_1239 : aSpec wd ct_1239 := bChk_ok wx_ok btX12_in (nds := []) (fk := []) (rk := (1, [])) (sp := 0) (fuel := 3000) (by decide +kernel) lk_n odX12_in
def ct_1240 : aCt := (mX12_hasBit, [.inl aTop, .inl [(0, 0, 1)]], ([((199, 0), [(2, 4, 1)]), ((199, 4), [(1, 7, 1)]), ((199, 5), [(9, 9, 1)]), ((199, 6), [(1, 5, 1)])], []), [(some (.inl [(0, 0, 1)]), [], [], []), (some (.inl [(1, 1, 1)]), [], [], [])], [], [], 0)
set_option maxRecDepth 100000 in
theorem S_1240 : aSpec wd ct_1240 := bChk_ok wx_ok btX12_hasBit (nds := []) (fk := []) (rk := (1, [])) (sp := 0) (fuel := 3000) (by decide +kernel) lk_n odX12_hasBit
def ct_1241 : aCt := (mX12_isClosed, [.inr (.inl [196]), .inl [(0, 0, 1)]], ([((199, 0), [(2, 4, 1)]), ((199, 4), [(1, 7, 1)]), ((199, 5), [(9, 9, 1)]), ((199, 6), [(1, 5, 1)])], []), [(some (.inl [(0, 0, 1)]), [], [], []), (some (.inl [(1, 1, 1)]), [], [], [])], [], [], 1)
set_option maxRecDepth 100000 in
theorem S_1241 : aSpec wd ct_1241 := bChk_ok wx_ok btX12_isClosed (nds := []) (fk := []) (rk := (1, [])) (sp := 0) (fuel := 3000) (by decide +kernel) (lk_c ml_12_298 S_1240 lk_n) odX12_isClosed
def ct_1242 : aCt := (mX12_hasBit, [.inl aTop, .inl [(1, 1, 1)]], ([((199, 0), [(2, 4, 1)]), ((199, 4), [(1, 7, 1)]), ((199, 5), [(9, 9, 1)]), ((199, 6), [(1, 5, 1)])], []), [(some (.inl [(0, 0, 1)]), [], [], []), (some (.inl [(1, 1, 1)]), [], [], [])], [], [], 0)
set_option maxRecDepth 100000 in
theorem S_1242 : aSpec wd ct_1242 := bChk_ok wx_ok btX12_hasBit (nds := []) (fk := []) (rk := (1, [])) (sp := 0) (fuel := 3000) (by decide +kernel) lk_n odX12_hasBit
def ct_1243 : aCt := (mX12_isClosed, [.inr (.inl [196]), .inl [(1, 1, 1)]], ([((199, 0), [(2, 4, 1)]), ((199, 4), [(1, 7, 1)]), ((199, 5), [(9, 9, 1)]), ((199, 6), [(1, 5, 1)])], []), [(some (.inl [(0, 0, 1)]), [], [], []), (some (.inl [(1, 1, 1)]), [], [], [])], [], [], 1)
set_option maxRecDepth 100000 in
theorem S_1243 : aSpec wd ct_1243 := bChk_ok wx_ok btX12_isClosed (nds := []) (fk := []) (rk := (1, [])) (sp := 0) (fuel := 3000) (by decide +kernel) (lk_c ml_12_298 S_1242 lk_n) odX12_isClosed
def ct_1244 : aCt := (mX12_hasBit, [.inl aTop, .inl [(2, 2, 1)]], ([((199, 0), [(2, 4, 1)]), ((199, 4), [(1, 7, 1)]), ((199, 5), [(9, 9, 1)]), ((199, 6), [(1, 5, 1)])], []), [(some (.inl [(0, 0, 1)]), [], [], []), (some (.inl [(1, 1, 1)]), [], [], [])], [], [], 0)
set_option maxRecDepth 100000 in
theorem S_1244 : aSpec wd ct_1244 := bChk_ok wx_ok btX12_hasBit (nds := []) (fk := []) (rk := (1, [])) (sp := 0) (fuel := 3000) (by decide +kernel) lk_n odX12_hasBit
def ct_1245 : aCt := (mX12_isClosed, [.inr (.inl [196]), .inl [(2, 2, 1)]], ([((199, 0), [(2, 4, 1)]), ((199, 4), [(1, 7, 1)]), ((199, 5), [(9, 9, 1)]), ((199, 6), [(1, 5, 1)])], []), [(some (.inl [(0, 0, 1)]), [], [], []), (some (.inl [(1, 1, 1)]), [], [], [])], [], [], 1)
set_option maxRecDepth 100000 in
theorem S_1245 : aSpec wd ct_1245 := bChk_ok wx_ok btX12_isClosed (nds := []) (fk := []) (rk := (1, [])) (sp := 0) (fuel := 3000) (by decide +kernel) (lk_c ml_12_298 S_1244 lk_n) odX12_isClosed
def ct_1246 : aCt := (mX12_hasBit, [.inl aTop, .inl [(3, 3, 1)]], ([((199, 0), [(2, 4, 1)]), ((199, 4), [(1, 7, 1)]), ((199, 5), [(9, 9, 1)]), ((199, 6), [(1, 5, 1)])], []), [(some (.inl [(0, 0, 1)]), [], [], []), (some (.inl [(1, 1, 1)]), [], [], [])], [], [], 0)
set_option maxRecDepth 100000 in
theorem S_1246 : aSpec wd ct_1246 := bChk_ok wx_ok btX12_hasBit (nds := []) (fk := []) (rk := (1, [])) (sp := 0) (fuel := 3000) (by decide +kernel) lk_n odX12_hasBit
def ct_1247 : aCt := (mX12_isClosed, [.inr (.inl [196]), .inl [(3, 3, 1)]], ([((199, 0), [(2, 4, 1)]), ((199, 4), [(1, 7, 1)]), ((199, 5), [(9, 9, 1)]), ((199, 6), [(1, 5, 1)])], []), [(some (.inl [(0, 0, 1)]), [], [], []), (some (.inl [(1, 1, 1)]), [], [], [])], [], [], 1)
set_option maxRecDepth 100000 in
theorem S_1247 : aSpec wd ct_1247 := bChk_ok wx_ok btX12_isClosed (nds := []) (fk := []) (rk := (1, [])) (sp := 0) (fuel := 3000) (by decide +kernel) (lk_c ml_12_298 S_1246 lk_n) odX12_isClosed
def ct_1248 : aCt := (mX12_hasBit, [.inl aTop, .inl [(4, 4, 1)]], ([((199, 0), [(2, 4, 1)]), ((199, 4), [(1, 7, 1)]), ((199, 5), [(9, 9, 1)]), ((199, 6), [(1, 5, 1)])], []), [(some (.inl [(0, 0, 1)]), [], [], []), (some (.inl [(1, 1, 1)]), [], [], [])], [], [], 0)
set_option maxRecDepth 100000 in
theorem S_1248 : aSpec wd ct_1248 := bChk_ok wx_ok btX12_hasBit (nds := []) (fk := []) (rk := (1, [])) (sp := 0) (fuel := 3000) (by decide +kernel) lk_n odX12_hasBit
def ct_1249 : aCt := (mX12_isClosed, [.inr (.inl [196]), .inl [(4, 4, 1)]], ([((199, 0), [(2, 4, 1)]), ((199, 4), [(1, 7, 1)]), ((199, 5), [(9, 9, 1)]), ((199, 6), [(1, 5, 1)])], []), [(some (.inl [(0, 0, 1)]), [], [], []), (some (.inl [(1, 1, 1)]), [], [], [])], [], [], 1)
set_option maxRecDepth 100000 in
theorem S_1249 : aSpec wd ct_1249 := bChk_ok wx_ok btX12_isClosed (nds := []) (fk := []) (rk := (1, [])) (sp := 0) (fuel := 3000) (by decide +kernel) (lk_c ml_12_298 S_1248 lk_n) odX12_isClosed
end Pk0
section Pk1
def ct_1250 : aCt := (mX12_hasBit, [.inl aTop, .inl [(5, 5, 1)]], ([((199, 0), [(2, 4, 1)]), ((199, 4), [(1, 7, 1)]), ((199, 5), [(9, 9, 1)]), ((199, 6), [(1, 5, 1)])], []), [(some (.inl [(0, 0, 1)]), [], [], []), (some (.inl [(1, 1, 1)]), [], [], [])], [], [], 0)
set_option maxRecDepth 100000 in
theorem S_1250 : aSpec wd ct_1250 := bChk_ok wx_ok btX12_hasBit (nds := []) (fk := []) (rk := (1, [])) (sp := 0) (fuel := 3000) (by decide +kernel) lk_n odX12_hasBit
def ct_1251 : aCt := (mX12_isClosed, [.inr (.inl [196]), .inl [(5, 5, 1)]], ([((199, 0), [(2, 4, 1)]), ((199, 4), [(1, 7, 1)]), ((199, 5), [(9, 9, 1)]), ((199, 6), [(1, 5, 1)])], []), [(some (.inl [(0, 0, 1)]), [], [], []), (some (.inl [(1, 1, 1)]), [], [], [])], [], [], 1)
set_option maxRecDepth 100000 in
theorem S_1251 : aSpec wd ct_1251 := bChk_ok wx_ok btX12_isClosed (nds := []) (fk := []) (rk := (1, [])) (sp := 0) (fuel := 3000) (by decide +kernel) (lk_c ml_12_298 S_1250 lk_n) odX12_isClosed
def ct_1252 : aCt := (mX12_hasBit, [.inl aTop, .inl [(6, 6, 1)]], ([((199, 0), [(2, 4, 1)]), ((199, 4), [(1, 7, 1)]), ((199, 5), [(9, 9, 1)]), ((199, 6), [(1, 5, 1)])], []), [(some (.inl [(0, 0, 1)]), [], [], []), (some (.inl [(1, 1, 1)]), [], [], [])], [], [], 0)
set_option maxRecDepth 100000 in
theorem S_1252 : aSpec wd ct_1252 := bChk_ok wx_ok btX12_hasBit (nds := []) (fk := []) (rk := (1, [])) (sp := 0) (fuel := 3000) (by decide +kernel) lk_n odX12_hasBit
def ct_1253 : aCt := (mX12_isClosed, [.inr (.inl [196]), .inl [(6, 6, 1)]], ([((199, 0), [(2, 4, 1)]), ((199, 4), [(1, 7, 1)]), ((199, 5), [(9, 9, 1)]), ((199, 6), [(1, 5, 1)])], []), [(some (.inl [(0, 0, 1)]), [], [], []), (some (.inl [(1, 1, 1)]), [], [], [])], [], [], 1)
set_option maxRecDepth 100000 in
theorem S_1253 : aSpec wd ct_1253 := bChk_ok wx_ok btX12_isClosed (nds := []) (fk := []) (rk := (1, [])) (sp := 0) (fuel := 3000) (by decide +kernel) (lk_c ml_12_298 S_1252 lk_n) odX12_isClosed
def ct_1254 : aCt := (mX12_hasBit, [.inl aTop, .inl [(7, 7, 1)]], ([((199, 0), [(2, 4, 1)]), ((199, 4), [(1, 7, 1)]), ((199, 5), [(9, 9, 1)]), ((199, 6), [(1, 5, 1)])], []), [(some (.inl [(0, 0, 1)]), [], [], []), (some (.inl [(1, 1, 1)]), [], [], [])], [], [], 0)
set_option maxRecDepth 100000 in
theorem S_1254 : aSpec wd ct_1254 := bChk_ok wx_ok btX12_hasBit (nds := []) (fk := []) (rk := (1, [])) (sp := 0) (fuel := 3000) (by decide +kernel) lk_n odX12_hasBit
def ct_1255 : aCt := (mX12_isClosed, [.inr (.inl [196]), .inl [(7, 7, 1)]], ([((199, 0), [(2, 4, 1)]), ((199, 4), [(1, 7, 1)]), ((199, 5), [(9, 9, 1)]), ((199, 6), [(1, 5, 1)])], []), [(some (.inl [(0, 0, 1)]), [], [], []), (some (.inl [(1, 1, 1)]), [], [], [])], [], [], 1)
set_option maxRecDepth 100000 in
theorem S_1255 : aSpec wd ct_1255 := bChk_ok wx_ok btX12_isClosed (nds := []) (fk := []) (rk := (1, [])) (sp := 0) (fuel := 3000) (by decide +kernel) (lk_c ml_12_298 S_1254 lk_n) odX12_isClosed
def ct_1256 : aCt := (mX12_hasBit, [.inl aTop, .inl [(8, 8, 1)]], ([((199, 0), [(2, 4, 1)]), ((199, 4), [(1, 7, 1)]), ((199, 5), [(9, 9, 1)]), ((199, 6), [(1, 5, 1)])], []), [(some (.inl [(0, 0, 1)]), [], [], []), (some (.inl [(1, 1, 1)]), [], [], [])], [], [], 0)
set_option maxRecDepth 100000 in
theorem S_1256 : aSpec wd ct_1256 := bChk_ok wx_ok btX12_hasBit (nds := []) (fk := []) (rk := (1, [])) (sp := 0) (fuel := 3000) (by decide +kernel) lk_n odX12_hasBit
def ct_1257 : aCt := (mX12_isClosed, [.inr (.inl [196]), .inl [(8, 8, 1)]], ([((199, 0), [(2, 4, 1)]), ((199, 4), [(1, 7, 1)]), ((199, 5), [(9, 9, 1)]), ((199, 6), [(1, 5, 1)])], []), [(some (.inl [(0, 0, 1)]), [], [], []), (some (.inl [(1, 1, 1)]), [], [], [])], [], [], 1)
set_option maxRecDepth 100000 in
theorem S_1257 : aSpec wd ct_1257 := bChk_ok wx_ok btX12_isClosed (nds := []) (fk := []) (rk := (1, [])) (sp := 0) (fuel := 3000) (by decide +kernel) (lk_c ml_12_298 S_1256 lk_n) odX12_isClosed
def ct_1258 : aCt := (mX12_ofWhale, [.inr (.inl [196]), .inl [(0, 4, 1)], .inl [(0, 0, 1)]], ([((199, 0), [(2, 4, 1)]), ((199, 4), [(1, 7, 1)]), ((199, 5), [(9, 9, 1)]), ((199, 6), [(1, 5, 1)])], []), [(some (.inl [(0, 3, 1)]), [], [], [])], [], [], 0)
set_option maxRecDepth 100000 in
theorem S_1258 : aSpec wd ct_1258 := bChk_ok wx_ok btX12_ofWhale (nds := []) (fk := []) (rk := (1, [])) (sp := 0) (fuel := 3000) (by decide +kernel) lk_n odX12_ofWhale
def ct_1259 : aCt := (mX12_in, [.inl aTop, .inl [(0, 0, 1)], .inl [(7, 7, 1)]], ([], []), [(some (.inl [(0, 0, 1)]), [some [(-2147483648, -1, 1), (8, 2147483647, 1)], none, none], [], []), (some (.inl [(1, 1, 1)]), [some [(0, 7, 1)], none, none], [], [])], [(1000002, 0, 0)], [], 0)
set_option maxRecDepth 100000 in
theorem S_1259 : aSpec wd ct_1259 := bChk_ok wx_ok btX12_in (nds := []) (fk := []) (rk := (1, [])) (sp := 0) (fuel := 3000) (by decide +kernel) lk_n odX12_in
def ct_1260 : aCt := (mX12_hasBit, [.inl aTop, .inl [(0, 0, 1)]], ([((199, 0), [(2, 4, 1)]), ((199, 4), [(1, 7, 1)]), ((199, 5), [(8, 8, 1)]), ((199, 6), [(1, 5, 1)])], []), [(some (.inl [(0, 0, 1)]), [], [], []), (some (.inl [(1, 1, 1)]), [], [], [])], [], [], 0)
set_option maxRecDepth 100000 in
theorem S_1260 : aSpec wd ct_1260 := bChk_ok wx_ok btX12_hasBit (nds := []) (fk := []) (rk := (1, [])) (sp := 0) (fuel := 3000) (by decide +kernel) lk_n odX12_hasBit
def ct_1261 : aCt := (mX12_isClosed, [.inr (.inl [196]), .inl [(0, 0, 1)]], ([((199, 0), [(2, 4, 1)]), ((199, 4), [(1, 7, 1)]), ((199, 5), [(8, 8, 1)]), ((199, 6), [(1, 5, 1)])], []), [(some (.inl [(0, 0, 1)]), [], [], []), (some (.inl [(1, 1, 1)]), [], [], [])], [], [], 1)
set_option maxRecDepth 100000 in
theorem S_1261 : aSpec wd ct_1261 := bChk_ok wx_ok btX12_isClosed (nds := []) (fk := []) (rk := (1, [])) (sp := 0) (fuel := 3000) (by decide +kernel) (lk_c ml_12_298 S_1260 lk_n) odX12_isClosed
def ct_1262 : aCt := (mX12_hasBit, [.inl aTop, .inl [(1, 1, 1)]], ([((199, 0), [(2, 4, 1)]), ((199, 4), [(1, 7, 1)]), ((199, 5), [(8, 8, 1)]), ((199, 6), [(1, 5, 1)])], []), [(some (.inl [(0, 0, 1)]), [], [], []), (some (.inl [(1, 1, 1)]), [], [], [])], [], [], 0)
set_option maxRecDepth 100000 in
theorem S_1262 : aSpec wd ct_1262 := bChk_ok wx_ok btX12_hasBit (nds := []) (fk := []) (rk := (1, [])) (sp := 0) (fuel := 3000) (by decide +kernel) lk_n odX12_hasBit
def ct_1263 : aCt := (mX12_isClosed, [.inr (.inl [196]), .inl [(1, 1, 1)]], ([((199, 0), [(2, 4, 1)]), ((199, 4), [(1, 7, 1)]), ((199, 5), [(8, 8, 1)]), ((199, 6), [(1, 5, 1)])], []), [(some (.inl [(0, 0, 1)]), [], [], []), (some (.inl [(1, 1, 1)]), [], [], [])], [], [], 1)
set_option maxRecDepth 100000 in
theorem S_1263 : aSpec wd ct_1263 := bChk_ok wx_ok btX12_isClosed (nds := []) (fk := []) (rk := (1, [])) (sp := 0) (fuel := 3000) (by decide +kernel) (lk_c ml_12_298 S_1262 lk_n) odX12_isClosed
def ct_1264 : aCt := (mX12_hasBit, [.inl aTop, .inl [(2, 2, 1)]], ([((199, 0), [(2, 4, 1)]), ((199, 4), [(1, 7, 1)]), ((199, 5), [(8, 8, 1)]), ((199, 6), [(1, 5, 1)])], []), [(some (.inl [(0, 0, 1)]), [], [], []), (some (.inl [(1, 1, 1)]), [], [], [])], [], [], 0)
set_option maxRecDepth 100000 in
theorem S_1264 : aSpec wd ct_1264 := bChk_ok wx_ok btX12_hasBit (nds := []) (fk := []) (rk := (1, [])) (sp := 0) (fuel := 3000) (by decide +kernel) lk_n odX12_hasBit
def ct_1265 : aCt := (mX12_isClosed, [.inr (.inl [196]), .inl [(2, 2, 1)]], ([((199, 0), [(2, 4, 1)]), ((199, 4), [(1, 7, 1)]), ((199, 5), [(8, 8, 1)]), ((199, 6), [(1, 5, 1)])], []), [(some (.inl [(0, 0, 1)]), [], [], []), (some (.inl [(1, 1, 1)]), [], [], [])], [], [], 1)
set_option maxRecDepth 100000 in
theorem S_1265 : aSpec wd ct_1265 := bChk_ok wx_ok btX12_isClosed (nds := []) (fk := []) (rk := (1, [])) (sp := 0) (fuel := 3000) (by decide +kernel) (lk_c ml_12_298 S_1264 lk_n) odX12_isClosed
def ct_1266 : aCt := (mX12_hasBit, [.inl aTop, .inl [(3, 3, 1)]], ([((199, 0), [(2, 4, 1)]), ((199, 4), [(1, 7, 1)]), ((199, 5), [(8, 8, 1)]), ((199, 6), [(1, 5, 1)])], []), [(some (.inl [(0, 0, 1)]), [], [], []), (some (.inl [(1, 1, 1)]), [], [], [])], [], [], 0)
set_option maxRecDepth 100000 in
theorem S_1266 : aSpec wd ct_1266 := bChk_ok wx_ok btX12_hasBit (nds := []) (fk := []) (rk := (1, [])) (sp := 0) (fuel := 3000) (by decide +kernel) lk_n odX12_hasBit
def ct_1267 : aCt := (mX12_isClosed, [.inr (.inl [196]), .inl [(3, 3, 1)]], ([((199, 0), [(2, 4, 1)]), ((199, 4), [(1, 7, 1)]), ((199, 5), [(8, 8, 1)]), ((199, 6), [(1, 5, 1)])], []), [(some (.inl [(0, 0, 1)]), [], [], []), (some (.inl [(1, 1, 1)]), [], [], [])], [], [], 1)
set_option maxRecDepth 100000 in
theorem S_1267 : aSpec wd ct_1267 := bChk_ok wx_ok btX12_isClosed (nds := []) (fk := []) (rk := (1, [])) (sp := 0) (fuel := 3000) (by decide +kernel) (lk_c ml_12_298 S_1266 lk_n) odX12_isClosed
def ct_1268 : aCt := (mX12_hasBit, [.inl aTop, .inl [(4, 4, 1)]], ([((199, 0), [(2, 4, 1)]), ((199, 4), [(1, 7, 1)]), ((199, 5), [(8, 8, 1)]), ((199, 6), [(1, 5, 1)])], []), [(some (.inl [(0, 0, 1)]), [], [], []), (some (.inl [(1, 1, 1)]), [], [], [])], [], [], 0)
set_option maxRecDepth 100000 in
theorem S_1268 : aSpec wd ct_1268 := bChk_ok wx_ok btX12_hasBit (nds := []) (fk := []) (rk := (1, [])) (sp := 0) (fuel := 3000) (by decide +kernel) lk_n odX12_hasBit
def ct_1269 : aCt := (mX12_isClosed, [.inr (.inl [196]), .inl [(4, 4, 1)]], ([((199, 0), [(2, 4, 1)]), ((199, 4), [(1, 7, 1)]), ((199, 5), [(8, 8, 1)]), ((199, 6), [(1, 5, 1)])], []), [(some (.inl [(0, 0, 1)]), [], [], []), (some (.inl [(1, 1, 1)]), [], [], [])], [], [], 1)
set_option maxRecDepth 100000 in
theorem S_1269 : aSpec wd ct_1269 := bChk_ok wx_ok btX12_isClosed (nds := []) (fk := []) (rk := (1, [])) (sp := 0) (fuel := 3000) (by decide +kernel) (lk_c ml_12_298 S_1268 lk_n) odX12_isClosed
def ct_1270 : aCt := (mX12_hasBit, [.inl aTop, .inl [(5, 5, 1)]], ([((199, 0), [(2, 4, 1)]), ((199, 4), [(1, 7, 1)]), ((199, 5), [(8, 8, 1)]), ((199, 6), [(1, 5, 1)])], []), [(some (.inl [(0, 0, 1)]), [], [], []), (some (.inl [(1, 1, 1)]), [], [], [])], [], [], 0)
set_option maxRecDepth 100000 in
theorem S_1270 : aSpec wd ct_1270 := bChk_ok wx_ok btX12_hasBit (nds := []) (fk := []) (rk := (1, [])) (sp := 0) (fuel := 3000) (by decide +kernel) lk_n odX12_hasBit
def ct_1271 : aCt := (mX12_isClosed, [.inr (.inl [196]), .inl [(5, 5, 1)]], ([((199, 0), [(2, 4, 1)]), ((199, 4), [(1, 7, 1)]), ((199, 5), [(8, 8, 1)]), ((199, 6), [(1, 5, 1)])], []), [(some (.inl [(0, 0, 1)]), [], [], []), (some (.inl [(1, 1, 1)]), [], [], [])], [], [], 1)
set_option maxRecDepth 100000 in
theorem S_1271 : aSpec wd ct_1271 := bChk_ok wx_ok btX12_isClosed (nds := []) (fk := []) (rk := (1, [])) (sp := 0) (fuel := 3000) (by decide +kernel) (lk_c ml_12_298 S_1270 lk_n) odX12_isClosed
def ct_1272 : aCt := (mX12_hasBit, [.inl aTop, .inl [(6, 6, 1)]], ([((199, 0), [(2, 4, 1)]), ((199, 4), [(1, 7, 1)]), ((199, 5), [(8, 8, 1)]), ((199, 6), [(1, 5, 1)])], []), [(some (.inl [(0, 0, 1)]), [], [], []), (some (.inl [(1, 1, 1)]), [], [], [])], [], [], 0)
set_option maxRecDepth 100000 in
theorem S_1272 : aSpec wd ct_1272 := bChk_ok wx_ok btX12_hasBit (nds := []) (fk := []) (rk := (1, [])) (sp := 0) (fuel := 3000) (by decide +kernel) lk_n odX12_hasBit
def ct_1273 : aCt := (mX12_isClosed, [.inr (.inl [196]), .inl [(6, 6, 1)]], ([((199, 0), [(2, 4, 1)]), ((199, 4), [(1, 7, 1)]), ((199, 5), [(8, 8, 1)]), ((199, 6), [(1, 5, 1)])], []), [(some (.inl [(0, 0, 1)]), [], [], []), (some (.inl [(1, 1, 1)]), [], [], [])], [], [], 1)
set_option maxRecDepth 100000 in
theorem S_1273 : aSpec wd ct_1273 := bChk_ok wx_ok btX12_isClosed (nds := []) (fk := []) (rk := (1, [])) (sp := 0) (fuel := 3000) (by decide +kernel) (lk_c ml_12_298 S_1272 lk_n) odX12_isClosed
def ct_1274 : aCt := (mX12_hasBit, [.inl aTop, .inl [(7, 7, 1)]], ([((199, 0), [(2, 4, 1)]), ((199, 4), [(1, 7, 1)]), ((199, 5), [(8, 8, 1)]), ((199, 6), [(1, 5, 1)])], []), [(some (.inl [(0, 0, 1)]), [], [], []), (some (.inl [(1, 1, 1)]), [], [], [])], [], [], 0)
set_option maxRecDepth 100000 in
theorem S_1274 : aSpec wd ct_1274 := bChk_ok wx_ok btX12_hasBit (nds := []) (fk := []) (rk := (1, [])) (sp := 0) (fuel := 3000) (by decide +kernel) lk_n odX12_hasBit
def ct_1275 : aCt := (mX12_isClosed, [.inr (.inl [196]), .inl [(7, 7, 1)]], ([((199, 0), [(2, 4, 1)]), ((199, 4), [(1, 7, 1)]), ((199, 5), [(8, 8, 1)]), ((199, 6), [(1, 5, 1)])], []), [(some (.inl [(0, 0, 1)]), [], [], []), (some (.inl [(1, 1, 1)]), [], [], [])], [], [], 1)
set_option maxRecDepth 100000 in
theorem S_1275 : aSpec wd ct_1275 := bChk_ok wx_ok btX12_isClosed (nds := []) (fk := []) (rk := (1, [])) (sp := 0) (fuel := 3000) (by decide +kernel) (lk_c ml_12_298 S_1274 lk_n) odX12_isClosed
def ct_1276 : aCt := (mX12_ofWhale, [.inr (.inl [196]), .inl [(0, 4, 1)], .inl [(0, 0, 1)]], ([((199, 0), [(2, 4, 1)]), ((199, 4), [(1, 7, 1)]), ((199, 5), [(8, 8, 1)]), ((199, 6), [(1, 5, 1)])], []), [(some (.inl [(0, 3, 1)]), [], [], [])], [], [], 0)
set_option maxRecDepth 100000 in
theorem S_1276 : aSpec wd ct_1276 := bChk_ok wx_ok btX12_ofWhale (nds := []) (fk := []) (rk := (1, [])) (sp := 0) (fuel := 3000) (by decide +kernel) lk_n odX12_ofWhale
def ct_1277 : aCt := (mX12_in, [.inl aTop, .inl [(0, 0, 1)], .inl [(6, 6, 1)]], ([], []), [(some (.inl [(0, 0, 1)]), [some [(-2147483648, -1, 1), (7, 2147483647, 1)], none, none], [], []), (some (.inl [(1, 1, 1)]), [some [(0, 6, 1)], none, none], [], [])], [(1000002, 0, 0)], [], 0)
set_option maxRecDepth 100000 in
theorem S_1277 : aSpec wd ct_1277 := bChk_ok wx_ok btX12_in (nds := []) (fk := []) (rk := (1, [])) (sp := 0) (fuel := 3000) (by decide +kernel) lk_n odX12_in
def ct_1278 : aCt := (mX12_hasBit, [.inl aTop, .inl [(0, 0, 1)]], ([((199, 0), [(2, 4, 1)]), ((199, 4), [(1, 7, 1)]), ((199, 5), [(7, 7, 1)]), ((199, 6), [(1, 5, 1)])], []), [(some (.inl [(0, 0, 1)]), [], [], []), (some (.inl [(1, 1, 1)]), [], [], [])], [], [], 0)
set_option maxRecDepth 100000 in
theorem S_1278 : aSpec wd ct_1278 := bChk_ok wx_ok btX12_hasBit (nds := []) (fk := []) (rk := (1, [])) (sp := 0) (fuel := 3000) (by decide +kernel) lk_n odX12_hasBit
def ct_1279 : aCt := (mX12_isClosed, [.inr (.inl [196]), .inl [(0, 0, 1)]], ([((199, 0), [(2, 4, 1)]), ((199, 4), [(1, 7, 1)]), ((199, 5), [(7, 7, 1)]), ((199, 6), [(1, 5, 1)])], []), [(some (.inl [(0, 0, 1)]), [], [], []), (some (.inl [(1, 1, 1)]), [], [], [])], [], [], 1)
set_option maxRecDepth 100000 in
theorem S_1279 : aSpec wd ct_1279 := bChk_ok wx_ok btX12_isClosed (nds := []) (fk := []) (rk := (1, [])) (sp := 0) (fuel := 3000) (by decide +kernel) (lk_c ml_12_298 S_1278 lk_n) odX12_isClosed
def ct_1280 : aCt := (mX12_hasBit, [.inl aTop, .inl [(1, 1, 1)]], ([((199, 0), [(2, 4, 1)]), ((199, 4), [(1, 7, 1)]), ((199, 5), [(7, 7, 1)]), ((199, 6), [(1, 5, 1)])], []), [(some (.inl [(0, 0, 1)]), [], [], []), (some (.inl [(1, 1, 1)]), [], [], [])], [], [], 0)
set_option maxRecDepth 100000 in
theorem S_1280 : aSpec wd ct_1280 := bChk_ok wx_ok btX12_hasBit (nds := []) (fk := []) (rk := (1, [])) (sp := 0) (fuel := 3000) (by decide +kernel) lk_n odX12_hasBit
def ct_1281 : aCt := (mX12_isClosed, [.inr (.inl [196]), .inl [(1, 1, 1)]], ([((199, 0), [(2, 4, 1)]), ((199, 4), [(1, 7, 1)]), ((199, 5), [(7, 7, 1)]), ((199, 6), [(1, 5, 1)])], []), [(some (.inl [(0, 0, 1)]), [], [], []), (some (.inl [(1, 1, 1)]), [], [], [])], [], [], 1)
set_option maxRecDepth 100000 in
theorem S_1281 : aSpec wd ct_1281 := bChk_ok wx_ok btX12_isClosed (nds := []) (fk := []) (rk := (1, [])) (sp := 0) (fuel := 3000) (by decide +kernel) (lk_c ml_12_298 S_1280 lk_n) odX12_isClosed
def ct_1282 : aCt := (mX12_hasBit, [.inl aTop, .inl [(2, 2, 1)]], ([((199, 0), [(2, 4, 1)]), ((199, 4), [(1, 7, 1)]), ((199, 5), [(7, 7, 1)]), ((199, 6), [(1, 5, 1)])], []), [(some (.inl [(0, 0, 1)]), [], [], []), (some (.inl [(1, 1, 1)]), [], [], [])], [], [], 0)
set_option maxRecDepth 100000 in
theorem S_1282 : aSpec wd ct_1282 := bChk_ok wx_ok btX12_hasBit (nds := []) (fk := []) (rk := (1, [])) (sp := 0) (fuel := 3000) (by decide +kernel) lk_n odX12_hasBit
def ct_1283 : aCt := (mX12_isClosed, [.inr (.inl [196]), .inl [(2, 2, 1)]], ([((199, 0), [(2, 4, 1)]), ((199, 4), [(1, 7, 1)]), ((199, 5), [(7, 7, 1)]), ((199, 6), [(1, 5, 1)])], []), [(some (.inl [(0, 0, 1)]), [], [], []), (some (.inl [(1, 1, 1)]), [], [], [])], [], [], 1)
set_option maxRecDepth 100000 in
theorem S_1283 : aSpec wd ct_1283 := bChk_ok wx_ok btX12_isClosed (nds := []) (fk := []) (rk := (1, [])) (sp := 0) (fuel := 3000) (by decide +kernel) (lk_c ml_12_298 S_1282 lk_n) odX12_isClosed
def ct_1284 : aCt := (mX12_hasBit, [.inl aTop, .inl [(3, 3, 1)]], ([((199, 0), [(2, 4, 1)]), ((199, 4), [(1, 7, 1)]), ((199, 5), [(7, 7, 1)]), ((199, 6), [(1, 5, 1)])], []), [(some (.inl [(0, 0, 1)]), [], [], []), (some (.inl [(1, 1, 1)]), [], [], [])], [], [], 0)
set_option maxRecDepth 100000 in
theorem S_1284 : aSpec wd ct_1284 := bChk_ok wx_ok btX12_hasBit (nds := []) (fk := []) (rk := (1, [])) (sp := 0) (fuel := 3000) (by decide +kernel) lk_n odX12_hasBit
def ct_1285 : aCt := (mX12_isClosed, [.inr (.inl [196]), .inl [(3, 3, 1)]], ([((199, 0), [(2, 4, 1)]), ((199, 4), [(1, 7, 1)]), ((199, 5), [(7, 7, 1)]), ((199, 6), [(1, 5, 1)])], []), [(some (.inl [(0, 0, 1)]), [], [], []), (some (.inl [(1, 1, 1)]), [], [], [])], [], [], 1)
set_option maxRecDepth 100000 in
theorem S_1285 : aSpec wd ct_1285 := bChk_ok wx_ok btX12_isClosed (nds := []) (fk := []) (rk := (1, [])) (sp := 0) (fuel := 3000) (by decide +kernel) (lk_c ml_12_298 S_1284 lk_n) odX12_isClosed
def ct_1286 : aCt := (mX12_hasBit, [.inl aTop, .inl [(4, 4, 1)]], ([((199, 0), [(2, 4, 1)]), ((199, 4), [(1, 7, 1)]), ((199, 5), [(7, 7, 1)]), ((199, 6), [(1, 5, 1)])], []), [(some (.inl [(0, 0, 1)]), [], [], []), (some (.inl [(1, 1, 1)]), [], [], [])], [], [], 0)
set_option maxRecDepth 100000 in
theorem S_1286 : aSpec wd ct_1286 := bChk_ok wx_ok btX12_hasBit (nds := []) (fk := []) (rk := (1, [])) (sp := 0) (fuel := 3000) (by decide +kernel) lk_n odX12_hasBit
def ct_1287 : aCt := (mX12_isClosed, [.inr (.inl [196]), .inl [(4, 4, 1)]], ([((199, 0), [(2, 4, 1)]), ((199, 4), [(1, 7, 1)]), ((199, 5), [(7, 7, 1)]), ((199, 6), [(1, 5, 1)])], []), [(some (.inl [(0, 0, 1)]), [], [], []), (some (.inl [(1, 1, 1)]), [], [], [])], [], [], 1)
set_option maxRecDepth 100000 in
theorem S_1287 : aSpec wd ct_1287 := bChk_ok wx_ok btX12_isClosed (nds := []) (fk := []) (rk := (1, [])) (sp := 0) (fuel := 3000) (by decide +kernel) (lk_c ml_12_298 S_1286 lk_n) odX12_isClosed
def ct_1288 : aCt := (mX12_hasBit, [.inl aTop, .inl [(5, 5, 1)]], ([((199, 0), [(2, 4, 1)]), ((199, 4), [(1, 7, 1)]), ((199, 5), [(7, 7, 1)]), ((199, 6), [(1, 5, 1)])], []), [(some (.inl [(0, 0, 1)]), [], [], []), (some (.inl [(1, 1, 1)]), [], [], [])], [], [], 0)
set_option maxRecDepth 100000 in
theorem S_1288 : aSpec wd ct_1288 := bChk_ok wx_ok btX12_hasBit (nds := []) (fk := []) (rk := (1, [])) (sp := 0) (fuel := 3000) (by decide +kernel) lk_n odX12_hasBit
def ct_1289 : aCt := (mX12_isClosed, [.inr (.inl [196]), .inl [(5, 5, 1)]], ([((199, 0), [(2, 4, 1)]), ((199, 4), [(1, 7, 1)]), ((199, 5), [(7, 7, 1)]), ((199, 6), [(1, 5, 1)])], []), [(some (.inl [(0, 0, 1)]), [], [], []), (some (.inl [(1, 1, 1)]), [], [], [])], [], [], 1)
set_option maxRecDepth 100000 in
theorem S_1289 : aSpec wd ct_1289 := bChk_ok wx_ok btX12_isClosed (nds := []) (fk := []) (rk := (1, [])) (sp := 0) (fuel := 3000) (by decide +kernel) (lk_c ml_12_298 S_1288 lk_n) odX12_isClosed
def ct_1290 : aCt := (mX12_hasBit, [.inl aTop, .inl [(6, 6, 1)]], ([((199, 0), [(2, 4, 1)]), ((199, 4), [(1, 7, 1)]), ((199, 5), [(7, 7, 1)]), ((199, 6), [(1, 5, 1)])], []), [(some (.inl [(0, 0, 1)]), [], [], []), (some (.inl [(1, 1, 1)]), [], [], [])], [], [], 0)
set_option maxRecDepth 100000 in
theorem S_1290 : aSpec wd ct_1290 := bChk_ok wx_ok btX12_hasBit (nds := []) (fk := []) (rk := (1, [])) (sp := 0) (fuel := 3000) (by decide +kernel) lk_n odX12_hasBit
def ct_1291 : aCt := (mX12_isClosed, [.inr (.inl [196]), .inl [(6, 6, 1)]], ([((199, 0), [(2, 4, 1)]), ((199, 4), [(1, 7, 1)]), ((199, 5), [(7, 7, 1)]), ((199, 6), [(1, 5, 1)])], []), [(some (.inl [(0, 0, 1)]), [], [], []), (some (.inl [(1, 1, 1)]), [], [], [])], [], [], 1)
set_option maxRecDepth 100000 in
theorem S_1291 : aSpec wd ct_1291 := bChk_ok wx_ok btX12_isClosed (nds := []) (fk := []) (rk := (1, [])) (sp := 0) (fuel := 3000) (by decide +kernel) (lk_c ml_12_298 S_1290 lk_n) odX12_isClosed
def ct_1292 : aCt := (mX12_ofWhale, [.inr (.inl [196]), .inl [(0, 4, 1)], .inl [(0, 0, 1)]], ([((199, 0), [(2, 4, 1)]), ((199, 4), [(1, 7, 1)]), ((199, 5), [(7, 7, 1)]), ((199, 6), [(1, 5, 1)])], []), [(some (.inl [(0, 3, 1)]), [], [], [])], [], [], 0)
set_option maxRecDepth 100000 in
theorem S_1292 : aSpec wd ct_1292 := bChk_ok wx_ok btX12_ofWhale (nds := []) (fk := []) (rk := (1, [])) (sp := 0) (fuel := 3000) (by decide +kernel) lk_n odX12_ofWhale
def ct_1293 : aCt := (mX12_hasBit, [.inl aTop, .inl [(0, 0, 1)]], ([((199, 0), [(2, 4, 1)]), ((199, 4), [(1, 7, 1)]), ((199, 5), [(6, 6, 1)]), ((199, 6), [(1, 5, 1)])], []), [(some (.inl [(0, 0, 1)]), [], [], []), (some (.inl [(1, 1, 1)]), [], [], [])], [], [], 0)
set_option maxRecDepth 100000 in
theorem S_1293 : aSpec wd ct_1293 := bChk_ok wx_ok btX12_hasBit (nds := []) (fk := []) (rk := (1, [])) (sp := 0) (fuel := 3000) (by decide +kernel) lk_n odX12_hasBit
def ct_1294 : aCt := (mX12_isClosed, [.inr (.inl [196]), .inl [(0, 0, 1)]], ([((199, 0), [(2, 4, 1)]), ((199, 4), [(1, 7, 1)]), ((199, 5), [(6, 6, 1)]), ((199, 6), [(1, 5, 1)])], []), [(some (.inl [(0, 0, 1)]), [], [], []), (some (.inl [(1, 1, 1)]), [], [], [])], [], [], 1)
set_option maxRecDepth 100000 in
theorem S_1294 : aSpec wd ct_1294 := bChk_ok wx_ok btX12_isClosed (nds := []) (fk := []) (rk := (1, [])) (sp := 0) (fuel := 3000) (by decide +kernel) (lk_c ml_12_298 S_1293 lk_n) odX12_isClosed
def ct_1295 : aCt := (mX12_hasBit, [.inl aTop, .inl [(1, 1, 1)]], ([((199, 0), [(2, 4, 1)]), ((199, 4), [(1, 7, 1)]), ((199, 5), [(6, 6, 1)]), ((199, 6), [(1, 5, 1)])], []), [(some (.inl [(0, 0, 1)]), [], [], []), (some (.inl [(1, 1, 1)]), [], [], [])], [], [], 0)
set_option maxRecDepth 100000 in
theorem S_1295 : aSpec wd ct_1295 := bChk_ok wx_ok btX12_hasBit (nds := []) (fk := []) (rk := (1, [])) (sp := 0) (fuel := 3000) (by decide +kernel) lk_n odX12_hasBit
def ct_1296 : aCt := (mX12_isClosed, [.inr (.inl [196]), .inl [(1, 1, 1)]], ([((199, 0), [(2, 4, 1)]), ((199, 4), [(1, 7, 1)]), ((199, 5), [(6, 6, 1)]), ((199, 6), [(1, 5, 1)])], []), [(some (.inl [(0, 0, 1)]), [], [], []), (some (.inl [(1, 1, 1)]), [], [], [])], [], [], 1)
set_option maxRecDepth 100000 in
theorem S_1296 : aSpec wd ct_1296 := bChk_ok wx_ok btX12_isClosed (nds := []) (fk := []) (rk := (1, [])) (sp := 0) (fuel := 3000) (by decide +kernel) (lk_c ml_12_298 S_1295 lk_n) odX12_isClosed
def ct_1297 : aCt := (mX12_hasBit, [.inl aTop, .inl [(2, 2, 1)]], ([((199, 0), [(2, 4, 1)]), ((199, 4), [(1, 7, 1)]), ((199, 5), [(6, 6, 1)]), ((199, 6), [(1, 5, 1)])], []), [(some (.inl [(0, 0, 1)]), [], [], []), (some (.inl [(1, 1, 1)]), [], [], [])], [], [], 0)
set_option maxRecDepth 100000 in
theorem S_1297 : aSpec wd ct_1297 := bChk_ok wx_ok btX12_hasBit (nds := []) (fk := []) (rk := (1, [])) (sp := 0) (fuel := 3000) (by decide +kernel) lk_n odX12_hasBit
def ct_1298 : aCt := (mX12_isClosed, [.inr (.inl [196]), .inl [(2, 2, 1)]], ([((199, 0), [(2, 4, 1)]), ((199, 4), [(1, 7, 1)]), ((199, 5), [(6, 6, 1)]), ((199, 6), [(1, 5, 1)])], []), [(some (.inl [(0, 0, 1)]), [], [], []), (some (.inl [(1, 1, 1)]), [], [], [])], [], [], 1)
set_option maxRecDepth 100000 in
theorem S_1298 : aSpec wd ct_1298 := bChk_ok wx_ok btX12_isClosed (nds := []) (fk := []) (rk := (1, [])) (sp := 0) (fuel := 3000) (by decide +kernel) (lk_c ml_12_298 S_1297 lk_n) odX12_isClosed
def ct_1299 : aCt := (mX12_hasBit, [.inl aTop, .inl [(3, 3, 1)]], ([((199, 0), [(2, 4, 1)]), ((199, 4), [(1, 7, 1)]), ((199, 5), [(6, 6, 1)]), ((199, 6), [(1, 5, 1)])], []), [(some (.inl [(0, 0, 1)]), [], [], []), (some (.inl [(1, 1, 1)]), [], [], [])], [], [], 0)
set_option maxRecDepth 100000 in
theorem S_1299 : aSpec wd ct_1299 := bChk_ok wx_ok btX12_hasBit (nds := []) (fk := []) (rk := (1, [])) (sp := 0) (fuel := 3000) (by decide +kernel) lk_n odX12_hasBit
def ct_1300 : aCt := (mX12_isClosed, [.inr (.inl [196]), .inl [(3, 3, 1)]], ([((199, 0), [(2, 4, 1)]), ((199, 4), [(1, 7, 1)]), ((199, 5), [(6, 6, 1)]), ((199, 6), [(1, 5, 1)])], []), [(some (.inl [(0, 0, 1)]), [], [], []), (some (.inl [(1, 1, 1)]), [], [], [])], [], [], 1)
set_option maxRecDepth 100000 in
theorem S_1300 : aSpec wd ct_1300 := bChk_ok wx_ok btX12_isClosed (nds := []) (fk := []) (rk := (1, [])) (sp := 0) (fuel := 3000) (by decide +kernel) (lk_c ml_12_298 S_1299 lk_n) odX12_isClosed
def ct_1301 : aCt := (mX12_hasBit, [.inl aTop, .inl [(4, 4, 1)]], ([((199, 0), [(2, 4, 1)]), ((199, 4), [(1, 7, 1)]), ((199, 5), [(6, 6, 1)]), ((199, 6), [(1, 5, 1)])], []), [(some (.inl [(0, 0, 1)]), [], [], []), (some (.inl [(1, 1, 1)]), [], [], [])], [], [], 0)
set_option maxRecDepth 100000 in
theorem S_1301 : aSpec wd ct_1301 := bChk_ok wx_ok btX12_hasBit (nds := []) (fk := []) (rk := (1, [])) (sp := 0) (fuel := 3000) (by decide +kernel) lk_n odX12_hasBit
def ct_1302 : aCt := (mX12_isClosed, [.inr (.inl [196]), .inl [(4, 4, 1)]], ([((199, 0), [(2, 4, 1)]), ((199, 4), [(1, 7, 1)]), ((199, 5), [(6, 6, 1)]), ((199, 6), [(1, 5, 1)])], []), [(some (.inl [(0, 0, 1)]), [], [], []), (some (.inl [(1, 1, 1)]), [], [], [])], [], [], 1)
set_option maxRecDepth 100000 in
theorem S_1302 : aSpec wd ct_1302 := bChk_ok wx_ok btX12_isClosed (nds := []) (fk := []) (rk := (1, [])) (sp := 0) (fuel := 3000) (by decide +kernel) (lk_c ml_12_298 S_1301 lk_n) odX12_isClosed
def ct_1303 : aCt := (mX12_hasBit, [.inl aTop, .inl [(5, 5, 1)]], ([((199, 0), [(2, 4, 1)]), ((199, 4), [(1, 7, 1)]), ((199, 5), [(6, 6, 1)]), ((199, 6), [(1, 5, 1)])], []), [(some (.inl [(0, 0, 1)]), [], [], []), (some (.inl [(1, 1, 1)]), [], [], [])], [], [], 0)
set_option maxRecDepth 100000 in
theorem S_1303 : aSpec wd ct_1303 := bChk_ok wx_ok btX12_hasBit (nds := []) (fk := []) (rk := (1, [])) (sp := 0) (fuel := 3000) (by decide +kernel) lk_n odX12_hasBit
def ct_1304 : aCt := (mX12_isClosed, [.inr (.inl [196]), .inl [(5, 5, 1)]], ([((199, 0), [(2, 4, 1)]), ((199, 4), [(1, 7, 1)]), ((199, 5), [(6, 6, 1)]), ((199, 6), [(1, 5, 1)])], []), [(some (.inl [(0, 0, 1)]), [], [], []), (some (.inl [(1, 1, 1)]), [], [], [])], [], [], 1)
set_option maxRecDepth 100000 in
theorem S_1304 : aSpec wd ct_1304 := bChk_ok wx_ok btX12_isClosed (nds := []) (fk := []) (rk := (1, [])) (sp := 0) (fuel := 3000) (by decide +kernel) (lk_c ml_12_298 S_1303 lk_n) odX12_isClosed
def ct_1305 : aCt := (mX12_ofWhale, [.inr (.inl [196]), .inl [(0, 4, 1)], .inl [(0, 0, 1)]], ([((199, 0), [(2, 4, 1)]), ((199, 4), [(1, 7, 1)]), ((199, 5), [(6, 6, 1)]), ((199, 6), [(1, 5, 1)])], []), [(some (.inl [(0, 3, 1)]), [], [], [])], [], [], 0)
set_option maxRecDepth 100000 in
theorem S_1305 : aSpec wd ct_1305 := bChk_ok wx_ok btX12_ofWhale (nds := []) (fk := []) (rk := (1, [])) (sp := 0) (fuel := 3000) (by decide +kernel) lk_n odX12_ofWhale
def ct_1306 : aCt := (mX12_hasBit, [.inl aTop, .inl [(0, 0, 1)]], ([((199, 0), [(2, 4, 1)]), ((199, 4), [(1, 7, 1)]), ((199, 5), [(5, 5, 1)]), ((199, 6), [(1, 5, 1)])], []), [(some (.inl [(0, 0, 1)]), [], [], []), (some (.inl [(1, 1, 1)]), [], [], [])], [], [], 0)
set_option maxRecDepth 100000 in
theorem S_1306 : aSpec wd ct_1306 := bChk_ok wx_ok btX12_hasBit (nds := []) (fk := []) (rk := (1, [])) (sp := 0) (fuel := 3000) (by decide +kernel) lk_n odX12_hasBit
def ct_1307 : aCt := (mX12_isClosed, [.inr (.inl [196]), .inl [(0, 0, 1)]], ([((199, 0), [(2, 4, 1)]), ((199, 4), [(1, 7, 1)]), ((199, 5), [(5, 5, 1)]), ((199, 6), [(1, 5, 1)])], []), [(some (.inl [(0, 0, 1)]), [], [], []), (some (.inl [(1, 1, 1)]), [], [], [])], [], [], 1)
set_option maxRecDepth 100000 in
theorem S_1307 : aSpec wd ct_1307 := bChk_ok wx_ok btX12_isClosed (nds := []) (fk := []) (rk := (1, [])) (sp := 0) (fuel := 3000) (by decide +kernel) (lk_c ml_12_298 S_1306 lk_n) odX12_isClosed
def ct_1308 : aCt := (mX12_hasBit, [.inl aTop, .inl [(1, 1, 1)]], ([((199, 0), [(2, 4, 1)]), ((199, 4), [(1, 7, 1)]), ((199, 5), [(5, 5, 1)]), ((199, 6), [(1, 5, 1)])], []), [(some (.inl [(0, 0, 1)]), [], [], []), (some (.inl [(1, 1, 1)]), [], [], [])], [], [], 0)
set_option maxRecDepth 100000 in
theorem S_1308 : aSpec wd ct_1308 := bChk_ok wx_ok btX12_hasBit (nds := []) (fk := []) (rk := (1, [])) (sp := 0) (fuel := 3000) (by decide +kernel) lk_n odX12_hasBit
def ct_1309 : aCt := (mX12_isClosed, [.inr (.inl [196]), .inl [(1, 1, 1)]], ([((199, 0), [(2, 4, 1)]), ((199, 4), [(1, 7, 1)]), ((199, 5), [(5, 5, 1)]), ((199, 6), [(1, 5, 1)])], []), [(some (.inl [(0, 0, 1)]), [], [], []), (some (.inl [(1, 1, 1)]), [], [], [])], [], [], 1)
set_option maxRecDepth 100000 in
theorem S_1309 : aSpec wd ct_1309 := bChk_ok wx_ok btX12_isClosed (nds := []) (fk := []) (rk := (1, [])) (sp := 0) (fuel := 3000) (by decide +kernel) (lk_c ml_12_298 S_1308 lk_n) odX12_isClosed
def ct_1310 : aCt := (mX12_hasBit, [.inl aTop, .inl [(2, 2, 1)]], ([((199, 0), [(2, 4, 1)]), ((199, 4), [(1, 7, 1)]), ((199, 5), [(5, 5, 1)]), ((199, 6), [(1, 5, 1)])], []), [(some (.inl [(0, 0, 1)]), [], [], []), (some (.inl [(1, 1, 1)]), [], [], [])], [], [], 0)
set_option maxRecDepth 100000 in
theorem S_1310 : aSpec wd ct_1310 := bChk_ok wx_ok btX12_hasBit (nds := []) (fk := []) (rk := (1, [])) (sp := 0) (fuel := 3000) (by decide +kernel) lk_n odX12_hasBit
def ct_1311 : aCt := (mX12_isClosed, [.inr (.inl [196]), .inl [(2, 2, 1)]], ([((199, 0), [(2, 4, 1)]), ((199, 4), [(1, 7, 1)]), ((199, 5), [(5, 5, 1)]), ((199, 6), [(1, 5, 1)])], []), [(some (.inl [(0, 0, 1)]), [], [], []), (some (.inl [(1, 1, 1)]), [], [], [])], [], [], 1)
set_option maxRecDepth 100000 in
theorem S_1311 : aSpec wd ct_1311 := bChk_ok wx_ok btX12_isClosed (nds := []) (fk := []) (rk := (1, [])) (sp := 0) (fuel := 3000) (by decide +kernel) (lk_c ml_12_298 S_1310 lk_n) odX12_isClosed
def ct_1312 : aCt := (mX12_hasBit, [.inl aTop, .inl [(3, 3, 1)]], ([((199, 0), [(2, 4, 1)]), ((199, 4), [(1, 7, 1)]), ((199, 5), [(5, 5, 1)]), ((199, 6), [(1, 5, 1)])], []), [(some (.inl [(0, 0, 1)]), [], [], []), (some (.inl [(1, 1, 1)]), [], [], [])], [], [], 0)
set_option maxRecDepth 100000 in
theorem S_1312 : aSpec wd ct_1312 := bChk_ok wx_ok btX12_hasBit (nds := []) (fk := []) (rk := (1, [])) (sp := 0) (fuel := 3000) (by decide +kernel) lk_n odX12_hasBit
def ct_1313 : aCt := (mX12_isClosed, [.inr (.inl [196]), .inl [(3, 3, 1)]], ([((199, 0), [(2, 4, 1)]), ((199, 4), [(1, 7, 1)]), ((199, 5), [(5, 5, 1)]), ((199, 6), [(1, 5, 1)])], []), [(some (.inl [(0, 0, 1)]), [], [], []), (some (.inl [(1, 1, 1)]), [], [], [])], [], [], 1)
set_option maxRecDepth 100000 in
theorem S_1313 : aSpec wd ct_1313 := bChk_ok wx_ok btX12_isClosed (nds := []) (fk := []) (rk := (1, [])) (sp := 0) (fuel := 3000) (by decide +kernel) (lk_c ml_12_298 S_1312 lk_n) odX12_isClosed
def ct_1314 : aCt := (mX12_hasBit, [.inl aTop, .inl [(4, 4, 1)]], ([((199, 0), [(2, 4, 1)]), ((199, 4), [(1, 7, 1)]), ((199, 5), [(5, 5, 1)]), ((199, 6), [(1, 5, 1)])], []), [(some (.inl [(0, 0, 1)]), [], [], []), (some (.inl [(1, 1, 1)]), [], [], [])], [], [], 0)
set_option maxRecDepth 100000 in
theorem S_1314 : aSpec wd ct_1314 := bChk_ok wx_ok btX12_hasBit (nds := []) (fk := []) (rk := (1, [])) (sp := 0) (fuel := 3000) (by decide +kernel) lk_n odX12_hasBit
def ct_1315 : aCt := (mX12_isClosed, [.inr (.inl [196]), .inl [(4, 4, 1)]], ([((199, 0), [(2, 4, 1)]), ((199, 4), [(1, 7, 1)]), ((199, 5), [(5, 5, 1)]), ((199, 6), [(1, 5, 1)])], []), [(some (.inl [(0, 0, 1)]), [], [], []), (some (.inl [(1, 1, 1)]), [], [], [])], [], [], 1)
set_option maxRecDepth 100000 in
theorem S_1315 : aSpec wd ct_1315 := bChk_ok wx_ok btX12_isClosed (nds := []) (fk := []) (rk := (1, [])) (sp := 0) (fuel := 3000) (by decide +kernel) (lk_c ml_12_298 S_1314 lk_n) odX12_isClosed
def ct_1316 : aCt := (mX12_ofWhale, [.inr (.inl [196]), .inl [(0, 4, 1)], .inl [(0, 0, 1)]], ([((199, 0), [(2, 4, 1)]), ((199, 4), [(1, 7, 1)]), ((199, 5), [(5, 5, 1)]), ((199, 6), [(1, 5, 1)])], []), [(some (.inl [(0, 3, 1)]), [], [], [])], [], [], 0)
set_option maxRecDepth 100000 in
theorem S_1316 : aSpec wd ct_1316 := bChk_ok wx_ok btX12_ofWhale (nds := []) (fk := []) (rk := (1, [])) (sp := 0) (fuel := 3000) (by decide +kernel) lk_n odX12_ofWhale
def ct_1317 : aCt := (mX12_hasBit, [.inl aTop, .inl [(0, 0, 1)]], ([((199, 0), [(2, 4, 1)]), ((199, 4), [(1, 7, 1)]), ((199, 5), [(4, 4, 1)]), ((199, 6), [(1, 5, 1)])], []), [(some (.inl [(0, 0, 1)]), [], [], []), (some (.inl [(1, 1, 1)]), [], [], [])], [], [], 0)
set_option maxRecDepth 100000 in
theorem S_1317 : aSpec wd ct_1317 := bChk_ok wx_ok btX12_hasBit (nds := []) (fk := []) (rk := (1, [])) (sp := 0) (fuel := 3000) (by decide +kernel) lk_n odX12_hasBit
def ct_1318 : aCt := (mX12_isClosed, [.inr (.inl [196]), .inl [(0, 0, 1)]], ([((199, 0), [(2, 4, 1)]), ((199, 4), [(1, 7, 1)]), ((199, 5), [(4, 4, 1)]), ((199, 6), [(1, 5, 1)])], []), [(some (.inl [(0, 0, 1)]), [], [], []), (some (.inl [(1, 1, 1)]), [], [], [])], [], [], 1)
set_option maxRecDepth 100000 in
theorem S_1318 : aSpec wd ct_1318 := bChk_ok wx_ok btX12_isClosed (nds := []) (fk := []) (rk := (1, [])) (sp := 0) (fuel := 3000) (by decide +kernel) (lk_c ml_12_298 S_1317 lk_n) odX12_isClosed
def ct_1319 : aCt := (mX12_hasBit, [.inl aTop, .inl [(1, 1, 1)]], ([((199, 0), [(2, 4, 1)]), ((199, 4), [(1, 7, 1)]), ((199, 5), [(4, 4, 1)]), ((199, 6), [(1, 5, 1)])], []), [(some (.inl [(0, 0, 1)]), [], [], []), (some (.inl [(1, 1, 1)]), [], [], [])], [], [], 0)
set_option maxRecDepth 100000 in
theorem S_1319 : aSpec wd ct_1319 := bChk_ok wx_ok btX12_hasBit (nds := []) (fk := []) (rk := (1, [])) (sp := 0) (fuel := 3000) (by decide +kernel) lk_n odX12_hasBit
def ct_1320 : aCt := (mX12_isClosed, [.inr (.inl [196]), .inl [(1, 1, 1)]], ([((199, 0), [(2, 4, 1)]), ((199, 4), [(1, 7, 1)]), ((199, 5), [(4, 4, 1)]), ((199, 6), [(1, 5, 1)])], []), [(some (.inl [(0, 0, 1)]), [], [], []), (some (.inl [(1, 1, 1)]), [], [], [])], [], [], 1)
set_option maxRecDepth 100000 in
theorem S_1320 : aSpec wd ct_1320 := bChk_ok wx_ok btX12_isClosed (nds := []) (fk := []) (rk := (1, [])) (sp := 0) (fuel := 3000) (by decide +kernel) (lk_c ml_12_298 S_1319 lk_n) odX12_isClosed
def ct_1321 : aCt := (mX12_hasBit, [.inl aTop, .inl [(2, 2, 1)]], ([((199, 0), [(2, 4, 1)]), ((199, 4), [(1, 7, 1)]), ((199, 5), [(4, 4, 1)]), ((199, 6), [(1, 5, 1)])], []), [(some (.inl [(0, 0, 1)]), [], [], []), (some (.inl [(1, 1, 1)]), [], [], [])], [], [], 0)
set_option maxRecDepth 100000 in
theorem S_1321 : aSpec wd ct_1321 := bChk_ok wx_ok btX12_hasBit (nds := []) (fk := []) (rk := (1, [])) (sp := 0) (fuel := 3000) (by decide +kernel) lk_n odX12_hasBit
def ct_1322 : aCt := (mX12_isClosed, [.inr (.inl [196]), .inl [(2, 2, 1)]], ([((199, 0), [(2, 4, 1)]), ((199, 4), [(1, 7, 1)]), ((199, 5), [(4, 4, 1)]), ((199, 6), [(1, 5, 1)])], []), [(some (.inl [(0, 0, 1)]), [], [], []), (some (.inl [(1, 1, 1)]), [], [], [])], [], [], 1)
set_option maxRecDepth 100000 in
theorem S_1322 : aSpec wd ct_1322 := bChk_ok wx_ok btX12_isClosed (nds := []) (fk := []) (rk := (1, [])) (sp := 0) (fuel := 3000) (by decide +kernel) (lk_c ml_12_298 S_1321 lk_n) odX12_isClosed
def ct_1323 : aCt := (mX12_hasBit, [.inl aTop, .inl [(3, 3, 1)]], ([((199, 0), [(2, 4, 1)]), ((199, 4), [(1, 7, 1)]), ((199, 5), [(4, 4, 1)]), ((199, 6), [(1, 5, 1)])], []), [(some (.inl [(0, 0, 1)]), [], [], []), (some (.inl [(1, 1, 1)]), [], [], [])], [], [], 0)
set_option maxRecDepth 100000 in
theorem S_1323 : aSpec wd ct_1323 := bChk_ok wx_ok btX12_hasBit (nds := []) (fk := []) (rk := (1, [])) (sp := 0) (fuel := 3000) (by decide +kernel) lk_n odX12_hasBit
def ct_1324 : aCt := (mX12_isClosed, [.inr (.inl [196]), .inl [(3, 3, 1)]], ([((199, 0), [(2, 4, 1)]), ((199, 4), [(1, 7, 1)]), ((199, 5), [(4, 4, 1)]), ((199, 6), [(1, 5, 1)])], []), [(some (.inl [(0, 0, 1)]), [], [], []), (some (.inl [(1, 1, 1)]), [], [], [])], [], [], 1)
set_option maxRecDepth 100000 in
theorem S_1324 : aSpec wd ct_1324 := bChk_ok wx_ok btX12_isClosed (nds := []) (fk := []) (rk := (1, [])) (sp := 0) (fuel := 3000) (by decide +kernel) (lk_c ml_12_298 S_1323 lk_n) odX12_isClosed
def ct_1325 : aCt := (mX12_ofWhale, [.inr (.inl [196]), .inl [(0, 4, 1)], .inl [(0, 0, 1)]], ([((199, 0), [(2, 4, 1)]), ((199, 4), [(1, 7, 1)]), ((199, 5), [(4, 4, 1)]), ((199, 6), [(1, 5, 1)])], []), [(some (.inl [(0, 3, 1)]), [], [], [])], [], [], 0)
set_option maxRecDepth 100000 in
theorem S_1325 : aSpec wd ct_1325 := bChk_ok wx_ok btX12_ofWhale (nds := []) (fk := []) (rk := (1, [])) (sp := 0) (fuel := 3000) (by decide +kernel) lk_n odX12_ofWhale
def ct_1326 : aCt := (mX12_in, [.inl aTop, .inl [(0, 0, 1)], .inl [(2, 2, 1)]], ([], []), [(some (.inl [(0, 0, 1)]), [some [(-2147483648, -1, 1), (3, 2147483647, 1)], none, none], [], []), (some (.inl [(1, 1, 1)]), [some [(0, 2, 1)], none, none], [], [])], [(1000002, 0, 0)], [], 0)
set_option maxRecDepth 100000 in
theorem S_1326 : aSpec wd ct_1326 := bChk_ok wx_ok btX12_in (nds := []) (fk := []) (rk := (1, [])) (sp := 0) (fuel := 3000) (by decide +kernel) lk_n odX12_in
def ct_1327 : aCt := (mX12_hasBit, [.inl aTop, .inl [(0, 0, 1)]], ([((199, 0), [(2, 4, 1)]), ((199, 4), [(1, 7, 1)]), ((199, 5), [(3, 3, 1)]), ((199, 6), [(1, 5, 1)])], []), [(some (.inl [(0, 0, 1)]), [], [], []), (some (.inl [(1, 1, 1)]), [], [], [])], [], [], 0)
set_option maxRecDepth 100000 in
theorem S_1327 : aSpec wd ct_1327 := bChk_ok wx_ok btX12_hasBit (nds := []) (fk := []) (rk := (1, [])) (sp := 0) (fuel := 3000) (by decide +kernel) lk_n odX12_hasBit
def ct_1328 : aCt := (mX12_isClosed, [.inr (.inl [196]), .inl [(0, 0, 1)]], ([((199, 0), [(2, 4, 1)]), ((199, 4), [(1, 7, 1)]), ((199, 5), [(3, 3, 1)]), ((199, 6), [(1, 5, 1)])], []), [(some (.inl [(0, 0, 1)]), [], [], []), (some (.inl [(1, 1, 1)]), [], [], [])], [], [], 1)
set_option maxRecDepth 100000 in
theorem S_1328 : aSpec wd ct_1328 := bChk_ok wx_ok btX12_isClosed (nds := []) (fk := []) (rk := (1, [])) (sp := 0) (fuel := 3000) (by decide +kernel) (lk_c ml_12_298 S_1327 lk_n) odX12_isClosed
def ct_1329 : aCt := (mX12_hasBit, [.inl aTop, .inl [(1, 1, 1)]], ([((199, 0), [(2, 4, 1)]), ((199, 4), [(1, 7, 1)]), ((199, 5), [(3, 3, 1)]), ((199, 6), [(1, 5, 1)])], []), [(some (.inl [(0, 0, 1)]), [], [], []), (some (.inl [(1, 1, 1)]), [], [], [])], [], [], 0)
set_option maxRecDepth 100000 in
theorem S_1329 : aSpec wd ct_1329 := bChk_ok wx_ok btX12_hasBit (nds := []) (fk := []) (rk := (1, [])) (sp := 0) (fuel := 3000) (by decide +kernel) lk_n odX12_hasBit
def ct_1330 : aCt := (mX12_isClosed, [.inr (.inl [196]), .inl [(1, 1, 1)]], ([((199, 0), [(2, 4, 1)]), ((199, 4), [(1, 7, 1)]), ((199, 5), [(3, 3, 1)]), ((199, 6), [(1, 5, 1)])], []), [(some (.inl [(0, 0, 1)]), [], [], []), (some (.inl [(1, 1, 1)]), [], [], [])], [], [], 1)
set_option maxRecDepth 100000 in
theorem S_1330 : aSpec wd ct_1330 := bChk_ok wx_ok btX12_isClosed (nds := []) (fk := []) (rk := (1, [])) (sp := 0) (fuel := 3000) (by decide +kernel) (lk_c ml_12_298 S_1329 lk_n) odX12_isClosed
def ct_1331 : aCt := (mX12_hasBit, [.inl aTop, .inl [(2, 2, 1)]], ([((199, 0), [(2, 4, 1)]), ((199, 4), [(1, 7, 1)]), ((199, 5), [(3, 3, 1)]), ((199, 6), [(1, 5, 1)])], []), [(some (.inl [(0, 0, 1)]), [], [], []), (some (.inl [(1, 1, 1)]), [], [], [])], [], [], 0)
set_option maxRecDepth 100000 in
theorem S_1331 : aSpec wd ct_1331 := bChk_ok wx_ok btX12_hasBit (nds := []) (fk := []) (rk := (1, [])) (sp := 0) (fuel := 3000) (by decide +kernel) lk_n odX12_hasBit
def ct_1332 : aCt := (mX12_isClosed, [.inr (.inl [196]), .inl [(2, 2, 1)]], ([((199, 0), [(2, 4, 1)]), ((199, 4), [(1, 7, 1)]), ((199, 5), [(3, 3, 1)]), ((199, 6), [(1, 5, 1)])], []), [(some (.inl [(0, 0, 1)]), [], [], []), (some (.inl [(1, 1, 1)]), [], [], [])], [], [], 1)
set_option maxRecDepth 100000 in
theorem S_1332 : aSpec wd ct_1332 := bChk_ok wx_ok btX12_isClosed (nds := []) (fk := []) (rk := (1, [])) (sp := 0) (fuel := 3000) (by decide +kernel) (lk_c ml_12_298 S_1331 lk_n) odX12_isClosed
def ct_1333 : aCt := (mX12_ofWhale, [.inr (.inl [196]), .inl [(0, 4, 1)], .inl [(0, 0, 1)]], ([((199, 0), [(2, 4, 1)]), ((199, 4), [(1, 7, 1)]), ((199, 5), [(3, 3, 1)]), ((199, 6), [(1, 5, 1)])], []), [(some (.inl [(0, 3, 1)]), [], [], [])], [], [], 0)
set_option maxRecDepth 100000 in
theorem S_1333 : aSpec wd ct_1333 := bChk_ok wx_ok btX12_ofWhale (nds := []) (fk := []) (rk := (1, [])) (sp := 0) (fuel := 3000) (by decide +kernel) lk_n odX12_ofWhale
def ct_1334 : aCt := (mX12_in, [.inl aTop, .inl [(0, 0, 1)], .inl [(1, 1, 1)]], ([], []), [(some (.inl [(0, 0, 1)]), [some [(-2147483648, -1, 1), (2, 2147483647, 1)], none, none], [], []), (some (.inl [(1, 1, 1)]), [some [(0, 1, 1)], none, none], [], [])], [(1000002, 0, 0)], [], 0)
set_option maxRecDepth 100000 in
theorem S_1334 : aSpec wd ct_1334 := bChk_ok wx_ok btX12_in (nds := []) (fk := []) (rk := (1, [])) (sp := 0) (fuel := 3000) (by decide +kernel) lk_n odX12_in
def ct_1335 : aCt := (mX12_hasBit, [.inl aTop, .inl [(0, 0, 1)]], ([((199, 0), [(2, 4, 1)]), ((199, 4), [(1, 7, 1)]), ((199, 5), [(2, 2, 1)]), ((199, 6), [(1, 5, 1)])], []), [(some (.inl [(0, 0, 1)]), [], [], []), (some (.inl [(1, 1, 1)]), [], [], [])], [], [], 0)
set_option maxRecDepth 100000 in
theorem S_1335 : aSpec wd ct_1335 := bChk_ok wx_ok btX12_hasBit (nds := []) (fk := []) (rk := (1, [])) (sp := 0) (fuel := 3000) (by decide +kernel) lk_n odX12_hasBit
def ct_1336 : aCt := (mX12_isClosed, [.inr (.inl [196]), .inl [(0, 0, 1)]], ([((199, 0), [(2, 4, 1)]), ((199, 4), [(1, 7, 1)]), ((199, 5), [(2, 2, 1)]), ((199, 6), [(1, 5, 1)])], []), [(some (.inl [(0, 0, 1)]), [], [], []), (some (.inl [(1, 1, 1)]), [], [], [])], [], [], 1)
set_option maxRecDepth 100000 in
theorem S_1336 : aSpec wd ct_1336 := bChk_ok wx_ok btX12_isClosed (nds := []) (fk := []) (rk := (1, [])) (sp := 0) (fuel := 3000) (by decide +kernel) (lk_c ml_12_298 S_1335 lk_n) odX12_isClosed
def ct_1337 : aCt := (mX12_hasBit, [.inl aTop, .inl [(1, 1, 1)]], ([((199, 0), [(2, 4, 1)]), ((199, 4), [(1, 7, 1)]), ((199, 5), [(2, 2, 1)]), ((199, 6), [(1, 5, 1)])], []), [(some (.inl [(0, 0, 1)]), [], [], []), (some (.inl [(1, 1, 1)]), [], [], [])], [], [], 0)
set_option maxRecDepth 100000 in
theorem S_1337 : aSpec wd ct_1337 := bChk_ok wx_ok btX12_hasBit (nds := []) (fk := []) (rk := (1, [])) (sp := 0) (fuel := 3000) (by decide +kernel) lk_n odX12_hasBit
def ct_1338 : aCt := (mX12_isClosed, [.inr (.inl [196]), .inl [(1, 1, 1)]], ([((199, 0), [(2, 4, 1)]), ((199, 4), [(1, 7, 1)]), ((199, 5), [(2, 2, 1)]), ((199, 6), [(1, 5, 1)])], []), [(some (.inl [(0, 0, 1)]), [], [], []), (some (.inl [(1, 1, 1)]), [], [], [])], [], [], 1)
set_option maxRecDepth 100000 in
theorem S_1338 : aSpec wd ct_1338 := bChk_ok wx_ok btX12_isClosed (nds := []) (fk := []) (rk := (1, [])) (sp := 0) (fuel := 3000) (by decide +kernel) (lk_c ml_12_298 S_1337 lk_n) odX12_isClosed
def ct_1339 : aCt := (mX12_ofWhale, [.inr (.inl [196]), .inl [(0, 4, 1)], .inl [(0, 0, 1)]], ([((199, 0), [(2, 4, 1)]), ((199, 4), [(1, 7, 1)]), ((199, 5), [(2, 2, 1)]), ((199, 6), [(1, 5, 1)])], []), [(some (.inl [(0, 3, 1)]), [], [], [])], [], [], 0)
set_option maxRecDepth 100000 in
theorem S_1339 : aSpec wd ct_1339 := bChk_ok wx_ok btX12_ofWhale (nds := []) (fk := []) (rk := (1, [])) (sp := 0) (fuel := 3000) (by decide +kernel) lk_n odX12_ofWhale
def ct_1340 : aCt := (mX12_in, [.inl aTop, .inl [(0, 0, 1)], .inl [(0, 0, 1)]], ([], []), [(some (.inl [(0, 0, 1)]), [some [(-2147483648, -1, 1), (1, 2147483647, 1)], none, none], [], []), (some (.inl [(1, 1, 1)]), [some [(0, 0, 1)], none, none], [], [])], [(1000002, 0, 0)], [], 0)
set_option maxRecDepth 100000 in
theorem S_1340 : aSpec wd ct_1340 := bChk_ok wx_ok btX12_in (nds := []) (fk := []) (rk := (1, [])) (sp := 0) (fuel := 3000) (by decide +kernel) lk_n odX12_in
def ct_1341 : aCt := (mX12_hasBit, [.inl aTop, .inl [(0, 0, 1)]], ([((199, 0), [(2, 4, 1)]), ((199, 4), [(1, 7, 1)]), ((199, 5), [(1, 1, 1)]), ((199, 6), [(1, 5, 1)])], []), [(some (.inl [(0, 0, 1)]), [], [], []), (some (.inl [(1, 1, 1)]), [], [], [])], [], [], 0)
set_option maxRecDepth 100000 in
theorem S_1341 : aSpec wd ct_1341 := bChk_ok wx_ok btX12_hasBit (nds := []) (fk := []) (rk := (1, [])) (sp := 0) (fuel := 3000) (by decide +kernel) lk_n odX12_hasBit
def ct_1342 : aCt := (mX12_isClosed, [.inr (.inl [196]), .inl [(0, 0, 1)]], ([((199, 0), [(2, 4, 1)]), ((199, 4), [(1, 7, 1)]), ((199, 5), [(1, 1, 1)]), ((199, 6), [(1, 5, 1)])], []), [(some (.inl [(0, 0, 1)]), [], [], []), (some (.inl [(1, 1, 1)]), [], [], [])], [], [], 1)
set_option maxRecDepth 100000 in
theorem S_1342 : aSpec wd ct_1342 := bChk_ok wx_ok btX12_isClosed (nds := []) (fk := []) (rk := (1, [])) (sp := 0) (fuel := 3000) (by decide +kernel) (lk_c ml_12_298 S_1341 lk_n) odX12_isClosed
def ct_1343 : aCt := (mX12_ofWhale, [.inr (.inl [196]), .inl [(0, 4, 1)], .inl [(0, 0, 1)]], ([((199, 0), [(2, 4, 1)]), ((199, 4), [(1, 7, 1)]), ((199, 5), [(1, 1, 1)]), ((199, 6), [(1, 5, 1)])], []), [(some (.inl [(0, 3, 1)]), [], [], [])], [], [], 0)
set_option maxRecDepth 100000 in
theorem S_1343 : aSpec wd ct_1343 := bChk_ok wx_ok btX12_ofWhale (nds := []) (fk := []) (rk := (1, [])) (sp := 0) (fuel := 3000) (by decide +kernel) lk_n odX12_ofWhale
def ct_1344 : aCt := (mX12_in, [.inl aTop, .inl [(0, 0, 1)], .inl [(-1, -1, 1)]], ([], []), [(some (.inl [(0, 0, 1)]), [some aTop, none, none], [], [])], [(1000002, 0, 0)], [], 0)
set_option maxRecDepth 100000 in
theorem S_1344 : aSpec wd ct_1344 := bChk_ok wx_ok btX12_in (nds := []) (fk := []) (rk := (1, [])) (sp := 0) (fuel := 3000) (by decide +kernel) lk_n odX12_in
set_option maxRecDepth 100000 in
theorem btX12_sets : bTab oX12_sets tX12_sets := ⟨ofX12_sets, by decide +kernel⟩
def ct_1345 : aCt := (mX12_sets, [.inr (.inl [196]), .inl aTop, .inl aTop, .inl aTop], ([], []), [(some (.inl aTop), [none, some [(0, 4, 1)], some [(0, 11, 1)], some [(0, 9999, 1)]], [((196, 11), [(0, 0, 1)]), ((196, 14), [(1, 1, 1)]), ((199, 0), [(2, 4, 1)]), ((199, 4), [(1, 7, 1)]), ((199, 5), [(1, 12, 1)]), ((199, 6), [(1, 5, 1)])], []), (some (.inl [(-1, -1, 1)]), [], [((196, 11), [(1, 2, 1)])], []), (some (.inl [(-2, -2, 1)]), [none, some [(0, 4, 1)], some [(0, 11, 1)], some [(0, 9999, 1)]], [((196, 11), [(0, 0, 1)]), ((196, 14), [(1, 1, 1)]), ((199, 0), [(2, 4, 1)]), ((199, 4), [(1, 7, 1)]), ((199, 5), [(1, 12, 1)]), ((199, 6), [(1, 5, 1)])], [])], [(196, 0, 1), (196, 11, 12)], [], 3)
set_option maxRecDepth 100000 in
theorem S_1345 : aSpec wd ct_1345 := bChk_ok wx_ok btX12_sets (nds := []) (fk := [20, 53]) (rk := (1, [])) (sp := 0) (fuel := 3000) (by decide +kernel) (lk_c ml_12_167 S_651 (lk_c ml_12_302 S_1169 (lk_c ml_12_302 S_1171 (lk_c ml_12_302 S_1173 (lk_c ml_12_302 S_1175 (lk_c ml_12_302 S_1177 (lk_c ml_12_302 S_1179 (lk_c ml_12_302 S_1181 (lk_c ml_12_302 S_1183 (lk_c ml_12_302 S_1185 (lk_c ml_12_302 S_1187 (lk_c ml_12_302 S_1189 (lk_c ml_12_302 S_1191 (lk_c ml_12_302 S_1195 (lk_c ml_12_302 S_1197 (lk_c ml_12_302 S_1199 (lk_c ml_12_302 S_1201 (lk_c ml_12_302 S_1203 (lk_c ml_12_302 S_1205 (lk_c ml_12_302 S_1207 (lk_c ml_12_302 S_1209 (lk_c ml_12_302 S_1211 (lk_c ml_12_302 S_1213 (lk_c ml_12_302 S_1215 (lk_c ml_12_302 S_1219 (lk_c ml_12_302 S_1221 (lk_c ml_12_302 S_1223 (lk_c ml_12_302 S_1225 (lk_c ml_12_302 S_1227 (lk_c ml_12_302 S_1229 (lk_c ml_12_302 S_1231 (lk_c ml_12_302 S_1233 (lk_c ml_12_302 S_1235 (lk_c ml_12_302 S_1237 (lk_c ml_12_302 S_1241 (lk_c ml_12_302 S_1243 (lk_c ml_12_302 S_1245 (lk_c ml_12_302 S_1247 (lk_c ml_12_302 S_1249 (lk_c ml_12_302 S_1251 (lk_c ml_12_302 S_1253 (lk_c ml_12_302 S_1255 (lk_c ml_12_302 S_1257 (lk_c ml_12_302 S_1261 (lk_c ml_12_302 S_1263 (lk_c ml_12_302 S_1265 (lk_c ml_12_302 S_1267 (lk_c ml_12_302 S_1269 (lk_c ml_12_302 S_1271 (lk_c ml_12_302 S_1273 (lk_c ml_12_302 S_1275 (lk_c ml_12_302 S_1279 (lk_c ml_12_302 S_1281 (lk_c ml_12_302 S_1283 (lk_c ml_12_302 S_1285 (lk_c ml_12_302 S_1287 (lk_c ml_12_302 S_1289 (lk_c ml_12_302 S_1291 (lk_c ml_12_302 S_1294 (lk_c ml_12_302 S_1296 (lk_c ml_12_302 S_1298 (lk_c ml_12_302 S_1300 (lk_c ml_12_302 S_1302 (lk_c ml_12_302 S_1304 (lk_c ml_12_302 S_1307 (lk_c ml_12_302 S_1309 (lk_c ml_12_302 S_1311 (lk_c ml_12_302 S_1313 (lk_c ml_12_302 S_1315 (lk_c ml_12_302 S_1318 (lk_c ml_12_302 S_1320 (lk_c ml_12_302 S_1322 (lk_c ml_12_302 S_1324 (lk_c ml_12_302 S_1328 (lk_c ml_12_302 S_1330 (lk_c ml_12_302 S_1332 (lk_c ml_12_302 S_1336 (lk_c ml_12_302 S_1338 (lk_c ml_12_302 S_1342 (lk_c ml_12_170 S_653 (lk_c ml_12_170 S_1112 (lk_c ml_12_271 S_1192 (lk_c ml_12_271 S_1216 (lk_c ml_12_271 S_1238 (lk_c ml_12_271 S_1258 (lk_c ml_12_271 S_1276 (lk_c ml_12_271 S_1292 (lk_c ml_12_271 S_1305 (lk_c ml_12_271 S_1316 (lk_c ml_12_271 S_1325 (lk_c ml_12_271 S_1333 (lk_c ml_12_271 S_1339 (lk_c ml_12_271 S_1343 (lk_c ml_12_268 S_1108 (lk_c ml_12_149 S_1167 (lk_c ml_12_149 S_929 (lk_c ml_12_149 S_1193 (lk_c ml_12_149 S_1217 (lk_c ml_12_149 S_1239 (lk_c ml_12_149 S_1259 (lk_c ml_12_149 S_1277 (lk_c ml_12_149 S_1116 (lk_c ml_12_149 S_1109 (lk_c ml_12_149 S_673 (lk_c ml_12_149 S_1326 (lk_c ml_12_149 S_1334 (lk_c ml_12_149 S_1340 (lk_c ml_12_149 S_1344 (lk_c ml_12_334 S_X12_setsOut_0 (lk_c ml_12_334 S_X12_setsOut_1 (lk_c ml_12_334 S_X12_setsOut_2 (lk_c ml_12_334 S_X12_setsOut_3 (lk_c ml_12_334 S_X12_setsOut_4 (lk_c ml_12_334 S_X12_setsOut_5 (lk_c ml_12_334 S_X12_setsOut_6 (lk_c ml_12_334 S_X12_setsOut_7 (lk_c ml_12_334 S_X12_setsOut_8 (lk_c ml_12_334 S_X12_setsOut_9 (lk_c ml_12_334 S_X12_setsOut_10 (lk_c ml_12_334 S_X12_setsOut_11 lk_n)))))))))))))))))))))))))))))))))))))))))))))))))))))))))))))))))))))))))))))))))))))))))))))))))))))))))))))))))))))))) odX12_sets
def ct_1346 : aCt := (mX12_ofBox, [.inr (.inl [196]), .inl [(0, 7, 1)], .inl [(3, 3, 1)]], ([((199, 0), [(2, 4, 1)]), ((199, 4), [(1, 7, 1)]), ((199, 7), [(1, 8, 1)])], []), [(some (.inl aTop), [], [], [])], [], [], 0)
set_option maxRecDepth 100000 in
theorem S_1346 : aSpec wd ct_1346 := bChk_ok wx_ok btX12_ofBox (nds := []) (fk := []) (rk := (1, [])) (sp := 0) (fuel := 3000) (by decide +kernel) lk_n odX12_ofBox
def sl_1002 : (Nat × Nat) × aI := (((nat_lit 196), (nat_lit 14)), [((.ofNat (nat_lit 1)), (.ofNat (nat_lit 1)), (nat_lit 1))])
set_option maxRecDepth 100000 in
theorem btX12_sent : bTab oX12_sent tX12_sent := ⟨ofX12_sent, by decide +kernel⟩
def ct_1347 : aCt := (mX12_sent, [.inr (.inl [196]), .inl aTop], ([], []), [(some (.inl aTop), [], [((196, 11), [(0, 0, 1)]), ((196, 14), [(1, 1, 1)]), ((199, 0), [(2, 4, 1)]), ((199, 4), [(1, 7, 1)])], []), (some (.inl [(-1, -1, 1)]), [], [((196, 11), [(1, 1, 1)])], [])], [(196, 0, 1), (196, 11, 12)], [], 1)
set_option maxRecDepth 100000 in
theorem S_1347 : aSpec wd ct_1347 := bChk_ok wx_ok btX12_sent (nds := [((nat_lit 30), [lcn_306, lcn_100, lcn_51, lcn_104], [], [sl_632, sl_1002, sl_633, sl_634], [], (8, [(2, -1)]))]) (fk := []) (rk := (9, [])) (sp := 1073741824) (fuel := 3000) (by decide +kernel) (lk_c ml_12_167 S_651 (lk_c ml_12_170 S_1112 (lk_c ml_12_262 S_1126 (lk_c ml_12_262 S_1346 (lk_c ml_12_149 S_1326 lk_n))))) odX12_sent
set_option maxRecDepth 100000 in
theorem btX12_apartOf : bTab oX12_apartOf tX12_apartOf := ⟨ofX12_apartOf, by decide +kernel⟩
def ct_1348 : aCt := (mX12_apartOf, [.inr (.inl [196]), .inl [(0, 6, 1)], .inl [(0, 6, 1)]], ([((199, 0), [(2, 4, 1)]), ((199, 4), [(1, 7, 1)])], []), [(some (.inl aTop), [], [], []), (some (.inl [(-2, -2, 1)]), [], [], [])], [], [], 1)
set_option maxRecDepth 100000 in
theorem S_1348 : aSpec wd ct_1348 := bChk_ok wx_ok btX12_apartOf (nds := [((nat_lit 21), [lcn_306, lcn_68, lcn_69, lcn_181, lcn_133], [], [sl_633, sl_634], [], (6, [(3, -1)]))]) (fk := []) (rk := (7, [])) (sp := 2097152) (fuel := 3000) (by decide +kernel) (lk_c ml_12_265 S_1121 lk_n) odX12_apartOf
set_option maxRecDepth 100000 in
theorem btX12_apart : bTab oX12_apart tX12_apart := ⟨ofX12_apart, by decide +kernel⟩
def ct_1349 : aCt := (mX12_apart, [.inr (.inl [196]), .inl aTop, .inl aTop], ([], []), [(some (.inl aTop), [none, some [(0, 6, 1)], some [(0, 6, 1)]], [((196, 11), [(0, 0, 1)]), ((196, 14), [(1, 1, 1)]), ((199, 0), [(2, 4, 1)]), ((199, 4), [(1, 7, 1)])], []), (some (.inl [(-1, -1, 1)]), [], [((196, 11), [(1, 1, 1)])], []), (some (.inl [(-2, -2, 1)]), [none, some [(0, 6, 1)], some [(0, 6, 1)]], [((196, 11), [(0, 0, 1)]), ((196, 14), [(1, 1, 1)]), ((199, 0), [(2, 4, 1)]), ((199, 4), [(1, 7, 1)])], [])], [(196, 0, 1), (196, 11, 12)], [], 2)
set_option maxRecDepth 100000 in
theorem S_1349 : aSpec wd ct_1349 := bChk_ok wx_ok btX12_apart (nds := []) (fk := []) (rk := (1, [])) (sp := 0) (fuel := 3000) (by decide +kernel) (lk_c ml_12_167 S_651 (lk_c ml_12_170 S_1112 (lk_c ml_12_312 S_1348 (lk_c ml_12_277 S_1158 (lk_c ml_12_277 S_1120 lk_n))))) odX12_apart
def ct_1350 : aCt := (mX12_songLong, [.inr (.inl [196]), .inl [(1, 6, 1)]], ([((199, 0), [(2, 4, 1)]), ((199, 4), [(1, 7, 1)])], []), [(some (.inl [(0, 6, 1)]), [], [], [])], [], [], 0)
set_option maxRecDepth 100000 in
theorem S_1350 : aSpec wd ct_1350 := bChk_ok wx_ok btX12_songLong (nds := []) (fk := []) (rk := (1, [])) (sp := 0) (fuel := 3000) (by decide +kernel) lk_n odX12_songLong
def ct_1351 : aCt := (mX12_songLong, [.inr (.inl [196]), .inl [(0, 5, 1)]], ([((199, 0), [(2, 4, 1)]), ((199, 4), [(1, 7, 1)])], []), [(some (.inl [(0, 6, 1)]), [], [], [])], [], [], 0)
set_option maxRecDepth 100000 in
theorem S_1351 : aSpec wd ct_1351 := bChk_ok wx_ok btX12_songLong (nds := []) (fk := []) (rk := (1, [])) (sp := 0) (fuel := 3000) (by decide +kernel) lk_n odX12_songLong
def lcn_1003 : Nat × aAg := ((nat_lit 1), .inl [((.ofNat (nat_lit 1)), (.ofNat (nat_lit 6)), (nat_lit 1))])
def ct_1352 : aCt := (mX12_apartOf, [.inr (.inl [196]), .inl [(1, 6, 1)], .inl [(0, 5, 1)]], ([((199, 0), [(2, 4, 1)]), ((199, 4), [(1, 7, 1)])], []), [(some (.inl aTop), [], [], []), (some (.inl [(-2, -2, 1)]), [], [], [])], [], [], 1)
set_option maxRecDepth 100000 in
theorem S_1352 : aSpec wd ct_1352 := bChk_ok wx_ok btX12_apartOf (nds := [((nat_lit 21), [lcn_306, lcn_1003, lcn_82, lcn_181, lcn_133], [], [sl_633, sl_634], [], (6, [(3, -1)]))]) (fk := []) (rk := (7, [])) (sp := 2097152) (fuel := 3000) (by decide +kernel) (lk_c ml_12_265 S_1350 (lk_c ml_12_265 S_1351 lk_n)) odX12_apartOf
set_option maxRecDepth 100000 in
theorem btX12_bear : bTab oX12_bear tX12_bear := ⟨ofX12_bear, by decide +kernel⟩
def ct_1353 : aCt := (mX12_bear, [.inr (.inl [196])], ([], []), [(some (.inl aTop), [], [((196, 11), [(0, 0, 1)]), ((196, 14), [(1, 1, 1)]), ((199, 0), [(2, 4, 1)]), ((199, 4), [(1, 7, 1)])], []), (some (.inl [(-1, -1, 1)]), [], [((196, 11), [(1, 1, 1)]), ((196, 14), [(0, 0, 1)])], []), (some (.inl [(-2, -2, 1)]), [], [((196, 11), [(0, 0, 1)]), ((196, 14), [(1, 1, 1)]), ((199, 0), [(2, 4, 1)]), ((199, 4), [(1, 7, 1)])], [])], [(196, 0, 1), (196, 11, 12)], [], 2)
set_option maxRecDepth 100000 in
theorem S_1353 : aSpec wd ct_1353 := bChk_ok wx_ok btX12_bear (nds := [((nat_lit 22), [lcn_306, lcn_76, lcn_106], [], [sl_632, sl_1002, sl_633, sl_634], [], (63, [(1, -8)])), ((nat_lit 34), [lcn_306, lcn_76, lcn_69, lcn_55], [], [sl_632, sl_1002, sl_633, sl_634], [], (62, [(1, -8), (2, -1)]))]) (fk := []) (rk := (64, [])) (sp := 17184063488) (fuel := 3000) (by decide +kernel) (lk_c ml_12_167 S_651 (lk_c ml_12_170 S_1112 (lk_c ml_12_312 S_1352 lk_n))) odX12_bear
set_option maxRecDepth 100000 in
theorem btX12_mixed : bTab oX12_mixed tX12_mixed := ⟨ofX12_mixed, by decide +kernel⟩
def ct_1354 : aCt := (mX12_mixed, [.inr (.inl [196])], ([], []), [(some (.inl aTop), [], [((196, 11), [(0, 0, 1)]), ((196, 14), [(1, 1, 1)]), ((199, 0), [(2, 4, 1)]), ((199, 4), [(1, 7, 1)])], []), (some (.inl [(-1, -1, 1)]), [], [((196, 11), [(1, 1, 1)]), ((196, 14), [(0, 0, 1)])], [])], [(196, 0, 1), (196, 11, 12)], [], 2)
set_option maxRecDepth 100000 in
theorem S_1354 : aSpec wd ct_1354 := bChk_ok wx_ok btX12_mixed (nds := [((nat_lit 21), [lcn_306, lcn_76, lcn_106], [], [sl_632, sl_1002, sl_633, sl_634], [], (63, [(1, -8)])), ((nat_lit 33), [lcn_306, lcn_76, lcn_69, lcn_55], [], [sl_632, sl_1002, sl_633, sl_634], [], (62, [(1, -8), (2, -1)]))]) (fk := []) (rk := (64, [])) (sp := 8592031744) (fuel := 3000) (by decide +kernel) (lk_c ml_12_167 S_651 (lk_c ml_12_170 S_1112 (lk_c ml_12_312 S_1352 lk_n))) odX12_mixed
def ct_1355 : aCt := (mX12_in, [.inl aTop, .inl [(2, 2, 1)], .inl [(5, 5, 1)]], ([], []), [(some (.inl [(0, 0, 1)]), [some [(-2147483648, 1, 1), (6, 2147483647, 1)], none, none], [], []), (some (.inl [(1, 1, 1)]), [some [(2, 5, 1)], none, none], [], [])], [(1000002, 0, 0)], [], 0)
set_option maxRecDepth 100000 in
theorem S_1355 : aSpec wd ct_1355 := bChk_ok wx_ok btX12_in (nds := []) (fk := []) (rk := (1, [])) (sp := 0) (fuel := 3000) (by decide +kernel) lk_n odX12_in
def ct_1356 : aCt := (mX12_in, [.inl aTop, .inl [(1, 1, 1)], .inl [(5, 5, 1)]], ([], []), [(some (.inl [(0, 0, 1)]), [some [(-2147483648, 0, 1), (6, 2147483647, 1)], none, none], [], []), (some (.inl [(1, 1, 1)]), [some [(1, 5, 1)], none, none], [], [])], [(1000002, 0, 0)], [], 0)
set_option maxRecDepth 100000 in
theorem S_1356 : aSpec wd ct_1356 := bChk_ok wx_ok btX12_in (nds := []) (fk := []) (rk := (1, [])) (sp := 0) (fuel := 3000) (by decide +kernel) lk_n odX12_in
set_option maxRecDepth 100000 in
theorem btX12_songWhy : bTab oX12_songWhy tX12_songWhy := ⟨ofX12_songWhy, by decide +kernel⟩
def ct_1357 : aCt := (mX12_songWhy, [.inr (.inl [196]), .inl aTop, .inl aTop], ([], []), [(some (.inl [(2, 2, 1)]), [], [((196, 14), [(1, 1, 1)]), ((199, 0), [(2, 4, 1)]), ((199, 4), [(1, 7, 1)])], []), (some (.inl [(0, 0, 1)]), [none, some [(2, 5, 1)], some [(1, 5, 1)]], [((196, 14), [(1, 1, 1)]), ((199, 0), [(2, 4, 1)]), ((199, 4), [(1, 7, 1)])], []), (some (.inl [(1, 1, 1)]), [], [((196, 14), [(0, 0, 1)])], [])], [], [], 1)
set_option maxRecDepth 100000 in
theorem S_1357 : aSpec wd ct_1357 := bChk_ok wx_ok btX12_songWhy (nds := []) (fk := []) (rk := (1, [])) (sp := 0) (fuel := 3000) (by decide +kernel) (lk_c ml_12_149 S_1355 (lk_c ml_12_149 S_1356 lk_n)) odX12_songWhy
set_option maxRecDepth 100000 in
theorem btX12_power : bTab oX12_power tX12_power := ⟨ofX12_power, by decide +kernel⟩
def ct_1358 : aCt := (mX12_power, [.inr (.inl [196]), .inl [(5, 5, 1)]], ([((199, 0), [(2, 4, 1)]), ((199, 4), [(1, 7, 1)])], []), [(some (.inl [(32, 1024, 1)]), [], [], [])], [], [], 0)
set_option maxRecDepth 100000 in
theorem S_1358 : aSpec wd ct_1358 := bChk_ok wx_ok btX12_power (nds := []) (fk := []) (rk := (1, [])) (sp := 0) (fuel := 3000) (by decide +kernel) lk_n odX12_power
def lcn_1004 : Nat × aAg := ((nat_lit 5), .inl [((.ofNat (nat_lit 0)), (.ofNat (nat_lit 1023)), (nat_lit 1))])
def lcn_1005 : Nat × aAg := ((nat_lit 7), .inl [((.ofNat (nat_lit 0)), (.ofNat (nat_lit 5)), (nat_lit 1))])
set_option maxRecDepth 100000 in
theorem btX12_digitsApart : bTab oX12_digitsApart tX12_digitsApart := ⟨ofX12_digitsApart, by decide +kernel⟩
def ct_1359 : aCt := (mX12_digitsApart, [.inr (.inl [196]), .inl [(0, 1023, 1)], .inl aTop, .inl [(5, 5, 1)]], ([((199, 0), [(2, 4, 1)]), ((199, 4), [(1, 7, 1)])], []), [(some (.inl aTop), [], [], [])], [], [], 0)
set_option maxRecDepth 100000 in
theorem S_1359 : aSpec wd ct_1359 := bChk_ok wx_ok btX12_digitsApart (nds := [((nat_lit 12), [lcn_306, lcn_129, lcn_51, lcn_18, lcn_88, lcn_1004, lcn_996, lcn_1005], [], [sl_633, sl_634], [], (5, [(5, -1)]))]) (fk := []) (rk := (6, [])) (sp := 4096) (fuel := 3000) (by decide +kernel) lk_n odX12_digitsApart
def sl_1006 : (Nat × Nat) × aI := (((nat_lit 196), (nat_lit 23)), [((.ofNat (nat_lit 0)), (.ofNat (nat_lit 7)), (nat_lit 1))])
def sl_1007 : (Nat × Nat) × aI := (((nat_lit 196), (nat_lit 23)), [((.ofNat (nat_lit 0)), (.ofNat (nat_lit 6)), (nat_lit 1))])
def lcn_1008 : Nat × aAg := ((nat_lit 5), .inl [((.ofNat (nat_lit 0)), (.ofNat (nat_lit 1024)), (nat_lit 1))])
set_option maxRecDepth 100000 in
theorem btX12_newSongs : bTab oX12_newSongs tX12_newSongs := ⟨ofX12_newSongs, by decide +kernel⟩
def ct_1360 : aCt := (mX12_newSongs, [.inr (.inl [196]), .inl [(5, 5, 1)], .inl [(1, 5, 1)], .inl [(0, 0, 1)]], ([((199, 0), [(2, 4, 1)]), ((199, 4), [(1, 7, 1)])], []), [(some (.inl [(0, 1023, 1)]), [], [], []), (some (.inl [(-2, -2, 1)]), [], [], [])], [(196, 23, 24), (204, 0, 7)], [], 1)
set_option maxRecDepth 100000 in
theorem S_1360 : aSpec wd ct_1360 := aChkF_ok (lk := [(318, 0, 2, ct_1358), (265, 0, 2, ct_1121), (280, 0, 4, ct_1124), (321, 0, 4, ct_1359)]) (cd := oX12_newSongs) (nds := [(((nat_lit 8), [lcn_306, lcn_318, lcn_139, lcn_9, lcn_132], [], [sl_1006, sl_633, sl_634], [], (17480, [(1, -7)])), [(.inl 4, .inr (196, 23), 0)]), (((nat_lit 38), [lcn_306, lcn_318, lcn_139, lcn_9, lcn_133, lcn_192, lcn_241], [], [sl_1007, sl_633, sl_634], [], (17479, [(1, -7), (3, -1)])), [(.inl 4, .inr (196, 23), 0)]), (((nat_lit 109), [lcn_306, lcn_318, lcn_139, lcn_9, lcn_109, lcn_1008], [], [sl_1006, sl_633, sl_634], [], (17424, [(1, -17)])), [(.inl 5, .inr (196, 23), 7)]), (((nat_lit 125), [lcn_306, lcn_318, lcn_139, lcn_9, lcn_109, lcn_1004, lcn_157, lcn_1001], [], [sl_1006, sl_633, sl_634], [], (17415, [(1, -17), (2, 8), (3, -1)])), [(.inl 5, .inr (196, 23), 7)])]) (fk := []) (rk := (17481, [])) (fuel := 3000) (by decide +kernel) (List.forall_mem_cons.mpr ⟨⟨ml_12_318, S_1358⟩, List.forall_mem_cons.mpr ⟨⟨ml_12_265, S_1121⟩, List.forall_mem_cons.mpr ⟨⟨ml_12_280, S_1124⟩, List.forall_mem_cons.mpr ⟨⟨ml_12_321, S_1359⟩, fun _ h => nomatch h⟩⟩⟩⟩) odX12_newSongs
end Pk1
section Pk2
def ct_1361 : aCt := (mX12_power, [.inr (.inl [196]), .inl [(4, 4, 1)]], ([((199, 0), [(2, 4, 1)]), ((199, 4), [(1, 7, 1)])], []), [(some (.inl [(16, 256, 1)]), [], [], [])], [], [], 0)
set_option maxRecDepth 100000 in
theorem S_1361 : aSpec wd ct_1361 := bChk_ok wx_ok btX12_power (nds := []) (fk := []) (rk := (1, [])) (sp := 0) (fuel := 3000) (by decide +kernel) lk_n odX12_power
def lcn_1009 : Nat × aAg := ((nat_lit 1), .inl [((.ofNat (nat_lit 0)), (.ofNat (nat_lit 255)), (nat_lit 1))])
def lcn_1010 : Nat × aAg := ((nat_lit 5), .inl [((.ofNat (nat_lit 0)), (.ofNat (nat_lit 255)), (nat_lit 1))])
def lcn_1011 : Nat × aAg := ((nat_lit 7), .inl [((.ofNat (nat_lit 0)), (.ofNat (nat_lit 4)), (nat_lit 1))])
def ct_1362 : aCt := (mX12_digitsApart, [.inr (.inl [196]), .inl [(0, 255, 1)], .inl aTop, .inl [(4, 4, 1)]], ([((199, 0), [(2, 4, 1)]), ((199, 4), [(1, 7, 1)])], []), [(some (.inl aTop), [], [], [])], [], [], 0)
set_option maxRecDepth 100000 in
theorem S_1362 : aSpec wd ct_1362 := bChk_ok wx_ok btX12_digitsApart (nds := [((nat_lit 12), [lcn_306, lcn_1009, lcn_51, lcn_16, lcn_88, lcn_1010, lcn_996, lcn_1011], [], [sl_633, sl_634], [], (4, [(5, -1)]))]) (fk := []) (rk := (5, [])) (sp := 4096) (fuel := 3000) (by decide +kernel) lk_n odX12_digitsApart
def lcn_1012 : Nat × aAg := ((nat_lit 5), .inl [((.ofNat (nat_lit 0)), (.ofNat (nat_lit 287)), (nat_lit 1))])
def ct_1363 : aCt := (mX12_newSongs, [.inr (.inl [196]), .inl [(4, 4, 1)], .inl [(1, 5, 1)], .inl [(0, 0, 1)]], ([((199, 0), [(2, 4, 1)]), ((199, 4), [(1, 7, 1)])], []), [(some (.inl [(0, 255, 1)]), [], [], []), (some (.inl [(-2, -2, 1)]), [], [], [])], [(196, 23, 24), (204, 0, 7)], [], 1)
set_option maxRecDepth 100000 in
theorem S_1363 : aSpec wd ct_1363 := aChkF_ok (lk := [(318, 0, 2, ct_1361), (265, 0, 2, ct_1121), (280, 0, 4, ct_1124), (321, 0, 4, ct_1362)]) (cd := oX12_newSongs) (nds := [(((nat_lit 8), [lcn_306, lcn_317, lcn_139, lcn_9, lcn_132], [], [sl_1006, sl_633, sl_634], [], (4943, [(1, -6)])), [(.inl 4, .inr (196, 23), 0)]), (((nat_lit 38), [lcn_306, lcn_317, lcn_139, lcn_9, lcn_133, lcn_192, lcn_237], [], [sl_1007, sl_633, sl_634], [], (4942, [(1, -6), (3, -1)])), [(.inl 4, .inr (196, 23), 0)]), (((nat_lit 109), [lcn_306, lcn_317, lcn_139, lcn_9, lcn_109, lcn_1012], [], [sl_1006, sl_633, sl_634], [], (4895, [(1, -17)])), [(.inl 5, .inr (196, 23), 7)]), (((nat_lit 125), [lcn_306, lcn_317, lcn_139, lcn_9, lcn_109, lcn_1010, lcn_157, lcn_1001], [], [sl_1006, sl_633, sl_634], [], (4886, [(1, -17), (2, 8), (3, -1)])), [(.inl 5, .inr (196, 23), 7)])]) (fk := []) (rk := (4944, [])) (fuel := 3000) (by decide +kernel) (List.forall_mem_cons.mpr ⟨⟨ml_12_318, S_1361⟩, List.forall_mem_cons.mpr ⟨⟨ml_12_265, S_1121⟩, List.forall_mem_cons.mpr ⟨⟨ml_12_280, S_1124⟩, List.forall_mem_cons.mpr ⟨⟨ml_12_321, S_1362⟩, fun _ h => nomatch h⟩⟩⟩⟩) odX12_newSongs
def ct_1364 : aCt := (mX12_power, [.inr (.inl [196]), .inl [(3, 3, 1)]], ([((199, 0), [(2, 4, 1)]), ((199, 4), [(1, 7, 1)])], []), [(some (.inl [(8, 64, 1)]), [], [], [])], [], [], 0)
set_option maxRecDepth 100000 in
theorem S_1364 : aSpec wd ct_1364 := bChk_ok wx_ok btX12_power (nds := []) (fk := []) (rk := (1, [])) (sp := 0) (fuel := 3000) (by decide +kernel) lk_n odX12_power
def lcn_1013 : Nat × aAg := ((nat_lit 1), .inl [((.ofNat (nat_lit 0)), (.ofNat (nat_lit 63)), (nat_lit 1))])
def lcn_1014 : Nat × aAg := ((nat_lit 5), .inl [((.ofNat (nat_lit 0)), (.ofNat (nat_lit 63)), (nat_lit 1))])
def lcn_1015 : Nat × aAg := ((nat_lit 7), .inl [((.ofNat (nat_lit 0)), (.ofNat (nat_lit 3)), (nat_lit 1))])
def ct_1365 : aCt := (mX12_digitsApart, [.inr (.inl [196]), .inl [(0, 63, 1)], .inl aTop, .inl [(3, 3, 1)]], ([((199, 0), [(2, 4, 1)]), ((199, 4), [(1, 7, 1)])], []), [(some (.inl aTop), [], [], [])], [], [], 0)
set_option maxRecDepth 100000 in
theorem S_1365 : aSpec wd ct_1365 := bChk_ok wx_ok btX12_digitsApart (nds := [((nat_lit 12), [lcn_306, lcn_1013, lcn_51, lcn_14, lcn_88, lcn_1014, lcn_996, lcn_1015], [], [sl_633, sl_634], [], (3, [(5, -1)]))]) (fk := []) (rk := (4, [])) (sp := 4096) (fuel := 3000) (by decide +kernel) lk_n odX12_digitsApart
def lcn_1016 : Nat × aAg := ((nat_lit 5), .inl [((.ofNat (nat_lit 0)), (.ofNat (nat_lit 75)), (nat_lit 1))])
def ct_1366 : aCt := (mX12_newSongs, [.inr (.inl [196]), .inl [(3, 3, 1)], .inl [(1, 5, 1)], .inl [(0, 0, 1)]], ([((199, 0), [(2, 4, 1)]), ((199, 4), [(1, 7, 1)])], []), [(some (.inl [(0, 63, 1)]), [], [], []), (some (.inl [(-2, -2, 1)]), [], [], [])], [(196, 23, 24), (204, 0, 7)], [], 1)
set_option maxRecDepth 100000 in
theorem S_1366 : aSpec wd ct_1366 := aChkF_ok (lk := [(318, 0, 2, ct_1364), (265, 0, 2, ct_1121), (280, 0, 4, ct_1124), (321, 0, 4, ct_1365)]) (cd := oX12_newSongs) (nds := [(((nat_lit 8), [lcn_306, lcn_316, lcn_139, lcn_9, lcn_132], [], [sl_1006, sl_633, sl_634], [], (1331, [(1, -5)])), [(.inl 4, .inr (196, 23), 0)]), (((nat_lit 38), [lcn_306, lcn_316, lcn_139, lcn_9, lcn_133, lcn_192, lcn_234], [], [sl_1007, sl_633, sl_634], [], (1330, [(1, -5), (3, -1)])), [(.inl 4, .inr (196, 23), 0)]), (((nat_lit 109), [lcn_306, lcn_316, lcn_139, lcn_9, lcn_109, lcn_1016], [], [sl_1006, sl_633, sl_634], [], (1291, [(1, -17)])), [(.inl 5, .inr (196, 23), 7)]), (((nat_lit 125), [lcn_306, lcn_316, lcn_139, lcn_9, lcn_109, lcn_1014, lcn_157, lcn_1001], [], [sl_1006, sl_633, sl_634], [], (1282, [(1, -17), (2, 8), (3, -1)])), [(.inl 5, .inr (196, 23), 7)])]) (fk := []) (rk := (1332, [])) (fuel := 3000) (by decide +kernel) (List.forall_mem_cons.mpr ⟨⟨ml_12_318, S_1364⟩, List.forall_mem_cons.mpr ⟨⟨ml_12_265, S_1121⟩, List.forall_mem_cons.mpr ⟨⟨ml_12_280, S_1124⟩, List.forall_mem_cons.mpr ⟨⟨ml_12_321, S_1365⟩, fun _ h => nomatch h⟩⟩⟩⟩) odX12_newSongs
def ct_1367 : aCt := (mX12_power, [.inr (.inl [196]), .inl [(2, 2, 1)]], ([((199, 0), [(2, 4, 1)]), ((199, 4), [(1, 7, 1)])], []), [(some (.inl [(4, 16, 1)]), [], [], [])], [], [], 0)
set_option maxRecDepth 100000 in
theorem S_1367 : aSpec wd ct_1367 := bChk_ok wx_ok btX12_power (nds := []) (fk := []) (rk := (1, [])) (sp := 0) (fuel := 3000) (by decide +kernel) lk_n odX12_power
def lcn_1017 : Nat × aAg := ((nat_lit 1), .inl [((.ofNat (nat_lit 0)), (.ofNat (nat_lit 15)), (nat_lit 1))])
def lcn_1018 : Nat × aAg := ((nat_lit 5), .inl [((.ofNat (nat_lit 0)), (.ofNat (nat_lit 15)), (nat_lit 1))])
def lcn_1019 : Nat × aAg := ((nat_lit 7), .inl [((.ofNat (nat_lit 0)), (.ofNat (nat_lit 2)), (nat_lit 1))])
def ct_1368 : aCt := (mX12_digitsApart, [.inr (.inl [196]), .inl [(0, 15, 1)], .inl aTop, .inl [(2, 2, 1)]], ([((199, 0), [(2, 4, 1)]), ((199, 4), [(1, 7, 1)])], []), [(some (.inl aTop), [], [], [])], [], [], 0)
set_option maxRecDepth 100000 in
theorem S_1368 : aSpec wd ct_1368 := bChk_ok wx_ok btX12_digitsApart (nds := [((nat_lit 12), [lcn_306, lcn_1017, lcn_51, lcn_12, lcn_88, lcn_1018, lcn_996, lcn_1019], [], [sl_633, sl_634], [], (2, [(5, -1)]))]) (fk := []) (rk := (3, [])) (sp := 4096) (fuel := 3000) (by decide +kernel) lk_n odX12_digitsApart
def lcn_1020 : Nat × aAg := ((nat_lit 5), .inl [((.ofNat (nat_lit 0)), (.ofNat (nat_lit 16)), (nat_lit 1))])
def ct_1369 : aCt := (mX12_newSongs, [.inr (.inl [196]), .inl [(2, 2, 1)], .inl [(1, 5, 1)], .inl [(0, 0, 1)]], ([((199, 0), [(2, 4, 1)]), ((199, 4), [(1, 7, 1)])], []), [(some (.inl [(0, 15, 1)]), [], [], []), (some (.inl [(-2, -2, 1)]), [], [], [])], [(196, 23, 24), (204, 0, 7)], [], 1)
set_option maxRecDepth 100000 in
theorem S_1369 : aSpec wd ct_1369 := aChkF_ok (lk := [(318, 0, 2, ct_1367), (265, 0, 2, ct_1121), (280, 0, 4, ct_1124), (321, 0, 4, ct_1368)]) (cd := oX12_newSongs) (nds := [(((nat_lit 8), [lcn_306, lcn_57, lcn_139, lcn_9, lcn_132], [], [sl_1006, sl_633, sl_634], [], (320, [(1, -4)])), [(.inl 4, .inr (196, 23), 0)]), (((nat_lit 38), [lcn_306, lcn_57, lcn_139, lcn_9, lcn_133, lcn_192, lcn_233], [], [sl_1007, sl_633, sl_634], [], (319, [(1, -4), (3, -1)])), [(.inl 4, .inr (196, 23), 0)]), (((nat_lit 109), [lcn_306, lcn_57, lcn_139, lcn_9, lcn_109, lcn_1020], [], [sl_1006, sl_633, sl_634], [], (288, [(1, -17)])), [(.inl 5, .inr (196, 23), 7)]), (((nat_lit 125), [lcn_306, lcn_57, lcn_139, lcn_9, lcn_109, lcn_1018, lcn_157, lcn_1001], [], [sl_1006, sl_633, sl_634], [], (279, [(1, -17), (2, 8), (3, -1)])), [(.inl 5, .inr (196, 23), 7)])]) (fk := []) (rk := (321, [])) (fuel := 3000) (by decide +kernel) (List.forall_mem_cons.mpr ⟨⟨ml_12_318, S_1367⟩, List.forall_mem_cons.mpr ⟨⟨ml_12_265, S_1121⟩, List.forall_mem_cons.mpr ⟨⟨ml_12_280, S_1124⟩, List.forall_mem_cons.mpr ⟨⟨ml_12_321, S_1368⟩, fun _ h => nomatch h⟩⟩⟩⟩) odX12_newSongs
set_option maxRecDepth 100000 in
theorem btX12_fresh : bTab oX12_fresh tX12_fresh := ⟨ofX12_fresh, by decide +kernel⟩
def ct_1370 : aCt := (mX12_fresh, [.inr (.inl [196]), .inl aTop, .inl aTop], ([], []), [(some (.inl [(0, 1023, 1)]), [none, some [(2, 5, 1)], some [(1, 5, 1)]], [((196, 11), [(0, 0, 1)]), ((196, 14), [(1, 1, 1)]), ((199, 0), [(2, 4, 1)]), ((199, 4), [(1, 7, 1)])], []), (some (.inl [(-1, -1, 1)]), [], [((196, 11), [(1, 2, 1)])], []), (some (.inl [(-2, -2, 1)]), [none, some [(2, 5, 1)], some [(1, 5, 1)]], [((196, 11), [(0, 0, 1)]), ((196, 14), [(1, 1, 1)]), ((199, 0), [(2, 4, 1)]), ((199, 4), [(1, 7, 1)])], [])], [(196, 0, 1), (196, 11, 12), (196, 23, 24), (204, 0, 7)], [], 2)
set_option maxRecDepth 100000 in
theorem S_1370 : aSpec wd ct_1370 := bChk_ok wx_ok btX12_fresh (nds := []) (fk := [25]) (rk := (1, [])) (sp := 0) (fuel := 3000) (by decide +kernel) (lk_c ml_12_167 S_651 (lk_c ml_12_170 S_1112 (lk_c ml_12_170 S_653 (lk_c ml_12_327 S_1360 (lk_c ml_12_327 S_1363 (lk_c ml_12_327 S_1366 (lk_c ml_12_327 S_1369 (lk_c ml_12_324 S_1357 lk_n)))))))) odX12_fresh
def sl_1021 : (Nat × Nat) × aI := (((nat_lit 196), (nat_lit 23)), [((.ofNat (nat_lit 0)), (.ofNat (nat_lit 1031)), (nat_lit 1))])
def lcn_1022 : Nat × aAg := ((nat_lit 7), .inl [((.ofNat (nat_lit 0)), (.ofNat (nat_lit 1030)), (nat_lit 1))])
def sl_1023 : (Nat × Nat) × aI := (((nat_lit 196), (nat_lit 23)), [((.ofNat (nat_lit 0)), (.ofNat (nat_lit 1030)), (nat_lit 1))])
def ct_1371 : aCt := (mX12_newSongs, [.inr (.inl [196]), .inl [(5, 5, 1)], .inl [(1, 5, 1)], .inl [(1, 1, 1)]], ([((199, 0), [(2, 4, 1)]), ((199, 4), [(1, 7, 1)])], []), [(some (.inl aTop), [], [], [])], [(196, 23, 24), (204, 0, 1031)], [], 1)
set_option maxRecDepth 100000 in
theorem S_1371 : aSpec wd ct_1371 := aChkF_ok (lk := [(318, 0, 2, ct_1358), (265, 0, 2, ct_1121), (280, 0, 4, ct_1124), (321, 0, 4, ct_1359)]) (cd := oX12_newSongs) (nds := [(((nat_lit 8), [lcn_306, lcn_318, lcn_139, lcn_10, lcn_132], [], [sl_1006, sl_633, sl_634], [], (2114630, [(1, -7)])), [(.inl 4, .inr (196, 23), 0)]), (((nat_lit 38), [lcn_306, lcn_318, lcn_139, lcn_10, lcn_133, lcn_192, lcn_241], [], [sl_1007, sl_633, sl_634], [], (2114629, [(1, -7), (3, -1)])), [(.inl 4, .inr (196, 23), 0)]), (((nat_lit 109), [lcn_306, lcn_318, lcn_139, lcn_10, lcn_88, lcn_1008], [], [sl_1021, sl_633, sl_634], [], (2114574, [(2, -2063)])), [(.inl 5, .inr (196, 23), 7)]), (((nat_lit 125), [lcn_306, lcn_318, lcn_139, lcn_10, lcn_88, lcn_1004, lcn_157, lcn_1022], [], [sl_1023, sl_633, sl_634], [], (2113542, [(2, -2063), (3, 1031), (4, -1)])), [(.inl 5, .inr (196, 23), 7)])]) (fk := []) (rk := (2114631, [])) (fuel := 3000) (by decide +kernel) (List.forall_mem_cons.mpr ⟨⟨ml_12_318, S_1358⟩, List.forall_mem_cons.mpr ⟨⟨ml_12_265, S_1121⟩, List.forall_mem_cons.mpr ⟨⟨ml_12_280, S_1124⟩, List.forall_mem_cons.mpr ⟨⟨ml_12_321, S_1359⟩, fun _ h => nomatch h⟩⟩⟩⟩) odX12_newSongs
def sl_1024 : (Nat × Nat) × aI := (((nat_lit 196), (nat_lit 23)), [((.ofNat (nat_lit 0)), (.ofNat (nat_lit 287)), (nat_lit 1))])
def lcn_1025 : Nat × aAg := ((nat_lit 7), .inl [((.ofNat (nat_lit 0)), (.ofNat (nat_lit 287)), (nat_lit 1))])
def ct_1372 : aCt := (mX12_newSongs, [.inr (.inl [196]), .inl [(4, 4, 1)], .inl [(1, 5, 1)], .inl [(1, 1, 1)]], ([((199, 0), [(2, 4, 1)]), ((199, 4), [(1, 7, 1)])], []), [(some (.inl aTop), [], [], [])], [(196, 23, 24), (204, 0, 288)], [], 1)
set_option maxRecDepth 100000 in
theorem S_1372 : aSpec wd ct_1372 := aChkF_ok (lk := [(318, 0, 2, ct_1361), (265, 0, 2, ct_1121), (280, 0, 4, ct_1124), (321, 0, 4, ct_1362)]) (cd := oX12_newSongs) (nds := [(((nat_lit 8), [lcn_306, lcn_317, lcn_139, lcn_10, lcn_132], [], [sl_1006, sl_633, sl_634], [], (166223, [(1, -6)])), [(.inl 4, .inr (196, 23), 0)]), (((nat_lit 38), [lcn_306, lcn_317, lcn_139, lcn_10, lcn_133, lcn_192, lcn_237], [], [sl_1007, sl_633, sl_634], [], (166222, [(1, -6), (3, -1)])), [(.inl 4, .inr (196, 23), 0)]), (((nat_lit 109), [lcn_306, lcn_317, lcn_139, lcn_10, lcn_88, lcn_1012], [], [sl_1024, sl_633, sl_634], [], (166175, [(2, -577)])), [(.inl 5, .inr (196, 23), 7)]), (((nat_lit 125), [lcn_306, lcn_317, lcn_139, lcn_10, lcn_88, lcn_1010, lcn_157, lcn_1025], [], [sl_1024, sl_633, sl_634], [], (165886, [(2, -577), (3, 288), (4, -1)])), [(.inl 5, .inr (196, 23), 7)])]) (fk := []) (rk := (166224, [])) (fuel := 3000) (by decide +kernel) (List.forall_mem_cons.mpr ⟨⟨ml_12_318, S_1361⟩, List.forall_mem_cons.mpr ⟨⟨ml_12_265, S_1121⟩, List.forall_mem_cons.mpr ⟨⟨ml_12_280, S_1124⟩, List.forall_mem_cons.mpr ⟨⟨ml_12_321, S_1362⟩, fun _ h => nomatch h⟩⟩⟩⟩) odX12_newSongs
def sl_1026 : (Nat × Nat) × aI := (((nat_lit 196), (nat_lit 23)), [((.ofNat (nat_lit 0)), (.ofNat (nat_lit 75)), (nat_lit 1))])
def lcn_1027 : Nat × aAg := ((nat_lit 7), .inl [((.ofNat (nat_lit 0)), (.ofNat (nat_lit 75)), (nat_lit 1))])
def ct_1373 : aCt := (mX12_newSongs, [.inr (.inl [196]), .inl [(3, 3, 1)], .inl [(1, 5, 1)], .inl [(1, 1, 1)]], ([((199, 0), [(2, 4, 1)]), ((199, 4), [(1, 7, 1)])], []), [(some (.inl aTop), [], [], [])], [(196, 23, 24), (204, 0, 76)], [], 1)
set_option maxRecDepth 100000 in
theorem S_1373 : aSpec wd ct_1373 := aChkF_ok (lk := [(318, 0, 2, ct_1364), (265, 0, 2, ct_1121), (280, 0, 4, ct_1124), (321, 0, 4, ct_1365)]) (cd := oX12_newSongs) (nds := [(((nat_lit 8), [lcn_306, lcn_316, lcn_139, lcn_10, lcn_132], [], [sl_1006, sl_633, sl_634], [], (11667, [(1, -5)])), [(.inl 4, .inr (196, 23), 0)]), (((nat_lit 38), [lcn_306, lcn_316, lcn_139, lcn_10, lcn_133, lcn_192, lcn_234], [], [sl_1007, sl_633, sl_634], [], (11666, [(1, -5), (3, -1)])), [(.inl 4, .inr (196, 23), 0)]), (((nat_lit 109), [lcn_306, lcn_316, lcn_139, lcn_10, lcn_88, lcn_1016], [], [sl_1026, sl_633, sl_634], [], (11627, [(2, -153)])), [(.inl 5, .inr (196, 23), 7)]), (((nat_lit 125), [lcn_306, lcn_316, lcn_139, lcn_10, lcn_88, lcn_1014, lcn_157, lcn_1027], [], [sl_1026, sl_633, sl_634], [], (11550, [(2, -153), (3, 76), (4, -1)])), [(.inl 5, .inr (196, 23), 7)])]) (fk := []) (rk := (11668, [])) (fuel := 3000) (by decide +kernel) (List.forall_mem_cons.mpr ⟨⟨ml_12_318, S_1364⟩, List.forall_mem_cons.mpr ⟨⟨ml_12_265, S_1121⟩, List.forall_mem_cons.mpr ⟨⟨ml_12_280, S_1124⟩, List.forall_mem_cons.mpr ⟨⟨ml_12_321, S_1365⟩, fun _ h => nomatch h⟩⟩⟩⟩) odX12_newSongs
def sl_1028 : (Nat × Nat) × aI := (((nat_lit 196), (nat_lit 23)), [((.ofNat (nat_lit 0)), (.ofNat (nat_lit 25)), (nat_lit 1))])
def lcn_1029 : Nat × aAg := ((nat_lit 7), .inl [((.ofNat (nat_lit 0)), (.ofNat (nat_lit 25)), (nat_lit 1))])
def ct_1374 : aCt := (mX12_newSongs, [.inr (.inl [196]), .inl [(2, 2, 1)], .inl [(1, 5, 1)], .inl [(1, 1, 1)]], ([((199, 0), [(2, 4, 1)]), ((199, 4), [(1, 7, 1)])], []), [(some (.inl aTop), [], [], [])], [(196, 23, 24), (204, 0, 26)], [], 1)
set_option maxRecDepth 100000 in
theorem S_1374 : aSpec wd ct_1374 := aChkF_ok (lk := [(318, 0, 2, ct_1367), (265, 0, 2, ct_1121), (280, 0, 4, ct_1124), (321, 0, 4, ct_1368)]) (cd := oX12_newSongs) (nds := [(((nat_lit 8), [lcn_306, lcn_57, lcn_139, lcn_10, lcn_132], [], [sl_1006, sl_633, sl_634], [], (932, [(1, -4)])), [(.inl 4, .inr (196, 23), 0)]), (((nat_lit 38), [lcn_306, lcn_57, lcn_139, lcn_10, lcn_133, lcn_192, lcn_233], [], [sl_1007, sl_633, sl_634], [], (931, [(1, -4), (3, -1)])), [(.inl 4, .inr (196, 23), 0)]), (((nat_lit 109), [lcn_306, lcn_57, lcn_139, lcn_10, lcn_88, lcn_1020], [], [sl_1028, sl_633, sl_634], [], (900, [(2, -53)])), [(.inl 5, .inr (196, 23), 7)]), (((nat_lit 125), [lcn_306, lcn_57, lcn_139, lcn_10, lcn_88, lcn_1018, lcn_157, lcn_1029], [], [sl_1028, sl_633, sl_634], [], (873, [(2, -53), (3, 26), (4, -1)])), [(.inl 5, .inr (196, 23), 7)])]) (fk := []) (rk := (933, [])) (fuel := 3000) (by decide +kernel) (List.forall_mem_cons.mpr ⟨⟨ml_12_318, S_1367⟩, List.forall_mem_cons.mpr ⟨⟨ml_12_265, S_1121⟩, List.forall_mem_cons.mpr ⟨⟨ml_12_280, S_1124⟩, List.forall_mem_cons.mpr ⟨⟨ml_12_321, S_1368⟩, fun _ h => nomatch h⟩⟩⟩⟩) odX12_newSongs
set_option maxRecDepth 100000 in
theorem btX12_byTurns : bTab oX12_byTurns tX12_byTurns := ⟨ofX12_byTurns, by decide +kernel⟩
def ct_1375 : aCt := (mX12_byTurns, [.inr (.inl [196]), .inl aTop, .inl aTop], ([], []), [(some (.inl aTop), [none, some [(2, 5, 1)], some [(1, 5, 1)]], [((196, 11), [(0, 0, 1)]), ((196, 14), [(1, 1, 1)]), ((199, 0), [(2, 4, 1)]), ((199, 4), [(1, 7, 1)])], []), (some (.inl [(-1, -1, 1)]), [], [((196, 11), [(1, 2, 1)])], [])], [(196, 0, 1), (196, 11, 12), (196, 23, 24), (204, 0, 1031)], [], 2)
set_option maxRecDepth 100000 in
theorem S_1375 : aSpec wd ct_1375 := bChk_ok wx_ok btX12_byTurns (nds := []) (fk := [25]) (rk := (1, [])) (sp := 0) (fuel := 3000) (by decide +kernel) (lk_c ml_12_167 S_651 (lk_c ml_12_170 S_1112 (lk_c ml_12_170 S_653 (lk_c ml_12_327 S_1371 (lk_c ml_12_327 S_1372 (lk_c ml_12_327 S_1373 (lk_c ml_12_327 S_1374 (lk_c ml_12_324 S_1357 lk_n)))))))) odX12_byTurns
def ct_1376 : aCt := (mX12_songLong, [.inr (.inl [196]), .inl [(0, 6, 1)]], ([((199, 0), [(2, 4, 1)]), ((199, 4), [(1, 7, 1)]), ((199, 7), [(1, 8, 1)])], []), [(some (.inl [(0, 6, 1)]), [], [], [])], [], [], 0)
set_option maxRecDepth 100000 in
theorem S_1376 : aSpec wd ct_1376 := bChk_ok wx_ok btX12_songLong (nds := []) (fk := []) (rk := (1, [])) (sp := 0) (fuel := 3000) (by decide +kernel) lk_n odX12_songLong
def lcn_1030 : Nat × aAg := ((nat_lit 3), .inl [((.negSucc (nat_lit 2147483647)), (.ofNat (nat_lit 7)), (nat_lit 1))])
def sl_1031 : (Nat × Nat) × aI := (((nat_lit 199), (nat_lit 7)), [((.ofNat (nat_lit 1)), (.ofNat (nat_lit 8)), (nat_lit 1))])
set_option maxRecDepth 100000 in
theorem btX12_nearOf : bTab oX12_nearOf tX12_nearOf := ⟨ofX12_nearOf, by decide +kernel⟩
def ct_1377 : aCt := (mX12_nearOf, [.inr (.inl [196]), .inl [(0, 7, 1)], .inl [(0, 0, 1)]], ([((199, 0), [(2, 4, 1)]), ((199, 4), [(1, 7, 1)]), ((199, 7), [(1, 8, 1)])], []), [(some (.inl [(-2147483648, 7, 1)]), [], [], [])], [], [], 3)
set_option maxRecDepth 100000 in
theorem S_1377 : aSpec wd ct_1377 := bChk_ok wx_ok btX12_nearOf (nds := [((nat_lit 9), [lcn_306, lcn_187, lcn_227, lcn_1030, lcn_88, lcn_260], [], [sl_633, sl_634, sl_1031], [], (7, [(3, -1)]))]) (fk := []) (rk := (8, [])) (sp := 512) (fuel := 3000) (by decide +kernel) (lk_c ml_12_265 S_1376 (lk_c ml_12_284 S_1134 (lk_c ml_12_287 S_1154 lk_n))) odX12_nearOf
set_option maxRecDepth 100000 in
theorem btX12_near : bTab oX12_near tX12_near := ⟨ofX12_near, by decide +kernel⟩
def ct_1378 : aCt := (mX12_near, [.inr (.inl [196]), .inl aTop], ([], []), [(some (.inl [(-2147483648, 7, 1)]), [none, some [(0, 7, 1)]], [((196, 11), [(0, 0, 1)]), ((196, 14), [(1, 1, 1)]), ((199, 0), [(2, 4, 1)]), ((199, 4), [(1, 7, 1)]), ((199, 7), [(1, 8, 1)])], []), (some (.inl [(-1, -1, 1)]), [], [((196, 11), [(1, 1, 1)])], [])], [(196, 0, 1), (196, 11, 12)], [], 4)
set_option maxRecDepth 100000 in
theorem S_1378 : aSpec wd ct_1378 := bChk_ok wx_ok btX12_near (nds := []) (fk := []) (rk := (1, [])) (sp := 0) (fuel := 3000) (by decide +kernel) (lk_c ml_12_167 S_651 (lk_c ml_12_170 S_1112 (lk_c ml_12_308 S_1377 (lk_c ml_12_274 S_1115 lk_n)))) odX12_near
def ct_1379 : aCt := (mX12_nearOf, [.inr (.inl [196]), .inl [(0, 7, 1)], .inl [(1, 1, 1)]], ([((199, 0), [(2, 4, 1)]), ((199, 4), [(1, 7, 1)]), ((199, 7), [(1, 8, 1)])], []), [(some (.inl aTop), [], [], [])], [], [], 3)
set_option maxRecDepth 100000 in
theorem S_1379 : aSpec wd ct_1379 := bChk_ok wx_ok btX12_nearOf (nds := [((nat_lit 9), [lcn_306, lcn_187, lcn_131, lcn_1030, lcn_88, lcn_260], [], [sl_633, sl_634, sl_1031], [], (7, [(3, -1)]))]) (fk := []) (rk := (8, [])) (sp := 512) (fuel := 3000) (by decide +kernel) (lk_c ml_12_265 S_1376 (lk_c ml_12_284 S_1134 (lk_c ml_12_287 S_1154 lk_n))) odX12_nearOf
set_option maxRecDepth 100000 in
theorem btX12_asNear : bTab oX12_asNear tX12_asNear := ⟨ofX12_asNear, by decide +kernel⟩
def ct_1380 : aCt := (mX12_asNear, [.inr (.inl [196]), .inl aTop], ([], []), [(some (.inl aTop), [none, some [(0, 7, 1)]], [((196, 11), [(0, 0, 1)]), ((196, 14), [(1, 1, 1)]), ((199, 0), [(2, 4, 1)]), ((199, 4), [(1, 7, 1)]), ((199, 7), [(1, 8, 1)])], []), (some (.inl [(-1, -1, 1)]), [], [((196, 11), [(1, 1, 1)])], [])], [(196, 0, 1), (196, 11, 12)], [], 4)
set_option maxRecDepth 100000 in
theorem S_1380 : aSpec wd ct_1380 := bChk_ok wx_ok btX12_asNear (nds := []) (fk := []) (rk := (1, [])) (sp := 0) (fuel := 3000) (by decide +kernel) (lk_c ml_12_167 S_651 (lk_c ml_12_170 S_1112 (lk_c ml_12_308 S_1379 (lk_c ml_12_274 S_1115 lk_n)))) odX12_asNear
set_option maxRecDepth 100000 in
theorem btX12_heardIn : bTab oX12_heardIn tX12_heardIn := ⟨ofX12_heardIn, by decide +kernel⟩
def ct_1381 : aCt := (mX12_heardIn, [.inr (.inl [196]), .inl aTop, .inl aTop], ([], []), [(some (.inl [(-2, -2, 1), (0, 6, 1)]), [none, some [(0, 7, 1)], some [(0, 99, 1)]], [((196, 11), [(0, 0, 1)]), ((196, 14), [(1, 1, 1)]), ((199, 0), [(2, 4, 1)]), ((199, 4), [(1, 7, 1)]), ((199, 7), [(1, 8, 1)])], []), (some (.inl [(-1, -1, 1)]), [], [((196, 11), [(1, 2, 1)])], []), (some (.inl [(-2, -2, 1)]), [none, some [(0, 7, 1)], some [(0, 99, 1)]], [((196, 11), [(0, 0, 1)]), ((196, 14), [(1, 1, 1)]), ((199, 0), [(2, 4, 1)]), ((199, 4), [(1, 7, 1)]), ((199, 7), [(1, 8, 1)])], [])], [(196, 0, 1), (196, 11, 12)], [], 4)
set_option maxRecDepth 100000 in
theorem S_1381 : aSpec wd ct_1381 := bChk_ok wx_ok btX12_heardIn (nds := []) (fk := []) (rk := (1, [])) (sp := 0) (fuel := 3000) (by decide +kernel) (lk_c ml_12_167 S_651 (lk_c ml_12_170 S_653 (lk_c ml_12_170 S_1112 (lk_c ml_12_291 S_1155 (lk_c ml_12_274 S_1115 (lk_c ml_12_149 S_819 lk_n)))))) odX12_heardIn
set_option maxRecDepth 100000 in
theorem btX12_hearsItself : bTab oX12_hearsItself tX12_hearsItself := ⟨ofX12_hearsItself, by decide +kernel⟩
def ct_1382 : aCt := (mX12_hearsItself, [.inr (.inl [196]), .inl [(0, 6, 1)], .inl [(0, 10098, 1)]], ([((199, 0), [(2, 4, 1)]), ((199, 4), [(1, 7, 1)])], []), [(some (.inl [(0, 1, 1)]), [], [], [])], [], [], 1)
set_option maxRecDepth 100000 in
theorem S_1382 : aSpec wd ct_1382 := bChk_ok wx_ok btX12_hearsItself (nds := [((nat_lit 5), [lcn_306, lcn_68, lcn_998, lcn_181, lcn_133], [], [sl_633, sl_634], [], (134, [(3, -1)])), ((nat_lit 77), [lcn_306, lcn_68, lcn_998, lcn_181, lcn_138, lcn_260], [], [sl_633, sl_634], [], (63, [(3, 64), (4, -8)])), ((nat_lit 117), [lcn_306, lcn_68, lcn_998, lcn_181, lcn_138, lcn_353, lcn_996, lcn_997], [], [sl_633, sl_634], [], (62, [(3, 64), (4, -8), (6, -1)]))]) (fk := []) (rk := (135, [])) (sp := 166153499473265599840427711181881376) (fuel := 3000) (by decide +kernel) (lk_c ml_12_265 S_1121 (lk_c ml_12_280 S_1124 lk_n)) odX12_hearsItself
set_option maxRecDepth 100000 in
theorem btX12_strange : bTab oX12_strange tX12_strange := ⟨ofX12_strange, by decide +kernel⟩
def ct_1383 : aCt := (mX12_strange, [.inr (.inl [196]), .inl aTop], ([], []), [(some (.inl [(0, 99, 1)]), [], [((196, 11), [(0, 0, 1)]), ((196, 14), [(1, 1, 1)]), ((199, 0), [(2, 4, 1)]), ((199, 4), [(1, 7, 1)])], []), (some (.inl [(-1, -1, 1)]), [], [((196, 11), [(1, 1, 1)])], []), (some (.inl [(-2, -2, 1)]), [], [((196, 11), [(0, 0, 1)]), ((196, 14), [(1, 1, 1)]), ((199, 0), [(2, 4, 1)]), ((199, 4), [(1, 7, 1)])], [])], [(196, 0, 1), (196, 11, 12)], [], 2)
set_option maxRecDepth 100000 in
theorem S_1383 : aSpec wd ct_1383 := bChk_ok wx_ok btX12_strange (nds := [((nat_lit 20), [lcn_306, lcn_68, lcn_178], [], [sl_632, sl_1002, sl_633, sl_634], [], (100, [(1, -1)]))]) (fk := []) (rk := (101, [])) (sp := 1048576) (fuel := 3000) (by decide +kernel) (lk_c ml_12_167 S_651 (lk_c ml_12_170 S_1112 (lk_c ml_12_331 S_1382 (lk_c ml_12_277 S_1120 lk_n)))) odX12_strange
def ct_1384 : aCt := (mX12_isIsland, [.inr (.inl [196]), .inl aTop], ([((196, 14), [(1, 1, 1)]), ((199, 0), [(2, 4, 1)]), ((199, 4), [(1, 7, 1)]), ((199, 6), [(1, 5, 1)])], []), [(some (.inl [(0, 0, 1)]), [], [], []), (some (.inl [(1, 1, 1)]), [none, some [(0, 6, 1)]], [], [])], [], [], 1)
set_option maxRecDepth 100000 in
theorem S_1384 : aSpec wd ct_1384 := bChk_ok wx_ok btX12_isIsland (nds := []) (fk := []) (rk := (1, [])) (sp := 0) (fuel := 3000) (by decide +kernel) (lk_c ml_12_149 S_1119 lk_n) odX12_isIsland
def ct_1385 : aCt := (mX12_hasBit, [.inl aTop, .inl [(0, 0, 1)]], ([((199, 4), [(1, 7, 1)]), ((199, 5), [(1, 12, 1)])], []), [(some (.inl [(0, 0, 1)]), [], [], []), (some (.inl [(1, 1, 1)]), [], [], [])], [], [], 0)
set_option maxRecDepth 100000 in
theorem S_1385 : aSpec wd ct_1385 := bChk_ok wx_ok btX12_hasBit (nds := []) (fk := []) (rk := (1, [])) (sp := 0) (fuel := 3000) (by decide +kernel) lk_n odX12_hasBit
def ct_1386 : aCt := (mX12_isClosed, [.inr (.inl [196]), .inl [(0, 0, 1)]], ([((199, 4), [(1, 7, 1)]), ((199, 5), [(1, 12, 1)])], []), [(some (.inl [(0, 0, 1)]), [], [], []), (some (.inl [(1, 1, 1)]), [], [], [])], [], [], 1)
set_option maxRecDepth 100000 in
theorem S_1386 : aSpec wd ct_1386 := bChk_ok wx_ok btX12_isClosed (nds := []) (fk := []) (rk := (1, [])) (sp := 0) (fuel := 3000) (by decide +kernel) (lk_c ml_12_298 S_1385 lk_n) odX12_isClosed
set_option maxRecDepth 100000 in
theorem btX12_dayBy : bTab oX12_dayBy tX12_dayBy := ⟨ofX12_dayBy, by decide +kernel⟩
def ct_1387 : aCt := (mX12_dayBy, [.inr (.inl [196]), .inl [(0, 0, 1)], .inl [(0, 3, 1)], .inl aTop], ([((199, 5), [(1, 12, 1)])], []), [(some (.inl aTop), [none, none, some [(0, 3, 1)], none], [], [])], [], [], 3)
set_option maxRecDepth 100000 in
theorem S_1387 : aSpec wd ct_1387 := bChk_ok wx_ok btX12_dayBy (nds := []) (fk := []) (rk := (1, [])) (sp := 0) (fuel := 3000) (by decide +kernel) (lk_c ml_12_334 S_X12_setsOut_11 lk_n) odX12_dayBy
set_option maxRecDepth 100000 in
theorem btX12_goesBy : bTab oX12_goesBy tX12_goesBy := ⟨ofX12_goesBy, by decide +kernel⟩
def ct_1388 : aCt := (mX12_goesBy, [.inr (.inl [196]), .inl [(0, 0, 1)], .inl [(0, 3, 1)], .inl [(0, 6, 1)]], ([((199, 5), [(1, 12, 1)])], []), [(none, [], [], [])], [(205, 0, 7)], [], 4)
set_option maxRecDepth 100000 in
theorem S_1388 : aSpec wd ct_1388 := bChk_ok wx_ok btX12_goesBy (nds := []) (fk := []) (rk := (1, [])) (sp := 0) (fuel := 3000) (by decide +kernel) (lk_c ml_12_346 S_1387 lk_n) odX12_goesBy
def ct_1389 : aCt := (mX12_hasBit, [.inl aTop, .inl [(1, 1, 1)]], ([((199, 4), [(1, 7, 1)]), ((199, 5), [(2, 12, 1)])], []), [(some (.inl [(0, 0, 1)]), [], [], []), (some (.inl [(1, 1, 1)]), [], [], [])], [], [], 0)
set_option maxRecDepth 100000 in
theorem S_1389 : aSpec wd ct_1389 := bChk_ok wx_ok btX12_hasBit (nds := []) (fk := []) (rk := (1, [])) (sp := 0) (fuel := 3000) (by decide +kernel) lk_n odX12_hasBit
def ct_1390 : aCt := (mX12_isClosed, [.inr (.inl [196]), .inl [(1, 1, 1)]], ([((199, 4), [(1, 7, 1)]), ((199, 5), [(2, 12, 1)])], []), [(some (.inl [(0, 0, 1)]), [], [], []), (some (.inl [(1, 1, 1)]), [], [], [])], [], [], 1)
set_option maxRecDepth 100000 in
theorem S_1390 : aSpec wd ct_1390 := bChk_ok wx_ok btX12_isClosed (nds := []) (fk := []) (rk := (1, [])) (sp := 0) (fuel := 3000) (by decide +kernel) (lk_c ml_12_298 S_1389 lk_n) odX12_isClosed
def ct_1391 : aCt := (mX12_dayBy, [.inr (.inl [196]), .inl [(1, 1, 1)], .inl [(0, 3, 1)], .inl aTop], ([((199, 5), [(2, 12, 1)])], []), [(some (.inl aTop), [none, none, some [(0, 3, 1)], none], [], [])], [], [], 3)
set_option maxRecDepth 100000 in
theorem S_1391 : aSpec wd ct_1391 := bChk_ok wx_ok btX12_dayBy (nds := []) (fk := []) (rk := (1, [])) (sp := 0) (fuel := 3000) (by decide +kernel) (lk_c ml_12_334 S_X12_setsOut_10 lk_n) odX12_dayBy
def ct_1392 : aCt := (mX12_goesBy, [.inr (.inl [196]), .inl [(1, 1, 1)], .inl [(0, 3, 1)], .inl [(0, 6, 1)]], ([((199, 5), [(2, 12, 1)])], []), [(none, [], [], [])], [(205, 0, 7)], [], 4)
set_option maxRecDepth 100000 in
theorem S_1392 : aSpec wd ct_1392 := bChk_ok wx_ok btX12_goesBy (nds := []) (fk := []) (rk := (1, [])) (sp := 0) (fuel := 3000) (by decide +kernel) (lk_c ml_12_346 S_1391 lk_n) odX12_goesBy
def ct_1393 : aCt := (mX12_hasBit, [.inl aTop, .inl [(2, 2, 1)]], ([((199, 4), [(1, 7, 1)]), ((199, 5), [(3, 12, 1)])], []), [(some (.inl [(0, 0, 1)]), [], [], []), (some (.inl [(1, 1, 1)]), [], [], [])], [], [], 0)
set_option maxRecDepth 100000 in
theorem S_1393 : aSpec wd ct_1393 := bChk_ok wx_ok btX12_hasBit (nds := []) (fk := []) (rk := (1, [])) (sp := 0) (fuel := 3000) (by decide +kernel) lk_n odX12_hasBit
def ct_1394 : aCt := (mX12_isClosed, [.inr (.inl [196]), .inl [(2, 2, 1)]], ([((199, 4), [(1, 7, 1)]), ((199, 5), [(3, 12, 1)])], []), [(some (.inl [(0, 0, 1)]), [], [], []), (some (.inl [(1, 1, 1)]), [], [], [])], [], [], 1)
set_option maxRecDepth 100000 in
theorem S_1394 : aSpec wd ct_1394 := bChk_ok wx_ok btX12_isClosed (nds := []) (fk := []) (rk := (1, [])) (sp := 0) (fuel := 3000) (by decide +kernel) (lk_c ml_12_298 S_1393 lk_n) odX12_isClosed
def ct_1395 : aCt := (mX12_dayBy, [.inr (.inl [196]), .inl [(2, 2, 1)], .inl [(0, 3, 1)], .inl aTop], ([((199, 5), [(3, 12, 1)])], []), [(some (.inl aTop), [none, none, some [(0, 3, 1)], none], [], [])], [], [], 3)
set_option maxRecDepth 100000 in
theorem S_1395 : aSpec wd ct_1395 := bChk_ok wx_ok btX12_dayBy (nds := []) (fk := []) (rk := (1, [])) (sp := 0) (fuel := 3000) (by decide +kernel) (lk_c ml_12_334 S_X12_setsOut_9 lk_n) odX12_dayBy
def ct_1396 : aCt := (mX12_goesBy, [.inr (.inl [196]), .inl [(2, 2, 1)], .inl [(0, 3, 1)], .inl [(0, 6, 1)]], ([((199, 5), [(3, 12, 1)])], []), [(none, [], [], [])], [(205, 0, 7)], [], 4)
set_option maxRecDepth 100000 in
theorem S_1396 : aSpec wd ct_1396 := bChk_ok wx_ok btX12_goesBy (nds := []) (fk := []) (rk := (1, [])) (sp := 0) (fuel := 3000) (by decide +kernel) (lk_c ml_12_346 S_1395 lk_n) odX12_goesBy
def ct_1397 : aCt := (mX12_hasBit, [.inl aTop, .inl [(3, 3, 1)]], ([((199, 4), [(1, 7, 1)]), ((199, 5), [(4, 12, 1)])], []), [(some (.inl [(0, 0, 1)]), [], [], []), (some (.inl [(1, 1, 1)]), [], [], [])], [], [], 0)
set_option maxRecDepth 100000 in
theorem S_1397 : aSpec wd ct_1397 := bChk_ok wx_ok btX12_hasBit (nds := []) (fk := []) (rk := (1, [])) (sp := 0) (fuel := 3000) (by decide +kernel) lk_n odX12_hasBit
def ct_1398 : aCt := (mX12_isClosed, [.inr (.inl [196]), .inl [(3, 3, 1)]], ([((199, 4), [(1, 7, 1)]), ((199, 5), [(4, 12, 1)])], []), [(some (.inl [(0, 0, 1)]), [], [], []), (some (.inl [(1, 1, 1)]), [], [], [])], [], [], 1)
set_option maxRecDepth 100000 in
theorem S_1398 : aSpec wd ct_1398 := bChk_ok wx_ok btX12_isClosed (nds := []) (fk := []) (rk := (1, [])) (sp := 0) (fuel := 3000) (by decide +kernel) (lk_c ml_12_298 S_1397 lk_n) odX12_isClosed
def ct_1399 : aCt := (mX12_dayBy, [.inr (.inl [196]), .inl [(3, 3, 1)], .inl [(0, 3, 1)], .inl aTop], ([((199, 5), [(4, 12, 1)])], []), [(some (.inl aTop), [none, none, some [(0, 3, 1)], none], [], [])], [], [], 3)
set_option maxRecDepth 100000 in
theorem S_1399 : aSpec wd ct_1399 := bChk_ok wx_ok btX12_dayBy (nds := []) (fk := []) (rk := (1, [])) (sp := 0) (fuel := 3000) (by decide +kernel) (lk_c ml_12_334 S_X12_setsOut_8 lk_n) odX12_dayBy
def ct_1400 : aCt := (mX12_goesBy, [.inr (.inl [196]), .inl [(3, 3, 1)], .inl [(0, 3, 1)], .inl [(0, 6, 1)]], ([((199, 5), [(4, 12, 1)])], []), [(none, [], [], [])], [(205, 0, 7)], [], 4)
set_option maxRecDepth 100000 in
theorem S_1400 : aSpec wd ct_1400 := bChk_ok wx_ok btX12_goesBy (nds := []) (fk := []) (rk := (1, [])) (sp := 0) (fuel := 3000) (by decide +kernel) (lk_c ml_12_346 S_1399 lk_n) odX12_goesBy
def ct_1401 : aCt := (mX12_hasBit, [.inl aTop, .inl [(4, 4, 1)]], ([((199, 4), [(1, 7, 1)]), ((199, 5), [(5, 12, 1)])], []), [(some (.inl [(0, 0, 1)]), [], [], []), (some (.inl [(1, 1, 1)]), [], [], [])], [], [], 0)
set_option maxRecDepth 100000 in
theorem S_1401 : aSpec wd ct_1401 := bChk_ok wx_ok btX12_hasBit (nds := []) (fk := []) (rk := (1, [])) (sp := 0) (fuel := 3000) (by decide +kernel) lk_n odX12_hasBit
def ct_1402 : aCt := (mX12_isClosed, [.inr (.inl [196]), .inl [(4, 4, 1)]], ([((199, 4), [(1, 7, 1)]), ((199, 5), [(5, 12, 1)])], []), [(some (.inl [(0, 0, 1)]), [], [], []), (some (.inl [(1, 1, 1)]), [], [], [])], [], [], 1)
set_option maxRecDepth 100000 in
theorem S_1402 : aSpec wd ct_1402 := bChk_ok wx_ok btX12_isClosed (nds := []) (fk := []) (rk := (1, [])) (sp := 0) (fuel := 3000) (by decide +kernel) (lk_c ml_12_298 S_1401 lk_n) odX12_isClosed
def ct_1403 : aCt := (mX12_dayBy, [.inr (.inl [196]), .inl [(4, 4, 1)], .inl [(0, 3, 1)], .inl aTop], ([((199, 5), [(5, 12, 1)])], []), [(some (.inl aTop), [none, none, some [(0, 3, 1)], none], [], [])], [], [], 3)
set_option maxRecDepth 100000 in
theorem S_1403 : aSpec wd ct_1403 := bChk_ok wx_ok btX12_dayBy (nds := []) (fk := []) (rk := (1, [])) (sp := 0) (fuel := 3000) (by decide +kernel) (lk_c ml_12_334 S_X12_setsOut_7 lk_n) odX12_dayBy
def ct_1404 : aCt := (mX12_goesBy, [.inr (.inl [196]), .inl [(4, 4, 1)], .inl [(0, 3, 1)], .inl [(0, 6, 1)]], ([((199, 5), [(5, 12, 1)])], []), [(none, [], [], [])], [(205, 0, 7)], [], 4)
set_option maxRecDepth 100000 in
theorem S_1404 : aSpec wd ct_1404 := bChk_ok wx_ok btX12_goesBy (nds := []) (fk := []) (rk := (1, [])) (sp := 0) (fuel := 3000) (by decide +kernel) (lk_c ml_12_346 S_1403 lk_n) odX12_goesBy
def ct_1405 : aCt := (mX12_hasBit, [.inl aTop, .inl [(5, 5, 1)]], ([((199, 4), [(1, 7, 1)]), ((199, 5), [(6, 12, 1)])], []), [(some (.inl [(0, 0, 1)]), [], [], []), (some (.inl [(1, 1, 1)]), [], [], [])], [], [], 0)
set_option maxRecDepth 100000 in
theorem S_1405 : aSpec wd ct_1405 := bChk_ok wx_ok btX12_hasBit (nds := []) (fk := []) (rk := (1, [])) (sp := 0) (fuel := 3000) (by decide +kernel) lk_n odX12_hasBit
def ct_1406 : aCt := (mX12_isClosed, [.inr (.inl [196]), .inl [(5, 5, 1)]], ([((199, 4), [(1, 7, 1)]), ((199, 5), [(6, 12, 1)])], []), [(some (.inl [(0, 0, 1)]), [], [], []), (some (.inl [(1, 1, 1)]), [], [], [])], [], [], 1)
set_option maxRecDepth 100000 in
theorem S_1406 : aSpec wd ct_1406 := bChk_ok wx_ok btX12_isClosed (nds := []) (fk := []) (rk := (1, [])) (sp := 0) (fuel := 3000) (by decide +kernel) (lk_c ml_12_298 S_1405 lk_n) odX12_isClosed
def ct_1407 : aCt := (mX12_dayBy, [.inr (.inl [196]), .inl [(5, 5, 1)], .inl [(0, 3, 1)], .inl aTop], ([((199, 5), [(6, 12, 1)])], []), [(some (.inl aTop), [none, none, some [(0, 3, 1)], none], [], [])], [], [], 3)
set_option maxRecDepth 100000 in
theorem S_1407 : aSpec wd ct_1407 := bChk_ok wx_ok btX12_dayBy (nds := []) (fk := []) (rk := (1, [])) (sp := 0) (fuel := 3000) (by decide +kernel) (lk_c ml_12_334 S_X12_setsOut_6 lk_n) odX12_dayBy
def ct_1408 : aCt := (mX12_goesBy, [.inr (.inl [196]), .inl [(5, 5, 1)], .inl [(0, 3, 1)], .inl [(0, 6, 1)]], ([((199, 5), [(6, 12, 1)])], []), [(none, [], [], [])], [(205, 0, 7)], [], 4)
set_option maxRecDepth 100000 in
theorem S_1408 : aSpec wd ct_1408 := bChk_ok wx_ok btX12_goesBy (nds := []) (fk := []) (rk := (1, [])) (sp := 0) (fuel := 3000) (by decide +kernel) (lk_c ml_12_346 S_1407 lk_n) odX12_goesBy
def ct_1409 : aCt := (mX12_hasBit, [.inl aTop, .inl [(6, 6, 1)]], ([((199, 4), [(1, 7, 1)]), ((199, 5), [(7, 12, 1)])], []), [(some (.inl [(0, 0, 1)]), [], [], []), (some (.inl [(1, 1, 1)]), [], [], [])], [], [], 0)
set_option maxRecDepth 100000 in
theorem S_1409 : aSpec wd ct_1409 := bChk_ok wx_ok btX12_hasBit (nds := []) (fk := []) (rk := (1, [])) (sp := 0) (fuel := 3000) (by decide +kernel) lk_n odX12_hasBit
def ct_1410 : aCt := (mX12_isClosed, [.inr (.inl [196]), .inl [(6, 6, 1)]], ([((199, 4), [(1, 7, 1)]), ((199, 5), [(7, 12, 1)])], []), [(some (.inl [(0, 0, 1)]), [], [], []), (some (.inl [(1, 1, 1)]), [], [], [])], [], [], 1)
set_option maxRecDepth 100000 in
theorem S_1410 : aSpec wd ct_1410 := bChk_ok wx_ok btX12_isClosed (nds := []) (fk := []) (rk := (1, [])) (sp := 0) (fuel := 3000) (by decide +kernel) (lk_c ml_12_298 S_1409 lk_n) odX12_isClosed
def ct_1411 : aCt := (mX12_dayBy, [.inr (.inl [196]), .inl [(6, 6, 1)], .inl [(0, 3, 1)], .inl aTop], ([((199, 5), [(7, 12, 1)])], []), [(some (.inl aTop), [none, none, some [(0, 3, 1)], none], [], [])], [], [], 3)
set_option maxRecDepth 100000 in
theorem S_1411 : aSpec wd ct_1411 := bChk_ok wx_ok btX12_dayBy (nds := []) (fk := []) (rk := (1, [])) (sp := 0) (fuel := 3000) (by decide +kernel) (lk_c ml_12_334 S_X12_setsOut_5 lk_n) odX12_dayBy
def ct_1412 : aCt := (mX12_goesBy, [.inr (.inl [196]), .inl [(6, 6, 1)], .inl [(0, 3, 1)], .inl [(0, 6, 1)]], ([((199, 5), [(7, 12, 1)])], []), [(none, [], [], [])], [(205, 0, 7)], [], 4)
set_option maxRecDepth 100000 in
theorem S_1412 : aSpec wd ct_1412 := bChk_ok wx_ok btX12_goesBy (nds := []) (fk := []) (rk := (1, [])) (sp := 0) (fuel := 3000) (by decide +kernel) (lk_c ml_12_346 S_1411 lk_n) odX12_goesBy
def ct_1413 : aCt := (mX12_hasBit, [.inl aTop, .inl [(7, 7, 1)]], ([((199, 4), [(1, 7, 1)]), ((199, 5), [(8, 12, 1)])], []), [(some (.inl [(0, 0, 1)]), [], [], []), (some (.inl [(1, 1, 1)]), [], [], [])], [], [], 0)
set_option maxRecDepth 100000 in
theorem S_1413 : aSpec wd ct_1413 := bChk_ok wx_ok btX12_hasBit (nds := []) (fk := []) (rk := (1, [])) (sp := 0) (fuel := 3000) (by decide +kernel) lk_n odX12_hasBit
def ct_1414 : aCt := (mX12_isClosed, [.inr (.inl [196]), .inl [(7, 7, 1)]], ([((199, 4), [(1, 7, 1)]), ((199, 5), [(8, 12, 1)])], []), [(some (.inl [(0, 0, 1)]), [], [], []), (some (.inl [(1, 1, 1)]), [], [], [])], [], [], 1)
set_option maxRecDepth 100000 in
theorem S_1414 : aSpec wd ct_1414 := bChk_ok wx_ok btX12_isClosed (nds := []) (fk := []) (rk := (1, [])) (sp := 0) (fuel := 3000) (by decide +kernel) (lk_c ml_12_298 S_1413 lk_n) odX12_isClosed
def ct_1415 : aCt := (mX12_dayBy, [.inr (.inl [196]), .inl [(7, 7, 1)], .inl [(0, 3, 1)], .inl aTop], ([((199, 5), [(8, 12, 1)])], []), [(some (.inl aTop), [none, none, some [(0, 3, 1)], none], [], [])], [], [], 3)
set_option maxRecDepth 100000 in
theorem S_1415 : aSpec wd ct_1415 := bChk_ok wx_ok btX12_dayBy (nds := []) (fk := []) (rk := (1, [])) (sp := 0) (fuel := 3000) (by decide +kernel) (lk_c ml_12_334 S_X12_setsOut_4 lk_n) odX12_dayBy
def ct_1416 : aCt := (mX12_goesBy, [.inr (.inl [196]), .inl [(7, 7, 1)], .inl [(0, 3, 1)], .inl [(0, 6, 1)]], ([((199, 5), [(8, 12, 1)])], []), [(none, [], [], [])], [(205, 0, 7)], [], 4)
set_option maxRecDepth 100000 in
theorem S_1416 : aSpec wd ct_1416 := bChk_ok wx_ok btX12_goesBy (nds := []) (fk := []) (rk := (1, [])) (sp := 0) (fuel := 3000) (by decide +kernel) (lk_c ml_12_346 S_1415 lk_n) odX12_goesBy
def ct_1417 : aCt := (mX12_hasBit, [.inl aTop, .inl [(8, 8, 1)]], ([((199, 4), [(1, 7, 1)]), ((199, 5), [(9, 12, 1)])], []), [(some (.inl [(0, 0, 1)]), [], [], []), (some (.inl [(1, 1, 1)]), [], [], [])], [], [], 0)
set_option maxRecDepth 100000 in
theorem S_1417 : aSpec wd ct_1417 := bChk_ok wx_ok btX12_hasBit (nds := []) (fk := []) (rk := (1, [])) (sp := 0) (fuel := 3000) (by decide +kernel) lk_n odX12_hasBit
def ct_1418 : aCt := (mX12_isClosed, [.inr (.inl [196]), .inl [(8, 8, 1)]], ([((199, 4), [(1, 7, 1)]), ((199, 5), [(9, 12, 1)])], []), [(some (.inl [(0, 0, 1)]), [], [], []), (some (.inl [(1, 1, 1)]), [], [], [])], [], [], 1)
set_option maxRecDepth 100000 in
theorem S_1418 : aSpec wd ct_1418 := bChk_ok wx_ok btX12_isClosed (nds := []) (fk := []) (rk := (1, [])) (sp := 0) (fuel := 3000) (by decide +kernel) (lk_c ml_12_298 S_1417 lk_n) odX12_isClosed
def ct_1419 : aCt := (mX12_dayBy, [.inr (.inl [196]), .inl [(8, 8, 1)], .inl [(0, 3, 1)], .inl aTop], ([((199, 5), [(9, 12, 1)])], []), [(some (.inl aTop), [none, none, some [(0, 3, 1)], none], [], [])], [], [], 3)
set_option maxRecDepth 100000 in
theorem S_1419 : aSpec wd ct_1419 := bChk_ok wx_ok btX12_dayBy (nds := []) (fk := []) (rk := (1, [])) (sp := 0) (fuel := 3000) (by decide +kernel) (lk_c ml_12_334 S_X12_setsOut_3 lk_n) odX12_dayBy
def ct_1420 : aCt := (mX12_goesBy, [.inr (.inl [196]), .inl [(8, 8, 1)], .inl [(0, 3, 1)], .inl [(0, 6, 1)]], ([((199, 5), [(9, 12, 1)])], []), [(none, [], [], [])], [(205, 0, 7)], [], 4)
set_option maxRecDepth 100000 in
theorem S_1420 : aSpec wd ct_1420 := bChk_ok wx_ok btX12_goesBy (nds := []) (fk := []) (rk := (1, [])) (sp := 0) (fuel := 3000) (by decide +kernel) (lk_c ml_12_346 S_1419 lk_n) odX12_goesBy
def ct_1421 : aCt := (mX12_hasBit, [.inl aTop, .inl [(9, 9, 1)]], ([((199, 4), [(1, 7, 1)]), ((199, 5), [(10, 12, 1)])], []), [(some (.inl [(0, 0, 1)]), [], [], []), (some (.inl [(1, 1, 1)]), [], [], [])], [], [], 0)
set_option maxRecDepth 100000 in
theorem S_1421 : aSpec wd ct_1421 := bChk_ok wx_ok btX12_hasBit (nds := []) (fk := []) (rk := (1, [])) (sp := 0) (fuel := 3000) (by decide +kernel) lk_n odX12_hasBit
def ct_1422 : aCt := (mX12_isClosed, [.inr (.inl [196]), .inl [(9, 9, 1)]], ([((199, 4), [(1, 7, 1)]), ((199, 5), [(10, 12, 1)])], []), [(some (.inl [(0, 0, 1)]), [], [], []), (some (.inl [(1, 1, 1)]), [], [], [])], [], [], 1)
set_option maxRecDepth 100000 in
theorem S_1422 : aSpec wd ct_1422 := bChk_ok wx_ok btX12_isClosed (nds := []) (fk := []) (rk := (1, [])) (sp := 0) (fuel := 3000) (by decide +kernel) (lk_c ml_12_298 S_1421 lk_n) odX12_isClosed
def ct_1423 : aCt := (mX12_dayBy, [.inr (.inl [196]), .inl [(9, 9, 1)], .inl [(0, 3, 1)], .inl aTop], ([((199, 5), [(10, 12, 1)])], []), [(some (.inl aTop), [none, none, some [(0, 3, 1)], none], [], [])], [], [], 3)
set_option maxRecDepth 100000 in
theorem S_1423 : aSpec wd ct_1423 := bChk_ok wx_ok btX12_dayBy (nds := []) (fk := []) (rk := (1, [])) (sp := 0) (fuel := 3000) (by decide +kernel) (lk_c ml_12_334 S_X12_setsOut_2 lk_n) odX12_dayBy
def ct_1424 : aCt := (mX12_goesBy, [.inr (.inl [196]), .inl [(9, 9, 1)], .inl [(0, 3, 1)], .inl [(0, 6, 1)]], ([((199, 5), [(10, 12, 1)])], []), [(none, [], [], [])], [(205, 0, 7)], [], 4)
set_option maxRecDepth 100000 in
theorem S_1424 : aSpec wd ct_1424 := bChk_ok wx_ok btX12_goesBy (nds := []) (fk := []) (rk := (1, [])) (sp := 0) (fuel := 3000) (by decide +kernel) (lk_c ml_12_346 S_1423 lk_n) odX12_goesBy
def ct_1425 : aCt := (mX12_hasBit, [.inl aTop, .inl [(10, 10, 1)]], ([((199, 4), [(1, 7, 1)]), ((199, 5), [(11, 12, 1)])], []), [(some (.inl [(0, 0, 1)]), [], [], []), (some (.inl [(1, 1, 1)]), [], [], [])], [], [], 0)
set_option maxRecDepth 100000 in
theorem S_1425 : aSpec wd ct_1425 := bChk_ok wx_ok btX12_hasBit (nds := []) (fk := []) (rk := (1, [])) (sp := 0) (fuel := 3000) (by decide +kernel) lk_n odX12_hasBit
def ct_1426 : aCt := (mX12_isClosed, [.inr (.inl [196]), .inl [(10, 10, 1)]], ([((199, 4), [(1, 7, 1)]), ((199, 5), [(11, 12, 1)])], []), [(some (.inl [(0, 0, 1)]), [], [], []), (some (.inl [(1, 1, 1)]), [], [], [])], [], [], 1)
set_option maxRecDepth 100000 in
theorem S_1426 : aSpec wd ct_1426 := bChk_ok wx_ok btX12_isClosed (nds := []) (fk := []) (rk := (1, [])) (sp := 0) (fuel := 3000) (by decide +kernel) (lk_c ml_12_298 S_1425 lk_n) odX12_isClosed
def ct_1427 : aCt := (mX12_dayBy, [.inr (.inl [196]), .inl [(10, 10, 1)], .inl [(0, 3, 1)], .inl aTop], ([((199, 5), [(11, 12, 1)])], []), [(some (.inl aTop), [none, none, some [(0, 3, 1)], none], [], [])], [], [], 3)
set_option maxRecDepth 100000 in
theorem S_1427 : aSpec wd ct_1427 := bChk_ok wx_ok btX12_dayBy (nds := []) (fk := []) (rk := (1, [])) (sp := 0) (fuel := 3000) (by decide +kernel) (lk_c ml_12_334 S_X12_setsOut_1 lk_n) odX12_dayBy
def ct_1428 : aCt := (mX12_goesBy, [.inr (.inl [196]), .inl [(10, 10, 1)], .inl [(0, 3, 1)], .inl [(0, 6, 1)]], ([((199, 5), [(11, 12, 1)])], []), [(none, [], [], [])], [(205, 0, 7)], [], 4)
set_option maxRecDepth 100000 in
theorem S_1428 : aSpec wd ct_1428 := bChk_ok wx_ok btX12_goesBy (nds := []) (fk := []) (rk := (1, [])) (sp := 0) (fuel := 3000) (by decide +kernel) (lk_c ml_12_346 S_1427 lk_n) odX12_goesBy
def ct_1429 : aCt := (mX12_hasBit, [.inl aTop, .inl [(11, 11, 1)]], ([((199, 4), [(1, 7, 1)]), ((199, 5), [(12, 12, 1)])], []), [(some (.inl [(0, 0, 1)]), [], [], []), (some (.inl [(1, 1, 1)]), [], [], [])], [], [], 0)
set_option maxRecDepth 100000 in
theorem S_1429 : aSpec wd ct_1429 := bChk_ok wx_ok btX12_hasBit (nds := []) (fk := []) (rk := (1, [])) (sp := 0) (fuel := 3000) (by decide +kernel) lk_n odX12_hasBit
def ct_1430 : aCt := (mX12_isClosed, [.inr (.inl [196]), .inl [(11, 11, 1)]], ([((199, 4), [(1, 7, 1)]), ((199, 5), [(12, 12, 1)])], []), [(some (.inl [(0, 0, 1)]), [], [], []), (some (.inl [(1, 1, 1)]), [], [], [])], [], [], 1)
set_option maxRecDepth 100000 in
theorem S_1430 : aSpec wd ct_1430 := bChk_ok wx_ok btX12_isClosed (nds := []) (fk := []) (rk := (1, [])) (sp := 0) (fuel := 3000) (by decide +kernel) (lk_c ml_12_298 S_1429 lk_n) odX12_isClosed
def ct_1431 : aCt := (mX12_dayBy, [.inr (.inl [196]), .inl [(11, 11, 1)], .inl [(0, 3, 1)], .inl aTop], ([((199, 5), [(12, 12, 1)])], []), [(some (.inl aTop), [none, none, some [(0, 3, 1)], none], [], [])], [], [], 3)
set_option maxRecDepth 100000 in
theorem S_1431 : aSpec wd ct_1431 := bChk_ok wx_ok btX12_dayBy (nds := []) (fk := []) (rk := (1, [])) (sp := 0) (fuel := 3000) (by decide +kernel) (lk_c ml_12_334 S_X12_setsOut_0 lk_n) odX12_dayBy
def ct_1432 : aCt := (mX12_goesBy, [.inr (.inl [196]), .inl [(11, 11, 1)], .inl [(0, 3, 1)], .inl [(0, 6, 1)]], ([((199, 5), [(12, 12, 1)])], []), [(none, [], [], [])], [(205, 0, 7)], [], 4)
set_option maxRecDepth 100000 in
theorem S_1432 : aSpec wd ct_1432 := bChk_ok wx_ok btX12_goesBy (nds := []) (fk := []) (rk := (1, [])) (sp := 0) (fuel := 3000) (by decide +kernel) (lk_c ml_12_346 S_1431 lk_n) odX12_goesBy
def lcn_1032 : Nat × aAg := ((nat_lit 5), .inl [((.negSucc (nat_lit 0)), (.ofNat (nat_lit 6)), (nat_lit 1))])
def lcn_1033 : Nat × aAg := ((nat_lit 6), .inl [((.ofNat (nat_lit 1)), (.ofNat (nat_lit 1)), (nat_lit 1))])
def sl_1034 : (Nat × Nat) × aI := (((nat_lit 199), (nat_lit 5)), [((.ofNat (nat_lit 1)), (.ofNat (nat_lit 12)), (nat_lit 1))])
def lcn_1035 : Nat × aAg := ((nat_lit 6), .inl [((.ofNat (nat_lit 2)), (.ofNat (nat_lit 2)), (nat_lit 1))])
def sl_1036 : (Nat × Nat) × aI := (((nat_lit 199), (nat_lit 5)), [((.ofNat (nat_lit 2)), (.ofNat (nat_lit 12)), (nat_lit 1))])
def lcn_1037 : Nat × aAg := ((nat_lit 6), .inl [((.ofNat (nat_lit 3)), (.ofNat (nat_lit 3)), (nat_lit 1))])
def sl_1038 : (Nat × Nat) × aI := (((nat_lit 199), (nat_lit 5)), [((.ofNat (nat_lit 3)), (.ofNat (nat_lit 12)), (nat_lit 1))])
def lcn_1039 : Nat × aAg := ((nat_lit 6), .inl [((.ofNat (nat_lit 4)), (.ofNat (nat_lit 4)), (nat_lit 1))])
def sl_1040 : (Nat × Nat) × aI := (((nat_lit 199), (nat_lit 5)), [((.ofNat (nat_lit 4)), (.ofNat (nat_lit 12)), (nat_lit 1))])
def lcn_1041 : Nat × aAg := ((nat_lit 6), .inl [((.ofNat (nat_lit 5)), (.ofNat (nat_lit 5)), (nat_lit 1))])
def sl_1042 : (Nat × Nat) × aI := (((nat_lit 199), (nat_lit 5)), [((.ofNat (nat_lit 5)), (.ofNat (nat_lit 12)), (nat_lit 1))])
def lcn_1043 : Nat × aAg := ((nat_lit 6), .inl [((.ofNat (nat_lit 6)), (.ofNat (nat_lit 6)), (nat_lit 1))])
def sl_1044 : (Nat × Nat) × aI := (((nat_lit 199), (nat_lit 5)), [((.ofNat (nat_lit 6)), (.ofNat (nat_lit 12)), (nat_lit 1))])
def lcn_1045 : Nat × aAg := ((nat_lit 6), .inl [((.ofNat (nat_lit 7)), (.ofNat (nat_lit 7)), (nat_lit 1))])
def sl_1046 : (Nat × Nat) × aI := (((nat_lit 199), (nat_lit 5)), [((.ofNat (nat_lit 7)), (.ofNat (nat_lit 12)), (nat_lit 1))])
def lcn_1047 : Nat × aAg := ((nat_lit 6), .inl [((.ofNat (nat_lit 8)), (.ofNat (nat_lit 8)), (nat_lit 1))])
def sl_1048 : (Nat × Nat) × aI := (((nat_lit 199), (nat_lit 5)), [((.ofNat (nat_lit 8)), (.ofNat (nat_lit 12)), (nat_lit 1))])
def lcn_1049 : Nat × aAg := ((nat_lit 6), .inl [((.ofNat (nat_lit 9)), (.ofNat (nat_lit 9)), (nat_lit 1))])
def sl_1050 : (Nat × Nat) × aI := (((nat_lit 199), (nat_lit 5)), [((.ofNat (nat_lit 9)), (.ofNat (nat_lit 12)), (nat_lit 1))])
def lcn_1051 : Nat × aAg := ((nat_lit 6), .inl [((.ofNat (nat_lit 10)), (.ofNat (nat_lit 10)), (nat_lit 1))])
def sl_1052 : (Nat × Nat) × aI := (((nat_lit 199), (nat_lit 5)), [((.ofNat (nat_lit 10)), (.ofNat (nat_lit 12)), (nat_lit 1))])
def lcn_1053 : Nat × aAg := ((nat_lit 6), .inl [((.ofNat (nat_lit 11)), (.ofNat (nat_lit 11)), (nat_lit 1))])
def sl_1054 : (Nat × Nat) × aI := (((nat_lit 199), (nat_lit 5)), [((.ofNat (nat_lit 11)), (.ofNat (nat_lit 12)), (nat_lit 1))])
def lcn_1055 : Nat × aAg := ((nat_lit 6), .inl [((.ofNat (nat_lit 12)), (.ofNat (nat_lit 12)), (nat_lit 1))])
def sl_1056 : (Nat × Nat) × aI := (((nat_lit 199), (nat_lit 5)), [((.ofNat (nat_lit 12)), (.ofNat (nat_lit 12)), (nat_lit 1))])
set_option maxRecDepth 100000 in
theorem btX12_layDays : bTab oX12_layDays tX12_layDays := ⟨ofX12_layDays, by decide +kernel⟩
def ct_1433 : aCt := (mX12_layDays, [.inr (.inl [196]), .inl [(0, 3, 1)], .inl [(0, 6, 1)], .inl aTop], ([], []), [(none, [], [], [])], [(205, 0, 7), (206, 0, 7)], [], 5)
set_option maxRecDepth 100000 in
theorem S_1433 : aSpec wd ct_1433 := bChk_ok wx_ok btX12_layDays (nds := [((nat_lit 3), [lcn_306, lcn_182, lcn_69, lcn_181, lcn_132], [], [], [], (183, [(3, -1)])), ((nat_lit 44), [lcn_306, lcn_182, lcn_69, lcn_181, lcn_132], [], [], [], (175, [(3, -22)])), ((nat_lit 61), [lcn_306, lcn_182, lcn_69, lcn_181, lcn_133, lcn_1032, lcn_95], [], [sl_634], [], (174, [(3, -22), (5, -1)])), ((nat_lit 144), [lcn_306, lcn_182, lcn_69, lcn_181, lcn_133, lcn_353, lcn_231], [], [sl_634], [], (166, [(3, -22)])), ((nat_lit 144), [lcn_306, lcn_182, lcn_69, lcn_181, lcn_133, lcn_353, lcn_1033], [], [sl_634, sl_1034], [], (165, [(3, -22)])), ((nat_lit 144), [lcn_306, lcn_182, lcn_69, lcn_181, lcn_133, lcn_353, lcn_1035], [], [sl_634, sl_1036], [], (164, [(3, -22)])), ((nat_lit 144), [lcn_306, lcn_182, lcn_69, lcn_181, lcn_133, lcn_353, lcn_1037], [], [sl_634, sl_1038], [], (163, [(3, -22)])), ((nat_lit 144), [lcn_306, lcn_182, lcn_69, lcn_181, lcn_133, lcn_353, lcn_1039], [], [sl_634, sl_1040], [], (162, [(3, -22)])), ((nat_lit 144), [lcn_306, lcn_182, lcn_69, lcn_181, lcn_133, lcn_353, lcn_1041], [], [sl_634, sl_1042], [], (161, [(3, -22)])), ((nat_lit 144), [lcn_306, lcn_182, lcn_69, lcn_181, lcn_133, lcn_353, lcn_1043], [], [sl_634, sl_1044], [], (160, [(3, -22)])), ((nat_lit 144), [lcn_306, lcn_182, lcn_69, lcn_181, lcn_133, lcn_353, lcn_1045], [], [sl_634, sl_1046], [], (159, [(3, -22)])), ((nat_lit 144), [lcn_306, lcn_182, lcn_69, lcn_181, lcn_133, lcn_353, lcn_1047], [], [sl_634, sl_1048], [], (158, [(3, -22)])), ((nat_lit 144), [lcn_306, lcn_182, lcn_69, lcn_181, lcn_133, lcn_353, lcn_1049], [], [sl_634, sl_1050], [], (157, [(3, -22)])), ((nat_lit 144), [lcn_306, lcn_182, lcn_69, lcn_181, lcn_133, lcn_353, lcn_1051], [], [sl_634, sl_1052], [], (156, [(3, -22)])), ((nat_lit 144), [lcn_306, lcn_182, lcn_69, lcn_181, lcn_133, lcn_353, lcn_1053], [], [sl_634, sl_1054], [], (155, [(3, -22)])), ((nat_lit 144), [lcn_306, lcn_182, lcn_69, lcn_181, lcn_133, lcn_353, lcn_1055], [], [sl_634, sl_1056], [], (154, [(3, -22)]))]) (fk := []) (rk := (184, [])) (sp := 22300745198530623141535720578508962905718792) (fuel := 3000) (by decide +kernel) (lk_c ml_12_302 S_1430 (lk_c ml_12_302 S_1426 (lk_c ml_12_302 S_1422 (lk_c ml_12_302 S_1418 (lk_c ml_12_302 S_1414 (lk_c ml_12_302 S_1410 (lk_c ml_12_302 S_1406 (lk_c ml_12_302 S_1402 (lk_c ml_12_302 S_1398 (lk_c ml_12_302 S_1394 (lk_c ml_12_302 S_1390 (lk_c ml_12_302 S_1386 (lk_c ml_12_342 S_1432 (lk_c ml_12_342 S_1428 (lk_c ml_12_342 S_1424 (lk_c ml_12_342 S_1420 (lk_c ml_12_342 S_1416 (lk_c ml_12_342 S_1412 (lk_c ml_12_342 S_1408 (lk_c ml_12_342 S_1404 (lk_c ml_12_342 S_1400 (lk_c ml_12_342 S_1396 (lk_c ml_12_342 S_1392 (lk_c ml_12_342 S_1388 lk_n)))))))))))))))))))))))) odX12_layDays
end Pk2
section Pk3
set_option maxRecDepth 100000 in
theorem btX12_arrivalOf : bTab oX12_arrivalOf tX12_arrivalOf := ⟨ofX12_arrivalOf, by decide +kernel⟩
def ct_1434 : aCt := (mX12_arrivalOf, [.inr (.inl [196]), .inl [(0, 3, 1)], .inl [(0, 6, 1)], .inl [(0, 6, 1)], .inl aTop], ([], []), [(some (.inl aTop), [], [], []), (some (.inl [(-2, -2, 1)]), [], [], [])], [(205, 0, 7), (206, 0, 7)], [], 6)
set_option maxRecDepth 100000 in
theorem S_1434 : aSpec wd ct_1434 := bChk_ok wx_ok btX12_arrivalOf (nds := []) (fk := []) (rk := (1, [])) (sp := 0) (fuel := 3000) (by decide +kernel) (lk_c ml_12_349 S_1433 lk_n) odX12_arrivalOf
set_option maxRecDepth 100000 in
theorem btX12_arrival : bTab oX12_arrival tX12_arrival := ⟨ofX12_arrival, by decide +kernel⟩
def ct_1435 : aCt := (mX12_arrival, [.inr (.inl [196]), .inl aTop, .inl aTop, .inl aTop, .inl aTop], ([], []), [(some (.inl aTop), [none, some [(0, 4, 1)], some [(0, 6, 1)], some [(0, 6, 1)], some [(0, 9999, 1)]], [((196, 11), [(0, 0, 1)]), ((196, 14), [(1, 1, 1)]), ((199, 0), [(2, 4, 1)]), ((199, 4), [(1, 7, 1)]), ((199, 6), [(1, 5, 1)])], []), (some (.inl [(-1, -1, 1)]), [], [((196, 11), [(1, 2, 1)])], []), (some (.inl [(-2, -2, 1)]), [none, some [(0, 4, 1)], some [(0, 6, 1)], some [(0, 6, 1)], some [(0, 9999, 1)]], [((196, 11), [(0, 0, 1)]), ((196, 14), [(1, 1, 1)]), ((199, 0), [(2, 4, 1)]), ((199, 4), [(1, 7, 1)]), ((199, 6), [(1, 5, 1)])], [])], [(196, 0, 1), (196, 11, 12), (205, 0, 7), (206, 0, 7)], [], 7)
set_option maxRecDepth 100000 in
theorem S_1435 : aSpec wd ct_1435 := bChk_ok wx_ok btX12_arrival (nds := []) (fk := []) (rk := (1, [])) (sp := 0) (fuel := 3000) (by decide +kernel) (lk_c ml_12_167 S_651 (lk_c ml_12_170 S_653 (lk_c ml_12_170 S_1112 (lk_c ml_12_271 S_1110 (lk_c ml_12_277 S_1384 (lk_c ml_12_268 S_1108 (lk_c ml_12_149 S_929 (lk_c ml_12_352 S_1434 lk_n)))))))) odX12_arrival
def ct_1436 : aCt := (mX12_isBox, [.inr (.inl [196]), .inl aTop], ([((196, 14), [(1, 1, 1)]), ((199, 0), [(2, 4, 1)]), ((199, 4), [(1, 7, 1)]), ((199, 6), [(1, 5, 1)])], []), [(some (.inl [(0, 0, 1)]), [], [], []), (some (.inl [(1, 1, 1)]), [none, some [(0, 7, 1)]], [((199, 7), [(1, 8, 1)])], [])], [], [], 1)
set_option maxRecDepth 100000 in
theorem S_1436 : aSpec wd ct_1436 := bChk_ok wx_ok btX12_isBox (nds := []) (fk := []) (rk := (1, [])) (sp := 0) (fuel := 3000) (by decide +kernel) (lk_c ml_12_149 S_1114 lk_n) odX12_isBox
def ct_1437 : aCt := (mX12_ofWhale, [.inr (.inl [196]), .inl [(0, 4, 1)], .inl [(0, 0, 1)]], ([((199, 0), [(2, 4, 1)]), ((199, 4), [(1, 7, 1)]), ((199, 6), [(1, 5, 1)]), ((199, 7), [(1, 8, 1)])], []), [(some (.inl [(0, 3, 1)]), [], [], [])], [], [], 0)
set_option maxRecDepth 100000 in
theorem S_1437 : aSpec wd ct_1437 := bChk_ok wx_ok btX12_ofWhale (nds := []) (fk := []) (rk := (1, [])) (sp := 0) (fuel := 3000) (by decide +kernel) lk_n odX12_ofWhale
def ct_1438 : aCt := (mX12_heardNow, [.inr (.inl [196]), .inl [(0, 7, 1)]], ([((199, 0), [(2, 4, 1)]), ((199, 4), [(1, 7, 1)]), ((199, 6), [(1, 5, 1)]), ((199, 7), [(1, 8, 1)])], []), [(some (.inl [(-2, -2, 1), (0, 6, 1)]), [], [], []), (some (.inl [(-2, -2, 1)]), [], [], [])], [], [], 4)
set_option maxRecDepth 100000 in
theorem S_1438 : aSpec wd ct_1438 := bChk_ok wx_ok btX12_heardNow (nds := []) (fk := []) (rk := (1, [])) (sp := 0) (fuel := 3000) (by decide +kernel) (lk_c ml_12_291 S_1155 lk_n) odX12_heardNow
def ct_1439 : aCt := (mX12_ofBox, [.inr (.inl [196]), .inl [(0, 7, 1)], .inl [(2, 2, 1)]], ([((199, 0), [(2, 4, 1)]), ((199, 4), [(1, 7, 1)]), ((199, 6), [(1, 5, 1)]), ((199, 7), [(1, 8, 1)])], []), [(some (.inl aTop), [], [], [])], [], [], 0)
set_option maxRecDepth 100000 in
theorem S_1439 : aSpec wd ct_1439 := bChk_ok wx_ok btX12_ofBox (nds := []) (fk := []) (rk := (1, [])) (sp := 0) (fuel := 3000) (by decide +kernel) lk_n odX12_ofBox
def ct_1440 : aCt := (mX12_ofBox, [.inr (.inl [196]), .inl [(0, 7, 1)], .inl [(0, 0, 1)]], ([((199, 0), [(2, 4, 1)]), ((199, 4), [(1, 7, 1)]), ((199, 6), [(1, 5, 1)]), ((199, 7), [(1, 8, 1)])], []), [(some (.inl [(0, 6, 1)]), [], [], [])], [], [], 0)
set_option maxRecDepth 100000 in
theorem S_1440 : aSpec wd ct_1440 := bChk_ok wx_ok btX12_ofBox (nds := []) (fk := []) (rk := (1, [])) (sp := 0) (fuel := 3000) (by decide +kernel) lk_n odX12_ofBox
def ct_1441 : aCt := (mX12_ofBox, [.inr (.inl [196]), .inl [(0, 7, 1)], .inl [(3, 3, 1)]], ([((199, 0), [(2, 4, 1)]), ((199, 4), [(1, 7, 1)]), ((199, 6), [(1, 5, 1)]), ((199, 7), [(1, 8, 1)])], []), [(some (.inl aTop), [], [], [])], [], [], 0)
set_option maxRecDepth 100000 in
theorem S_1441 : aSpec wd ct_1441 := bChk_ok wx_ok btX12_ofBox (nds := []) (fk := []) (rk := (1, [])) (sp := 0) (fuel := 3000) (by decide +kernel) lk_n odX12_ofBox
set_option maxRecDepth 100000 in
theorem btX12_later : bTab oX12_later tX12_later := ⟨ofX12_later, by decide +kernel⟩
def ct_1442 : aCt := (mX12_later, [.inl [(0, 2147483647, 1)], .inl aTop], ([((199, 0), [(2, 4, 1)]), ((199, 4), [(1, 7, 1)]), ((199, 6), [(1, 5, 1)]), ((199, 7), [(1, 8, 1)])], []), [(some (.inl [(0, 2147483647, 1)]), [none, some aTop], [], [])], [], [], 0)
set_option maxRecDepth 100000 in
theorem S_1442 : aSpec wd ct_1442 := bChk_ok wx_ok btX12_later (nds := []) (fk := []) (rk := (1, [])) (sp := 0) (fuel := 3000) (by decide +kernel) lk_n odX12_later
set_option maxRecDepth 100000 in
theorem btX12_lays : bTab oX12_lays tX12_lays := ⟨ofX12_lays, by decide +kernel⟩
def ct_1443 : aCt := (mX12_lays, [.inr (.inl [196]), .inl [(0, 4, 1)], .inl [(0, 7, 1)]], ([((199, 0), [(2, 4, 1)]), ((199, 4), [(1, 7, 1)]), ((199, 6), [(1, 5, 1)]), ((199, 7), [(1, 8, 1)])], []), [(some (.inl [(0, 0, 1)]), [], [], []), (some (.inl [(1, 1, 1)]), [], [], [])], [(196, 26, 28), (205, 0, 7), (206, 0, 7)], [], 7)
set_option maxRecDepth 100000 in
theorem S_1443 : aSpec wd ct_1443 := bChk_ok wx_ok btX12_lays (nds := []) (fk := []) (rk := (1, [])) (sp := 0) (fuel := 3000) (by decide +kernel) (lk_c ml_12_271 S_1437 (lk_c ml_12_295 S_1438 (lk_c ml_12_262 S_1439 (lk_c ml_12_262 S_1440 (lk_c ml_12_262 S_1441 (lk_c ml_12_352 S_1434 (lk_c ml_12_355 S_1442 lk_n))))))) odX12_lays
def ct_1444 : aCt := (mX12_ofWhale, [.inr (.inl [196]), .inl [(0, 4, 1)], .inl [(2, 2, 1)]], ([((199, 0), [(2, 4, 1)]), ((199, 4), [(1, 7, 1)]), ((199, 6), [(1, 5, 1)]), ((199, 7), [(1, 8, 1)])], []), [(some (.inl aTop), [], [], [])], [], [], 0)
set_option maxRecDepth 100000 in
theorem S_1444 : aSpec wd ct_1444 := bChk_ok wx_ok btX12_ofWhale (nds := []) (fk := []) (rk := (1, [])) (sp := 0) (fuel := 3000) (by decide +kernel) lk_n odX12_ofWhale
set_option maxRecDepth 100000 in
theorem btX12_bringsOf : bTab oX12_bringsOf tX12_bringsOf := ⟨ofX12_bringsOf, by decide +kernel⟩
def ct_1445 : aCt := (mX12_bringsOf, [.inr (.inl [196]), .inl [(0, 4, 1)], .inl [(0, 7, 1)]], ([((199, 0), [(2, 4, 1)]), ((199, 4), [(1, 7, 1)]), ((199, 6), [(1, 5, 1)]), ((199, 7), [(1, 8, 1)])], []), [(some (.inl aTop), [], [], []), (some (.inl [(-2, -2, 1)]), [], [], [])], [(196, 26, 28), (205, 0, 7), (206, 0, 7)], [], 8)
set_option maxRecDepth 100000 in
theorem S_1445 : aSpec wd ct_1445 := bChk_ok wx_ok btX12_bringsOf (nds := []) (fk := []) (rk := (1, [])) (sp := 0) (fuel := 3000) (by decide +kernel) (lk_c ml_12_271 S_1444 (lk_c ml_12_364 S_1443 lk_n)) odX12_bringsOf
set_option maxRecDepth 100000 in
theorem btX12_brings : bTab oX12_brings tX12_brings := ⟨ofX12_brings, by decide +kernel⟩
def ct_1446 : aCt := (mX12_brings, [.inr (.inl [196]), .inl aTop, .inl aTop], ([], []), [(some (.inl aTop), [none, some [(0, 4, 1)], some [(0, 7, 1)]], [((196, 11), [(0, 0, 1)]), ((196, 14), [(1, 1, 1)]), ((199, 0), [(2, 4, 1)]), ((199, 4), [(1, 7, 1)]), ((199, 6), [(1, 5, 1)]), ((199, 7), [(1, 8, 1)])], []), (some (.inl [(-1, -1, 1)]), [], [((196, 11), [(1, 1, 1)])], []), (some (.inl [(-2, -2, 1)]), [none, some [(0, 4, 1)], some [(0, 7, 1)]], [((196, 11), [(0, 0, 1)]), ((196, 14), [(1, 1, 1)]), ((199, 0), [(2, 4, 1)]), ((199, 4), [(1, 7, 1)]), ((199, 6), [(1, 5, 1)]), ((199, 7), [(1, 8, 1)])], [])], [(196, 0, 1), (196, 11, 12), (196, 26, 28), (205, 0, 7), (206, 0, 7)], [], 9)
set_option maxRecDepth 100000 in
theorem S_1446 : aSpec wd ct_1446 := bChk_ok wx_ok btX12_brings (nds := []) (fk := []) (rk := (1, [])) (sp := 0) (fuel := 3000) (by decide +kernel) (lk_c ml_12_167 S_651 (lk_c ml_12_170 S_1112 (lk_c ml_12_367 S_1445 (lk_c ml_12_274 S_1436 (lk_c ml_12_268 S_1108 lk_n))))) odX12_brings
set_option maxRecDepth 100000 in
theorem btX12_soonest : bTab oX12_soonest tX12_soonest := ⟨ofX12_soonest, by decide +kernel⟩
def ct_1447 : aCt := (mX12_soonest, [.inr (.inl [196]), .inl aTop], ([], []), [(some (.inl [(-2, -2, 1), (0, 4, 1)]), [], [((196, 11), [(0, 0, 1)]), ((196, 14), [(1, 1, 1)]), ((199, 0), [(2, 4, 1)]), ((199, 4), [(1, 7, 1)]), ((199, 7), [(1, 8, 1)])], []), (some (.inl [(-1, -1, 1)]), [], [((196, 11), [(1, 1, 1)])], [])], [(196, 0, 1), (196, 11, 12), (196, 26, 28), (205, 0, 7), (206, 0, 7)], [], 9)
set_option maxRecDepth 100000 in
theorem S_1447 : aSpec wd ct_1447 := bChk_ok wx_ok btX12_soonest (nds := [((nat_lit 23), [lcn_306, lcn_187, lcn_189, lcn_121], [], [sl_632, sl_1002, sl_633, sl_634, sl_1031], [], (5, [(2, -1)]))]) (fk := []) (rk := (6, [])) (sp := 8388608) (fuel := 3000) (by decide +kernel) (lk_c ml_12_167 S_651 (lk_c ml_12_170 S_1112 (lk_c ml_12_367 S_1445 (lk_c ml_12_274 S_1115 lk_n)))) odX12_soonest
def ct_1448 : aCt := (mX12_ofWhale, [.inr (.inl [196]), .inl [(0, 4, 1)], .inl [(3, 3, 1)]], ([((199, 0), [(2, 4, 1)]), ((199, 4), [(1, 7, 1)]), ((199, 6), [(1, 5, 1)]), ((199, 7), [(1, 8, 1)])], []), [(some (.inl aTop), [], [], [])], [], [], 0)
set_option maxRecDepth 100000 in
theorem S_1448 : aSpec wd ct_1448 := bChk_ok wx_ok btX12_ofWhale (nds := []) (fk := []) (rk := (1, [])) (sp := 0) (fuel := 3000) (by decide +kernel) lk_n odX12_ofWhale
def lcn_1057 : Nat × aAg := ((nat_lit 2), .inl [((.negSucc (nat_lit 0)), (.negSucc (nat_lit 0)), (nat_lit 1))])
set_option maxRecDepth 100000 in
theorem btX12_surestBut : bTab oX12_surestBut tX12_surestBut := ⟨ofX12_surestBut, by decide +kernel⟩
def ct_1449 : aCt := (mX12_surestBut, [.inr (.inl [196]), .inl [(0, 7, 1)], .inl [(-1, -1, 1)]], ([((199, 0), [(2, 4, 1)]), ((199, 4), [(1, 7, 1)]), ((199, 7), [(1, 8, 1)])], []), [(some (.inl [(-2, -2, 1), (0, 4, 1)]), [], [], [])], [(196, 26, 28), (205, 0, 7), (206, 0, 7)], [], 9)
set_option maxRecDepth 100000 in
theorem S_1449 : aSpec wd ct_1449 := bChk_ok wx_ok btX12_surestBut (nds := [((nat_lit 6), [lcn_306, lcn_187, lcn_1057, lcn_206, lcn_134], [], [sl_633, sl_634, sl_1031], [], (5, [(2, -1)]))]) (fk := []) (rk := (6, [])) (sp := 64) (fuel := 3000) (by decide +kernel) (lk_c ml_12_271 S_1448 (lk_c ml_12_367 S_1445 lk_n)) odX12_surestBut
set_option maxRecDepth 100000 in
theorem btX12_surest : bTab oX12_surest tX12_surest := ⟨ofX12_surest, by decide +kernel⟩
def ct_1450 : aCt := (mX12_surest, [.inr (.inl [196]), .inl aTop], ([], []), [(some (.inl [(-2, -2, 1), (0, 4, 1)]), [none, some [(0, 7, 1)]], [((196, 11), [(0, 0, 1)]), ((196, 14), [(1, 1, 1)]), ((199, 0), [(2, 4, 1)]), ((199, 4), [(1, 7, 1)]), ((199, 7), [(1, 8, 1)])], []), (some (.inl [(-1, -1, 1)]), [], [((196, 11), [(1, 1, 1)])], [])], [(196, 0, 1), (196, 11, 12), (196, 26, 28), (205, 0, 7), (206, 0, 7)], [], 10)
set_option maxRecDepth 100000 in
theorem S_1450 : aSpec wd ct_1450 := bChk_ok wx_ok btX12_surest (nds := []) (fk := []) (rk := (1, [])) (sp := 0) (fuel := 3000) (by decide +kernel) (lk_c ml_12_167 S_651 (lk_c ml_12_170 S_1112 (lk_c ml_12_370 S_1449 (lk_c ml_12_274 S_1115 lk_n)))) odX12_surest
def ct_1451 : aCt := (mX12_in, [.inl [(-2, -2, 1)], .inl [(0, 0, 1)], .inl [(0, 99999, 1)]], ([], []), [(some (.inl [(0, 0, 1)]), [], [], [])], [(1000002, 0, 0)], [], 0)
set_option maxRecDepth 100000 in
theorem S_1451 : aSpec wd ct_1451 := bChk_ok wx_ok btX12_in (nds := []) (fk := []) (rk := (1, [])) (sp := 0) (fuel := 3000) (by decide +kernel) lk_n odX12_in
def ct_1452 : aCt := (mX12_in, [.inl aTop, .inl [(0, 0, 1)], .inl [(0, 99999, 1)]], ([], []), [(some (.inl [(0, 0, 1)]), [some [(-2147483648, -1, 1), (1, 2147483647, 1)], none, none], [], []), (some (.inl [(1, 1, 1)]), [some [(0, 99999, 1)], none, none], [], [])], [(1000002, 0, 0)], [], 0)
set_option maxRecDepth 100000 in
theorem S_1452 : aSpec wd ct_1452 := bChk_ok wx_ok btX12_in (nds := []) (fk := []) (rk := (1, [])) (sp := 0) (fuel := 3000) (by decide +kernel) lk_n odX12_in
set_option maxRecDepth 100000 in
theorem btX12_by : bTab oX12_by tX12_by := ⟨ofX12_by, by decide +kernel⟩
def ct_1453 : aCt := (mX12_by, [.inr (.inl [196]), .inl aTop, .inl aTop], ([], []), [(some (.inl [(0, 31, 1)]), [], [((196, 11), [(0, 0, 1)]), ((196, 14), [(1, 1, 1)]), ((199, 0), [(2, 4, 1)]), ((199, 4), [(1, 7, 1)]), ((199, 7), [(1, 8, 1)])], []), (some (.inl [(-1, -1, 1)]), [], [((196, 11), [(1, 2, 1)])], [])], [(196, 0, 1), (196, 11, 12), (196, 26, 28), (205, 0, 7), (206, 0, 7)], [], 9)
set_option maxRecDepth 100000 in
theorem S_1453 : aSpec wd ct_1453 := bChk_ok wx_ok btX12_by (nds := [((nat_lit 40), [lcn_306, lcn_187, lcn_211, lcn_212, lcn_134], [], [sl_632, sl_1002, sl_633, sl_634, sl_1031], [], (5, [(3, -1)]))]) (fk := []) (rk := (6, [])) (sp := 1099511627776) (fuel := 3000) (by decide +kernel) (lk_c ml_12_167 S_651 (lk_c ml_12_170 S_653 (lk_c ml_12_170 S_1112 (lk_c ml_12_367 S_1445 (lk_c ml_12_149 S_1451 (lk_c ml_12_274 S_1115 (lk_c ml_12_149 S_1164 (lk_c ml_12_149 S_1452 lk_n)))))))) odX12_by
def ct_1454 : aCt := (mX12_no, [.inr (.inl [196]), .inl [(6, 6, 1)]], ([((196, 11), [(0, 0, 1)])], []), [(some (.inl [(-1, -1, 1)]), [], [((196, 11), [(6, 6, 1)])], [])], [(196, 11, 12)], [], 0)
set_option maxRecDepth 100000 in
theorem S_1454 : aSpec wd ct_1454 := bChk_ok wx_ok btX12_no (nds := []) (fk := []) (rk := (1, [])) (sp := 0) (fuel := 3000) (by decide +kernel) lk_n odX12_no
def ct_1455 : aCt := (mX12_surestBut, [.inr (.inl [196]), .inl [(0, 7, 1)], .inl [(0, 4, 1)]], ([((199, 0), [(2, 4, 1)]), ((199, 4), [(1, 7, 1)]), ((199, 7), [(1, 8, 1)])], []), [(some (.inl [(-2, -2, 1), (0, 4, 1)]), [], [], [])], [(196, 26, 28), (205, 0, 7), (206, 0, 7)], [], 9)
set_option maxRecDepth 100000 in
theorem S_1455 : aSpec wd ct_1455 := bChk_ok wx_ok btX12_surestBut (nds := [((nat_lit 6), [lcn_306, lcn_187, lcn_214, lcn_206, lcn_134], [], [sl_633, sl_634, sl_1031], [], (5, [(3, -1)]))]) (fk := []) (rk := (6, [])) (sp := 64) (fuel := 3000) (by decide +kernel) (lk_c ml_12_271 S_1448 (lk_c ml_12_367 S_1445 lk_n)) odX12_surestBut
def ct_1456 : aCt := (mX12_ofWhale, [.inr (.inl [196]), .inl [(0, 4, 1)], .inl [(3, 3, 1)]], ([((199, 0), [(2, 4, 1)]), ((199, 4), [(1, 7, 1)]), ((199, 7), [(1, 8, 1)])], []), [(some (.inl aTop), [], [], [])], [], [], 0)
set_option maxRecDepth 100000 in
theorem S_1456 : aSpec wd ct_1456 := bChk_ok wx_ok btX12_ofWhale (nds := []) (fk := []) (rk := (1, [])) (sp := 0) (fuel := 3000) (by decide +kernel) lk_n odX12_ofWhale
set_option maxRecDepth 100000 in
theorem btX12_registered : bTab oX12_registered tX12_registered := ⟨ofX12_registered, by decide +kernel⟩
def ct_1457 : aCt := (mX12_registered, [.inr (.inl [196]), .inl aTop, .inl [(0, 1, 1)]], ([], []), [(some (.inr ()), [], [((196, 11), [(0, 1, 1), (6, 6, 1)])], [])], [(196, 0, 1), (196, 11, 12), (196, 26, 28), (205, 0, 7), (206, 0, 7)], [], 10)
set_option maxRecDepth 100000 in
theorem S_1457 : aSpec wd ct_1457 := bChk_ok wx_ok btX12_registered (nds := []) (fk := []) (rk := (1, [])) (sp := 0) (fuel := 3000) (by decide +kernel) (lk_c ml_12_167 S_651 (lk_c ml_12_170 S_1454 (lk_c ml_12_170 S_1112 (lk_c ml_12_375 S_X12_lowest_0 (lk_c ml_12_271 S_1456 (lk_c ml_12_370 S_1449 (lk_c ml_12_370 S_1455 (lk_c ml_12_274 S_1115 lk_n)))))))) odX12_registered
def ct_1458 : aCt := (mX12_hasBit, [.inl [(0, 31, 1)], .inl [(0, 4, 1)]], ([((199, 6), [(1, 5, 1)]), ((199, 7), [(1, 8, 1)])], []), [(some (.inl [(0, 0, 1)]), [], [], []), (some (.inl [(1, 1, 1)]), [], [], [])], [], [], 0)
set_option maxRecDepth 100000 in
theorem S_1458 : aSpec wd ct_1458 := bChk_ok wx_ok btX12_hasBit (nds := []) (fk := []) (rk := (1, [])) (sp := 0) (fuel := 3000) (by decide +kernel) lk_n odX12_hasBit
def ct_1459 : aCt := (mX12_hasBit, [.inl [(0, 31, 1)], .inl [(0, 4, 1)]], ([((199, 6), [(1, 5, 1)]), ((199, 7), [(2, 8, 1)])], []), [(some (.inl [(0, 0, 1)]), [], [], []), (some (.inl [(1, 1, 1)]), [], [], [])], [], [], 0)
set_option maxRecDepth 100000 in
theorem S_1459 : aSpec wd ct_1459 := bChk_ok wx_ok btX12_hasBit (nds := []) (fk := []) (rk := (1, [])) (sp := 0) (fuel := 3000) (by decide +kernel) lk_n odX12_hasBit
def ct_1460 : aCt := (mX12_hasBit, [.inl [(0, 31, 1)], .inl [(0, 4, 1)]], ([((199, 6), [(1, 5, 1)]), ((199, 7), [(3, 8, 1)])], []), [(some (.inl [(0, 0, 1)]), [], [], []), (some (.inl [(1, 1, 1)]), [], [], [])], [], [], 0)
set_option maxRecDepth 100000 in
theorem S_1460 : aSpec wd ct_1460 := bChk_ok wx_ok btX12_hasBit (nds := []) (fk := []) (rk := (1, [])) (sp := 0) (fuel := 3000) (by decide +kernel) lk_n odX12_hasBit
def ct_1461 : aCt := (mX12_hasBit, [.inl [(0, 31, 1)], .inl [(0, 4, 1)]], ([((199, 6), [(1, 5, 1)]), ((199, 7), [(4, 8, 1)])], []), [(some (.inl [(0, 0, 1)]), [], [], []), (some (.inl [(1, 1, 1)]), [], [], [])], [], [], 0)
set_option maxRecDepth 100000 in
theorem S_1461 : aSpec wd ct_1461 := bChk_ok wx_ok btX12_hasBit (nds := []) (fk := []) (rk := (1, [])) (sp := 0) (fuel := 3000) (by decide +kernel) lk_n odX12_hasBit
def ct_1462 : aCt := (mX12_hasBit, [.inl [(0, 31, 1)], .inl [(0, 4, 1)]], ([((199, 6), [(1, 5, 1)]), ((199, 7), [(5, 8, 1)])], []), [(some (.inl [(0, 0, 1)]), [], [], []), (some (.inl [(1, 1, 1)]), [], [], [])], [], [], 0)
set_option maxRecDepth 100000 in
theorem S_1462 : aSpec wd ct_1462 := bChk_ok wx_ok btX12_hasBit (nds := []) (fk := []) (rk := (1, [])) (sp := 0) (fuel := 3000) (by decide +kernel) lk_n odX12_hasBit
def ct_1463 : aCt := (mX12_hasBit, [.inl [(0, 31, 1)], .inl [(0, 4, 1)]], ([((199, 6), [(1, 5, 1)]), ((199, 7), [(6, 8, 1)])], []), [(some (.inl [(0, 0, 1)]), [], [], []), (some (.inl [(1, 1, 1)]), [], [], [])], [], [], 0)
set_option maxRecDepth 100000 in
theorem S_1463 : aSpec wd ct_1463 := bChk_ok wx_ok btX12_hasBit (nds := []) (fk := []) (rk := (1, [])) (sp := 0) (fuel := 3000) (by decide +kernel) lk_n odX12_hasBit
def ct_1464 : aCt := (mX12_hasBit, [.inl [(0, 31, 1)], .inl [(0, 4, 1)]], ([((199, 6), [(1, 5, 1)]), ((199, 7), [(7, 8, 1)])], []), [(some (.inl [(0, 0, 1)]), [], [], []), (some (.inl [(1, 1, 1)]), [], [], [])], [], [], 0)
set_option maxRecDepth 100000 in
theorem S_1464 : aSpec wd ct_1464 := bChk_ok wx_ok btX12_hasBit (nds := []) (fk := []) (rk := (1, [])) (sp := 0) (fuel := 3000) (by decide +kernel) lk_n odX12_hasBit
def ct_1465 : aCt := (mX12_hasBit, [.inl [(0, 31, 1)], .inl [(0, 4, 1)]], ([((199, 6), [(1, 5, 1)]), ((199, 7), [(8, 8, 1)])], []), [(some (.inl [(0, 0, 1)]), [], [], []), (some (.inl [(1, 1, 1)]), [], [], [])], [], [], 0)
set_option maxRecDepth 100000 in
theorem S_1465 : aSpec wd ct_1465 := bChk_ok wx_ok btX12_hasBit (nds := []) (fk := []) (rk := (1, [])) (sp := 0) (fuel := 3000) (by decide +kernel) lk_n odX12_hasBit
set_option maxRecDepth 100000 in
theorem btX12_tryMatch : bTab oX12_tryMatch tX12_tryMatch := ⟨ofX12_tryMatch, by decide +kernel⟩
def ct_1466 : aCt := (mX12_tryMatch, [.inr (.inl [196]), .inl [(8, 8, 1)], .inl [(0, 31, 1)], .inl aTop, .inl aTop], ([((199, 7), [(8, 8, 1)])], []), [(none, [], [], [])], [(196, 31, 33), (208, 0, 8)], [], 2)
set_option maxRecDepth 100000 in
theorem S_1466 : aSpec wd ct_1466 := bChk_ok wx_ok btX12_tryMatch (nds := []) (fk := []) (rk := (1, [])) (sp := 0) (fuel := 3000) (by decide +kernel) (lk_c ml_12_176 S_X12_copy_24 lk_n) odX12_tryMatch
def lcn_1058 : Nat × aAg := ((nat_lit 2), .inl [((.ofNat (nat_lit 0)), (.ofNat (nat_lit 31)), (nat_lit 1))])
def sl_1059 : (Nat × Nat) × aI := (((nat_lit 199), (nat_lit 7)), [((.ofNat (nat_lit 8)), (.ofNat (nat_lit 8)), (nat_lit 1))])
def ct_1467 : aCt := (mX12_tryMatch, [.inr (.inl [196]), .inl [(7, 7, 1)], .inl [(0, 31, 1)], .inl aTop, .inl aTop], ([((199, 7), [(7, 8, 1)])], []), [(none, [], [], [])], [(196, 31, 33), (207, 7, 8), (208, 0, 8)], [], 3)
set_option maxRecDepth 100000 in
theorem S_1467 : aSpec wd ct_1467 := bChk_ok wx_ok btX12_tryMatch (nds := [((nat_lit 66), [lcn_306, lcn_320, lcn_1058, lcn_181, lcn_88, lcn_372], [], [sl_1059], [], (5, [(3, -1)]))]) (fk := []) (rk := (6, [])) (sp := 73786976294838206464) (fuel := 3000) (by decide +kernel) (lk_c ml_12_176 S_X12_copy_23 (lk_c ml_12_298 S_1465 (lk_c ml_12_385 S_1466 lk_n))) odX12_tryMatch
def sl_1060 : (Nat × Nat) × aI := (((nat_lit 199), (nat_lit 7)), [((.ofNat (nat_lit 7)), (.ofNat (nat_lit 8)), (nat_lit 1))])
def ct_1468 : aCt := (mX12_tryMatch, [.inr (.inl [196]), .inl [(6, 6, 1)], .inl [(0, 31, 1)], .inl aTop, .inl aTop], ([((199, 7), [(6, 8, 1)])], []), [(none, [], [], [])], [(196, 31, 33), (207, 6, 8), (208, 0, 8)], [], 4)
set_option maxRecDepth 100000 in
theorem S_1468 : aSpec wd ct_1468 := bChk_ok wx_ok btX12_tryMatch (nds := [((nat_lit 66), [lcn_306, lcn_319, lcn_1058, lcn_181, lcn_88, lcn_372], [], [sl_1060], [], (5, [(3, -1)]))]) (fk := []) (rk := (6, [])) (sp := 73786976294838206464) (fuel := 3000) (by decide +kernel) (lk_c ml_12_176 S_X12_copy_22 (lk_c ml_12_298 S_1464 (lk_c ml_12_385 S_1467 lk_n))) odX12_tryMatch
def sl_1061 : (Nat × Nat) × aI := (((nat_lit 199), (nat_lit 7)), [((.ofNat (nat_lit 6)), (.ofNat (nat_lit 8)), (nat_lit 1))])
def ct_1469 : aCt := (mX12_tryMatch, [.inr (.inl [196]), .inl [(5, 5, 1)], .inl [(0, 31, 1)], .inl aTop, .inl aTop], ([((199, 7), [(5, 8, 1)])], []), [(none, [], [], [])], [(196, 31, 33), (207, 5, 8), (208, 0, 8)], [], 5)
set_option maxRecDepth 100000 in
theorem S_1469 : aSpec wd ct_1469 := bChk_ok wx_ok btX12_tryMatch (nds := [((nat_lit 66), [lcn_306, lcn_318, lcn_1058, lcn_181, lcn_88, lcn_372], [], [sl_1061], [], (5, [(3, -1)]))]) (fk := []) (rk := (6, [])) (sp := 73786976294838206464) (fuel := 3000) (by decide +kernel) (lk_c ml_12_176 S_X12_copy_21 (lk_c ml_12_298 S_1463 (lk_c ml_12_385 S_1468 lk_n))) odX12_tryMatch
def sl_1062 : (Nat × Nat) × aI := (((nat_lit 199), (nat_lit 7)), [((.ofNat (nat_lit 5)), (.ofNat (nat_lit 8)), (nat_lit 1))])
def ct_1470 : aCt := (mX12_tryMatch, [.inr (.inl [196]), .inl [(4, 4, 1)], .inl [(0, 31, 1)], .inl aTop, .inl aTop], ([((199, 7), [(4, 8, 1)])], []), [(none, [], [], [])], [(196, 31, 33), (207, 4, 8), (208, 0, 8)], [], 6)
set_option maxRecDepth 100000 in
theorem S_1470 : aSpec wd ct_1470 := bChk_ok wx_ok btX12_tryMatch (nds := [((nat_lit 66), [lcn_306, lcn_317, lcn_1058, lcn_181, lcn_88, lcn_372], [], [sl_1062], [], (5, [(3, -1)]))]) (fk := []) (rk := (6, [])) (sp := 73786976294838206464) (fuel := 3000) (by decide +kernel) (lk_c ml_12_176 S_X12_copy_20 (lk_c ml_12_298 S_1462 (lk_c ml_12_385 S_1469 lk_n))) odX12_tryMatch
def sl_1063 : (Nat × Nat) × aI := (((nat_lit 199), (nat_lit 7)), [((.ofNat (nat_lit 4)), (.ofNat (nat_lit 8)), (nat_lit 1))])
def ct_1471 : aCt := (mX12_tryMatch, [.inr (.inl [196]), .inl [(3, 3, 1)], .inl [(0, 31, 1)], .inl aTop, .inl aTop], ([((199, 7), [(3, 8, 1)])], []), [(none, [], [], [])], [(196, 31, 33), (207, 3, 8), (208, 0, 8)], [], 7)
set_option maxRecDepth 100000 in
theorem S_1471 : aSpec wd ct_1471 := bChk_ok wx_ok btX12_tryMatch (nds := [((nat_lit 66), [lcn_306, lcn_316, lcn_1058, lcn_181, lcn_88, lcn_372], [], [sl_1063], [], (5, [(3, -1)]))]) (fk := []) (rk := (6, [])) (sp := 73786976294838206464) (fuel := 3000) (by decide +kernel) (lk_c ml_12_176 S_X12_copy_19 (lk_c ml_12_298 S_1461 (lk_c ml_12_385 S_1470 lk_n))) odX12_tryMatch
def sl_1064 : (Nat × Nat) × aI := (((nat_lit 199), (nat_lit 7)), [((.ofNat (nat_lit 3)), (.ofNat (nat_lit 8)), (nat_lit 1))])
def ct_1472 : aCt := (mX12_tryMatch, [.inr (.inl [196]), .inl [(2, 2, 1)], .inl [(0, 31, 1)], .inl aTop, .inl aTop], ([((199, 7), [(2, 8, 1)])], []), [(none, [], [], [])], [(196, 31, 33), (207, 2, 8), (208, 0, 8)], [], 8)
set_option maxRecDepth 100000 in
theorem S_1472 : aSpec wd ct_1472 := bChk_ok wx_ok btX12_tryMatch (nds := [((nat_lit 66), [lcn_306, lcn_57, lcn_1058, lcn_181, lcn_88, lcn_372], [], [sl_1064], [], (5, [(3, -1)]))]) (fk := []) (rk := (6, [])) (sp := 73786976294838206464) (fuel := 3000) (by decide +kernel) (lk_c ml_12_176 S_X12_copy_18 (lk_c ml_12_298 S_1460 (lk_c ml_12_385 S_1471 lk_n))) odX12_tryMatch
def sl_1065 : (Nat × Nat) × aI := (((nat_lit 199), (nat_lit 7)), [((.ofNat (nat_lit 2)), (.ofNat (nat_lit 8)), (nat_lit 1))])
def ct_1473 : aCt := (mX12_tryMatch, [.inr (.inl [196]), .inl [(1, 1, 1)], .inl [(0, 31, 1)], .inl aTop, .inl aTop], ([((199, 7), [(1, 8, 1)])], []), [(none, [], [], [])], [(196, 31, 33), (207, 1, 8), (208, 0, 8)], [], 9)
set_option maxRecDepth 100000 in
theorem S_1473 : aSpec wd ct_1473 := bChk_ok wx_ok btX12_tryMatch (nds := [((nat_lit 66), [lcn_306, lcn_65, lcn_1058, lcn_181, lcn_88, lcn_372], [], [sl_1065], [], (5, [(3, -1)]))]) (fk := []) (rk := (6, [])) (sp := 73786976294838206464) (fuel := 3000) (by decide +kernel) (lk_c ml_12_176 S_X12_copy_17 (lk_c ml_12_298 S_1459 (lk_c ml_12_385 S_1472 lk_n))) odX12_tryMatch
def ct_1474 : aCt := (mX12_tryMatch, [.inr (.inl [196]), .inl [(0, 0, 1)], .inl [(0, 31, 1)], .inl aTop, .inl aTop], ([], []), [(none, [], [], [])], [(196, 31, 33), (207, 0, 8), (208, 0, 8)], [], 10)
set_option maxRecDepth 100000 in
theorem S_1474 : aSpec wd ct_1474 := bChk_ok wx_ok btX12_tryMatch (nds := [((nat_lit 66), [lcn_306, lcn_61, lcn_1058, lcn_181, lcn_88, lcn_372], [], [sl_1031], [], (5, [(3, -1)]))]) (fk := []) (rk := (6, [])) (sp := 73786976294838206464) (fuel := 3000) (by decide +kernel) (lk_c ml_12_176 S_X12_copy_16 (lk_c ml_12_298 S_1458 (lk_c ml_12_385 S_1473 lk_n))) odX12_tryMatch
def lcn_1066 : Nat × aAg := ((nat_lit 1), .inl [((.ofNat (nat_lit 0)), (.ofNat (nat_lit 8)), (nat_lit 1))])
set_option maxRecDepth 100000 in
theorem btX12_seekMatch : bTab oX12_seekMatch tX12_seekMatch := ⟨ofX12_seekMatch, by decide +kernel⟩
def ct_1475 : aCt := (mX12_seekMatch, [.inr (.inl [196])], ([((199, 0), [(2, 4, 1)]), ((199, 4), [(1, 7, 1)])], []), [(none, [], [], [])], [(196, 26, 28), (196, 31, 33), (205, 0, 7), (206, 0, 7), (207, 0, 8), (208, 0, 8), (209, 0, 40)], [], 11)
set_option maxRecDepth 100000 in
theorem S_1475 : aSpec wd ct_1475 := bChk_ok wx_ok btX12_seekMatch (nds := [((nat_lit 2), [lcn_306, lcn_1066], [], [sl_633, sl_634], [], (62, [(0, -7)])), ((nat_lit 15), [lcn_306, lcn_187, lcn_82], [], [sl_633, sl_634, sl_1031], [], (61, [(0, -7), (1, -1)]))]) (fk := []) (rk := (63, [])) (sp := 32772) (fuel := 3000) (by decide +kernel) (lk_c ml_12_367 S_1445 (lk_c ml_12_385 S_1474 lk_n)) odX12_seekMatch
set_option maxRecDepth 100000 in
theorem btX12_match : bTab oX12_match tX12_match := ⟨ofX12_match, by decide +kernel⟩
def ct_1476 : aCt := (mX12_match, [.inr (.inl [196])], ([], []), [(some (.inl aTop), [], [((196, 11), [(0, 0, 1)]), ((196, 14), [(1, 1, 1)]), ((199, 0), [(2, 4, 1)]), ((199, 4), [(1, 7, 1)])], []), (some (.inl [(-1, -1, 1)]), [], [((196, 11), [(1, 1, 1)]), ((196, 14), [(0, 0, 1)])], [])], [(196, 0, 1), (196, 11, 12), (196, 26, 28), (196, 31, 33), (205, 0, 7), (206, 0, 7), (207, 0, 8), (208, 0, 8), (209, 0, 40)], [], 12)
set_option maxRecDepth 100000 in
theorem S_1476 : aSpec wd ct_1476 := bChk_ok wx_ok btX12_match (nds := []) (fk := []) (rk := (1, [])) (sp := 0) (fuel := 3000) (by decide +kernel) (lk_c ml_12_389 S_1475 (lk_c ml_12_167 S_651 (lk_c ml_12_170 S_1112 lk_n))) odX12_match
set_option maxRecDepth 100000 in
theorem btX12_matchDays : bTab oX12_matchDays tX12_matchDays := ⟨ofX12_matchDays, by decide +kernel⟩
def ct_1477 : aCt := (mX12_matchDays, [.inr (.inl [196])], ([], []), [(some (.inl aTop), [], [((196, 11), [(0, 0, 1)]), ((196, 14), [(1, 1, 1)]), ((199, 0), [(2, 4, 1)]), ((199, 4), [(1, 7, 1)])], []), (some (.inl [(-1, -1, 1)]), [], [((196, 11), [(1, 1, 1)]), ((196, 14), [(0, 0, 1)])], [])], [(196, 0, 1), (196, 11, 12), (196, 26, 28), (196, 31, 33), (205, 0, 7), (206, 0, 7), (207, 0, 8), (208, 0, 8), (209, 0, 40)], [], 12)
set_option maxRecDepth 100000 in
theorem S_1477 : aSpec wd ct_1477 := bChk_ok wx_ok btX12_matchDays (nds := []) (fk := []) (rk := (1, [])) (sp := 0) (fuel := 3000) (by decide +kernel) (lk_c ml_12_389 S_1475 (lk_c ml_12_167 S_651 (lk_c ml_12_170 S_1112 lk_n))) odX12_matchDays
def ct_1478 : aCt := (mX12_tryMatch, [.inr (.inl [196]), .inl [(0, 0, 1)], .inl [(0, 31, 1)], .inl aTop, .inl aTop], ([((199, 7), [(1, 8, 1)])], []), [(none, [], [], [])], [(196, 31, 33), (207, 0, 8), (208, 0, 8)], [], 10)
set_option maxRecDepth 100000 in
theorem S_1478 : aSpec wd ct_1478 := bChk_ok wx_ok btX12_tryMatch (nds := [((nat_lit 66), [lcn_306, lcn_61, lcn_1058, lcn_181, lcn_88, lcn_372], [], [sl_1031], [], (5, [(3, -1)]))]) (fk := []) (rk := (6, [])) (sp := 73786976294838206464) (fuel := 3000) (by decide +kernel) (lk_c ml_12_298 S_1458 (lk_c ml_12_385 S_1473 lk_n)) odX12_tryMatch
def ct_1479 : aCt := (mX12_seekMatch, [.inr (.inl [196])], ([((199, 0), [(2, 4, 1)]), ((199, 4), [(1, 7, 1)]), ((199, 7), [(1, 8, 1)])], []), [(none, [], [], [])], [(196, 26, 28), (196, 31, 33), (205, 0, 7), (206, 0, 7), (207, 0, 8), (208, 0, 8), (209, 0, 40)], [], 11)
set_option maxRecDepth 100000 in
theorem S_1479 : aSpec wd ct_1479 := bChk_ok wx_ok btX12_seekMatch (nds := [((nat_lit 2), [lcn_306, lcn_1066], [], [sl_633, sl_634, sl_1031], [], (62, [(0, -7)])), ((nat_lit 15), [lcn_306, lcn_187, lcn_82], [], [sl_633, sl_634, sl_1031], [], (61, [(0, -7), (1, -1)]))]) (fk := []) (rk := (63, [])) (sp := 32772) (fuel := 3000) (by decide +kernel) (lk_c ml_12_367 S_1445 (lk_c ml_12_385 S_1478 lk_n)) odX12_seekMatch
set_option maxRecDepth 100000 in
theorem btX12_matchOf : bTab oX12_matchOf tX12_matchOf := ⟨ofX12_matchOf, by decide +kernel⟩
def ct_1480 : aCt := (mX12_matchOf, [.inr (.inl [196]), .inl aTop], ([], []), [(some (.inl aTop), [none, some [(0, 7, 1)]], [((196, 11), [(0, 0, 1)]), ((196, 14), [(1, 1, 1)]), ((199, 0), [(2, 4, 1)]), ((199, 4), [(1, 7, 1)]), ((199, 7), [(1, 8, 1)])], []), (some (.inl [(-1, -1, 1)]), [], [((196, 11), [(1, 1, 1)])], [])], [(196, 0, 1), (196, 11, 12), (196, 26, 28), (196, 31, 33), (205, 0, 7), (206, 0, 7), (207, 0, 8), (208, 0, 8), (209, 0, 40)], [], 12)
set_option maxRecDepth 100000 in
theorem S_1480 : aSpec wd ct_1480 := bChk_ok wx_ok btX12_matchOf (nds := []) (fk := []) (rk := (1, [])) (sp := 0) (fuel := 3000) (by decide +kernel) (lk_c ml_12_389 S_1479 (lk_c ml_12_167 S_651 (lk_c ml_12_170 S_1112 (lk_c ml_12_274 S_1115 lk_n)))) odX12_matchOf
def ct_1481 : aCt := (mX12_in, [.inl aTop, .inl [(0, 0, 1)], .inl [(0, 7, 1)]], ([], []), [(some (.inl [(0, 0, 1)]), [some [(-2147483648, -1, 1), (1, 2147483647, 1)], none, none], [], []), (some (.inl [(1, 1, 1)]), [some [(0, 7, 1)], none, none], [], [])], [(1000002, 0, 0)], [], 0)
set_option maxRecDepth 100000 in
theorem S_1481 : aSpec wd ct_1481 := bChk_ok wx_ok btX12_in (nds := []) (fk := []) (rk := (1, [])) (sp := 0) (fuel := 3000) (by decide +kernel) lk_n odX12_in
def ct_1482 : aCt := (mX12_isBox, [.inr (.inl [196]), .inl aTop], ([((196, 14), [(1, 1, 1)]), ((199, 0), [(2, 4, 1)]), ((199, 4), [(1, 7, 1)]), ((199, 7), [(1, 8, 1)])], []), [(some (.inl [(0, 0, 1)]), [], [], []), (some (.inl [(1, 1, 1)]), [none, some [(0, 7, 1)]], [], [])], [], [], 1)
set_option maxRecDepth 100000 in
theorem S_1482 : aSpec wd ct_1482 := bChk_ok wx_ok btX12_isBox (nds := []) (fk := []) (rk := (1, [])) (sp := 0) (fuel := 3000) (by decide +kernel) (lk_c ml_12_149 S_1481 lk_n) odX12_isBox
def ct_1483 : aCt := (mX12_isWhale, [.inr (.inl [196]), .inl aTop], ([((196, 14), [(1, 1, 1)]), ((199, 0), [(2, 4, 1)]), ((199, 4), [(1, 7, 1)]), ((199, 7), [(1, 8, 1)])], []), [(some (.inl [(0, 0, 1)]), [], [], []), (some (.inl [(1, 1, 1)]), [none, some [(0, 4, 1)]], [((199, 6), [(1, 5, 1)])], [])], [], [], 1)
set_option maxRecDepth 100000 in
theorem S_1483 : aSpec wd ct_1483 := bChk_ok wx_ok btX12_isWhale (nds := []) (fk := []) (rk := (1, [])) (sp := 0) (fuel := 3000) (by decide +kernel) (lk_c ml_12_149 S_1107 lk_n) odX12_isWhale
def ct_1484 : aCt := (mX12_in, [.inl aTop, .inl [(0, 0, 1)], .inl [(0, 4, 1)]], ([], []), [(some (.inl [(0, 0, 1)]), [some [(-2147483648, -1, 1), (1, 2147483647, 1)], none, none], [], []), (some (.inl [(1, 1, 1)]), [some [(0, 4, 1)], none, none], [], [])], [(1000002, 0, 0)], [], 0)
set_option maxRecDepth 100000 in
theorem S_1484 : aSpec wd ct_1484 := bChk_ok wx_ok btX12_in (nds := []) (fk := []) (rk := (1, [])) (sp := 0) (fuel := 3000) (by decide +kernel) lk_n odX12_in
def ct_1485 : aCt := (mX12_isWhale, [.inr (.inl [196]), .inl aTop], ([((196, 14), [(1, 1, 1)]), ((199, 0), [(2, 4, 1)]), ((199, 4), [(1, 7, 1)]), ((199, 6), [(1, 5, 1)]), ((199, 7), [(1, 8, 1)])], []), [(some (.inl [(0, 0, 1)]), [], [], []), (some (.inl [(1, 1, 1)]), [none, some [(0, 4, 1)]], [], [])], [], [], 1)
set_option maxRecDepth 100000 in
theorem S_1485 : aSpec wd ct_1485 := bChk_ok wx_ok btX12_isWhale (nds := []) (fk := []) (rk := (1, [])) (sp := 0) (fuel := 3000) (by decide +kernel) (lk_c ml_12_149 S_1484 lk_n) odX12_isWhale
def ct_1486 : aCt := (mX12_later, [.inl aTop, .inl aTop], ([((199, 0), [(2, 4, 1)]), ((199, 4), [(1, 7, 1)]), ((199, 6), [(1, 5, 1)]), ((199, 7), [(1, 8, 1)])], []), [(some (.inl aTop), [], [], [])], [], [], 0)
set_option maxRecDepth 100000 in
theorem S_1486 : aSpec wd ct_1486 := bChk_ok wx_ok btX12_later (nds := []) (fk := []) (rk := (1, [])) (sp := 0) (fuel := 3000) (by decide +kernel) lk_n odX12_later
set_option maxRecDepth 100000 in
theorem btX12_meet : bTab oX12_meet tX12_meet := ⟨ofX12_meet, by decide +kernel⟩
def ct_1487 : aCt := (mX12_meet, [.inr (.inl [196]), .inl aTop, .inl aTop, .inl aTop, .inl aTop], ([], []), [(some (.inl [(-2147483648, 2147483646, 1)]), [none, some [(0, 7, 1)], some [(0, 4, 1)], some [(0, 7, 1)], some [(0, 4, 1)]], [((196, 11), [(0, 0, 1)]), ((196, 14), [(1, 1, 1)]), ((199, 0), [(2, 4, 1)]), ((199, 4), [(1, 7, 1)]), ((199, 6), [(1, 5, 1)]), ((199, 7), [(1, 8, 1)])], []), (some (.inl [(-1, -1, 1)]), [], [((196, 11), [(1, 1, 1)])], []), (some (.inl [(-2, -2, 1)]), [none, some [(0, 7, 1)], some [(0, 4, 1)], some [(0, 7, 1)], some [(0, 4, 1)]], [((196, 11), [(0, 0, 1)]), ((196, 14), [(1, 1, 1)]), ((199, 0), [(2, 4, 1)]), ((199, 4), [(1, 7, 1)]), ((199, 6), [(1, 5, 1)]), ((199, 7), [(1, 8, 1)])], [])], [(196, 0, 1), (196, 11, 12), (196, 26, 28), (205, 0, 7), (206, 0, 7)], [], 8)
set_option maxRecDepth 100000 in
theorem S_1487 : aSpec wd ct_1487 := bChk_ok wx_ok btX12_meet (nds := []) (fk := []) (rk := (1, [])) (sp := 0) (fuel := 3000) (by decide +kernel) (lk_c ml_12_167 S_651 (lk_c ml_12_170 S_1112 (lk_c ml_12_295 S_1438 (lk_c ml_12_262 S_1440 (lk_c ml_12_364 S_1443 (lk_c ml_12_268 S_1485 (lk_c ml_12_274 S_1482 (lk_c ml_12_268 S_1483 (lk_c ml_12_274 S_1115 (lk_c ml_12_355 S_1486 lk_n)))))))))) odX12_meet
def ct_1488 : aCt := (mX12_ofWhale, [.inr (.inl [196]), .inl [(0, 4, 1)], .inl [(1, 1, 1)]], ([((199, 0), [(2, 4, 1)]), ((199, 4), [(1, 7, 1)]), ((199, 6), [(1, 5, 1)])], []), [(some (.inl [(0, 6, 1)]), [], [], [])], [], [], 0)
set_option maxRecDepth 100000 in
theorem S_1488 : aSpec wd ct_1488 := bChk_ok wx_ok btX12_ofWhale (nds := []) (fk := []) (rk := (1, [])) (sp := 0) (fuel := 3000) (by decide +kernel) lk_n odX12_ofWhale
def ct_1489 : aCt := (mX12_ofWhale, [.inr (.inl [196]), .inl [(0, 4, 1)], .inl [(0, 0, 1)]], ([((199, 0), [(2, 4, 1)]), ((199, 4), [(1, 7, 1)]), ((199, 6), [(1, 5, 1)]), ((199, 8), [(1, 8, 1)])], []), [(some (.inl [(0, 3, 1)]), [], [], [])], [], [], 0)
set_option maxRecDepth 100000 in
theorem S_1489 : aSpec wd ct_1489 := bChk_ok wx_ok btX12_ofWhale (nds := []) (fk := []) (rk := (1, [])) (sp := 0) (fuel := 3000) (by decide +kernel) lk_n odX12_ofWhale
def ct_1490 : aCt := (mX12_in, [.inl [(-2, -2, 1)], .inl [(0, 0, 1)], .inl aTop], ([], []), [(some (.inl [(0, 0, 1)]), [], [], [])], [(1000002, 0, 0)], [], 0)
set_option maxRecDepth 100000 in
theorem S_1490 : aSpec wd ct_1490 := bChk_ok wx_ok btX12_in (nds := []) (fk := []) (rk := (1, [])) (sp := 0) (fuel := 3000) (by decide +kernel) lk_n odX12_in
def ct_1491 : aCt := (mX12_in, [.inl aTop, .inl [(0, 0, 1)], .inl aTop], ([], []), [(some (.inl [(0, 0, 1)]), [some aTop, none, none], [], []), (some (.inl [(1, 1, 1)]), [some [(0, 2147483647, 1)], none, some [(0, 2147483647, 1)]], [], [])], [(1000002, 0, 0)], [], 0)
set_option maxRecDepth 100000 in
theorem S_1491 : aSpec wd ct_1491 := bChk_ok wx_ok btX12_in (nds := []) (fk := []) (rk := (1, [])) (sp := 0) (fuel := 3000) (by decide +kernel) lk_n odX12_in
def sl_1067 : (Nat × Nat) × aI := (((nat_lit 199), (nat_lit 6)), [((.ofNat (nat_lit 1)), (.ofNat (nat_lit 5)), (nat_lit 1))])
set_option maxRecDepth 100000 in
theorem btX12_fitsAll : bTab oX12_fitsAll tX12_fitsAll := ⟨ofX12_fitsAll, by decide +kernel⟩
def ct_1492 : aCt := (mX12_fitsAll, [.inr (.inl [196]), .inl [(0, 4, 1)]], ([((199, 0), [(2, 4, 1)]), ((199, 4), [(1, 7, 1)]), ((199, 6), [(1, 5, 1)])], []), [(some (.inl [(0, 1, 1)]), [], [], [])], [(196, 33, 35), (205, 0, 7), (206, 0, 7)], [], 7)
set_option maxRecDepth 100000 in
theorem S_1492 : aSpec wd ct_1492 := bChk_ok wx_ok btX12_fitsAll (nds := [((nat_lit 19), [lcn_306, lcn_73, lcn_245, lcn_104], [], [sl_633, sl_634, sl_1067], [], (8, [(1, 9), (2, -1)]))]) (fk := []) (rk := (18, [])) (sp := 524288) (fuel := 3000) (by decide +kernel) (lk_c ml_12_271 S_1489 (lk_c ml_12_271 S_1488 (lk_c ml_12_149 S_1490 (lk_c ml_12_352 S_1434 (lk_c ml_12_149 S_1491 lk_n))))) odX12_fitsAll
set_option maxRecDepth 100000 in
theorem btX12_fits : bTab oX12_fits tX12_fits := ⟨ofX12_fits, by decide +kernel⟩
def ct_1493 : aCt := (mX12_fits, [.inr (.inl [196])], ([], []), [(some (.inl [(0, 31, 1)]), [], [((196, 11), [(0, 0, 1)]), ((196, 14), [(1, 1, 1)]), ((199, 0), [(2, 4, 1)]), ((199, 4), [(1, 7, 1)])], []), (some (.inl [(-1, -1, 1)]), [], [((196, 11), [(1, 1, 1)]), ((196, 14), [(0, 0, 1)])], [])], [(196, 0, 1), (196, 11, 12), (196, 33, 35), (205, 0, 7), (206, 0, 7)], [], 8)
set_option maxRecDepth 100000 in
theorem S_1493 : aSpec wd ct_1493 := bChk_ok wx_ok btX12_fits (nds := [((nat_lit 21), [lcn_306, lcn_251, lcn_82], [], [sl_632, sl_1002, sl_633, sl_634], [], (5, [(1, -1)]))]) (fk := []) (rk := (6, [])) (sp := 2097152) (fuel := 3000) (by decide +kernel) (lk_c ml_12_167 S_651 (lk_c ml_12_170 S_1112 (lk_c ml_12_398 S_1492 lk_n))) odX12_fits
def lcn_1068 : Nat × aAg := ((nat_lit 3), .inl [((.ofNat (nat_lit 0)), (.ofNat (nat_lit 127)), (nat_lit 1))])
set_option maxRecDepth 100000 in
theorem btX12_reachOf : bTab oX12_reachOf tX12_reachOf := ⟨ofX12_reachOf, by decide +kernel⟩
def ct_1494 : aCt := (mX12_reachOf, [.inr (.inl [196]), .inl [(0, 4, 1)], .inl [(0, 99999, 1)]], ([((199, 0), [(2, 4, 1)]), ((199, 4), [(1, 7, 1)]), ((199, 6), [(1, 5, 1)])], []), [(some (.inl [(0, 127, 1)]), [], [], [])], [(196, 33, 35), (205, 0, 7), (206, 0, 7)], [], 8)
set_option maxRecDepth 100000 in
theorem S_1494 : aSpec wd ct_1494 := bChk_ok wx_ok btX12_reachOf (nds := [((nat_lit 29), [lcn_306, lcn_73, lcn_211, lcn_1068, lcn_132], [], [sl_633, sl_634, sl_1067], [], (7, [(3, -1)]))]) (fk := []) (rk := (8, [])) (sp := 536870912) (fuel := 3000) (by decide +kernel) (lk_c ml_12_398 S_1492 (lk_c ml_12_271 S_1110 (lk_c ml_12_349 S_1433 lk_n))) odX12_reachOf
set_option maxRecDepth 100000 in
theorem btX12_reach : bTab oX12_reach tX12_reach := ⟨ofX12_reach, by decide +kernel⟩
def ct_1495 : aCt := (mX12_reach, [.inr (.inl [196]), .inl aTop, .inl aTop], ([], []), [(some (.inl [(0, 127, 1)]), [none, some [(0, 4, 1)], some [(0, 99999, 1)]], [((196, 11), [(0, 0, 1)]), ((196, 14), [(1, 1, 1)]), ((199, 0), [(2, 4, 1)]), ((199, 4), [(1, 7, 1)]), ((199, 6), [(1, 5, 1)])], []), (some (.inl [(-1, -1, 1)]), [], [((196, 11), [(1, 2, 1)])], [])], [(196, 0, 1), (196, 11, 12), (196, 33, 35), (205, 0, 7), (206, 0, 7)], [], 9)
set_option maxRecDepth 100000 in
theorem S_1495 : aSpec wd ct_1495 := bChk_ok wx_ok btX12_reach (nds := []) (fk := []) (rk := (1, [])) (sp := 0) (fuel := 3000) (by decide +kernel) (lk_c ml_12_167 S_651 (lk_c ml_12_170 S_653 (lk_c ml_12_170 S_1112 (lk_c ml_12_401 S_1494 (lk_c ml_12_268 S_1108 (lk_c ml_12_149 S_1164 lk_n)))))) odX12_reach
def ct_1496 : aCt := (mX12_hasBit, [.inl [(0, 127, 1)], .inl [(0, 6, 1)]], ([((199, 0), [(2, 4, 1)]), ((199, 4), [(1, 7, 1)]), ((199, 6), [(1, 5, 1)])], []), [(some (.inl [(0, 0, 1)]), [], [], []), (some (.inl [(1, 1, 1)]), [], [], [])], [], [], 0)
set_option maxRecDepth 100000 in
theorem S_1496 : aSpec wd ct_1496 := bChk_ok wx_ok btX12_hasBit (nds := []) (fk := []) (rk := (1, [])) (sp := 0) (fuel := 3000) (by decide +kernel) lk_n odX12_hasBit
def lcn_1069 : Nat × aAg := ((nat_lit 3), .inl [((.negSucc (nat_lit 2147483647)), (.ofNat (nat_lit 1000000)), (nat_lit 1))])
set_option maxRecDepth 100000 in
theorem btX12_pier : bTab oX12_pier tX12_pier := ⟨ofX12_pier, by decide +kernel⟩
def ct_1497 : aCt := (mX12_pier, [.inr (.inl [196]), .inl aTop], ([], []), [(some (.inl [(-1, 6, 1)]), [], [((196, 11), [(0, 0, 1)]), ((196, 14), [(1, 1, 1)]), ((199, 0), [(2, 4, 1)]), ((199, 4), [(1, 7, 1)])], []), (some (.inl [(-1, -1, 1)]), [], [((196, 11), [(1, 2, 1)])], [])], [(196, 0, 1), (196, 11, 12), (196, 33, 35), (205, 0, 7), (206, 0, 7)], [], 9)
set_option maxRecDepth 100000 in
theorem S_1497 : aSpec wd ct_1497 := bChk_ok wx_ok btX12_pier (nds := [((nat_lit 43), [lcn_306, lcn_257, lcn_74, lcn_1069, lcn_132], [], [sl_632, sl_1002, sl_633, sl_634], [], (55, [(3, -7)])), ((nat_lit 63), [lcn_306, lcn_257, lcn_74, lcn_1069, lcn_133, lcn_192, lcn_996, lcn_1005], [], [sl_632, sl_1002, sl_633, sl_634], [], (54, [(3, -7), (6, -1)]))]) (fk := []) (rk := (56, [])) (sp := 9223380832947798016) (fuel := 3000) (by decide +kernel) (lk_c ml_12_167 S_651 (lk_c ml_12_170 S_1112 (lk_c ml_12_170 S_653 (lk_c ml_12_398 S_1492 (lk_c ml_12_298 S_1496 (lk_c ml_12_401 S_1494 (lk_c ml_12_149 S_1164 lk_n))))))) odX12_pier
def lcn_1070 : Nat × aAg := ((nat_lit 0), .inl [((.ofNat (nat_lit 0)), (.ofNat (nat_lit 4095)), (nat_lit 1))])
set_option maxRecDepth 100000 in
theorem btX12_ones : bTab oX12_ones tX12_ones := ⟨ofX12_ones, by decide +kernel⟩
def ct_1498 : aCt := (mX12_ones, [.inl [(0, 4095, 1)]], ([((199, 0), [(2, 4, 1)]), ((199, 4), [(1, 7, 1)])], []), [(some (.inl aTop), [], [], [])], [], [], 0)
set_option maxRecDepth 100000 in
theorem S_1498 : aSpec wd ct_1498 := bChk_ok wx_ok btX12_ones (nds := [((nat_lit 4), [lcn_1070, lcn_76, lcn_270], [], [sl_633, sl_634], [], (12, [(2, -1)]))]) (fk := []) (rk := (13, [])) (sp := 16) (fuel := 3000) (by decide +kernel) lk_n odX12_ones
def lcn_1071 : Nat × aAg := ((nat_lit 3), .inl [((.ofNat (nat_lit 0)), (.ofNat (nat_lit 4095)), (nat_lit 1))])
def lcn_1072 : Nat × aAg := ((nat_lit 4), .inl [((.ofNat (nat_lit 0)), (.ofNat (nat_lit 4096)), (nat_lit 1))])
set_option maxRecDepth 100000 in
theorem btX12_watch : bTab oX12_watch tX12_watch := ⟨ofX12_watch, by decide +kernel⟩
def ct_1499 : aCt := (mX12_watch, [.inr (.inl [196]), .inl aTop, .inl aTop], ([], []), [(some (.inl [(0, 4095, 1)]), [], [((196, 11), [(0, 0, 1)]), ((196, 14), [(1, 1, 1)]), ((199, 0), [(2, 4, 1)]), ((199, 4), [(1, 7, 1)])], []), (some (.inl [(-1, -1, 1)]), [], [((196, 11), [(1, 1, 1)])], [])], [(196, 0, 1), (196, 11, 12)], [], 4)
set_option maxRecDepth 100000 in
theorem S_1499 : aSpec wd ct_1499 := bChk_ok wx_ok btX12_watch (nds := [((nat_lit 45), [lcn_306, lcn_68, lcn_69, lcn_1071, lcn_1072], [], [sl_632, sl_1002, sl_633, sl_634], [], (4096, [(3, -1)]))]) (fk := []) (rk := (4097, [])) (sp := 35184372088832) (fuel := 3000) (by decide +kernel) (lk_c ml_12_167 S_651 (lk_c ml_12_170 S_1112 (lk_c ml_12_404 S_1498 (lk_c ml_12_277 S_1158 (lk_c ml_12_277 S_1120 (lk_c ml_12_407 S_X12_doLead_0 lk_n)))))) odX12_watch
set_option maxRecDepth 100000 in
theorem btX12_layFar : bTab oX12_layFar tX12_layFar := ⟨ofX12_layFar, by decide +kernel⟩
def ct_1500 : aCt := (mX12_layFar, [.inr (.inl [196])], ([((199, 0), [(2, 4, 1)]), ((199, 4), [(1, 7, 1)])], []), [(none, [], [], [])], [(210, 0, 49)], [], 3)
set_option maxRecDepth 100000 in
theorem S_1500 : aSpec wd ct_1500 := bChk_ok wx_ok btX12_layFar (nds := [((nat_lit 2), [lcn_306, lcn_187], [], [sl_633, sl_634], [], (655, [(0, -9)])), ((nat_lit 10), [lcn_306, lcn_68, lcn_106], [], [sl_633, sl_634], [], (654, [(0, -9), (1, -1)])), ((nat_lit 109), [lcn_306, lcn_187], [], [sl_633, sl_634], [], (583, [(0, -73)])), ((nat_lit 117), [lcn_306, lcn_68, lcn_106], [], [sl_633, sl_634], [], (582, [(0, -73), (1, -9)])), ((nat_lit 125), [lcn_306, lcn_68, lcn_69, lcn_126], [], [sl_633, sl_634], [], (581, [(0, -73), (1, -9), (2, -1)]))]) (fk := []) (rk := (656, [])) (sp := 42702098401697739270488368123547223044) (fuel := 3000) (by decide +kernel) (lk_c ml_12_305 S_1162 lk_n) odX12_layFar
def ct_1501 : aCt := (mX12_hasBit, [.inl [(1, 64, 1)], .inl [(0, 6, 1)]], ([((199, 0), [(2, 4, 1)]), ((199, 4), [(2, 7, 1)])], []), [(some (.inl [(0, 0, 1)]), [], [], []), (some (.inl [(1, 1, 1)]), [], [], [])], [], [], 0)
set_option maxRecDepth 100000 in
theorem S_1501 : aSpec wd ct_1501 := bChk_ok wx_ok btX12_hasBit (nds := []) (fk := []) (rk := (1, [])) (sp := 0) (fuel := 3000) (by decide +kernel) lk_n odX12_hasBit
def ct_1502 : aCt := (mX12_hasBit, [.inl [(0, 127, 1)], .inl [(0, 6, 1)]], ([((199, 0), [(2, 4, 1)]), ((199, 4), [(3, 7, 1)])], []), [(some (.inl [(0, 0, 1)]), [], [], []), (some (.inl [(1, 1, 1)]), [], [], [])], [], [], 0)
set_option maxRecDepth 100000 in
theorem S_1502 : aSpec wd ct_1502 := bChk_ok wx_ok btX12_hasBit (nds := []) (fk := []) (rk := (1, [])) (sp := 0) (fuel := 3000) (by decide +kernel) lk_n odX12_hasBit
def ct_1503 : aCt := (mX12_hasBit, [.inl [(0, 127, 1)], .inl [(0, 6, 1)]], ([((199, 0), [(2, 4, 1)]), ((199, 4), [(4, 7, 1)])], []), [(some (.inl [(0, 0, 1)]), [], [], []), (some (.inl [(1, 1, 1)]), [], [], [])], [], [], 0)
set_option maxRecDepth 100000 in
theorem S_1503 : aSpec wd ct_1503 := bChk_ok wx_ok btX12_hasBit (nds := []) (fk := []) (rk := (1, [])) (sp := 0) (fuel := 3000) (by decide +kernel) lk_n odX12_hasBit
def ct_1504 : aCt := (mX12_hasBit, [.inl [(0, 127, 1)], .inl [(0, 6, 1)]], ([((199, 0), [(2, 4, 1)]), ((199, 4), [(5, 7, 1)])], []), [(some (.inl [(0, 0, 1)]), [], [], []), (some (.inl [(1, 1, 1)]), [], [], [])], [], [], 0)
set_option maxRecDepth 100000 in
theorem S_1504 : aSpec wd ct_1504 := bChk_ok wx_ok btX12_hasBit (nds := []) (fk := []) (rk := (1, [])) (sp := 0) (fuel := 3000) (by decide +kernel) lk_n odX12_hasBit
def ct_1505 : aCt := (mX12_hasBit, [.inl [(0, 127, 1)], .inl [(0, 6, 1)]], ([((199, 0), [(2, 4, 1)]), ((199, 4), [(6, 7, 1)])], []), [(some (.inl [(0, 0, 1)]), [], [], []), (some (.inl [(1, 1, 1)]), [], [], [])], [], [], 0)
set_option maxRecDepth 100000 in
theorem S_1505 : aSpec wd ct_1505 := bChk_ok wx_ok btX12_hasBit (nds := []) (fk := []) (rk := (1, [])) (sp := 0) (fuel := 3000) (by decide +kernel) lk_n odX12_hasBit
def ct_1506 : aCt := (mX12_hasBit, [.inl [(0, 127, 1)], .inl [(0, 6, 1)]], ([((199, 0), [(2, 4, 1)]), ((199, 4), [(7, 7, 1)])], []), [(some (.inl [(0, 0, 1)]), [], [], []), (some (.inl [(1, 1, 1)]), [], [], [])], [], [], 0)
set_option maxRecDepth 100000 in
theorem S_1506 : aSpec wd ct_1506 := bChk_ok wx_ok btX12_hasBit (nds := []) (fk := []) (rk := (1, [])) (sp := 0) (fuel := 3000) (by decide +kernel) lk_n odX12_hasBit
set_option maxRecDepth 100000 in
theorem btX12_tryRound : bTab oX12_tryRound tX12_tryRound := ⟨ofX12_tryRound, by decide +kernel⟩
def ct_1507 : aCt := (mX12_tryRound, [.inr (.inl [196]), .inl [(7, 7, 1)], .inl [(0, 127, 1)], .inl aTop], ([((199, 0), [(2, 4, 1)]), ((199, 4), [(7, 7, 1)])], []), [(none, [], [], [])], [(196, 38, 39), (212, 0, 7)], [], 2)
set_option maxRecDepth 100000 in
theorem S_1507 : aSpec wd ct_1507 := bChk_ok wx_ok btX12_tryRound (nds := []) (fk := []) (rk := (1, [])) (sp := 0) (fuel := 3000) (by decide +kernel) (lk_c ml_12_176 S_X12_copy_31 lk_n) odX12_tryRound
def lcn_1073 : Nat × aAg := ((nat_lit 3), .inl [((.negSucc (nat_lit 2147483647)), (.ofNat (nat_lit 2147483646)), (nat_lit 1))])
def sl_1074 : (Nat × Nat) × aI := (((nat_lit 199), (nat_lit 4)), [((.ofNat (nat_lit 7)), (.ofNat (nat_lit 7)), (nat_lit 1))])
def ct_1508 : aCt := (mX12_tryRound, [.inr (.inl [196]), .inl [(6, 6, 1)], .inl [(0, 127, 1)], .inl aTop], ([((199, 0), [(2, 4, 1)]), ((199, 4), [(6, 7, 1)])], []), [(none, [], [], [])], [(196, 38, 39), (211, 6, 7), (212, 0, 7)], [], 3)
set_option maxRecDepth 100000 in
theorem S_1508 : aSpec wd ct_1508 := bChk_ok wx_ok btX12_tryRound (nds := [((nat_lit 42), [lcn_306, lcn_319, lcn_272, lcn_1073, lcn_132], [], [sl_633, sl_1074], [], (7, [(2, -1)]))]) (fk := []) (rk := (8, [])) (sp := 4398046511104) (fuel := 3000) (by decide +kernel) (lk_c ml_12_176 S_X12_copy_30 (lk_c ml_12_298 S_1506 (lk_c ml_12_413 S_1507 lk_n))) odX12_tryRound
def sl_1075 : (Nat × Nat) × aI := (((nat_lit 199), (nat_lit 4)), [((.ofNat (nat_lit 6)), (.ofNat (nat_lit 7)), (nat_lit 1))])
def ct_1509 : aCt := (mX12_tryRound, [.inr (.inl [196]), .inl [(5, 5, 1)], .inl [(0, 127, 1)], .inl aTop], ([((199, 0), [(2, 4, 1)]), ((199, 4), [(5, 7, 1)])], []), [(none, [], [], [])], [(196, 38, 39), (211, 5, 7), (212, 0, 7)], [], 4)
set_option maxRecDepth 100000 in
theorem S_1509 : aSpec wd ct_1509 := bChk_ok wx_ok btX12_tryRound (nds := [((nat_lit 42), [lcn_306, lcn_318, lcn_272, lcn_1073, lcn_132], [], [sl_633, sl_1075], [], (7, [(2, -1)]))]) (fk := []) (rk := (8, [])) (sp := 4398046511104) (fuel := 3000) (by decide +kernel) (lk_c ml_12_176 S_X12_copy_29 (lk_c ml_12_298 S_1505 (lk_c ml_12_413 S_1508 lk_n))) odX12_tryRound
def sl_1076 : (Nat × Nat) × aI := (((nat_lit 199), (nat_lit 4)), [((.ofNat (nat_lit 5)), (.ofNat (nat_lit 7)), (nat_lit 1))])
def ct_1510 : aCt := (mX12_tryRound, [.inr (.inl [196]), .inl [(4, 4, 1)], .inl [(0, 127, 1)], .inl aTop], ([((199, 0), [(2, 4, 1)]), ((199, 4), [(4, 7, 1)])], []), [(none, [], [], [])], [(196, 38, 39), (211, 4, 7), (212, 0, 7)], [], 5)
set_option maxRecDepth 100000 in
theorem S_1510 : aSpec wd ct_1510 := bChk_ok wx_ok btX12_tryRound (nds := [((nat_lit 42), [lcn_306, lcn_317, lcn_272, lcn_1073, lcn_132], [], [sl_633, sl_1076], [], (7, [(2, -1)]))]) (fk := []) (rk := (8, [])) (sp := 4398046511104) (fuel := 3000) (by decide +kernel) (lk_c ml_12_176 S_X12_copy_28 (lk_c ml_12_298 S_1504 (lk_c ml_12_413 S_1509 lk_n))) odX12_tryRound
def sl_1077 : (Nat × Nat) × aI := (((nat_lit 199), (nat_lit 4)), [((.ofNat (nat_lit 4)), (.ofNat (nat_lit 7)), (nat_lit 1))])
def ct_1511 : aCt := (mX12_tryRound, [.inr (.inl [196]), .inl [(3, 3, 1)], .inl [(0, 127, 1)], .inl aTop], ([((199, 0), [(2, 4, 1)]), ((199, 4), [(3, 7, 1)])], []), [(none, [], [], [])], [(196, 38, 39), (211, 3, 7), (212, 0, 7)], [], 6)
set_option maxRecDepth 100000 in
theorem S_1511 : aSpec wd ct_1511 := bChk_ok wx_ok btX12_tryRound (nds := [((nat_lit 42), [lcn_306, lcn_316, lcn_272, lcn_1073, lcn_132], [], [sl_633, sl_1077], [], (7, [(2, -1)]))]) (fk := []) (rk := (8, [])) (sp := 4398046511104) (fuel := 3000) (by decide +kernel) (lk_c ml_12_176 S_X12_copy_27 (lk_c ml_12_298 S_1503 (lk_c ml_12_413 S_1510 lk_n))) odX12_tryRound
def sl_1078 : (Nat × Nat) × aI := (((nat_lit 199), (nat_lit 4)), [((.ofNat (nat_lit 3)), (.ofNat (nat_lit 7)), (nat_lit 1))])
def ct_1512 : aCt := (mX12_tryRound, [.inr (.inl [196]), .inl [(2, 2, 1)], .inl [(0, 127, 1)], .inl aTop], ([((199, 0), [(2, 4, 1)]), ((199, 4), [(2, 7, 1)])], []), [(none, [], [], [])], [(196, 38, 39), (211, 2, 7), (212, 0, 7)], [], 7)
set_option maxRecDepth 100000 in
theorem S_1512 : aSpec wd ct_1512 := bChk_ok wx_ok btX12_tryRound (nds := [((nat_lit 42), [lcn_306, lcn_57, lcn_272, lcn_1073, lcn_132], [], [sl_633, sl_1078], [], (7, [(2, -1)]))]) (fk := []) (rk := (8, [])) (sp := 4398046511104) (fuel := 3000) (by decide +kernel) (lk_c ml_12_176 S_X12_copy_26 (lk_c ml_12_298 S_1502 (lk_c ml_12_413 S_1511 lk_n))) odX12_tryRound
def lcn_1079 : Nat × aAg := ((nat_lit 2), .inl [((.ofNat (nat_lit 1)), (.ofNat (nat_lit 64)), (nat_lit 1))])
def sl_1080 : (Nat × Nat) × aI := (((nat_lit 199), (nat_lit 4)), [((.ofNat (nat_lit 2)), (.ofNat (nat_lit 7)), (nat_lit 1))])
def ct_1513 : aCt := (mX12_tryRound, [.inr (.inl [196]), .inl [(1, 1, 1)], .inl [(1, 64, 1)], .inl [(0, 0, 1)]], ([((199, 0), [(2, 4, 1)]), ((199, 4), [(1, 7, 1)])], []), [(none, [], [], [])], [(196, 38, 39), (211, 1, 7), (212, 0, 7)], [], 8)
set_option maxRecDepth 100000 in
theorem S_1513 : aSpec wd ct_1513 := bChk_ok wx_ok btX12_tryRound (nds := [((nat_lit 42), [lcn_306, lcn_65, lcn_1079, lcn_9, lcn_132], [], [sl_633, sl_1080], [], (7, [(1, -1)]))]) (fk := []) (rk := (8, [])) (sp := 4398046511104) (fuel := 3000) (by decide +kernel) (lk_c ml_12_176 S_X12_copy_25 (lk_c ml_12_298 S_1501 (lk_c ml_12_413 S_1512 lk_n))) odX12_tryRound
set_option maxRecDepth 100000 in
theorem btX12_seekRound : bTab oX12_seekRound tX12_seekRound := ⟨ofX12_seekRound, by decide +kernel⟩
def ct_1514 : aCt := (mX12_seekRound, [.inr (.inl [196]), .inl [(0, 6, 1)]], ([((199, 0), [(2, 4, 1)]), ((199, 4), [(1, 7, 1)])], []), [(some (.inl [(-2147483648, 999999, 1), (1000001, 2147483647, 1)]), [], [], []), (some (.inl [(-2, -2, 1)]), [], [], [])], [(196, 38, 39), (210, 0, 49), (211, 0, 7), (212, 0, 7)], [], 9)
set_option maxRecDepth 100000 in
theorem S_1514 : aSpec wd ct_1514 := bChk_ok wx_ok btX12_seekRound (nds := []) (fk := []) (rk := (1, [])) (sp := 0) (fuel := 3000) (by decide +kernel) (lk_c ml_12_416 S_1500 (lk_c ml_12_413 S_1513 lk_n)) odX12_seekRound
set_option maxRecDepth 100000 in
theorem btX12_round : bTab oX12_round tX12_round := ⟨ofX12_round, by decide +kernel⟩
def ct_1515 : aCt := (mX12_round, [.inr (.inl [196]), .inl aTop], ([], []), [(some (.inl [(-2147483648, 999999, 1), (1000001, 2147483647, 1)]), [none, some [(0, 6, 1)]], [((196, 11), [(0, 0, 1)]), ((196, 14), [(1, 1, 1)]), ((199, 0), [(2, 4, 1)]), ((199, 4), [(1, 7, 1)])], []), (some (.inl [(-1, -1, 1)]), [], [((196, 11), [(1, 1, 1)])], []), (some (.inl [(-2, -2, 1)]), [none, some [(0, 6, 1)]], [((196, 11), [(0, 0, 1)]), ((196, 14), [(1, 1, 1)]), ((199, 0), [(2, 4, 1)]), ((199, 4), [(1, 7, 1)])], [])], [(196, 0, 1), (196, 11, 12), (196, 38, 39), (210, 0, 49), (211, 0, 7), (212, 0, 7)], [], 10)
set_option maxRecDepth 100000 in
theorem S_1515 : aSpec wd ct_1515 := bChk_ok wx_ok btX12_round (nds := []) (fk := []) (rk := (1, [])) (sp := 0) (fuel := 3000) (by decide +kernel) (lk_c ml_12_167 S_651 (lk_c ml_12_170 S_1112 (lk_c ml_12_419 S_1514 (lk_c ml_12_277 S_1120 lk_n)))) odX12_round
set_option maxRecDepth 100000 in
theorem btX12_roundAt : bTab oX12_roundAt tX12_roundAt := ⟨ofX12_roundAt, by decide +kernel⟩
def ct_1516 : aCt := (mX12_roundAt, [.inr (.inl [196]), .inl aTop, .inl aTop], ([], []), [(some (.inl aTop), [none, some [(0, 6, 1)], some [(0, 6, 1)]], [((196, 11), [(0, 0, 1)]), ((196, 14), [(1, 1, 1)]), ((199, 0), [(2, 4, 1)]), ((199, 4), [(1, 7, 1)])], []), (some (.inl [(-1, -1, 1)]), [], [((196, 11), [(1, 1, 1), (6, 6, 1)])], [])], [(196, 0, 1), (196, 11, 12), (196, 38, 39), (210, 0, 49), (211, 0, 7), (212, 0, 7)], [], 10)
set_option maxRecDepth 100000 in
theorem S_1516 : aSpec wd ct_1516 := bChk_ok wx_ok btX12_roundAt (nds := []) (fk := []) (rk := (1, [])) (sp := 0) (fuel := 3000) (by decide +kernel) (lk_c ml_12_167 S_651 (lk_c ml_12_170 S_1454 (lk_c ml_12_170 S_1112 (lk_c ml_12_419 S_1514 (lk_c ml_12_277 S_1120 (lk_c ml_12_149 S_1119 lk_n)))))) odX12_roundAt
end Pk3
