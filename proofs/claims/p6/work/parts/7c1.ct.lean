set_option maxRecDepth 100000 in
theorem btX12_fault : bTab oX12_fault tX12_fault := ⟨ofX12_fault, by decide +kernel⟩
def ct_1105 : aCt := (mX12_fault, [.inr (.inl [196])], ([], []), [(some (.inl [(0, 7, 1)]), [], [], [])], [(196, 0, 1)], [], 0)
set_option maxRecDepth 100000 in
theorem S_1105 : aSpec wd ct_1105 := bChk_ok wx_ok btX12_fault (lk := []) (nds := []) (fk := []) (rk := (1, [])) (sp := 0) (fuel := 3000) (by decide +kernel) (fun _ h => nomatch h) odX12_fault
set_option maxRecDepth 100000 in
theorem btX12_where : bTab oX12_where tX12_where := ⟨ofX12_where, by decide +kernel⟩
def ct_1106 : aCt := (mX12_where, [.inr (.inl [196])], ([], []), [(some (.inl aTop), [], [((196, 11), [(4, 4, 1)])], []), (some (.inl [(-1, -1, 1)]), [], [((196, 11), [(0, 3, 1), (5, 6, 1)])], [])], [(196, 0, 1)], [], 0)
set_option maxRecDepth 100000 in
theorem S_1106 : aSpec wd ct_1106 := bChk_ok wx_ok btX12_where (lk := []) (nds := []) (fk := []) (rk := (1, [])) (sp := 0) (fuel := 3000) (by decide +kernel) (fun _ h => nomatch h) odX12_where
def ct_1107 : aCt := (mX12_in, [.inl aTop, .inl [(0, 0, 1)], .inl [(-1, 4, 1)]], ([], []), [(some (.inl [(0, 0, 1)]), [some aTop, none, none], [], []), (some (.inl [(1, 1, 1)]), [some [(0, 4, 1)], none, some [(0, 4, 1)]], [], [])], [(1000002, 0, 0)], [], 0)
set_option maxRecDepth 100000 in
theorem S_1107 : aSpec wd ct_1107 := bChk_ok wx_ok btX12_in (lk := []) (nds := []) (fk := []) (rk := (1, [])) (sp := 0) (fuel := 3000) (by decide +kernel) (fun _ h => nomatch h) odX12_in
set_option maxRecDepth 100000 in
theorem btX12_isWhale : bTab oX12_isWhale tX12_isWhale := ⟨ofX12_isWhale, by decide +kernel⟩
def ct_1108 : aCt := (mX12_isWhale, [.inr (.inl [196]), .inl aTop], ([], []), [(some (.inl [(0, 0, 1)]), [], [], []), (some (.inl [(1, 1, 1)]), [none, some [(0, 4, 1)]], [((196, 14), [(1, 1, 1)]), ((199, 0), [(2, 4, 1)]), ((199, 4), [(1, 7, 1)]), ((199, 6), [(1, 5, 1)])], [])], [], [], 1)
set_option maxRecDepth 100000 in
theorem S_1108 : aSpec wd ct_1108 := bChk_ok wx_ok btX12_isWhale (lk := [(149, 1, 3, ct_1107)]) (nds := []) (fk := []) (rk := (1, [])) (sp := 0) (fuel := 3000) (by decide +kernel) (List.forall_mem_cons.mpr ⟨⟨ml_12_149, S_1107⟩, fun _ h => nomatch h⟩) odX12_isWhale
def ct_1109 : aCt := (mX12_in, [.inl aTop, .inl [(0, 0, 1)], .inl [(4, 4, 1)]], ([], []), [(some (.inl [(0, 0, 1)]), [some [(-2147483648, -1, 1), (5, 2147483647, 1)], none, none], [], []), (some (.inl [(1, 1, 1)]), [some [(0, 4, 1)], none, none], [], [])], [(1000002, 0, 0)], [], 0)
set_option maxRecDepth 100000 in
theorem S_1109 : aSpec wd ct_1109 := bChk_ok wx_ok btX12_in (lk := []) (nds := []) (fk := []) (rk := (1, [])) (sp := 0) (fuel := 3000) (by decide +kernel) (fun _ h => nomatch h) odX12_in
set_option maxRecDepth 100000 in
theorem btX12_ofWhale : bTab oX12_ofWhale tX12_ofWhale := ⟨ofX12_ofWhale, by decide +kernel⟩
def ct_1110 : aCt := (mX12_ofWhale, [.inr (.inl [196]), .inl [(0, 4, 1)], .inl [(0, 0, 1)]], ([((199, 0), [(2, 4, 1)]), ((199, 4), [(1, 7, 1)]), ((199, 6), [(1, 5, 1)])], []), [(some (.inl [(0, 3, 1)]), [], [], [])], [], [], 0)
set_option maxRecDepth 100000 in
theorem S_1110 : aSpec wd ct_1110 := bChk_ok wx_ok btX12_ofWhale (lk := []) (nds := []) (fk := []) (rk := (1, [])) (sp := 0) (fuel := 3000) (by decide +kernel) (fun _ h => nomatch h) odX12_ofWhale
def ct_1111 : aCt := (mX12_ofWhale, [.inr (.inl [196]), .inl [(0, 4, 1)], .inl [(2, 3, 1)]], ([((199, 0), [(2, 4, 1)]), ((199, 4), [(1, 7, 1)]), ((199, 6), [(1, 5, 1)])], []), [(some (.inl aTop), [], [], [])], [], [], 0)
set_option maxRecDepth 100000 in
theorem S_1111 : aSpec wd ct_1111 := bChk_ok wx_ok btX12_ofWhale (lk := []) (nds := []) (fk := []) (rk := (1, [])) (sp := 0) (fuel := 3000) (by decide +kernel) (fun _ h => nomatch h) odX12_ofWhale
def ct_1112 : aCt := (mX12_no, [.inr (.inl [196]), .inl [(1, 1, 1)]], ([((196, 11), [(0, 0, 1)])], []), [(some (.inl [(-1, -1, 1)]), [], [((196, 11), [(1, 1, 1)])], [])], [(196, 11, 12)], [], 0)
set_option maxRecDepth 100000 in
theorem S_1112 : aSpec wd ct_1112 := bChk_ok wx_ok btX12_no (lk := []) (nds := []) (fk := []) (rk := (1, [])) (sp := 0) (fuel := 3000) (by decide +kernel) (fun _ h => nomatch h) odX12_no
set_option maxRecDepth 100000 in
theorem btX12_whale : bTab oX12_whale tX12_whale := ⟨ofX12_whale, by decide +kernel⟩
def ct_1113 : aCt := (mX12_whale, [.inr (.inl [196]), .inl aTop, .inl aTop], ([], []), [(some (.inl aTop), [none, some [(0, 4, 1)], some [(0, 4, 1)]], [((196, 11), [(0, 0, 1)]), ((196, 14), [(1, 1, 1)]), ((199, 0), [(2, 4, 1)]), ((199, 4), [(1, 7, 1)]), ((199, 6), [(1, 5, 1)])], []), (some (.inl [(-1, -1, 1)]), [], [((196, 11), [(1, 1, 1)])], [])], [(196, 0, 1), (196, 11, 12)], [], 2)
set_option maxRecDepth 100000 in
theorem S_1113 : aSpec wd ct_1113 := bChk_ok wx_ok btX12_whale (lk := [(167, 0, 1, ct_651), (170, 0, 2, ct_1112), (271, 0, 3, ct_1110), (271, 0, 3, ct_1111), (268, 0, 2, ct_1108), (149, 1, 3, ct_1109)]) (nds := []) (fk := []) (rk := (1, [])) (sp := 0) (fuel := 3000) (by decide +kernel) (List.forall_mem_cons.mpr ⟨⟨ml_12_167, S_651⟩, List.forall_mem_cons.mpr ⟨⟨ml_12_170, S_1112⟩, List.forall_mem_cons.mpr ⟨⟨ml_12_271, S_1110⟩, List.forall_mem_cons.mpr ⟨⟨ml_12_271, S_1111⟩, List.forall_mem_cons.mpr ⟨⟨ml_12_268, S_1108⟩, List.forall_mem_cons.mpr ⟨⟨ml_12_149, S_1109⟩, fun _ h => nomatch h⟩⟩⟩⟩⟩⟩) odX12_whale
def ct_1114 : aCt := (mX12_in, [.inl aTop, .inl [(0, 0, 1)], .inl [(-1, 7, 1)]], ([], []), [(some (.inl [(0, 0, 1)]), [some aTop, none, none], [], []), (some (.inl [(1, 1, 1)]), [some [(0, 7, 1)], none, some [(0, 7, 1)]], [], [])], [(1000002, 0, 0)], [], 0)
set_option maxRecDepth 100000 in
theorem S_1114 : aSpec wd ct_1114 := bChk_ok wx_ok btX12_in (lk := []) (nds := []) (fk := []) (rk := (1, [])) (sp := 0) (fuel := 3000) (by decide +kernel) (fun _ h => nomatch h) odX12_in
set_option maxRecDepth 100000 in
theorem btX12_isBox : bTab oX12_isBox tX12_isBox := ⟨ofX12_isBox, by decide +kernel⟩
def ct_1115 : aCt := (mX12_isBox, [.inr (.inl [196]), .inl aTop], ([], []), [(some (.inl [(0, 0, 1)]), [], [], []), (some (.inl [(1, 1, 1)]), [none, some [(0, 7, 1)]], [((196, 14), [(1, 1, 1)]), ((199, 0), [(2, 4, 1)]), ((199, 4), [(1, 7, 1)]), ((199, 7), [(1, 8, 1)])], [])], [], [], 1)
set_option maxRecDepth 100000 in
theorem S_1115 : aSpec wd ct_1115 := bChk_ok wx_ok btX12_isBox (lk := [(149, 1, 3, ct_1114)]) (nds := []) (fk := []) (rk := (1, [])) (sp := 0) (fuel := 3000) (by decide +kernel) (List.forall_mem_cons.mpr ⟨⟨ml_12_149, S_1114⟩, fun _ h => nomatch h⟩) odX12_isBox
def ct_1116 : aCt := (mX12_in, [.inl aTop, .inl [(0, 0, 1)], .inl [(5, 5, 1)]], ([], []), [(some (.inl [(0, 0, 1)]), [some [(-2147483648, -1, 1), (6, 2147483647, 1)], none, none], [], []), (some (.inl [(1, 1, 1)]), [some [(0, 5, 1)], none, none], [], [])], [(1000002, 0, 0)], [], 0)
set_option maxRecDepth 100000 in
theorem S_1116 : aSpec wd ct_1116 := bChk_ok wx_ok btX12_in (lk := []) (nds := []) (fk := []) (rk := (1, [])) (sp := 0) (fuel := 3000) (by decide +kernel) (fun _ h => nomatch h) odX12_in
set_option maxRecDepth 100000 in
theorem btX12_ofBox : bTab oX12_ofBox tX12_ofBox := ⟨ofX12_ofBox, by decide +kernel⟩
def ct_1117 : aCt := (mX12_ofBox, [.inr (.inl [196]), .inl [(0, 7, 1)], .inl [(0, 3, 1)]], ([((199, 0), [(2, 4, 1)]), ((199, 4), [(1, 7, 1)]), ((199, 7), [(1, 8, 1)])], []), [(some (.inl aTop), [], [], [])], [], [], 0)
set_option maxRecDepth 100000 in
theorem S_1117 : aSpec wd ct_1117 := bChk_ok wx_ok btX12_ofBox (lk := []) (nds := []) (fk := []) (rk := (1, [])) (sp := 0) (fuel := 3000) (by decide +kernel) (fun _ h => nomatch h) odX12_ofBox
set_option maxRecDepth 100000 in
theorem btX12_box : bTab oX12_box tX12_box := ⟨ofX12_box, by decide +kernel⟩
def ct_1118 : aCt := (mX12_box, [.inr (.inl [196]), .inl aTop, .inl aTop], ([], []), [(some (.inl aTop), [none, some [(0, 7, 1)], some [(0, 5, 1)]], [((196, 11), [(0, 0, 1)]), ((196, 14), [(1, 1, 1)]), ((199, 0), [(2, 4, 1)]), ((199, 4), [(1, 7, 1)]), ((199, 7), [(1, 8, 1)])], []), (some (.inl [(-1, -1, 1)]), [], [((196, 11), [(1, 1, 1)])], []), (some (.inl [(-2, -2, 1)]), [none, some [(0, 7, 1)], some [(4, 5, 1)]], [((196, 11), [(0, 0, 1)]), ((196, 14), [(1, 1, 1)]), ((199, 0), [(2, 4, 1)]), ((199, 4), [(1, 7, 1)]), ((199, 7), [(1, 8, 1)])], [])], [(196, 0, 1), (196, 11, 12)], [], 2)
set_option maxRecDepth 100000 in
theorem S_1118 : aSpec wd ct_1118 := bChk_ok wx_ok btX12_box (lk := [(167, 0, 1, ct_651), (170, 0, 2, ct_1112), (262, 0, 3, ct_1117), (274, 0, 2, ct_1115), (149, 1, 3, ct_1116)]) (nds := []) (fk := []) (rk := (1, [])) (sp := 0) (fuel := 3000) (by decide +kernel) (List.forall_mem_cons.mpr ⟨⟨ml_12_167, S_651⟩, List.forall_mem_cons.mpr ⟨⟨ml_12_170, S_1112⟩, List.forall_mem_cons.mpr ⟨⟨ml_12_262, S_1117⟩, List.forall_mem_cons.mpr ⟨⟨ml_12_274, S_1115⟩, List.forall_mem_cons.mpr ⟨⟨ml_12_149, S_1116⟩, fun _ h => nomatch h⟩⟩⟩⟩⟩) odX12_box
def ct_1119 : aCt := (mX12_in, [.inl aTop, .inl [(0, 0, 1)], .inl [(0, 6, 1)]], ([], []), [(some (.inl [(0, 0, 1)]), [some [(-2147483648, -1, 1), (1, 2147483647, 1)], none, none], [], []), (some (.inl [(1, 1, 1)]), [some [(0, 6, 1)], none, none], [], [])], [(1000002, 0, 0)], [], 0)
set_option maxRecDepth 100000 in
theorem S_1119 : aSpec wd ct_1119 := bChk_ok wx_ok btX12_in (lk := []) (nds := []) (fk := []) (rk := (1, [])) (sp := 0) (fuel := 3000) (by decide +kernel) (fun _ h => nomatch h) odX12_in
set_option maxRecDepth 100000 in
theorem btX12_isIsland : bTab oX12_isIsland tX12_isIsland := ⟨ofX12_isIsland, by decide +kernel⟩
def ct_1120 : aCt := (mX12_isIsland, [.inr (.inl [196]), .inl aTop], ([], []), [(some (.inl [(0, 0, 1)]), [], [], []), (some (.inl [(1, 1, 1)]), [none, some [(0, 6, 1)]], [((196, 14), [(1, 1, 1)]), ((199, 0), [(2, 4, 1)]), ((199, 4), [(1, 7, 1)])], [])], [], [], 1)
set_option maxRecDepth 100000 in
theorem S_1120 : aSpec wd ct_1120 := bChk_ok wx_ok btX12_isIsland (lk := [(149, 1, 3, ct_1119)]) (nds := []) (fk := []) (rk := (1, [])) (sp := 0) (fuel := 3000) (by decide +kernel) (List.forall_mem_cons.mpr ⟨⟨ml_12_149, S_1119⟩, fun _ h => nomatch h⟩) odX12_isIsland
set_option maxRecDepth 100000 in
theorem btX12_songLong : bTab oX12_songLong tX12_songLong := ⟨ofX12_songLong, by decide +kernel⟩
def ct_1121 : aCt := (mX12_songLong, [.inr (.inl [196]), .inl [(0, 6, 1)]], ([((199, 0), [(2, 4, 1)]), ((199, 4), [(1, 7, 1)])], []), [(some (.inl [(0, 6, 1)]), [], [], [])], [], [], 0)
set_option maxRecDepth 100000 in
theorem S_1121 : aSpec wd ct_1121 := bChk_ok wx_ok btX12_songLong (lk := []) (nds := []) (fk := []) (rk := (1, [])) (sp := 0) (fuel := 3000) (by decide +kernel) (fun _ h => nomatch h) odX12_songLong
set_option maxRecDepth 100000 in
theorem btX12_length : bTab oX12_length tX12_length := ⟨ofX12_length, by decide +kernel⟩
def ct_1122 : aCt := (mX12_length, [.inr (.inl [196]), .inl aTop], ([], []), [(some (.inl [(0, 6, 1)]), [none, some [(0, 6, 1)]], [((196, 11), [(0, 0, 1)]), ((196, 14), [(1, 1, 1)]), ((199, 0), [(2, 4, 1)]), ((199, 4), [(1, 7, 1)])], []), (some (.inl [(-1, -1, 1)]), [], [((196, 11), [(1, 1, 1)])], [])], [(196, 0, 1), (196, 11, 12)], [], 2)
set_option maxRecDepth 100000 in
theorem S_1122 : aSpec wd ct_1122 := bChk_ok wx_ok btX12_length (lk := [(167, 0, 1, ct_651), (170, 0, 2, ct_1112), (265, 0, 2, ct_1121), (277, 0, 2, ct_1120)]) (nds := []) (fk := []) (rk := (1, [])) (sp := 0) (fuel := 3000) (by decide +kernel) (List.forall_mem_cons.mpr ⟨⟨ml_12_167, S_651⟩, List.forall_mem_cons.mpr ⟨⟨ml_12_170, S_1112⟩, List.forall_mem_cons.mpr ⟨⟨ml_12_265, S_1121⟩, List.forall_mem_cons.mpr ⟨⟨ml_12_277, S_1120⟩, fun _ h => nomatch h⟩⟩⟩⟩) odX12_length
def ct_1123 : aCt := (mX12_in, [.inl aTop, .inl [(0, 0, 1)], .inl [(-1, 5, 1)]], ([], []), [(some (.inl [(0, 0, 1)]), [some aTop, none, none], [], []), (some (.inl [(1, 1, 1)]), [some [(0, 5, 1)], none, some [(0, 5, 1)]], [], [])], [(1000002, 0, 0)], [], 0)
set_option maxRecDepth 100000 in
theorem S_1123 : aSpec wd ct_1123 := bChk_ok wx_ok btX12_in (lk := []) (nds := []) (fk := []) (rk := (1, [])) (sp := 0) (fuel := 3000) (by decide +kernel) (fun _ h => nomatch h) odX12_in
set_option maxRecDepth 100000 in
theorem btX12_noteIn : bTab oX12_noteIn tX12_noteIn := ⟨ofX12_noteIn, by decide +kernel⟩
def ct_1124 : aCt := (mX12_noteIn, [.inr (.inl [196]), .inl [(0, 6, 1)], .inl [(0, 5, 1)], .inl [(0, 10098, 1)]], ([((199, 0), [(2, 4, 1)])], []), [(some (.inl [(-3, 3, 1)]), [], [], [])], [], [], 0)
set_option maxRecDepth 100000 in
theorem S_1124 : aSpec wd ct_1124 := bChk_ok wx_ok btX12_noteIn (lk := []) (nds := []) (fk := []) (rk := (1, [])) (sp := 0) (fuel := 3000) (by decide +kernel) (fun _ h => nomatch h) odX12_noteIn
set_option maxRecDepth 100000 in
theorem btX12_note : bTab oX12_note tX12_note := ⟨ofX12_note, by decide +kernel⟩
def ct_1125 : aCt := (mX12_note, [.inr (.inl [196]), .inl aTop, .inl aTop], ([], []), [(some (.inl [(-3, 3, 1)]), [none, some [(0, 6, 1)], some [(0, 5, 1)]], [((196, 11), [(0, 0, 1)]), ((196, 14), [(1, 1, 1)]), ((199, 0), [(2, 4, 1)]), ((199, 4), [(1, 7, 1)])], []), (some (.inl [(-1, -1, 1)]), [], [((196, 11), [(1, 1, 1)])], [])], [(196, 0, 1), (196, 11, 12)], [], 2)
set_option maxRecDepth 100000 in
theorem S_1125 : aSpec wd ct_1125 := bChk_ok wx_ok btX12_note (lk := [(167, 0, 1, ct_651), (170, 0, 2, ct_1112), (265, 0, 2, ct_1121), (280, 0, 4, ct_1124), (277, 0, 2, ct_1120), (149, 1, 3, ct_1123)]) (nds := []) (fk := []) (rk := (1, [])) (sp := 0) (fuel := 3000) (by decide +kernel) (List.forall_mem_cons.mpr ⟨⟨ml_12_167, S_651⟩, List.forall_mem_cons.mpr ⟨⟨ml_12_170, S_1112⟩, List.forall_mem_cons.mpr ⟨⟨ml_12_265, S_1121⟩, List.forall_mem_cons.mpr ⟨⟨ml_12_280, S_1124⟩, List.forall_mem_cons.mpr ⟨⟨ml_12_277, S_1120⟩, List.forall_mem_cons.mpr ⟨⟨ml_12_149, S_1123⟩, fun _ h => nomatch h⟩⟩⟩⟩⟩⟩) odX12_note
def ct_1126 : aCt := (mX12_ofBox, [.inr (.inl [196]), .inl [(0, 7, 1)], .inl [(1, 1, 1)]], ([((199, 0), [(2, 4, 1)]), ((199, 4), [(1, 7, 1)]), ((199, 7), [(1, 8, 1)])], []), [(some (.inl [(0, 6, 1)]), [], [], [])], [], [], 0)
set_option maxRecDepth 100000 in
theorem S_1126 : aSpec wd ct_1126 := bChk_ok wx_ok btX12_ofBox (lk := []) (nds := []) (fk := []) (rk := (1, [])) (sp := 0) (fuel := 3000) (by decide +kernel) (fun _ h => nomatch h) odX12_ofBox
def ct_1127 : aCt := (mX12_songLong, [.inr (.inl [196]), .inl [(0, 0, 1)]], ([((199, 0), [(2, 4, 1)]), ((199, 4), [(1, 7, 1)]), ((199, 7), [(1, 8, 1)])], []), [(some (.inl [(2, 6, 1)]), [], [], [])], [], [], 0)
set_option maxRecDepth 100000 in
theorem S_1127 : aSpec wd ct_1127 := bChk_ok wx_ok btX12_songLong (lk := []) (nds := []) (fk := []) (rk := (1, [])) (sp := 0) (fuel := 3000) (by decide +kernel) (fun _ h => nomatch h) odX12_songLong
def ct_1128 : aCt := (mX12_songLong, [.inr (.inl [196]), .inl [(1, 1, 1)]], ([((199, 0), [(2, 4, 1)]), ((199, 4), [(1, 7, 1)]), ((199, 7), [(1, 8, 1)])], []), [(some (.inl [(0, 6, 1)]), [], [], [])], [], [], 0)
set_option maxRecDepth 100000 in
theorem S_1128 : aSpec wd ct_1128 := bChk_ok wx_ok btX12_songLong (lk := []) (nds := []) (fk := []) (rk := (1, [])) (sp := 0) (fuel := 3000) (by decide +kernel) (fun _ h => nomatch h) odX12_songLong
def ct_1129 : aCt := (mX12_songLong, [.inr (.inl [196]), .inl [(2, 2, 1)]], ([((199, 0), [(2, 4, 1)]), ((199, 4), [(1, 7, 1)]), ((199, 7), [(1, 8, 1)])], []), [(some (.inl [(0, 6, 1)]), [], [], [])], [], [], 0)
set_option maxRecDepth 100000 in
theorem S_1129 : aSpec wd ct_1129 := bChk_ok wx_ok btX12_songLong (lk := []) (nds := []) (fk := []) (rk := (1, [])) (sp := 0) (fuel := 3000) (by decide +kernel) (fun _ h => nomatch h) odX12_songLong
def ct_1130 : aCt := (mX12_songLong, [.inr (.inl [196]), .inl [(3, 3, 1)]], ([((199, 0), [(2, 4, 1)]), ((199, 4), [(1, 7, 1)]), ((199, 7), [(1, 8, 1)])], []), [(some (.inl [(0, 6, 1)]), [], [], [])], [], [], 0)
set_option maxRecDepth 100000 in
theorem S_1130 : aSpec wd ct_1130 := bChk_ok wx_ok btX12_songLong (lk := []) (nds := []) (fk := []) (rk := (1, [])) (sp := 0) (fuel := 3000) (by decide +kernel) (fun _ h => nomatch h) odX12_songLong
def ct_1131 : aCt := (mX12_songLong, [.inr (.inl [196]), .inl [(4, 4, 1)]], ([((199, 0), [(2, 4, 1)]), ((199, 4), [(1, 7, 1)]), ((199, 7), [(1, 8, 1)])], []), [(some (.inl [(0, 6, 1)]), [], [], [])], [], [], 0)
set_option maxRecDepth 100000 in
theorem S_1131 : aSpec wd ct_1131 := bChk_ok wx_ok btX12_songLong (lk := []) (nds := []) (fk := []) (rk := (1, [])) (sp := 0) (fuel := 3000) (by decide +kernel) (fun _ h => nomatch h) odX12_songLong
def ct_1132 : aCt := (mX12_songLong, [.inr (.inl [196]), .inl [(5, 5, 1)]], ([((199, 0), [(2, 4, 1)]), ((199, 4), [(1, 7, 1)]), ((199, 7), [(1, 8, 1)])], []), [(some (.inl [(0, 6, 1)]), [], [], [])], [], [], 0)
set_option maxRecDepth 100000 in
theorem S_1132 : aSpec wd ct_1132 := bChk_ok wx_ok btX12_songLong (lk := []) (nds := []) (fk := []) (rk := (1, [])) (sp := 0) (fuel := 3000) (by decide +kernel) (fun _ h => nomatch h) odX12_songLong
def ct_1133 : aCt := (mX12_songLong, [.inr (.inl [196]), .inl [(6, 6, 1)]], ([((199, 0), [(2, 4, 1)]), ((199, 4), [(1, 7, 1)]), ((199, 7), [(1, 8, 1)])], []), [(some (.inl [(0, 6, 1)]), [], [], [])], [], [], 0)
set_option maxRecDepth 100000 in
theorem S_1133 : aSpec wd ct_1133 := bChk_ok wx_ok btX12_songLong (lk := []) (nds := []) (fk := []) (rk := (1, [])) (sp := 0) (fuel := 3000) (by decide +kernel) (fun _ h => nomatch h) odX12_songLong
set_option maxRecDepth 100000 in
theorem btX12_boxLong : bTab oX12_boxLong tX12_boxLong := ⟨ofX12_boxLong, by decide +kernel⟩
def ct_1134 : aCt := (mX12_boxLong, [.inr (.inl [196]), .inl [(0, 7, 1)]], ([((199, 0), [(2, 4, 1)]), ((199, 4), [(1, 7, 1)]), ((199, 7), [(1, 8, 1)])], []), [(some (.inl [(0, 6, 1)]), [], [], [])], [], [], 1)
set_option maxRecDepth 100000 in
theorem S_1134 : aSpec wd ct_1134 := bChk_ok wx_ok btX12_boxLong (lk := [(265, 0, 2, ct_1127), (265, 0, 2, ct_1128), (265, 0, 2, ct_1129), (265, 0, 2, ct_1130), (265, 0, 2, ct_1131), (265, 0, 2, ct_1132), (265, 0, 2, ct_1133), (262, 0, 3, ct_1126)]) (nds := []) (fk := [7]) (rk := (1, [])) (sp := 0) (fuel := 3000) (by decide +kernel) (List.forall_mem_cons.mpr ⟨⟨ml_12_265, S_1127⟩, List.forall_mem_cons.mpr ⟨⟨ml_12_265, S_1128⟩, List.forall_mem_cons.mpr ⟨⟨ml_12_265, S_1129⟩, List.forall_mem_cons.mpr ⟨⟨ml_12_265, S_1130⟩, List.forall_mem_cons.mpr ⟨⟨ml_12_265, S_1131⟩, List.forall_mem_cons.mpr ⟨⟨ml_12_265, S_1132⟩, List.forall_mem_cons.mpr ⟨⟨ml_12_265, S_1133⟩, List.forall_mem_cons.mpr ⟨⟨ml_12_262, S_1126⟩, fun _ h => nomatch h⟩⟩⟩⟩⟩⟩⟩⟩) odX12_boxLong
set_option maxRecDepth 100000 in
theorem btX12_sung : bTab oX12_sung tX12_sung := ⟨ofX12_sung, by decide +kernel⟩
def ct_1135 : aCt := (mX12_sung, [.inr (.inl [196]), .inl aTop, .inl aTop], ([], []), [(some (.inl aTop), [none, some [(0, 7, 1)], some [(0, 5, 1)]], [((196, 11), [(0, 0, 1)]), ((196, 14), [(1, 1, 1)]), ((199, 0), [(2, 4, 1)]), ((199, 4), [(1, 7, 1)]), ((199, 7), [(1, 8, 1)])], []), (some (.inl [(-1, -1, 1)]), [], [((196, 11), [(1, 1, 1)])], [])], [(196, 0, 1), (196, 11, 12)], [], 2)
set_option maxRecDepth 100000 in
theorem S_1135 : aSpec wd ct_1135 := bChk_ok wx_ok btX12_sung (lk := [(167, 0, 1, ct_651), (170, 0, 2, ct_1112), (284, 0, 2, ct_1134), (274, 0, 2, ct_1115), (149, 1, 3, ct_1123)]) (nds := []) (fk := []) (rk := (1, [])) (sp := 0) (fuel := 3000) (by decide +kernel) (List.forall_mem_cons.mpr ⟨⟨ml_12_167, S_651⟩, List.forall_mem_cons.mpr ⟨⟨ml_12_170, S_1112⟩, List.forall_mem_cons.mpr ⟨⟨ml_12_284, S_1134⟩, List.forall_mem_cons.mpr ⟨⟨ml_12_274, S_1115⟩, List.forall_mem_cons.mpr ⟨⟨ml_12_149, S_1123⟩, fun _ h => nomatch h⟩⟩⟩⟩⟩) odX12_sung
def ct_1136 : aCt := (mX12_ofBox, [.inr (.inl [196]), .inl [(0, 7, 1)], .inl [(1, 1, 1)]], ([((199, 0), [(2, 4, 1)]), ((199, 4), [(1, 7, 1)])], []), [(some (.inl [(0, 6, 1)]), [], [], [])], [], [], 0)
set_option maxRecDepth 100000 in
theorem S_1136 : aSpec wd ct_1136 := bChk_ok wx_ok btX12_ofBox (lk := []) (nds := []) (fk := []) (rk := (1, [])) (sp := 0) (fuel := 3000) (by decide +kernel) (fun _ h => nomatch h) odX12_ofBox
def ct_1137 : aCt := (mX12_songLong, [.inr (.inl [196]), .inl [(0, 0, 1)]], ([((199, 0), [(2, 4, 1)]), ((199, 4), [(1, 7, 1)])], []), [(some (.inl [(2, 6, 1)]), [], [], [])], [], [], 0)
set_option maxRecDepth 100000 in
theorem S_1137 : aSpec wd ct_1137 := bChk_ok wx_ok btX12_songLong (lk := []) (nds := []) (fk := []) (rk := (1, [])) (sp := 0) (fuel := 3000) (by decide +kernel) (fun _ h => nomatch h) odX12_songLong
def ct_1138 : aCt := (mX12_songLong, [.inr (.inl [196]), .inl [(1, 1, 1)]], ([((199, 0), [(2, 4, 1)]), ((199, 4), [(1, 7, 1)])], []), [(some (.inl [(0, 6, 1)]), [], [], [])], [], [], 0)
set_option maxRecDepth 100000 in
theorem S_1138 : aSpec wd ct_1138 := bChk_ok wx_ok btX12_songLong (lk := []) (nds := []) (fk := []) (rk := (1, [])) (sp := 0) (fuel := 3000) (by decide +kernel) (fun _ h => nomatch h) odX12_songLong
def ct_1139 : aCt := (mX12_songLong, [.inr (.inl [196]), .inl [(2, 2, 1)]], ([((199, 0), [(2, 4, 1)]), ((199, 4), [(1, 7, 1)])], []), [(some (.inl [(0, 6, 1)]), [], [], [])], [], [], 0)
set_option maxRecDepth 100000 in
theorem S_1139 : aSpec wd ct_1139 := bChk_ok wx_ok btX12_songLong (lk := []) (nds := []) (fk := []) (rk := (1, [])) (sp := 0) (fuel := 3000) (by decide +kernel) (fun _ h => nomatch h) odX12_songLong
def ct_1140 : aCt := (mX12_songLong, [.inr (.inl [196]), .inl [(3, 3, 1)]], ([((199, 0), [(2, 4, 1)]), ((199, 4), [(1, 7, 1)])], []), [(some (.inl [(0, 6, 1)]), [], [], [])], [], [], 0)
set_option maxRecDepth 100000 in
theorem S_1140 : aSpec wd ct_1140 := bChk_ok wx_ok btX12_songLong (lk := []) (nds := []) (fk := []) (rk := (1, [])) (sp := 0) (fuel := 3000) (by decide +kernel) (fun _ h => nomatch h) odX12_songLong
def ct_1141 : aCt := (mX12_songLong, [.inr (.inl [196]), .inl [(4, 4, 1)]], ([((199, 0), [(2, 4, 1)]), ((199, 4), [(1, 7, 1)])], []), [(some (.inl [(0, 6, 1)]), [], [], [])], [], [], 0)
set_option maxRecDepth 100000 in
theorem S_1141 : aSpec wd ct_1141 := bChk_ok wx_ok btX12_songLong (lk := []) (nds := []) (fk := []) (rk := (1, [])) (sp := 0) (fuel := 3000) (by decide +kernel) (fun _ h => nomatch h) odX12_songLong
def ct_1142 : aCt := (mX12_songLong, [.inr (.inl [196]), .inl [(5, 5, 1)]], ([((199, 0), [(2, 4, 1)]), ((199, 4), [(1, 7, 1)])], []), [(some (.inl [(0, 6, 1)]), [], [], [])], [], [], 0)
set_option maxRecDepth 100000 in
theorem S_1142 : aSpec wd ct_1142 := bChk_ok wx_ok btX12_songLong (lk := []) (nds := []) (fk := []) (rk := (1, [])) (sp := 0) (fuel := 3000) (by decide +kernel) (fun _ h => nomatch h) odX12_songLong
def ct_1143 : aCt := (mX12_songLong, [.inr (.inl [196]), .inl [(6, 6, 1)]], ([((199, 0), [(2, 4, 1)]), ((199, 4), [(1, 7, 1)])], []), [(some (.inl [(0, 6, 1)]), [], [], [])], [], [], 0)
set_option maxRecDepth 100000 in
theorem S_1143 : aSpec wd ct_1143 := bChk_ok wx_ok btX12_songLong (lk := []) (nds := []) (fk := []) (rk := (1, [])) (sp := 0) (fuel := 3000) (by decide +kernel) (fun _ h => nomatch h) odX12_songLong
def ct_1144 : aCt := (mX12_boxLong, [.inr (.inl [196]), .inl [(0, 7, 1)]], ([((199, 0), [(2, 4, 1)]), ((199, 4), [(1, 7, 1)])], []), [(some (.inl [(0, 6, 1)]), [], [], [])], [], [], 1)
set_option maxRecDepth 100000 in
theorem S_1144 : aSpec wd ct_1144 := bChk_ok wx_ok btX12_boxLong (lk := [(265, 0, 2, ct_1137), (265, 0, 2, ct_1138), (265, 0, 2, ct_1139), (265, 0, 2, ct_1140), (265, 0, 2, ct_1141), (265, 0, 2, ct_1142), (265, 0, 2, ct_1143), (262, 0, 3, ct_1136)]) (nds := []) (fk := [7]) (rk := (1, [])) (sp := 0) (fuel := 3000) (by decide +kernel) (List.forall_mem_cons.mpr ⟨⟨ml_12_265, S_1137⟩, List.forall_mem_cons.mpr ⟨⟨ml_12_265, S_1138⟩, List.forall_mem_cons.mpr ⟨⟨ml_12_265, S_1139⟩, List.forall_mem_cons.mpr ⟨⟨ml_12_265, S_1140⟩, List.forall_mem_cons.mpr ⟨⟨ml_12_265, S_1141⟩, List.forall_mem_cons.mpr ⟨⟨ml_12_265, S_1142⟩, List.forall_mem_cons.mpr ⟨⟨ml_12_265, S_1143⟩, List.forall_mem_cons.mpr ⟨⟨ml_12_262, S_1136⟩, fun _ h => nomatch h⟩⟩⟩⟩⟩⟩⟩⟩) odX12_boxLong
def ct_1145 : aCt := (mX12_ofBox, [.inr (.inl [196]), .inl [(0, 7, 1)], .inl [(1, 1, 1)]], ([((199, 0), [(2, 4, 1)])], []), [(some (.inl [(0, 6, 1)]), [], [], [])], [], [], 0)
set_option maxRecDepth 100000 in
theorem S_1145 : aSpec wd ct_1145 := bChk_ok wx_ok btX12_ofBox (lk := []) (nds := []) (fk := []) (rk := (1, [])) (sp := 0) (fuel := 3000) (by decide +kernel) (fun _ h => nomatch h) odX12_ofBox
def ct_1146 : aCt := (mX12_songLong, [.inr (.inl [196]), .inl [(0, 0, 1)]], ([((199, 0), [(2, 4, 1)])], []), [(some (.inl [(0, 6, 1)]), [], [], [])], [], [], 0)
set_option maxRecDepth 100000 in
theorem S_1146 : aSpec wd ct_1146 := bChk_ok wx_ok btX12_songLong (lk := []) (nds := []) (fk := []) (rk := (1, [])) (sp := 0) (fuel := 3000) (by decide +kernel) (fun _ h => nomatch h) odX12_songLong
def ct_1147 : aCt := (mX12_songLong, [.inr (.inl [196]), .inl [(1, 1, 1)]], ([((199, 0), [(2, 4, 1)])], []), [(some (.inl [(0, 6, 1)]), [], [], [])], [], [], 0)
set_option maxRecDepth 100000 in
theorem S_1147 : aSpec wd ct_1147 := bChk_ok wx_ok btX12_songLong (lk := []) (nds := []) (fk := []) (rk := (1, [])) (sp := 0) (fuel := 3000) (by decide +kernel) (fun _ h => nomatch h) odX12_songLong
def ct_1148 : aCt := (mX12_songLong, [.inr (.inl [196]), .inl [(2, 2, 1)]], ([((199, 0), [(2, 4, 1)])], []), [(some (.inl [(0, 6, 1)]), [], [], [])], [], [], 0)
set_option maxRecDepth 100000 in
theorem S_1148 : aSpec wd ct_1148 := bChk_ok wx_ok btX12_songLong (lk := []) (nds := []) (fk := []) (rk := (1, [])) (sp := 0) (fuel := 3000) (by decide +kernel) (fun _ h => nomatch h) odX12_songLong
def ct_1149 : aCt := (mX12_songLong, [.inr (.inl [196]), .inl [(3, 3, 1)]], ([((199, 0), [(2, 4, 1)])], []), [(some (.inl [(0, 6, 1)]), [], [], [])], [], [], 0)
set_option maxRecDepth 100000 in
theorem S_1149 : aSpec wd ct_1149 := bChk_ok wx_ok btX12_songLong (lk := []) (nds := []) (fk := []) (rk := (1, [])) (sp := 0) (fuel := 3000) (by decide +kernel) (fun _ h => nomatch h) odX12_songLong
def ct_1150 : aCt := (mX12_songLong, [.inr (.inl [196]), .inl [(4, 4, 1)]], ([((199, 0), [(2, 4, 1)])], []), [(some (.inl [(0, 6, 1)]), [], [], [])], [], [], 0)
set_option maxRecDepth 100000 in
theorem S_1150 : aSpec wd ct_1150 := bChk_ok wx_ok btX12_songLong (lk := []) (nds := []) (fk := []) (rk := (1, [])) (sp := 0) (fuel := 3000) (by decide +kernel) (fun _ h => nomatch h) odX12_songLong
def ct_1151 : aCt := (mX12_songLong, [.inr (.inl [196]), .inl [(5, 5, 1)]], ([((199, 0), [(2, 4, 1)])], []), [(some (.inl [(0, 6, 1)]), [], [], [])], [], [], 0)
set_option maxRecDepth 100000 in
theorem S_1151 : aSpec wd ct_1151 := bChk_ok wx_ok btX12_songLong (lk := []) (nds := []) (fk := []) (rk := (1, [])) (sp := 0) (fuel := 3000) (by decide +kernel) (fun _ h => nomatch h) odX12_songLong
def ct_1152 : aCt := (mX12_songLong, [.inr (.inl [196]), .inl [(6, 6, 1)]], ([((199, 0), [(2, 4, 1)])], []), [(some (.inl [(0, 6, 1)]), [], [], [])], [], [], 0)
set_option maxRecDepth 100000 in
theorem S_1152 : aSpec wd ct_1152 := bChk_ok wx_ok btX12_songLong (lk := []) (nds := []) (fk := []) (rk := (1, [])) (sp := 0) (fuel := 3000) (by decide +kernel) (fun _ h => nomatch h) odX12_songLong
def ct_1153 : aCt := (mX12_boxLong, [.inr (.inl [196]), .inl [(0, 7, 1)]], ([((199, 0), [(2, 4, 1)])], []), [(some (.inl [(0, 6, 1)]), [], [], [])], [], [], 1)
set_option maxRecDepth 100000 in
theorem S_1153 : aSpec wd ct_1153 := bChk_ok wx_ok btX12_boxLong (lk := [(265, 0, 2, ct_1146), (265, 0, 2, ct_1147), (265, 0, 2, ct_1148), (265, 0, 2, ct_1149), (265, 0, 2, ct_1150), (265, 0, 2, ct_1151), (265, 0, 2, ct_1152), (262, 0, 3, ct_1145)]) (nds := []) (fk := [7]) (rk := (1, [])) (sp := 0) (fuel := 3000) (by decide +kernel) (List.forall_mem_cons.mpr ⟨⟨ml_12_265, S_1146⟩, List.forall_mem_cons.mpr ⟨⟨ml_12_265, S_1147⟩, List.forall_mem_cons.mpr ⟨⟨ml_12_265, S_1148⟩, List.forall_mem_cons.mpr ⟨⟨ml_12_265, S_1149⟩, List.forall_mem_cons.mpr ⟨⟨ml_12_265, S_1150⟩, List.forall_mem_cons.mpr ⟨⟨ml_12_265, S_1151⟩, List.forall_mem_cons.mpr ⟨⟨ml_12_265, S_1152⟩, List.forall_mem_cons.mpr ⟨⟨ml_12_262, S_1145⟩, fun _ h => nomatch h⟩⟩⟩⟩⟩⟩⟩⟩) odX12_boxLong
set_option maxRecDepth 100000 in
theorem btX12_unlike : bTab oX12_unlike tX12_unlike := ⟨ofX12_unlike, by decide +kernel⟩
def ct_1154 : aCt := (mX12_unlike, [.inr (.inl [196]), .inl [(0, 7, 1)], .inl [(0, 6, 1)], .inl [(0, 10098, 1)], .inl [(-1, 5, 1)], .inl [(0, 3, 1)]], ([((199, 0), [(2, 4, 1)])], []), [(some (.inl aTop), [], [], [])], [], [], 2)
set_option maxRecDepth 100000 in
theorem S_1154 : aSpec wd ct_1154 := bChk_ok wx_ok btX12_unlike (lk := [(284, 0, 2, ct_1153), (280, 0, 4, ct_1124)]) (nds := [(6, [(0, .inr (.inl [196])), (1, .inl [(0, 7, 1)]), (2, .inl [(0, 6, 1)]), (3, .inl [(0, 10098, 1)]), (4, .inl [(-1, 5, 1)]), (5, .inl [(0, 3, 1)]), (6, .inl aTop), (7, .inl [(0, 6, 1)])], [], [sl_326], [], (6, [(6, -1)]))]) (fk := []) (rk := (7, [])) (sp := 64) (fuel := 3000) (by decide +kernel) (List.forall_mem_cons.mpr ⟨⟨ml_12_284, S_1153⟩, List.forall_mem_cons.mpr ⟨⟨ml_12_280, S_1124⟩, fun _ h => nomatch h⟩⟩) odX12_unlike
set_option maxRecDepth 100000 in
theorem btX12_hearsIn : bTab oX12_hearsIn tX12_hearsIn := ⟨ofX12_hearsIn, by decide +kernel⟩
def ct_1155 : aCt := (mX12_hearsIn, [.inr (.inl [196]), .inl [(0, 7, 1)], .inl [(0, 10098, 1)], .inl [(-1, 5, 1)], .inl [(0, 3, 1)]], ([((199, 0), [(2, 4, 1)])], []), [(some (.inl [(-2, -2, 1), (0, 6, 1)]), [], [], []), (some (.inl [(-2, -2, 1)]), [], [], [])], [], [], 3)
set_option maxRecDepth 100000 in
theorem S_1155 : aSpec wd ct_1155 := bChk_ok wx_ok btX12_hearsIn (lk := [(265, 0, 2, ct_1121), (284, 0, 2, ct_1144), (287, 0, 6, ct_1154)]) (nds := [(11, [(0, .inr (.inl [196])), (1, .inl [(0, 7, 1)]), (2, .inl [(0, 10098, 1)]), (3, .inl [(-1, 5, 1)]), (4, .inl [(0, 3, 1)]), (5, .inl [(-2, -2, 1), (0, 6, 1)]), (6, .inl [(-2147483648, 7, 1)]), (7, .inl [(0, 7, 1)])], [], [sl_326], [], (7, [(6, -1)]))]) (fk := []) (rk := (8, [])) (sp := 2048) (fuel := 3000) (by decide +kernel) (List.forall_mem_cons.mpr ⟨⟨ml_12_265, S_1121⟩, List.forall_mem_cons.mpr ⟨⟨ml_12_284, S_1144⟩, List.forall_mem_cons.mpr ⟨⟨ml_12_287, S_1154⟩, fun _ h => nomatch h⟩⟩⟩) odX12_hearsIn
set_option maxRecDepth 100000 in
theorem btX12_heardNow : bTab oX12_heardNow tX12_heardNow := ⟨ofX12_heardNow, by decide +kernel⟩
def ct_1156 : aCt := (mX12_heardNow, [.inr (.inl [196]), .inl [(0, 7, 1)]], ([((199, 0), [(2, 4, 1)]), ((199, 4), [(1, 7, 1)]), ((199, 7), [(1, 8, 1)])], []), [(some (.inl [(-2, -2, 1), (0, 6, 1)]), [], [], []), (some (.inl [(-2, -2, 1)]), [], [], [])], [], [], 4)
set_option maxRecDepth 100000 in
theorem S_1156 : aSpec wd ct_1156 := bChk_ok wx_ok btX12_heardNow (lk := [(291, 0, 5, ct_1155)]) (nds := []) (fk := []) (rk := (1, [])) (sp := 0) (fuel := 3000) (by decide +kernel) (List.forall_mem_cons.mpr ⟨⟨ml_12_291, S_1155⟩, fun _ h => nomatch h⟩) odX12_heardNow
set_option maxRecDepth 100000 in
theorem btX12_heard : bTab oX12_heard tX12_heard := ⟨ofX12_heard, by decide +kernel⟩
def ct_1157 : aCt := (mX12_heard, [.inr (.inl [196]), .inl aTop], ([], []), [(some (.inl [(-2, -2, 1), (0, 6, 1)]), [none, some [(0, 7, 1)]], [((196, 11), [(0, 0, 1)]), ((196, 14), [(1, 1, 1)]), ((199, 0), [(2, 4, 1)]), ((199, 4), [(1, 7, 1)]), ((199, 7), [(1, 8, 1)])], []), (some (.inl [(-1, -1, 1)]), [], [((196, 11), [(1, 1, 1)])], []), (some (.inl [(-2, -2, 1)]), [none, some [(0, 7, 1)]], [((196, 11), [(0, 0, 1)]), ((196, 14), [(1, 1, 1)]), ((199, 0), [(2, 4, 1)]), ((199, 4), [(1, 7, 1)]), ((199, 7), [(1, 8, 1)])], [])], [(196, 0, 1), (196, 11, 12)], [], 5)
set_option maxRecDepth 100000 in
theorem S_1157 : aSpec wd ct_1157 := bChk_ok wx_ok btX12_heard (lk := [(167, 0, 1, ct_651), (170, 0, 2, ct_1112), (295, 0, 2, ct_1156), (274, 0, 2, ct_1115)]) (nds := []) (fk := []) (rk := (1, [])) (sp := 0) (fuel := 3000) (by decide +kernel) (List.forall_mem_cons.mpr ⟨⟨ml_12_167, S_651⟩, List.forall_mem_cons.mpr ⟨⟨ml_12_170, S_1112⟩, List.forall_mem_cons.mpr ⟨⟨ml_12_295, S_1156⟩, List.forall_mem_cons.mpr ⟨⟨ml_12_274, S_1115⟩, fun _ h => nomatch h⟩⟩⟩⟩) odX12_heard
def ct_1158 : aCt := (mX12_isIsland, [.inr (.inl [196]), .inl aTop], ([((196, 14), [(1, 1, 1)]), ((199, 0), [(2, 4, 1)]), ((199, 4), [(1, 7, 1)])], []), [(some (.inl [(0, 0, 1)]), [], [], []), (some (.inl [(1, 1, 1)]), [none, some [(0, 6, 1)]], [], [])], [], [], 1)
set_option maxRecDepth 100000 in
theorem S_1158 : aSpec wd ct_1158 := bChk_ok wx_ok btX12_isIsland (lk := [(149, 1, 3, ct_1119)]) (nds := []) (fk := []) (rk := (1, [])) (sp := 0) (fuel := 3000) (by decide +kernel) (List.forall_mem_cons.mpr ⟨⟨ml_12_149, S_1119⟩, fun _ h => nomatch h⟩) odX12_isIsland
def ct_1159 : aCt := (mX12_joins, [.inr (.inl [199]), .inl [(0, 11, 1)], .inl [(0, 6, 1)], .inl [(0, 6, 1)]], ([], []), [(some (.inl [(0, 0, 1)]), [], [], []), (some (.inl [(1, 1, 1)]), [], [], [])], [(1000002, 0, 0)], [], 0)
set_option maxRecDepth 100000 in
theorem S_1159 : aSpec wd ct_1159 := bChk_ok wx_ok btX12_joins (lk := []) (nds := []) (fk := []) (rk := (1, [])) (sp := 0) (fuel := 3000) (by decide +kernel) (fun _ h => nomatch h) odX12_joins
set_option maxRecDepth 100000 in
theorem btX12_hasBit : bTab oX12_hasBit tX12_hasBit := ⟨ofX12_hasBit, by decide +kernel⟩
def ct_1160 : aCt := (mX12_hasBit, [.inl aTop, .inl [(0, 11, 1)]], ([((199, 0), [(2, 4, 1)]), ((199, 4), [(1, 7, 1)]), ((199, 5), [(1, 12, 1)])], []), [(some (.inl [(0, 0, 1)]), [], [], []), (some (.inl [(1, 1, 1)]), [], [], [])], [], [], 0)
set_option maxRecDepth 100000 in
theorem S_1160 : aSpec wd ct_1160 := bChk_ok wx_ok btX12_hasBit (lk := []) (nds := []) (fk := []) (rk := (1, [])) (sp := 0) (fuel := 3000) (by decide +kernel) (fun _ h => nomatch h) odX12_hasBit
set_option maxRecDepth 100000 in
theorem btX12_isClosed : bTab oX12_isClosed tX12_isClosed := ⟨ofX12_isClosed, by decide +kernel⟩
def ct_1161 : aCt := (mX12_isClosed, [.inr (.inl [196]), .inl [(0, 11, 1)]], ([((199, 0), [(2, 4, 1)]), ((199, 4), [(1, 7, 1)]), ((199, 5), [(1, 12, 1)])], []), [(some (.inl [(0, 0, 1)]), [], [], []), (some (.inl [(1, 1, 1)]), [], [], [])], [], [], 1)
set_option maxRecDepth 100000 in
theorem S_1161 : aSpec wd ct_1161 := bChk_ok wx_ok btX12_isClosed (lk := [(298, 1, 2, ct_1160)]) (nds := []) (fk := []) (rk := (1, [])) (sp := 0) (fuel := 3000) (by decide +kernel) (List.forall_mem_cons.mpr ⟨⟨ml_12_298, S_1160⟩, fun _ h => nomatch h⟩) odX12_isClosed
set_option maxRecDepth 100000 in
theorem btX12_wayOf : bTab oX12_wayOf tX12_wayOf := ⟨ofX12_wayOf, by decide +kernel⟩
def ct_1162 : aCt := (mX12_wayOf, [.inr (.inl [196]), .inl [(0, 6, 1)], .inl [(0, 6, 1)]], ([((199, 0), [(2, 4, 1)]), ((199, 4), [(1, 7, 1)])], []), [(some (.inl [(0, 11, 1)]), [], [((199, 5), [(1, 12, 1)])], []), (some (.inl [(-1, -1, 1)]), [], [], [])], [], [], 2)
set_option maxRecDepth 100000 in
theorem S_1162 : aSpec wd ct_1162 := bChk_ok wx_ok btX12_wayOf (lk := [(302, 0, 2, ct_1161), (230, 1, 4, ct_1159)]) (nds := [(2, [(0, .inr (.inl [196])), (1, .inl [(0, 6, 1)]), (2, .inl [(0, 6, 1)]), (3, .inl [(0, 12, 1)])], [], [sl_326, sl_327], [], (12, [(2, -1)]))]) (fk := []) (rk := (13, [])) (sp := 4) (fuel := 3000) (by decide +kernel) (List.forall_mem_cons.mpr ⟨⟨ml_12_302, S_1161⟩, List.forall_mem_cons.mpr ⟨⟨ml_12_230, S_1159⟩, fun _ h => nomatch h⟩⟩) odX12_wayOf
set_option maxRecDepth 100000 in
theorem btX12_way : bTab oX12_way tX12_way := ⟨ofX12_way, by decide +kernel⟩
def ct_1163 : aCt := (mX12_way, [.inr (.inl [196]), .inl aTop, .inl aTop], ([], []), [(some (.inl aTop), [none, some [(0, 6, 1)], some [(0, 6, 1)]], [((196, 11), [(0, 0, 1)]), ((196, 14), [(1, 1, 1)]), ((199, 0), [(2, 4, 1)]), ((199, 4), [(1, 7, 1)]), ((199, 5), [(1, 12, 1)])], []), (some (.inl [(-1, -1, 1)]), [], [((196, 11), [(1, 1, 1)])], []), (some (.inl [(-2, -2, 1)]), [none, some [(0, 6, 1)], some [(0, 6, 1)]], [((196, 11), [(0, 0, 1)]), ((196, 14), [(1, 1, 1)]), ((199, 0), [(2, 4, 1)]), ((199, 4), [(1, 7, 1)])], [])], [(196, 0, 1), (196, 11, 12)], [], 3)
set_option maxRecDepth 100000 in
theorem S_1163 : aSpec wd ct_1163 := bChk_ok wx_ok btX12_way (lk := [(167, 0, 1, ct_651), (170, 0, 2, ct_1112), (305, 0, 3, ct_1162), (277, 0, 2, ct_1158), (277, 0, 2, ct_1120)]) (nds := []) (fk := []) (rk := (1, [])) (sp := 0) (fuel := 3000) (by decide +kernel) (List.forall_mem_cons.mpr ⟨⟨ml_12_167, S_651⟩, List.forall_mem_cons.mpr ⟨⟨ml_12_170, S_1112⟩, List.forall_mem_cons.mpr ⟨⟨ml_12_305, S_1162⟩, List.forall_mem_cons.mpr ⟨⟨ml_12_277, S_1158⟩, List.forall_mem_cons.mpr ⟨⟨ml_12_277, S_1120⟩, fun _ h => nomatch h⟩⟩⟩⟩⟩) odX12_way
def ct_1164 : aCt := (mX12_in, [.inl aTop, .inl [(0, 0, 1)], .inl [(99999, 99999, 1)]], ([], []), [(some (.inl [(0, 0, 1)]), [some [(-2147483648, -1, 1), (100000, 2147483647, 1)], none, none], [], []), (some (.inl [(1, 1, 1)]), [some [(0, 99999, 1)], none, none], [], [])], [(1000002, 0, 0)], [], 0)
set_option maxRecDepth 100000 in
theorem S_1164 : aSpec wd ct_1164 := bChk_ok wx_ok btX12_in (lk := []) (nds := []) (fk := []) (rk := (1, [])) (sp := 0) (fuel := 3000) (by decide +kernel) (fun _ h => nomatch h) odX12_in
set_option maxRecDepth 100000 in
theorem btX12_seasonOf : bTab oX12_seasonOf tX12_seasonOf := ⟨ofX12_seasonOf, by decide +kernel⟩
def ct_1165 : aCt := (mX12_seasonOf, [.inl [(0, 99999, 1)]], ([((199, 0), [(2, 4, 1)]), ((199, 4), [(1, 7, 1)])], []), [(some (.inl [(0, 3, 1)]), [], [], [])], [], [], 0)
set_option maxRecDepth 100000 in
theorem S_1165 : aSpec wd ct_1165 := bChk_ok wx_ok btX12_seasonOf (lk := []) (nds := []) (fk := []) (rk := (1, [])) (sp := 0) (fuel := 3000) (by decide +kernel) (fun _ h => nomatch h) odX12_seasonOf
set_option maxRecDepth 100000 in
theorem btX12_season : bTab oX12_season tX12_season := ⟨ofX12_season, by decide +kernel⟩
def ct_1166 : aCt := (mX12_season, [.inr (.inl [196]), .inl aTop], ([], []), [(some (.inl [(0, 3, 1)]), [none, some [(0, 99999, 1)]], [((196, 11), [(0, 0, 1)]), ((196, 14), [(1, 1, 1)]), ((199, 0), [(2, 4, 1)]), ((199, 4), [(1, 7, 1)])], []), (some (.inl [(-1, -1, 1)]), [], [((196, 11), [(1, 2, 1)])], [])], [(196, 0, 1), (196, 11, 12)], [], 1)
set_option maxRecDepth 100000 in
theorem S_1166 : aSpec wd ct_1166 := bChk_ok wx_ok btX12_season (lk := [(167, 0, 1, ct_651), (170, 0, 2, ct_1112), (170, 0, 2, ct_653), (337, 1, 1, ct_1165), (149, 1, 3, ct_1164)]) (nds := []) (fk := []) (rk := (1, [])) (sp := 0) (fuel := 3000) (by decide +kernel) (List.forall_mem_cons.mpr ⟨⟨ml_12_167, S_651⟩, List.forall_mem_cons.mpr ⟨⟨ml_12_170, S_1112⟩, List.forall_mem_cons.mpr ⟨⟨ml_12_170, S_653⟩, List.forall_mem_cons.mpr ⟨⟨ml_12_337, S_1165⟩, List.forall_mem_cons.mpr ⟨⟨ml_12_149, S_1164⟩, fun _ h => nomatch h⟩⟩⟩⟩⟩) odX12_season
def ct_1167 : aCt := (mX12_in, [.inl aTop, .inl [(0, 0, 1)], .inl [(11, 11, 1)]], ([], []), [(some (.inl [(0, 0, 1)]), [some [(-2147483648, -1, 1), (12, 2147483647, 1)], none, none], [], []), (some (.inl [(1, 1, 1)]), [some [(0, 11, 1)], none, none], [], [])], [(1000002, 0, 0)], [], 0)
set_option maxRecDepth 100000 in
theorem S_1167 : aSpec wd ct_1167 := bChk_ok wx_ok btX12_in (lk := []) (nds := []) (fk := []) (rk := (1, [])) (sp := 0) (fuel := 3000) (by decide +kernel) (fun _ h => nomatch h) odX12_in
def ct_1168 : aCt := (mX12_hasBit, [.inl aTop, .inl [(0, 0, 1)]], ([((199, 0), [(2, 4, 1)]), ((199, 4), [(1, 7, 1)]), ((199, 5), [(12, 12, 1)]), ((199, 6), [(1, 5, 1)])], []), [(some (.inl [(0, 0, 1)]), [], [], []), (some (.inl [(1, 1, 1)]), [], [], [])], [], [], 0)
set_option maxRecDepth 100000 in
theorem S_1168 : aSpec wd ct_1168 := bChk_ok wx_ok btX12_hasBit (lk := []) (nds := []) (fk := []) (rk := (1, [])) (sp := 0) (fuel := 3000) (by decide +kernel) (fun _ h => nomatch h) odX12_hasBit
def ct_1169 : aCt := (mX12_isClosed, [.inr (.inl [196]), .inl [(0, 0, 1)]], ([((199, 0), [(2, 4, 1)]), ((199, 4), [(1, 7, 1)]), ((199, 5), [(12, 12, 1)]), ((199, 6), [(1, 5, 1)])], []), [(some (.inl [(0, 0, 1)]), [], [], []), (some (.inl [(1, 1, 1)]), [], [], [])], [], [], 1)
set_option maxRecDepth 100000 in
theorem S_1169 : aSpec wd ct_1169 := bChk_ok wx_ok btX12_isClosed (lk := [(298, 1, 2, ct_1168)]) (nds := []) (fk := []) (rk := (1, [])) (sp := 0) (fuel := 3000) (by decide +kernel) (List.forall_mem_cons.mpr ⟨⟨ml_12_298, S_1168⟩, fun _ h => nomatch h⟩) odX12_isClosed
def ct_1170 : aCt := (mX12_hasBit, [.inl aTop, .inl [(1, 1, 1)]], ([((199, 0), [(2, 4, 1)]), ((199, 4), [(1, 7, 1)]), ((199, 5), [(12, 12, 1)]), ((199, 6), [(1, 5, 1)])], []), [(some (.inl [(0, 0, 1)]), [], [], []), (some (.inl [(1, 1, 1)]), [], [], [])], [], [], 0)
set_option maxRecDepth 100000 in
theorem S_1170 : aSpec wd ct_1170 := bChk_ok wx_ok btX12_hasBit (lk := []) (nds := []) (fk := []) (rk := (1, [])) (sp := 0) (fuel := 3000) (by decide +kernel) (fun _ h => nomatch h) odX12_hasBit
def ct_1171 : aCt := (mX12_isClosed, [.inr (.inl [196]), .inl [(1, 1, 1)]], ([((199, 0), [(2, 4, 1)]), ((199, 4), [(1, 7, 1)]), ((199, 5), [(12, 12, 1)]), ((199, 6), [(1, 5, 1)])], []), [(some (.inl [(0, 0, 1)]), [], [], []), (some (.inl [(1, 1, 1)]), [], [], [])], [], [], 1)
set_option maxRecDepth 100000 in
theorem S_1171 : aSpec wd ct_1171 := bChk_ok wx_ok btX12_isClosed (lk := [(298, 1, 2, ct_1170)]) (nds := []) (fk := []) (rk := (1, [])) (sp := 0) (fuel := 3000) (by decide +kernel) (List.forall_mem_cons.mpr ⟨⟨ml_12_298, S_1170⟩, fun _ h => nomatch h⟩) odX12_isClosed
def ct_1172 : aCt := (mX12_hasBit, [.inl aTop, .inl [(2, 2, 1)]], ([((199, 0), [(2, 4, 1)]), ((199, 4), [(1, 7, 1)]), ((199, 5), [(12, 12, 1)]), ((199, 6), [(1, 5, 1)])], []), [(some (.inl [(0, 0, 1)]), [], [], []), (some (.inl [(1, 1, 1)]), [], [], [])], [], [], 0)
set_option maxRecDepth 100000 in
theorem S_1172 : aSpec wd ct_1172 := bChk_ok wx_ok btX12_hasBit (lk := []) (nds := []) (fk := []) (rk := (1, [])) (sp := 0) (fuel := 3000) (by decide +kernel) (fun _ h => nomatch h) odX12_hasBit
def ct_1173 : aCt := (mX12_isClosed, [.inr (.inl [196]), .inl [(2, 2, 1)]], ([((199, 0), [(2, 4, 1)]), ((199, 4), [(1, 7, 1)]), ((199, 5), [(12, 12, 1)]), ((199, 6), [(1, 5, 1)])], []), [(some (.inl [(0, 0, 1)]), [], [], []), (some (.inl [(1, 1, 1)]), [], [], [])], [], [], 1)
set_option maxRecDepth 100000 in
theorem S_1173 : aSpec wd ct_1173 := bChk_ok wx_ok btX12_isClosed (lk := [(298, 1, 2, ct_1172)]) (nds := []) (fk := []) (rk := (1, [])) (sp := 0) (fuel := 3000) (by decide +kernel) (List.forall_mem_cons.mpr ⟨⟨ml_12_298, S_1172⟩, fun _ h => nomatch h⟩) odX12_isClosed
def ct_1174 : aCt := (mX12_hasBit, [.inl aTop, .inl [(3, 3, 1)]], ([((199, 0), [(2, 4, 1)]), ((199, 4), [(1, 7, 1)]), ((199, 5), [(12, 12, 1)]), ((199, 6), [(1, 5, 1)])], []), [(some (.inl [(0, 0, 1)]), [], [], []), (some (.inl [(1, 1, 1)]), [], [], [])], [], [], 0)
set_option maxRecDepth 100000 in
theorem S_1174 : aSpec wd ct_1174 := bChk_ok wx_ok btX12_hasBit (lk := []) (nds := []) (fk := []) (rk := (1, [])) (sp := 0) (fuel := 3000) (by decide +kernel) (fun _ h => nomatch h) odX12_hasBit
def ct_1175 : aCt := (mX12_isClosed, [.inr (.inl [196]), .inl [(3, 3, 1)]], ([((199, 0), [(2, 4, 1)]), ((199, 4), [(1, 7, 1)]), ((199, 5), [(12, 12, 1)]), ((199, 6), [(1, 5, 1)])], []), [(some (.inl [(0, 0, 1)]), [], [], []), (some (.inl [(1, 1, 1)]), [], [], [])], [], [], 1)
set_option maxRecDepth 100000 in
theorem S_1175 : aSpec wd ct_1175 := bChk_ok wx_ok btX12_isClosed (lk := [(298, 1, 2, ct_1174)]) (nds := []) (fk := []) (rk := (1, [])) (sp := 0) (fuel := 3000) (by decide +kernel) (List.forall_mem_cons.mpr ⟨⟨ml_12_298, S_1174⟩, fun _ h => nomatch h⟩) odX12_isClosed
def ct_1176 : aCt := (mX12_hasBit, [.inl aTop, .inl [(4, 4, 1)]], ([((199, 0), [(2, 4, 1)]), ((199, 4), [(1, 7, 1)]), ((199, 5), [(12, 12, 1)]), ((199, 6), [(1, 5, 1)])], []), [(some (.inl [(0, 0, 1)]), [], [], []), (some (.inl [(1, 1, 1)]), [], [], [])], [], [], 0)
set_option maxRecDepth 100000 in
theorem S_1176 : aSpec wd ct_1176 := bChk_ok wx_ok btX12_hasBit (lk := []) (nds := []) (fk := []) (rk := (1, [])) (sp := 0) (fuel := 3000) (by decide +kernel) (fun _ h => nomatch h) odX12_hasBit
def ct_1177 : aCt := (mX12_isClosed, [.inr (.inl [196]), .inl [(4, 4, 1)]], ([((199, 0), [(2, 4, 1)]), ((199, 4), [(1, 7, 1)]), ((199, 5), [(12, 12, 1)]), ((199, 6), [(1, 5, 1)])], []), [(some (.inl [(0, 0, 1)]), [], [], []), (some (.inl [(1, 1, 1)]), [], [], [])], [], [], 1)
set_option maxRecDepth 100000 in
theorem S_1177 : aSpec wd ct_1177 := bChk_ok wx_ok btX12_isClosed (lk := [(298, 1, 2, ct_1176)]) (nds := []) (fk := []) (rk := (1, [])) (sp := 0) (fuel := 3000) (by decide +kernel) (List.forall_mem_cons.mpr ⟨⟨ml_12_298, S_1176⟩, fun _ h => nomatch h⟩) odX12_isClosed
def ct_1178 : aCt := (mX12_hasBit, [.inl aTop, .inl [(5, 5, 1)]], ([((199, 0), [(2, 4, 1)]), ((199, 4), [(1, 7, 1)]), ((199, 5), [(12, 12, 1)]), ((199, 6), [(1, 5, 1)])], []), [(some (.inl [(0, 0, 1)]), [], [], []), (some (.inl [(1, 1, 1)]), [], [], [])], [], [], 0)
set_option maxRecDepth 100000 in
theorem S_1178 : aSpec wd ct_1178 := bChk_ok wx_ok btX12_hasBit (lk := []) (nds := []) (fk := []) (rk := (1, [])) (sp := 0) (fuel := 3000) (by decide +kernel) (fun _ h => nomatch h) odX12_hasBit
def ct_1179 : aCt := (mX12_isClosed, [.inr (.inl [196]), .inl [(5, 5, 1)]], ([((199, 0), [(2, 4, 1)]), ((199, 4), [(1, 7, 1)]), ((199, 5), [(12, 12, 1)]), ((199, 6), [(1, 5, 1)])], []), [(some (.inl [(0, 0, 1)]), [], [], []), (some (.inl [(1, 1, 1)]), [], [], [])], [], [], 1)
set_option maxRecDepth 100000 in
theorem S_1179 : aSpec wd ct_1179 := bChk_ok wx_ok btX12_isClosed (lk := [(298, 1, 2, ct_1178)]) (nds := []) (fk := []) (rk := (1, [])) (sp := 0) (fuel := 3000) (by decide +kernel) (List.forall_mem_cons.mpr ⟨⟨ml_12_298, S_1178⟩, fun _ h => nomatch h⟩) odX12_isClosed
def ct_1180 : aCt := (mX12_hasBit, [.inl aTop, .inl [(6, 6, 1)]], ([((199, 0), [(2, 4, 1)]), ((199, 4), [(1, 7, 1)]), ((199, 5), [(12, 12, 1)]), ((199, 6), [(1, 5, 1)])], []), [(some (.inl [(0, 0, 1)]), [], [], []), (some (.inl [(1, 1, 1)]), [], [], [])], [], [], 0)
set_option maxRecDepth 100000 in
theorem S_1180 : aSpec wd ct_1180 := bChk_ok wx_ok btX12_hasBit (lk := []) (nds := []) (fk := []) (rk := (1, [])) (sp := 0) (fuel := 3000) (by decide +kernel) (fun _ h => nomatch h) odX12_hasBit
def ct_1181 : aCt := (mX12_isClosed, [.inr (.inl [196]), .inl [(6, 6, 1)]], ([((199, 0), [(2, 4, 1)]), ((199, 4), [(1, 7, 1)]), ((199, 5), [(12, 12, 1)]), ((199, 6), [(1, 5, 1)])], []), [(some (.inl [(0, 0, 1)]), [], [], []), (some (.inl [(1, 1, 1)]), [], [], [])], [], [], 1)
set_option maxRecDepth 100000 in
theorem S_1181 : aSpec wd ct_1181 := bChk_ok wx_ok btX12_isClosed (lk := [(298, 1, 2, ct_1180)]) (nds := []) (fk := []) (rk := (1, [])) (sp := 0) (fuel := 3000) (by decide +kernel) (List.forall_mem_cons.mpr ⟨⟨ml_12_298, S_1180⟩, fun _ h => nomatch h⟩) odX12_isClosed
def ct_1182 : aCt := (mX12_hasBit, [.inl aTop, .inl [(7, 7, 1)]], ([((199, 0), [(2, 4, 1)]), ((199, 4), [(1, 7, 1)]), ((199, 5), [(12, 12, 1)]), ((199, 6), [(1, 5, 1)])], []), [(some (.inl [(0, 0, 1)]), [], [], []), (some (.inl [(1, 1, 1)]), [], [], [])], [], [], 0)
set_option maxRecDepth 100000 in
theorem S_1182 : aSpec wd ct_1182 := bChk_ok wx_ok btX12_hasBit (lk := []) (nds := []) (fk := []) (rk := (1, [])) (sp := 0) (fuel := 3000) (by decide +kernel) (fun _ h => nomatch h) odX12_hasBit
def ct_1183 : aCt := (mX12_isClosed, [.inr (.inl [196]), .inl [(7, 7, 1)]], ([((199, 0), [(2, 4, 1)]), ((199, 4), [(1, 7, 1)]), ((199, 5), [(12, 12, 1)]), ((199, 6), [(1, 5, 1)])], []), [(some (.inl [(0, 0, 1)]), [], [], []), (some (.inl [(1, 1, 1)]), [], [], [])], [], [], 1)
set_option maxRecDepth 100000 in
theorem S_1183 : aSpec wd ct_1183 := bChk_ok wx_ok btX12_isClosed (lk := [(298, 1, 2, ct_1182)]) (nds := []) (fk := []) (rk := (1, [])) (sp := 0) (fuel := 3000) (by decide +kernel) (List.forall_mem_cons.mpr ⟨⟨ml_12_298, S_1182⟩, fun _ h => nomatch h⟩) odX12_isClosed
def ct_1184 : aCt := (mX12_hasBit, [.inl aTop, .inl [(8, 8, 1)]], ([((199, 0), [(2, 4, 1)]), ((199, 4), [(1, 7, 1)]), ((199, 5), [(12, 12, 1)]), ((199, 6), [(1, 5, 1)])], []), [(some (.inl [(0, 0, 1)]), [], [], []), (some (.inl [(1, 1, 1)]), [], [], [])], [], [], 0)
set_option maxRecDepth 100000 in
theorem S_1184 : aSpec wd ct_1184 := bChk_ok wx_ok btX12_hasBit (lk := []) (nds := []) (fk := []) (rk := (1, [])) (sp := 0) (fuel := 3000) (by decide +kernel) (fun _ h => nomatch h) odX12_hasBit
def ct_1185 : aCt := (mX12_isClosed, [.inr (.inl [196]), .inl [(8, 8, 1)]], ([((199, 0), [(2, 4, 1)]), ((199, 4), [(1, 7, 1)]), ((199, 5), [(12, 12, 1)]), ((199, 6), [(1, 5, 1)])], []), [(some (.inl [(0, 0, 1)]), [], [], []), (some (.inl [(1, 1, 1)]), [], [], [])], [], [], 1)
set_option maxRecDepth 100000 in
theorem S_1185 : aSpec wd ct_1185 := bChk_ok wx_ok btX12_isClosed (lk := [(298, 1, 2, ct_1184)]) (nds := []) (fk := []) (rk := (1, [])) (sp := 0) (fuel := 3000) (by decide +kernel) (List.forall_mem_cons.mpr ⟨⟨ml_12_298, S_1184⟩, fun _ h => nomatch h⟩) odX12_isClosed
def ct_1186 : aCt := (mX12_hasBit, [.inl aTop, .inl [(9, 9, 1)]], ([((199, 0), [(2, 4, 1)]), ((199, 4), [(1, 7, 1)]), ((199, 5), [(12, 12, 1)]), ((199, 6), [(1, 5, 1)])], []), [(some (.inl [(0, 0, 1)]), [], [], []), (some (.inl [(1, 1, 1)]), [], [], [])], [], [], 0)
set_option maxRecDepth 100000 in
theorem S_1186 : aSpec wd ct_1186 := bChk_ok wx_ok btX12_hasBit (lk := []) (nds := []) (fk := []) (rk := (1, [])) (sp := 0) (fuel := 3000) (by decide +kernel) (fun _ h => nomatch h) odX12_hasBit
def ct_1187 : aCt := (mX12_isClosed, [.inr (.inl [196]), .inl [(9, 9, 1)]], ([((199, 0), [(2, 4, 1)]), ((199, 4), [(1, 7, 1)]), ((199, 5), [(12, 12, 1)]), ((199, 6), [(1, 5, 1)])], []), [(some (.inl [(0, 0, 1)]), [], [], []), (some (.inl [(1, 1, 1)]), [], [], [])], [], [], 1)
set_option maxRecDepth 100000 in
theorem S_1187 : aSpec wd ct_1187 := bChk_ok wx_ok btX12_isClosed (lk := [(298, 1, 2, ct_1186)]) (nds := []) (fk := []) (rk := (1, [])) (sp := 0) (fuel := 3000) (by decide +kernel) (List.forall_mem_cons.mpr ⟨⟨ml_12_298, S_1186⟩, fun _ h => nomatch h⟩) odX12_isClosed
def ct_1188 : aCt := (mX12_hasBit, [.inl aTop, .inl [(10, 10, 1)]], ([((199, 0), [(2, 4, 1)]), ((199, 4), [(1, 7, 1)]), ((199, 5), [(12, 12, 1)]), ((199, 6), [(1, 5, 1)])], []), [(some (.inl [(0, 0, 1)]), [], [], []), (some (.inl [(1, 1, 1)]), [], [], [])], [], [], 0)
set_option maxRecDepth 100000 in
theorem S_1188 : aSpec wd ct_1188 := bChk_ok wx_ok btX12_hasBit (lk := []) (nds := []) (fk := []) (rk := (1, [])) (sp := 0) (fuel := 3000) (by decide +kernel) (fun _ h => nomatch h) odX12_hasBit
def ct_1189 : aCt := (mX12_isClosed, [.inr (.inl [196]), .inl [(10, 10, 1)]], ([((199, 0), [(2, 4, 1)]), ((199, 4), [(1, 7, 1)]), ((199, 5), [(12, 12, 1)]), ((199, 6), [(1, 5, 1)])], []), [(some (.inl [(0, 0, 1)]), [], [], []), (some (.inl [(1, 1, 1)]), [], [], [])], [], [], 1)
set_option maxRecDepth 100000 in
theorem S_1189 : aSpec wd ct_1189 := bChk_ok wx_ok btX12_isClosed (lk := [(298, 1, 2, ct_1188)]) (nds := []) (fk := []) (rk := (1, [])) (sp := 0) (fuel := 3000) (by decide +kernel) (List.forall_mem_cons.mpr ⟨⟨ml_12_298, S_1188⟩, fun _ h => nomatch h⟩) odX12_isClosed
def ct_1190 : aCt := (mX12_hasBit, [.inl aTop, .inl [(11, 11, 1)]], ([((199, 0), [(2, 4, 1)]), ((199, 4), [(1, 7, 1)]), ((199, 5), [(12, 12, 1)]), ((199, 6), [(1, 5, 1)])], []), [(some (.inl [(0, 0, 1)]), [], [], []), (some (.inl [(1, 1, 1)]), [], [], [])], [], [], 0)
set_option maxRecDepth 100000 in
theorem S_1190 : aSpec wd ct_1190 := bChk_ok wx_ok btX12_hasBit (lk := []) (nds := []) (fk := []) (rk := (1, [])) (sp := 0) (fuel := 3000) (by decide +kernel) (fun _ h => nomatch h) odX12_hasBit
def ct_1191 : aCt := (mX12_isClosed, [.inr (.inl [196]), .inl [(11, 11, 1)]], ([((199, 0), [(2, 4, 1)]), ((199, 4), [(1, 7, 1)]), ((199, 5), [(12, 12, 1)]), ((199, 6), [(1, 5, 1)])], []), [(some (.inl [(0, 0, 1)]), [], [], []), (some (.inl [(1, 1, 1)]), [], [], [])], [], [], 1)
set_option maxRecDepth 100000 in
theorem S_1191 : aSpec wd ct_1191 := bChk_ok wx_ok btX12_isClosed (lk := [(298, 1, 2, ct_1190)]) (nds := []) (fk := []) (rk := (1, [])) (sp := 0) (fuel := 3000) (by decide +kernel) (List.forall_mem_cons.mpr ⟨⟨ml_12_298, S_1190⟩, fun _ h => nomatch h⟩) odX12_isClosed
def ct_1192 : aCt := (mX12_ofWhale, [.inr (.inl [196]), .inl [(0, 4, 1)], .inl [(0, 0, 1)]], ([((199, 0), [(2, 4, 1)]), ((199, 4), [(1, 7, 1)]), ((199, 5), [(12, 12, 1)]), ((199, 6), [(1, 5, 1)])], []), [(some (.inl [(0, 3, 1)]), [], [], [])], [], [], 0)
set_option maxRecDepth 100000 in
theorem S_1192 : aSpec wd ct_1192 := bChk_ok wx_ok btX12_ofWhale (lk := []) (nds := []) (fk := []) (rk := (1, [])) (sp := 0) (fuel := 3000) (by decide +kernel) (fun _ h => nomatch h) odX12_ofWhale
def ct_1193 : aCt := (mX12_in, [.inl aTop, .inl [(0, 0, 1)], .inl [(10, 10, 1)]], ([], []), [(some (.inl [(0, 0, 1)]), [some [(-2147483648, -1, 1), (11, 2147483647, 1)], none, none], [], []), (some (.inl [(1, 1, 1)]), [some [(0, 10, 1)], none, none], [], [])], [(1000002, 0, 0)], [], 0)
set_option maxRecDepth 100000 in
theorem S_1193 : aSpec wd ct_1193 := bChk_ok wx_ok btX12_in (lk := []) (nds := []) (fk := []) (rk := (1, [])) (sp := 0) (fuel := 3000) (by decide +kernel) (fun _ h => nomatch h) odX12_in
def ct_1194 : aCt := (mX12_hasBit, [.inl aTop, .inl [(0, 0, 1)]], ([((199, 0), [(2, 4, 1)]), ((199, 4), [(1, 7, 1)]), ((199, 5), [(11, 11, 1)]), ((199, 6), [(1, 5, 1)])], []), [(some (.inl [(0, 0, 1)]), [], [], []), (some (.inl [(1, 1, 1)]), [], [], [])], [], [], 0)
set_option maxRecDepth 100000 in
theorem S_1194 : aSpec wd ct_1194 := bChk_ok wx_ok btX12_hasBit (lk := []) (nds := []) (fk := []) (rk := (1, [])) (sp := 0) (fuel := 3000) (by decide +kernel) (fun _ h => nomatch h) odX12_hasBit
def ct_1195 : aCt := (mX12_isClosed, [.inr (.inl [196]), .inl [(0, 0, 1)]], ([((199, 0), [(2, 4, 1)]), ((199, 4), [(1, 7, 1)]), ((199, 5), [(11, 11, 1)]), ((199, 6), [(1, 5, 1)])], []), [(some (.inl [(0, 0, 1)]), [], [], []), (some (.inl [(1, 1, 1)]), [], [], [])], [], [], 1)
set_option maxRecDepth 100000 in
theorem S_1195 : aSpec wd ct_1195 := bChk_ok wx_ok btX12_isClosed (lk := [(298, 1, 2, ct_1194)]) (nds := []) (fk := []) (rk := (1, [])) (sp := 0) (fuel := 3000) (by decide +kernel) (List.forall_mem_cons.mpr ⟨⟨ml_12_298, S_1194⟩, fun _ h => nomatch h⟩) odX12_isClosed
def ct_1196 : aCt := (mX12_hasBit, [.inl aTop, .inl [(1, 1, 1)]], ([((199, 0), [(2, 4, 1)]), ((199, 4), [(1, 7, 1)]), ((199, 5), [(11, 11, 1)]), ((199, 6), [(1, 5, 1)])], []), [(some (.inl [(0, 0, 1)]), [], [], []), (some (.inl [(1, 1, 1)]), [], [], [])], [], [], 0)
set_option maxRecDepth 100000 in
theorem S_1196 : aSpec wd ct_1196 := bChk_ok wx_ok btX12_hasBit (lk := []) (nds := []) (fk := []) (rk := (1, [])) (sp := 0) (fuel := 3000) (by decide +kernel) (fun _ h => nomatch h) odX12_hasBit
def ct_1197 : aCt := (mX12_isClosed, [.inr (.inl [196]), .inl [(1, 1, 1)]], ([((199, 0), [(2, 4, 1)]), ((199, 4), [(1, 7, 1)]), ((199, 5), [(11, 11, 1)]), ((199, 6), [(1, 5, 1)])], []), [(some (.inl [(0, 0, 1)]), [], [], []), (some (.inl [(1, 1, 1)]), [], [], [])], [], [], 1)
set_option maxRecDepth 100000 in
theorem S_1197 : aSpec wd ct_1197 := bChk_ok wx_ok btX12_isClosed (lk := [(298, 1, 2, ct_1196)]) (nds := []) (fk := []) (rk := (1, [])) (sp := 0) (fuel := 3000) (by decide +kernel) (List.forall_mem_cons.mpr ⟨⟨ml_12_298, S_1196⟩, fun _ h => nomatch h⟩) odX12_isClosed
def ct_1198 : aCt := (mX12_hasBit, [.inl aTop, .inl [(2, 2, 1)]], ([((199, 0), [(2, 4, 1)]), ((199, 4), [(1, 7, 1)]), ((199, 5), [(11, 11, 1)]), ((199, 6), [(1, 5, 1)])], []), [(some (.inl [(0, 0, 1)]), [], [], []), (some (.inl [(1, 1, 1)]), [], [], [])], [], [], 0)
set_option maxRecDepth 100000 in
theorem S_1198 : aSpec wd ct_1198 := bChk_ok wx_ok btX12_hasBit (lk := []) (nds := []) (fk := []) (rk := (1, [])) (sp := 0) (fuel := 3000) (by decide +kernel) (fun _ h => nomatch h) odX12_hasBit
def ct_1199 : aCt := (mX12_isClosed, [.inr (.inl [196]), .inl [(2, 2, 1)]], ([((199, 0), [(2, 4, 1)]), ((199, 4), [(1, 7, 1)]), ((199, 5), [(11, 11, 1)]), ((199, 6), [(1, 5, 1)])], []), [(some (.inl [(0, 0, 1)]), [], [], []), (some (.inl [(1, 1, 1)]), [], [], [])], [], [], 1)
set_option maxRecDepth 100000 in
theorem S_1199 : aSpec wd ct_1199 := bChk_ok wx_ok btX12_isClosed (lk := [(298, 1, 2, ct_1198)]) (nds := []) (fk := []) (rk := (1, [])) (sp := 0) (fuel := 3000) (by decide +kernel) (List.forall_mem_cons.mpr ⟨⟨ml_12_298, S_1198⟩, fun _ h => nomatch h⟩) odX12_isClosed
def ct_1200 : aCt := (mX12_hasBit, [.inl aTop, .inl [(3, 3, 1)]], ([((199, 0), [(2, 4, 1)]), ((199, 4), [(1, 7, 1)]), ((199, 5), [(11, 11, 1)]), ((199, 6), [(1, 5, 1)])], []), [(some (.inl [(0, 0, 1)]), [], [], []), (some (.inl [(1, 1, 1)]), [], [], [])], [], [], 0)
set_option maxRecDepth 100000 in
theorem S_1200 : aSpec wd ct_1200 := bChk_ok wx_ok btX12_hasBit (lk := []) (nds := []) (fk := []) (rk := (1, [])) (sp := 0) (fuel := 3000) (by decide +kernel) (fun _ h => nomatch h) odX12_hasBit
def ct_1201 : aCt := (mX12_isClosed, [.inr (.inl [196]), .inl [(3, 3, 1)]], ([((199, 0), [(2, 4, 1)]), ((199, 4), [(1, 7, 1)]), ((199, 5), [(11, 11, 1)]), ((199, 6), [(1, 5, 1)])], []), [(some (.inl [(0, 0, 1)]), [], [], []), (some (.inl [(1, 1, 1)]), [], [], [])], [], [], 1)
set_option maxRecDepth 100000 in
theorem S_1201 : aSpec wd ct_1201 := bChk_ok wx_ok btX12_isClosed (lk := [(298, 1, 2, ct_1200)]) (nds := []) (fk := []) (rk := (1, [])) (sp := 0) (fuel := 3000) (by decide +kernel) (List.forall_mem_cons.mpr ⟨⟨ml_12_298, S_1200⟩, fun _ h => nomatch h⟩) odX12_isClosed
def ct_1202 : aCt := (mX12_hasBit, [.inl aTop, .inl [(4, 4, 1)]], ([((199, 0), [(2, 4, 1)]), ((199, 4), [(1, 7, 1)]), ((199, 5), [(11, 11, 1)]), ((199, 6), [(1, 5, 1)])], []), [(some (.inl [(0, 0, 1)]), [], [], []), (some (.inl [(1, 1, 1)]), [], [], [])], [], [], 0)
set_option maxRecDepth 100000 in
theorem S_1202 : aSpec wd ct_1202 := bChk_ok wx_ok btX12_hasBit (lk := []) (nds := []) (fk := []) (rk := (1, [])) (sp := 0) (fuel := 3000) (by decide +kernel) (fun _ h => nomatch h) odX12_hasBit
def ct_1203 : aCt := (mX12_isClosed, [.inr (.inl [196]), .inl [(4, 4, 1)]], ([((199, 0), [(2, 4, 1)]), ((199, 4), [(1, 7, 1)]), ((199, 5), [(11, 11, 1)]), ((199, 6), [(1, 5, 1)])], []), [(some (.inl [(0, 0, 1)]), [], [], []), (some (.inl [(1, 1, 1)]), [], [], [])], [], [], 1)
set_option maxRecDepth 100000 in
theorem S_1203 : aSpec wd ct_1203 := bChk_ok wx_ok btX12_isClosed (lk := [(298, 1, 2, ct_1202)]) (nds := []) (fk := []) (rk := (1, [])) (sp := 0) (fuel := 3000) (by decide +kernel) (List.forall_mem_cons.mpr ⟨⟨ml_12_298, S_1202⟩, fun _ h => nomatch h⟩) odX12_isClosed
def ct_1204 : aCt := (mX12_hasBit, [.inl aTop, .inl [(5, 5, 1)]], ([((199, 0), [(2, 4, 1)]), ((199, 4), [(1, 7, 1)]), ((199, 5), [(11, 11, 1)]), ((199, 6), [(1, 5, 1)])], []), [(some (.inl [(0, 0, 1)]), [], [], []), (some (.inl [(1, 1, 1)]), [], [], [])], [], [], 0)
set_option maxRecDepth 100000 in
theorem S_1204 : aSpec wd ct_1204 := bChk_ok wx_ok btX12_hasBit (lk := []) (nds := []) (fk := []) (rk := (1, [])) (sp := 0) (fuel := 3000) (by decide +kernel) (fun _ h => nomatch h) odX12_hasBit
def ct_1205 : aCt := (mX12_isClosed, [.inr (.inl [196]), .inl [(5, 5, 1)]], ([((199, 0), [(2, 4, 1)]), ((199, 4), [(1, 7, 1)]), ((199, 5), [(11, 11, 1)]), ((199, 6), [(1, 5, 1)])], []), [(some (.inl [(0, 0, 1)]), [], [], []), (some (.inl [(1, 1, 1)]), [], [], [])], [], [], 1)
set_option maxRecDepth 100000 in
theorem S_1205 : aSpec wd ct_1205 := bChk_ok wx_ok btX12_isClosed (lk := [(298, 1, 2, ct_1204)]) (nds := []) (fk := []) (rk := (1, [])) (sp := 0) (fuel := 3000) (by decide +kernel) (List.forall_mem_cons.mpr ⟨⟨ml_12_298, S_1204⟩, fun _ h => nomatch h⟩) odX12_isClosed
def ct_1206 : aCt := (mX12_hasBit, [.inl aTop, .inl [(6, 6, 1)]], ([((199, 0), [(2, 4, 1)]), ((199, 4), [(1, 7, 1)]), ((199, 5), [(11, 11, 1)]), ((199, 6), [(1, 5, 1)])], []), [(some (.inl [(0, 0, 1)]), [], [], []), (some (.inl [(1, 1, 1)]), [], [], [])], [], [], 0)
set_option maxRecDepth 100000 in
theorem S_1206 : aSpec wd ct_1206 := bChk_ok wx_ok btX12_hasBit (lk := []) (nds := []) (fk := []) (rk := (1, [])) (sp := 0) (fuel := 3000) (by decide +kernel) (fun _ h => nomatch h) odX12_hasBit
def ct_1207 : aCt := (mX12_isClosed, [.inr (.inl [196]), .inl [(6, 6, 1)]], ([((199, 0), [(2, 4, 1)]), ((199, 4), [(1, 7, 1)]), ((199, 5), [(11, 11, 1)]), ((199, 6), [(1, 5, 1)])], []), [(some (.inl [(0, 0, 1)]), [], [], []), (some (.inl [(1, 1, 1)]), [], [], [])], [], [], 1)
set_option maxRecDepth 100000 in
theorem S_1207 : aSpec wd ct_1207 := bChk_ok wx_ok btX12_isClosed (lk := [(298, 1, 2, ct_1206)]) (nds := []) (fk := []) (rk := (1, [])) (sp := 0) (fuel := 3000) (by decide +kernel) (List.forall_mem_cons.mpr ⟨⟨ml_12_298, S_1206⟩, fun _ h => nomatch h⟩) odX12_isClosed
def ct_1208 : aCt := (mX12_hasBit, [.inl aTop, .inl [(7, 7, 1)]], ([((199, 0), [(2, 4, 1)]), ((199, 4), [(1, 7, 1)]), ((199, 5), [(11, 11, 1)]), ((199, 6), [(1, 5, 1)])], []), [(some (.inl [(0, 0, 1)]), [], [], []), (some (.inl [(1, 1, 1)]), [], [], [])], [], [], 0)
set_option maxRecDepth 100000 in
theorem S_1208 : aSpec wd ct_1208 := bChk_ok wx_ok btX12_hasBit (lk := []) (nds := []) (fk := []) (rk := (1, [])) (sp := 0) (fuel := 3000) (by decide +kernel) (fun _ h => nomatch h) odX12_hasBit
def ct_1209 : aCt := (mX12_isClosed, [.inr (.inl [196]), .inl [(7, 7, 1)]], ([((199, 0), [(2, 4, 1)]), ((199, 4), [(1, 7, 1)]), ((199, 5), [(11, 11, 1)]), ((199, 6), [(1, 5, 1)])], []), [(some (.inl [(0, 0, 1)]), [], [], []), (some (.inl [(1, 1, 1)]), [], [], [])], [], [], 1)
set_option maxRecDepth 100000 in
theorem S_1209 : aSpec wd ct_1209 := bChk_ok wx_ok btX12_isClosed (lk := [(298, 1, 2, ct_1208)]) (nds := []) (fk := []) (rk := (1, [])) (sp := 0) (fuel := 3000) (by decide +kernel) (List.forall_mem_cons.mpr ⟨⟨ml_12_298, S_1208⟩, fun _ h => nomatch h⟩) odX12_isClosed
def ct_1210 : aCt := (mX12_hasBit, [.inl aTop, .inl [(8, 8, 1)]], ([((199, 0), [(2, 4, 1)]), ((199, 4), [(1, 7, 1)]), ((199, 5), [(11, 11, 1)]), ((199, 6), [(1, 5, 1)])], []), [(some (.inl [(0, 0, 1)]), [], [], []), (some (.inl [(1, 1, 1)]), [], [], [])], [], [], 0)
set_option maxRecDepth 100000 in
theorem S_1210 : aSpec wd ct_1210 := bChk_ok wx_ok btX12_hasBit (lk := []) (nds := []) (fk := []) (rk := (1, [])) (sp := 0) (fuel := 3000) (by decide +kernel) (fun _ h => nomatch h) odX12_hasBit
def ct_1211 : aCt := (mX12_isClosed, [.inr (.inl [196]), .inl [(8, 8, 1)]], ([((199, 0), [(2, 4, 1)]), ((199, 4), [(1, 7, 1)]), ((199, 5), [(11, 11, 1)]), ((199, 6), [(1, 5, 1)])], []), [(some (.inl [(0, 0, 1)]), [], [], []), (some (.inl [(1, 1, 1)]), [], [], [])], [], [], 1)
set_option maxRecDepth 100000 in
theorem S_1211 : aSpec wd ct_1211 := bChk_ok wx_ok btX12_isClosed (lk := [(298, 1, 2, ct_1210)]) (nds := []) (fk := []) (rk := (1, [])) (sp := 0) (fuel := 3000) (by decide +kernel) (List.forall_mem_cons.mpr ⟨⟨ml_12_298, S_1210⟩, fun _ h => nomatch h⟩) odX12_isClosed
def ct_1212 : aCt := (mX12_hasBit, [.inl aTop, .inl [(9, 9, 1)]], ([((199, 0), [(2, 4, 1)]), ((199, 4), [(1, 7, 1)]), ((199, 5), [(11, 11, 1)]), ((199, 6), [(1, 5, 1)])], []), [(some (.inl [(0, 0, 1)]), [], [], []), (some (.inl [(1, 1, 1)]), [], [], [])], [], [], 0)
set_option maxRecDepth 100000 in
theorem S_1212 : aSpec wd ct_1212 := bChk_ok wx_ok btX12_hasBit (lk := []) (nds := []) (fk := []) (rk := (1, [])) (sp := 0) (fuel := 3000) (by decide +kernel) (fun _ h => nomatch h) odX12_hasBit
def ct_1213 : aCt := (mX12_isClosed, [.inr (.inl [196]), .inl [(9, 9, 1)]], ([((199, 0), [(2, 4, 1)]), ((199, 4), [(1, 7, 1)]), ((199, 5), [(11, 11, 1)]), ((199, 6), [(1, 5, 1)])], []), [(some (.inl [(0, 0, 1)]), [], [], []), (some (.inl [(1, 1, 1)]), [], [], [])], [], [], 1)
set_option maxRecDepth 100000 in
theorem S_1213 : aSpec wd ct_1213 := bChk_ok wx_ok btX12_isClosed (lk := [(298, 1, 2, ct_1212)]) (nds := []) (fk := []) (rk := (1, [])) (sp := 0) (fuel := 3000) (by decide +kernel) (List.forall_mem_cons.mpr ⟨⟨ml_12_298, S_1212⟩, fun _ h => nomatch h⟩) odX12_isClosed
def ct_1214 : aCt := (mX12_hasBit, [.inl aTop, .inl [(10, 10, 1)]], ([((199, 0), [(2, 4, 1)]), ((199, 4), [(1, 7, 1)]), ((199, 5), [(11, 11, 1)]), ((199, 6), [(1, 5, 1)])], []), [(some (.inl [(0, 0, 1)]), [], [], []), (some (.inl [(1, 1, 1)]), [], [], [])], [], [], 0)
set_option maxRecDepth 100000 in
theorem S_1214 : aSpec wd ct_1214 := bChk_ok wx_ok btX12_hasBit (lk := []) (nds := []) (fk := []) (rk := (1, [])) (sp := 0) (fuel := 3000) (by decide +kernel) (fun _ h => nomatch h) odX12_hasBit
def ct_1215 : aCt := (mX12_isClosed, [.inr (.inl [196]), .inl [(10, 10, 1)]], ([((199, 0), [(2, 4, 1)]), ((199, 4), [(1, 7, 1)]), ((199, 5), [(11, 11, 1)]), ((199, 6), [(1, 5, 1)])], []), [(some (.inl [(0, 0, 1)]), [], [], []), (some (.inl [(1, 1, 1)]), [], [], [])], [], [], 1)
set_option maxRecDepth 100000 in
theorem S_1215 : aSpec wd ct_1215 := bChk_ok wx_ok btX12_isClosed (lk := [(298, 1, 2, ct_1214)]) (nds := []) (fk := []) (rk := (1, [])) (sp := 0) (fuel := 3000) (by decide +kernel) (List.forall_mem_cons.mpr ⟨⟨ml_12_298, S_1214⟩, fun _ h => nomatch h⟩) odX12_isClosed
def ct_1216 : aCt := (mX12_ofWhale, [.inr (.inl [196]), .inl [(0, 4, 1)], .inl [(0, 0, 1)]], ([((199, 0), [(2, 4, 1)]), ((199, 4), [(1, 7, 1)]), ((199, 5), [(11, 11, 1)]), ((199, 6), [(1, 5, 1)])], []), [(some (.inl [(0, 3, 1)]), [], [], [])], [], [], 0)
set_option maxRecDepth 100000 in
theorem S_1216 : aSpec wd ct_1216 := bChk_ok wx_ok btX12_ofWhale (lk := []) (nds := []) (fk := []) (rk := (1, [])) (sp := 0) (fuel := 3000) (by decide +kernel) (fun _ h => nomatch h) odX12_ofWhale
def ct_1217 : aCt := (mX12_in, [.inl aTop, .inl [(0, 0, 1)], .inl [(9, 9, 1)]], ([], []), [(some (.inl [(0, 0, 1)]), [some [(-2147483648, -1, 1), (10, 2147483647, 1)], none, none], [], []), (some (.inl [(1, 1, 1)]), [some [(0, 9, 1)], none, none], [], [])], [(1000002, 0, 0)], [], 0)
set_option maxRecDepth 100000 in
theorem S_1217 : aSpec wd ct_1217 := bChk_ok wx_ok btX12_in (lk := []) (nds := []) (fk := []) (rk := (1, [])) (sp := 0) (fuel := 3000) (by decide +kernel) (fun _ h => nomatch h) odX12_in
def ct_1218 : aCt := (mX12_hasBit, [.inl aTop, .inl [(0, 0, 1)]], ([((199, 0), [(2, 4, 1)]), ((199, 4), [(1, 7, 1)]), ((199, 5), [(10, 10, 1)]), ((199, 6), [(1, 5, 1)])], []), [(some (.inl [(0, 0, 1)]), [], [], []), (some (.inl [(1, 1, 1)]), [], [], [])], [], [], 0)
set_option maxRecDepth 100000 in
theorem S_1218 : aSpec wd ct_1218 := bChk_ok wx_ok btX12_hasBit (lk := []) (nds := []) (fk := []) (rk := (1, [])) (sp := 0) (fuel := 3000) (by decide +kernel) (fun _ h => nomatch h) odX12_hasBit
def ct_1219 : aCt := (mX12_isClosed, [.inr (.inl [196]), .inl [(0, 0, 1)]], ([((199, 0), [(2, 4, 1)]), ((199, 4), [(1, 7, 1)]), ((199, 5), [(10, 10, 1)]), ((199, 6), [(1, 5, 1)])], []), [(some (.inl [(0, 0, 1)]), [], [], []), (some (.inl [(1, 1, 1)]), [], [], [])], [], [], 1)
set_option maxRecDepth 100000 in
theorem S_1219 : aSpec wd ct_1219 := bChk_ok wx_ok btX12_isClosed (lk := [(298, 1, 2, ct_1218)]) (nds := []) (fk := []) (rk := (1, [])) (sp := 0) (fuel := 3000) (by decide +kernel) (List.forall_mem_cons.mpr ⟨⟨ml_12_298, S_1218⟩, fun _ h => nomatch h⟩) odX12_isClosed
def ct_1220 : aCt := (mX12_hasBit, [.inl aTop, .inl [(1, 1, 1)]], ([((199, 0), [(2, 4, 1)]), ((199, 4), [(1, 7, 1)]), ((199, 5), [(10, 10, 1)]), ((199, 6), [(1, 5, 1)])], []), [(some (.inl [(0, 0, 1)]), [], [], []), (some (.inl [(1, 1, 1)]), [], [], [])], [], [], 0)
set_option maxRecDepth 100000 in
theorem S_1220 : aSpec wd ct_1220 := bChk_ok wx_ok btX12_hasBit (lk := []) (nds := []) (fk := []) (rk := (1, [])) (sp := 0) (fuel := 3000) (by decide +kernel) (fun _ h => nomatch h) odX12_hasBit
def ct_1221 : aCt := (mX12_isClosed, [.inr (.inl [196]), .inl [(1, 1, 1)]], ([((199, 0), [(2, 4, 1)]), ((199, 4), [(1, 7, 1)]), ((199, 5), [(10, 10, 1)]), ((199, 6), [(1, 5, 1)])], []), [(some (.inl [(0, 0, 1)]), [], [], []), (some (.inl [(1, 1, 1)]), [], [], [])], [], [], 1)
set_option maxRecDepth 100000 in
theorem S_1221 : aSpec wd ct_1221 := bChk_ok wx_ok btX12_isClosed (lk := [(298, 1, 2, ct_1220)]) (nds := []) (fk := []) (rk := (1, [])) (sp := 0) (fuel := 3000) (by decide +kernel) (List.forall_mem_cons.mpr ⟨⟨ml_12_298, S_1220⟩, fun _ h => nomatch h⟩) odX12_isClosed
def ct_1222 : aCt := (mX12_hasBit, [.inl aTop, .inl [(2, 2, 1)]], ([((199, 0), [(2, 4, 1)]), ((199, 4), [(1, 7, 1)]), ((199, 5), [(10, 10, 1)]), ((199, 6), [(1, 5, 1)])], []), [(some (.inl [(0, 0, 1)]), [], [], []), (some (.inl [(1, 1, 1)]), [], [], [])], [], [], 0)
set_option maxRecDepth 100000 in
theorem S_1222 : aSpec wd ct_1222 := bChk_ok wx_ok btX12_hasBit (lk := []) (nds := []) (fk := []) (rk := (1, [])) (sp := 0) (fuel := 3000) (by decide +kernel) (fun _ h => nomatch h) odX12_hasBit
def ct_1223 : aCt := (mX12_isClosed, [.inr (.inl [196]), .inl [(2, 2, 1)]], ([((199, 0), [(2, 4, 1)]), ((199, 4), [(1, 7, 1)]), ((199, 5), [(10, 10, 1)]), ((199, 6), [(1, 5, 1)])], []), [(some (.inl [(0, 0, 1)]), [], [], []), (some (.inl [(1, 1, 1)]), [], [], [])], [], [], 1)
set_option maxRecDepth 100000 in
theorem S_1223 : aSpec wd ct_1223 := bChk_ok wx_ok btX12_isClosed (lk := [(298, 1, 2, ct_1222)]) (nds := []) (fk := []) (rk := (1, [])) (sp := 0) (fuel := 3000) (by decide +kernel) (List.forall_mem_cons.mpr ⟨⟨ml_12_298, S_1222⟩, fun _ h => nomatch h⟩) odX12_isClosed
def ct_1224 : aCt := (mX12_hasBit, [.inl aTop, .inl [(3, 3, 1)]], ([((199, 0), [(2, 4, 1)]), ((199, 4), [(1, 7, 1)]), ((199, 5), [(10, 10, 1)]), ((199, 6), [(1, 5, 1)])], []), [(some (.inl [(0, 0, 1)]), [], [], []), (some (.inl [(1, 1, 1)]), [], [], [])], [], [], 0)
set_option maxRecDepth 100000 in
theorem S_1224 : aSpec wd ct_1224 := bChk_ok wx_ok btX12_hasBit (lk := []) (nds := []) (fk := []) (rk := (1, [])) (sp := 0) (fuel := 3000) (by decide +kernel) (fun _ h => nomatch h) odX12_hasBit
def ct_1225 : aCt := (mX12_isClosed, [.inr (.inl [196]), .inl [(3, 3, 1)]], ([((199, 0), [(2, 4, 1)]), ((199, 4), [(1, 7, 1)]), ((199, 5), [(10, 10, 1)]), ((199, 6), [(1, 5, 1)])], []), [(some (.inl [(0, 0, 1)]), [], [], []), (some (.inl [(1, 1, 1)]), [], [], [])], [], [], 1)
set_option maxRecDepth 100000 in
theorem S_1225 : aSpec wd ct_1225 := bChk_ok wx_ok btX12_isClosed (lk := [(298, 1, 2, ct_1224)]) (nds := []) (fk := []) (rk := (1, [])) (sp := 0) (fuel := 3000) (by decide +kernel) (List.forall_mem_cons.mpr ⟨⟨ml_12_298, S_1224⟩, fun _ h => nomatch h⟩) odX12_isClosed
def ct_1226 : aCt := (mX12_hasBit, [.inl aTop, .inl [(4, 4, 1)]], ([((199, 0), [(2, 4, 1)]), ((199, 4), [(1, 7, 1)]), ((199, 5), [(10, 10, 1)]), ((199, 6), [(1, 5, 1)])], []), [(some (.inl [(0, 0, 1)]), [], [], []), (some (.inl [(1, 1, 1)]), [], [], [])], [], [], 0)
set_option maxRecDepth 100000 in
theorem S_1226 : aSpec wd ct_1226 := bChk_ok wx_ok btX12_hasBit (lk := []) (nds := []) (fk := []) (rk := (1, [])) (sp := 0) (fuel := 3000) (by decide +kernel) (fun _ h => nomatch h) odX12_hasBit
def ct_1227 : aCt := (mX12_isClosed, [.inr (.inl [196]), .inl [(4, 4, 1)]], ([((199, 0), [(2, 4, 1)]), ((199, 4), [(1, 7, 1)]), ((199, 5), [(10, 10, 1)]), ((199, 6), [(1, 5, 1)])], []), [(some (.inl [(0, 0, 1)]), [], [], []), (some (.inl [(1, 1, 1)]), [], [], [])], [], [], 1)
set_option maxRecDepth 100000 in
theorem S_1227 : aSpec wd ct_1227 := bChk_ok wx_ok btX12_isClosed (lk := [(298, 1, 2, ct_1226)]) (nds := []) (fk := []) (rk := (1, [])) (sp := 0) (fuel := 3000) (by decide +kernel) (List.forall_mem_cons.mpr ⟨⟨ml_12_298, S_1226⟩, fun _ h => nomatch h⟩) odX12_isClosed
def ct_1228 : aCt := (mX12_hasBit, [.inl aTop, .inl [(5, 5, 1)]], ([((199, 0), [(2, 4, 1)]), ((199, 4), [(1, 7, 1)]), ((199, 5), [(10, 10, 1)]), ((199, 6), [(1, 5, 1)])], []), [(some (.inl [(0, 0, 1)]), [], [], []), (some (.inl [(1, 1, 1)]), [], [], [])], [], [], 0)
set_option maxRecDepth 100000 in
theorem S_1228 : aSpec wd ct_1228 := bChk_ok wx_ok btX12_hasBit (lk := []) (nds := []) (fk := []) (rk := (1, [])) (sp := 0) (fuel := 3000) (by decide +kernel) (fun _ h => nomatch h) odX12_hasBit
def ct_1229 : aCt := (mX12_isClosed, [.inr (.inl [196]), .inl [(5, 5, 1)]], ([((199, 0), [(2, 4, 1)]), ((199, 4), [(1, 7, 1)]), ((199, 5), [(10, 10, 1)]), ((199, 6), [(1, 5, 1)])], []), [(some (.inl [(0, 0, 1)]), [], [], []), (some (.inl [(1, 1, 1)]), [], [], [])], [], [], 1)
set_option maxRecDepth 100000 in
theorem S_1229 : aSpec wd ct_1229 := bChk_ok wx_ok btX12_isClosed (lk := [(298, 1, 2, ct_1228)]) (nds := []) (fk := []) (rk := (1, [])) (sp := 0) (fuel := 3000) (by decide +kernel) (List.forall_mem_cons.mpr ⟨⟨ml_12_298, S_1228⟩, fun _ h => nomatch h⟩) odX12_isClosed
def ct_1230 : aCt := (mX12_hasBit, [.inl aTop, .inl [(6, 6, 1)]], ([((199, 0), [(2, 4, 1)]), ((199, 4), [(1, 7, 1)]), ((199, 5), [(10, 10, 1)]), ((199, 6), [(1, 5, 1)])], []), [(some (.inl [(0, 0, 1)]), [], [], []), (some (.inl [(1, 1, 1)]), [], [], [])], [], [], 0)
set_option maxRecDepth 100000 in
theorem S_1230 : aSpec wd ct_1230 := bChk_ok wx_ok btX12_hasBit (lk := []) (nds := []) (fk := []) (rk := (1, [])) (sp := 0) (fuel := 3000) (by decide +kernel) (fun _ h => nomatch h) odX12_hasBit
def ct_1231 : aCt := (mX12_isClosed, [.inr (.inl [196]), .inl [(6, 6, 1)]], ([((199, 0), [(2, 4, 1)]), ((199, 4), [(1, 7, 1)]), ((199, 5), [(10, 10, 1)]), ((199, 6), [(1, 5, 1)])], []), [(some (.inl [(0, 0, 1)]), [], [], []), (some (.inl [(1, 1, 1)]), [], [], [])], [], [], 1)
set_option maxRecDepth 100000 in
theorem S_1231 : aSpec wd ct_1231 := bChk_ok wx_ok btX12_isClosed (lk := [(298, 1, 2, ct_1230)]) (nds := []) (fk := []) (rk := (1, [])) (sp := 0) (fuel := 3000) (by decide +kernel) (List.forall_mem_cons.mpr ⟨⟨ml_12_298, S_1230⟩, fun _ h => nomatch h⟩) odX12_isClosed
def ct_1232 : aCt := (mX12_hasBit, [.inl aTop, .inl [(7, 7, 1)]], ([((199, 0), [(2, 4, 1)]), ((199, 4), [(1, 7, 1)]), ((199, 5), [(10, 10, 1)]), ((199, 6), [(1, 5, 1)])], []), [(some (.inl [(0, 0, 1)]), [], [], []), (some (.inl [(1, 1, 1)]), [], [], [])], [], [], 0)
set_option maxRecDepth 100000 in
theorem S_1232 : aSpec wd ct_1232 := bChk_ok wx_ok btX12_hasBit (lk := []) (nds := []) (fk := []) (rk := (1, [])) (sp := 0) (fuel := 3000) (by decide +kernel) (fun _ h => nomatch h) odX12_hasBit
def ct_1233 : aCt := (mX12_isClosed, [.inr (.inl [196]), .inl [(7, 7, 1)]], ([((199, 0), [(2, 4, 1)]), ((199, 4), [(1, 7, 1)]), ((199, 5), [(10, 10, 1)]), ((199, 6), [(1, 5, 1)])], []), [(some (.inl [(0, 0, 1)]), [], [], []), (some (.inl [(1, 1, 1)]), [], [], [])], [], [], 1)
set_option maxRecDepth 100000 in
theorem S_1233 : aSpec wd ct_1233 := bChk_ok wx_ok btX12_isClosed (lk := [(298, 1, 2, ct_1232)]) (nds := []) (fk := []) (rk := (1, [])) (sp := 0) (fuel := 3000) (by decide +kernel) (List.forall_mem_cons.mpr ⟨⟨ml_12_298, S_1232⟩, fun _ h => nomatch h⟩) odX12_isClosed
def ct_1234 : aCt := (mX12_hasBit, [.inl aTop, .inl [(8, 8, 1)]], ([((199, 0), [(2, 4, 1)]), ((199, 4), [(1, 7, 1)]), ((199, 5), [(10, 10, 1)]), ((199, 6), [(1, 5, 1)])], []), [(some (.inl [(0, 0, 1)]), [], [], []), (some (.inl [(1, 1, 1)]), [], [], [])], [], [], 0)
set_option maxRecDepth 100000 in
theorem S_1234 : aSpec wd ct_1234 := bChk_ok wx_ok btX12_hasBit (lk := []) (nds := []) (fk := []) (rk := (1, [])) (sp := 0) (fuel := 3000) (by decide +kernel) (fun _ h => nomatch h) odX12_hasBit
def ct_1235 : aCt := (mX12_isClosed, [.inr (.inl [196]), .inl [(8, 8, 1)]], ([((199, 0), [(2, 4, 1)]), ((199, 4), [(1, 7, 1)]), ((199, 5), [(10, 10, 1)]), ((199, 6), [(1, 5, 1)])], []), [(some (.inl [(0, 0, 1)]), [], [], []), (some (.inl [(1, 1, 1)]), [], [], [])], [], [], 1)
set_option maxRecDepth 100000 in
theorem S_1235 : aSpec wd ct_1235 := bChk_ok wx_ok btX12_isClosed (lk := [(298, 1, 2, ct_1234)]) (nds := []) (fk := []) (rk := (1, [])) (sp := 0) (fuel := 3000) (by decide +kernel) (List.forall_mem_cons.mpr ⟨⟨ml_12_298, S_1234⟩, fun _ h => nomatch h⟩) odX12_isClosed
def ct_1236 : aCt := (mX12_hasBit, [.inl aTop, .inl [(9, 9, 1)]], ([((199, 0), [(2, 4, 1)]), ((199, 4), [(1, 7, 1)]), ((199, 5), [(10, 10, 1)]), ((199, 6), [(1, 5, 1)])], []), [(some (.inl [(0, 0, 1)]), [], [], []), (some (.inl [(1, 1, 1)]), [], [], [])], [], [], 0)
set_option maxRecDepth 100000 in
theorem S_1236 : aSpec wd ct_1236 := bChk_ok wx_ok btX12_hasBit (lk := []) (nds := []) (fk := []) (rk := (1, [])) (sp := 0) (fuel := 3000) (by decide +kernel) (fun _ h => nomatch h) odX12_hasBit
def ct_1237 : aCt := (mX12_isClosed, [.inr (.inl [196]), .inl [(9, 9, 1)]], ([((199, 0), [(2, 4, 1)]), ((199, 4), [(1, 7, 1)]), ((199, 5), [(10, 10, 1)]), ((199, 6), [(1, 5, 1)])], []), [(some (.inl [(0, 0, 1)]), [], [], []), (some (.inl [(1, 1, 1)]), [], [], [])], [], [], 1)
set_option maxRecDepth 100000 in
theorem S_1237 : aSpec wd ct_1237 := bChk_ok wx_ok btX12_isClosed (lk := [(298, 1, 2, ct_1236)]) (nds := []) (fk := []) (rk := (1, [])) (sp := 0) (fuel := 3000) (by decide +kernel) (List.forall_mem_cons.mpr ⟨⟨ml_12_298, S_1236⟩, fun _ h => nomatch h⟩) odX12_isClosed
def ct_1238 : aCt := (mX12_ofWhale, [.inr (.inl [196]), .inl [(0, 4, 1)], .inl [(0, 0, 1)]], ([((199, 0), [(2, 4, 1)]), ((199, 4), [(1, 7, 1)]), ((199, 5), [(10, 10, 1)]), ((199, 6), [(1, 5, 1)])], []), [(some (.inl [(0, 3, 1)]), [], [], [])], [], [], 0)
set_option maxRecDepth 100000 in
theorem S_1238 : aSpec wd ct_1238 := bChk_ok wx_ok btX12_ofWhale (lk := []) (nds := []) (fk := []) (rk := (1, [])) (sp := 0) (fuel := 3000) (by decide +kernel) (fun _ h => nomatch h) odX12_ofWhale
def ct_1239 : aCt := (mX12_in, [.inl aTop, .inl [(0, 0, 1)], .inl [(8, 8, 1)]], ([], []), [(some (.inl [(0, 0, 1)]), [some [(-2147483648, -1, 1), (9, 2147483647, 1)], none, none], [], []), (some (.inl [(1, 1, 1)]), [some [(0, 8, 1)], none, none], [], [])], [(1000002, 0, 0)], [], 0)
set_option maxRecDepth 100000 in
theorem S_1239 : aSpec wd ct_1239 := bChk_ok wx_ok btX12_in (lk := []) (nds := []) (fk := []) (rk := (1, [])) (sp := 0) (fuel := 3000) (by decide +kernel) (fun _ h => nomatch h) odX12_in
def ct_1240 : aCt := (mX12_hasBit, [.inl aTop, .inl [(0, 0, 1)]], ([((199, 0), [(2, 4, 1)]), ((199, 4), [(1, 7, 1)]), ((199, 5), [(9, 9, 1)]), ((199, 6), [(1, 5, 1)])], []), [(some (.inl [(0, 0, 1)]), [], [], []), (some (.inl [(1, 1, 1)]), [], [], [])], [], [], 0)
set_option maxRecDepth 100000 in
theorem S_1240 : aSpec wd ct_1240 := bChk_ok wx_ok btX12_hasBit (lk := []) (nds := []) (fk := []) (rk := (1, [])) (sp := 0) (fuel := 3000) (by decide +kernel) (fun _ h => nomatch h) odX12_hasBit
def ct_1241 : aCt := (mX12_isClosed, [.inr (.inl [196]), .inl [(0, 0, 1)]], ([((199, 0), [(2, 4, 1)]), ((199, 4), [(1, 7, 1)]), ((199, 5), [(9, 9, 1)]), ((199, 6), [(1, 5, 1)])], []), [(some (.inl [(0, 0, 1)]), [], [], []), (some (.inl [(1, 1, 1)]), [], [], [])], [], [], 1)
set_option maxRecDepth 100000 in
theorem S_1241 : aSpec wd ct_1241 := bChk_ok wx_ok btX12_isClosed (lk := [(298, 1, 2, ct_1240)]) (nds := []) (fk := []) (rk := (1, [])) (sp := 0) (fuel := 3000) (by decide +kernel) (List.forall_mem_cons.mpr ⟨⟨ml_12_298, S_1240⟩, fun _ h => nomatch h⟩) odX12_isClosed
def ct_1242 : aCt := (mX12_hasBit, [.inl aTop, .inl [(1, 1, 1)]], ([((199, 0), [(2, 4, 1)]), ((199, 4), [(1, 7, 1)]), ((199, 5), [(9, 9, 1)]), ((199, 6), [(1, 5, 1)])], []), [(some (.inl [(0, 0, 1)]), [], [], []), (some (.inl [(1, 1, 1)]), [], [], [])], [], [], 0)
set_option maxRecDepth 100000 in
theorem S_1242 : aSpec wd ct_1242 := bChk_ok wx_ok btX12_hasBit (lk := []) (nds := []) (fk := []) (rk := (1, [])) (sp := 0) (fuel := 3000) (by decide +kernel) (fun _ h => nomatch h) odX12_hasBit
def ct_1243 : aCt := (mX12_isClosed, [.inr (.inl [196]), .inl [(1, 1, 1)]], ([((199, 0), [(2, 4, 1)]), ((199, 4), [(1, 7, 1)]), ((199, 5), [(9, 9, 1)]), ((199, 6), [(1, 5, 1)])], []), [(some (.inl [(0, 0, 1)]), [], [], []), (some (.inl [(1, 1, 1)]), [], [], [])], [], [], 1)
set_option maxRecDepth 100000 in
theorem S_1243 : aSpec wd ct_1243 := bChk_ok wx_ok btX12_isClosed (lk := [(298, 1, 2, ct_1242)]) (nds := []) (fk := []) (rk := (1, [])) (sp := 0) (fuel := 3000) (by decide +kernel) (List.forall_mem_cons.mpr ⟨⟨ml_12_298, S_1242⟩, fun _ h => nomatch h⟩) odX12_isClosed
def ct_1244 : aCt := (mX12_hasBit, [.inl aTop, .inl [(2, 2, 1)]], ([((199, 0), [(2, 4, 1)]), ((199, 4), [(1, 7, 1)]), ((199, 5), [(9, 9, 1)]), ((199, 6), [(1, 5, 1)])], []), [(some (.inl [(0, 0, 1)]), [], [], []), (some (.inl [(1, 1, 1)]), [], [], [])], [], [], 0)
set_option maxRecDepth 100000 in
theorem S_1244 : aSpec wd ct_1244 := bChk_ok wx_ok btX12_hasBit (lk := []) (nds := []) (fk := []) (rk := (1, [])) (sp := 0) (fuel := 3000) (by decide +kernel) (fun _ h => nomatch h) odX12_hasBit
def ct_1245 : aCt := (mX12_isClosed, [.inr (.inl [196]), .inl [(2, 2, 1)]], ([((199, 0), [(2, 4, 1)]), ((199, 4), [(1, 7, 1)]), ((199, 5), [(9, 9, 1)]), ((199, 6), [(1, 5, 1)])], []), [(some (.inl [(0, 0, 1)]), [], [], []), (some (.inl [(1, 1, 1)]), [], [], [])], [], [], 1)
set_option maxRecDepth 100000 in
theorem S_1245 : aSpec wd ct_1245 := bChk_ok wx_ok btX12_isClosed (lk := [(298, 1, 2, ct_1244)]) (nds := []) (fk := []) (rk := (1, [])) (sp := 0) (fuel := 3000) (by decide +kernel) (List.forall_mem_cons.mpr ⟨⟨ml_12_298, S_1244⟩, fun _ h => nomatch h⟩) odX12_isClosed
def ct_1246 : aCt := (mX12_hasBit, [.inl aTop, .inl [(3, 3, 1)]], ([((199, 0), [(2, 4, 1)]), ((199, 4), [(1, 7, 1)]), ((199, 5), [(9, 9, 1)]), ((199, 6), [(1, 5, 1)])], []), [(some (.inl [(0, 0, 1)]), [], [], []), (some (.inl [(1, 1, 1)]), [], [], [])], [], [], 0)
set_option maxRecDepth 100000 in
theorem S_1246 : aSpec wd ct_1246 := bChk_ok wx_ok btX12_hasBit (lk := []) (nds := []) (fk := []) (rk := (1, [])) (sp := 0) (fuel := 3000) (by decide +kernel) (fun _ h => nomatch h) odX12_hasBit
def ct_1247 : aCt := (mX12_isClosed, [.inr (.inl [196]), .inl [(3, 3, 1)]], ([((199, 0), [(2, 4, 1)]), ((199, 4), [(1, 7, 1)]), ((199, 5), [(9, 9, 1)]), ((199, 6), [(1, 5, 1)])], []), [(some (.inl [(0, 0, 1)]), [], [], []), (some (.inl [(1, 1, 1)]), [], [], [])], [], [], 1)
set_option maxRecDepth 100000 in
theorem S_1247 : aSpec wd ct_1247 := bChk_ok wx_ok btX12_isClosed (lk := [(298, 1, 2, ct_1246)]) (nds := []) (fk := []) (rk := (1, [])) (sp := 0) (fuel := 3000) (by decide +kernel) (List.forall_mem_cons.mpr ⟨⟨ml_12_298, S_1246⟩, fun _ h => nomatch h⟩) odX12_isClosed
def ct_1248 : aCt := (mX12_hasBit, [.inl aTop, .inl [(4, 4, 1)]], ([((199, 0), [(2, 4, 1)]), ((199, 4), [(1, 7, 1)]), ((199, 5), [(9, 9, 1)]), ((199, 6), [(1, 5, 1)])], []), [(some (.inl [(0, 0, 1)]), [], [], []), (some (.inl [(1, 1, 1)]), [], [], [])], [], [], 0)
set_option maxRecDepth 100000 in
theorem S_1248 : aSpec wd ct_1248 := bChk_ok wx_ok btX12_hasBit (lk := []) (nds := []) (fk := []) (rk := (1, [])) (sp := 0) (fuel := 3000) (by decide +kernel) (fun _ h => nomatch h) odX12_hasBit
def ct_1249 : aCt := (mX12_isClosed, [.inr (.inl [196]), .inl [(4, 4, 1)]], ([((199, 0), [(2, 4, 1)]), ((199, 4), [(1, 7, 1)]), ((199, 5), [(9, 9, 1)]), ((199, 6), [(1, 5, 1)])], []), [(some (.inl [(0, 0, 1)]), [], [], []), (some (.inl [(1, 1, 1)]), [], [], [])], [], [], 1)
set_option maxRecDepth 100000 in
theorem S_1249 : aSpec wd ct_1249 := bChk_ok wx_ok btX12_isClosed (lk := [(298, 1, 2, ct_1248)]) (nds := []) (fk := []) (rk := (1, [])) (sp := 0) (fuel := 3000) (by decide +kernel) (List.forall_mem_cons.mpr ⟨⟨ml_12_298, S_1248⟩, fun _ h => nomatch h⟩) odX12_isClosed
