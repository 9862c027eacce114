section Pk0
set_option maxRecDepth 100000 in
theorem btX11_appendBytes : bTab oX11_appendBytes tX11_appendBytes := ⟨ofX11_appendBytes, by decide +kernel⟩
def ct_0 : aCt := (mX11_appendBytes, [.inr (.inl [0]), .inl aTop], ([((0, 1), [(0, 980, 1)])], []), [(none, [], [((0, 1), [(4, 984, 1)])], [])], [(0, 1, 2), (1, 0, 984)], [], 0)
set_option maxRecDepth 100000 in
theorem S_0 : aSpec wd ct_0 := bChk_ok wx_ok btX11_appendBytes (nds := []) (fk := []) (rk := (1, [])) (sp := 0) (fuel := 3000) (by decide +kernel) lk_n odX11_appendBytes
def ct_1 : aCt := (mX11_appendBytes, [.inr (.inl [0]), .inl aTop], ([((0, 1), [(4, 984, 1)])], []), [(none, [], [((0, 1), [(8, 988, 1)])], [])], [(0, 1, 2), (1, 4, 988)], [], 0)
set_option maxRecDepth 100000 in
theorem S_1 : aSpec wd ct_1 := bChk_ok wx_ok btX11_appendBytes (nds := []) (fk := []) (rk := (1, [])) (sp := 0) (fuel := 3000) (by decide +kernel) lk_n odX11_appendBytes
def ct_2 : aCt := (mX11_appendBytes, [.inr (.inl [0]), .inl aTop], ([((0, 1), [(8, 988, 1)])], []), [(none, [], [((0, 1), [(12, 992, 1)])], [])], [(0, 1, 2), (1, 8, 992)], [], 0)
set_option maxRecDepth 100000 in
theorem S_2 : aSpec wd ct_2 := bChk_ok wx_ok btX11_appendBytes (nds := []) (fk := []) (rk := (1, [])) (sp := 0) (fuel := 3000) (by decide +kernel) lk_n odX11_appendBytes
def ct_3 : aCt := (mX11_appendBytes, [.inr (.inl [0]), .inl aTop], ([((0, 1), [(12, 992, 1)])], []), [(none, [], [((0, 1), [(16, 996, 1)])], [])], [(0, 1, 2), (1, 12, 996)], [], 0)
set_option maxRecDepth 100000 in
theorem S_3 : aSpec wd ct_3 := bChk_ok wx_ok btX11_appendBytes (nds := []) (fk := []) (rk := (1, [])) (sp := 0) (fuel := 3000) (by decide +kernel) lk_n odX11_appendBytes
def ct_4 : aCt := (mX11_appendBytes, [.inr (.inl [0]), .inl aTop], ([((0, 1), [(16, 996, 1)])], []), [(none, [], [((0, 1), [(20, 1000, 1)])], [])], [(0, 1, 2), (1, 16, 1000)], [], 0)
set_option maxRecDepth 100000 in
theorem S_4 : aSpec wd ct_4 := bChk_ok wx_ok btX11_appendBytes (nds := []) (fk := []) (rk := (1, [])) (sp := 0) (fuel := 3000) (by decide +kernel) lk_n odX11_appendBytes
set_option maxRecDepth 100000 in
theorem btX11_feed : bTab oX11_feed tX11_feed := ⟨ofX11_feed, by decide +kernel⟩
def ct_5 : aCt := (mX11_feed, [.inr (.inl [0]), .inl aTop, .inl aTop, .inl aTop, .inl aTop, .inl aTop], ([], []), [(some (.inl [(20, 1000, 1)]), [], [((0, 1), [(20, 1000, 1)])], []), (some (.inl [(-1, -1, 1)]), [], [((0, 1), [(981, 1000, 1)])], [])], [(0, 1, 2), (1, 0, 1000)], [], 1)
set_option maxRecDepth 100000 in
theorem S_5 : aSpec wd ct_5 := bChk_ok wx_ok btX11_feed (nds := []) (fk := []) (rk := (1, [])) (sp := 0) (fuel := 3000) (by decide +kernel) (lk_c ml_11_94 S_0 (lk_c ml_11_94 S_1 (lk_c ml_11_94 S_2 (lk_c ml_11_94 S_3 (lk_c ml_11_94 S_4 lk_n))))) odX11_feed
set_option maxRecDepth 100000 in
theorem btX11_refused : bTab oX11_refused tX11_refused := ⟨ofX11_refused, by decide +kernel⟩
def ct_6 : aCt := (mX11_refused, [.inr (.inl [0]), .inl [(2, 2, 1)]], ([], []), [(some (.inl [(-1, -1, 1)]), [], [((0, 2), [(2, 2, 1)])], [])], [(0, 2, 3)], [], 0)
set_option maxRecDepth 100000 in
theorem S_6 : aSpec wd ct_6 := bChk_ok wx_ok btX11_refused (nds := []) (fk := []) (rk := (1, [])) (sp := 0) (fuel := 3000) (by decide +kernel) lk_n odX11_refused
set_option maxRecDepth 100000 in
theorem btX4_clear : bTab oX4_clear tX4_clear := ⟨ofX4_clear, by decide +kernel⟩
def ct_7 : aCt := (mX4_clear, [.inr (.inl [42])], ([], []), [(none, [], [((42, 4), [(0, 0, 1)]), ((42, 5), [(0, 0, 1)]), ((42, 6), [(0, 0, 1)]), ((42, 7), [(0, 0, 1)]), ((42, 8), [(0, 0, 1)])], [])], [(42, 0, 9)], [], 0)
set_option maxRecDepth 100000 in
theorem S_7 : aSpec wd ct_7 := bChk_ok wx_ok btX4_clear (nds := []) (fk := []) (rk := (1, [])) (sp := 0) (fuel := 3000) (by decide +kernel) lk_n odX4_clear
def lcn_0 : Nat × aAg := ((nat_lit 0), .inr (.inl [(nat_lit 82)]))
def lcn_1 : Nat × aAg := ((nat_lit 1), .inl [((.ofNat (nat_lit 97)), (.ofNat (nat_lit 97)), (nat_lit 1))])
def lcn_2 : Nat × aAg := ((nat_lit 2), .inl [((.ofNat (nat_lit 122)), (.ofNat (nat_lit 122)), (nat_lit 1))])
def sl_3 : (Nat × Nat) × aI := (((nat_lit 82), (nat_lit 1)), [((.ofNat (nat_lit 1)), (.ofNat (nat_lit 1000)), (nat_lit 1))])
def sl_4 : (Nat × Nat) × aI := (((nat_lit 82), (nat_lit 2)), [((.ofNat (nat_lit 1)), (.ofNat (nat_lit 1000)), (nat_lit 1))])
set_option maxRecDepth 100000 in
theorem btX5_passAll : bTab oX5_passAll tX5_passAll := ⟨ofX5_passAll, by decide +kernel⟩
def ct_8 : aCt := (mX5_passAll, [.inr (.inl [82]), .inl [(97, 97, 1)], .inl [(122, 122, 1)]], ([], []), [(some (.inl [(0, 0, 1)]), [], [], []), (some (.inl [(1, 1, 1)]), [], [], [])], [(82, 2, 3)], [], 0)
set_option maxRecDepth 100000 in
theorem S_8 : aSpec wd ct_8 := bChk_ok wx_ok btX5_passAll (nds := [((nat_lit 0), [lcn_0, lcn_1, lcn_2], [], [sl_3, sl_4], [], (1000, [(1, -1)]))]) (fk := []) (rk := (1000, [])) (sp := 1) (fuel := 3000) (by decide +kernel) lk_n odX5_passAll
def lcn_5 : Nat × aAg := ((nat_lit 1), .inl [((.ofNat (nat_lit 48)), (.ofNat (nat_lit 48)), (nat_lit 1))])
def lcn_6 : Nat × aAg := ((nat_lit 2), .inl [((.ofNat (nat_lit 57)), (.ofNat (nat_lit 57)), (nat_lit 1))])
def ct_9 : aCt := (mX5_passAll, [.inr (.inl [82]), .inl [(48, 48, 1)], .inl [(57, 57, 1)]], ([], []), [(some (.inl [(0, 0, 1)]), [], [], []), (some (.inl [(1, 1, 1)]), [], [], [])], [(82, 2, 3)], [], 0)
set_option maxRecDepth 100000 in
theorem S_9 : aSpec wd ct_9 := bChk_ok wx_ok btX5_passAll (nds := [((nat_lit 0), [lcn_0, lcn_5, lcn_6], [], [sl_3, sl_4], [], (1000, [(1, -1)]))]) (fk := []) (rk := (1000, [])) (sp := 1) (fuel := 3000) (by decide +kernel) lk_n odX5_passAll
set_option maxRecDepth 100000 in
theorem btX5_nextToken : bTab oX5_nextToken tX5_nextToken := ⟨ofX5_nextToken, by decide +kernel⟩
def ct_10 : aCt := (mX5_nextToken, [.inr (.inl [82])], ([], []), [(none, [], [], [])], [(82, 2, 5)], [], 1)
set_option maxRecDepth 100000 in
theorem S_10 : aSpec wd ct_10 := bChk_ok wx_ok btX5_nextToken (nds := [((nat_lit 0), [lcn_0], [], [sl_3, sl_4], [], (1000, [(1, -1)]))]) (fk := []) (rk := (1000, [])) (sp := 1) (fuel := 3000) (by decide +kernel) (lk_c ml_5_278 S_8 (lk_c ml_5_278 S_9 lk_n)) odX5_nextToken
set_option maxRecDepth 100000 in
theorem btX5_sortOfLine : bTab oX5_sortOfLine tX5_sortOfLine := ⟨ofX5_sortOfLine, by decide +kernel⟩
def ct_11 : aCt := (mX5_sortOfLine, [.inr (.inl [82])], ([], []), [(some (.inl [(2, 5, 1)]), [], [], []), (some (.inl [(-2, -2, 1)]), [], [], []), (some (.inl [(0, 0, 1)]), [], [], []), (some (.inl [(1, 1, 1)]), [], [], [])], [], [], 1)
set_option maxRecDepth 100000 in
theorem S_11 : aSpec wd ct_11 := bChk_ok wx_ok btX5_sortOfLine (nds := []) (fk := []) (rk := (1, [])) (sp := 0) (fuel := 3000) (by decide +kernel) (lk_c ml_5_245 S_X5_isToken_0 lk_n) odX5_sortOfLine
set_option maxRecDepth 100000 in
theorem btX5_faulty : bTab oX5_faulty tX5_faulty := ⟨ofX5_faulty, by decide +kernel⟩
def ct_12 : aCt := (mX5_faulty, [.inr (.inl [82]), .inl [(1, 1, 1)]], ([((82, 11), [(0, 0, 1)])], []), [(some (.inl [(0, 0, 1)]), [], [((82, 11), [(1, 1, 1)])], [])], [(82, 11, 13)], [], 0)
set_option maxRecDepth 100000 in
theorem S_12 : aSpec wd ct_12 := bChk_ok wx_ok btX5_faulty (nds := []) (fk := []) (rk := (1, [])) (sp := 0) (fuel := 3000) (by decide +kernel) lk_n odX5_faulty
def lcn_7 : Nat × aAg := ((nat_lit 1), .inr (.inr false))
def lcn_8 : Nat × aAg := ((nat_lit 3), .inl [((.ofNat (nat_lit 0)), (.ofNat (nat_lit 1000)), (nat_lit 1))])
set_option maxRecDepth 100000 in
theorem btX5_letters : bTab oX5_letters tX5_letters := ⟨ofX5_letters, by decide +kernel⟩
def ct_13 : aCt := (mX5_letters, [.inr (.inl [82])], ([], []), [(some (.inr ()), [], [], [])], [], [], 0)
set_option maxRecDepth 100000 in
theorem S_13 : aSpec wd ct_13 := bChk_ok wx_ok btX5_letters (nds := [((nat_lit 7), [lcn_0, lcn_7, lcn_8], [], [], [], (1000, [(0, -1)]))]) (fk := []) (rk := (1001, [])) (sp := 128) (fuel := 3000) (by decide +kernel) lk_n odX5_letters
def lcn_9 : Nat × aAg := ((nat_lit 3), .inl [((.ofNat (nat_lit 0)), (.ofNat (nat_lit 0)), (nat_lit 1))])
def lcn_10 : Nat × aAg := ((nat_lit 3), .inl [((.ofNat (nat_lit 1)), (.ofNat (nat_lit 1)), (nat_lit 1))])
def sl_11 : (Nat × Nat) × aI := (((nat_lit 82), (nat_lit 10)), [((.ofNat (nat_lit 1)), (.ofNat (nat_lit 20)), (nat_lit 1))])
def lcn_12 : Nat × aAg := ((nat_lit 3), .inl [((.ofNat (nat_lit 2)), (.ofNat (nat_lit 2)), (nat_lit 1))])
def sl_13 : (Nat × Nat) × aI := (((nat_lit 82), (nat_lit 10)), [((.ofNat (nat_lit 2)), (.ofNat (nat_lit 20)), (nat_lit 1))])
def lcn_14 : Nat × aAg := ((nat_lit 3), .inl [((.ofNat (nat_lit 3)), (.ofNat (nat_lit 3)), (nat_lit 1))])
def sl_15 : (Nat × Nat) × aI := (((nat_lit 82), (nat_lit 10)), [((.ofNat (nat_lit 3)), (.ofNat (nat_lit 20)), (nat_lit 1))])
def lcn_16 : Nat × aAg := ((nat_lit 3), .inl [((.ofNat (nat_lit 4)), (.ofNat (nat_lit 4)), (nat_lit 1))])
def sl_17 : (Nat × Nat) × aI := (((nat_lit 82), (nat_lit 10)), [((.ofNat (nat_lit 4)), (.ofNat (nat_lit 20)), (nat_lit 1))])
def lcn_18 : Nat × aAg := ((nat_lit 3), .inl [((.ofNat (nat_lit 5)), (.ofNat (nat_lit 5)), (nat_lit 1))])
def sl_19 : (Nat × Nat) × aI := (((nat_lit 82), (nat_lit 10)), [((.ofNat (nat_lit 5)), (.ofNat (nat_lit 20)), (nat_lit 1))])
def lcn_20 : Nat × aAg := ((nat_lit 3), .inl [((.ofNat (nat_lit 6)), (.ofNat (nat_lit 6)), (nat_lit 1))])
def sl_21 : (Nat × Nat) × aI := (((nat_lit 82), (nat_lit 10)), [((.ofNat (nat_lit 6)), (.ofNat (nat_lit 20)), (nat_lit 1))])
def lcn_22 : Nat × aAg := ((nat_lit 3), .inl [((.ofNat (nat_lit 7)), (.ofNat (nat_lit 7)), (nat_lit 1))])
def sl_23 : (Nat × Nat) × aI := (((nat_lit 82), (nat_lit 10)), [((.ofNat (nat_lit 7)), (.ofNat (nat_lit 20)), (nat_lit 1))])
def lcn_24 : Nat × aAg := ((nat_lit 3), .inl [((.ofNat (nat_lit 8)), (.ofNat (nat_lit 8)), (nat_lit 1))])
def sl_25 : (Nat × Nat) × aI := (((nat_lit 82), (nat_lit 10)), [((.ofNat (nat_lit 8)), (.ofNat (nat_lit 20)), (nat_lit 1))])
def lcn_26 : Nat × aAg := ((nat_lit 3), .inl [((.ofNat (nat_lit 9)), (.ofNat (nat_lit 9)), (nat_lit 1))])
def sl_27 : (Nat × Nat) × aI := (((nat_lit 82), (nat_lit 10)), [((.ofNat (nat_lit 9)), (.ofNat (nat_lit 20)), (nat_lit 1))])
def lcn_28 : Nat × aAg := ((nat_lit 3), .inl [((.ofNat (nat_lit 10)), (.ofNat (nat_lit 10)), (nat_lit 1))])
def sl_29 : (Nat × Nat) × aI := (((nat_lit 82), (nat_lit 10)), [((.ofNat (nat_lit 10)), (.ofNat (nat_lit 20)), (nat_lit 1))])
def lcn_30 : Nat × aAg := ((nat_lit 3), .inl [((.ofNat (nat_lit 11)), (.ofNat (nat_lit 11)), (nat_lit 1))])
def sl_31 : (Nat × Nat) × aI := (((nat_lit 82), (nat_lit 10)), [((.ofNat (nat_lit 11)), (.ofNat (nat_lit 20)), (nat_lit 1))])
def lcn_32 : Nat × aAg := ((nat_lit 3), .inl [((.ofNat (nat_lit 12)), (.ofNat (nat_lit 12)), (nat_lit 1))])
def sl_33 : (Nat × Nat) × aI := (((nat_lit 82), (nat_lit 10)), [((.ofNat (nat_lit 12)), (.ofNat (nat_lit 20)), (nat_lit 1))])
def lcn_34 : Nat × aAg := ((nat_lit 3), .inl [((.ofNat (nat_lit 13)), (.ofNat (nat_lit 13)), (nat_lit 1))])
def sl_35 : (Nat × Nat) × aI := (((nat_lit 82), (nat_lit 10)), [((.ofNat (nat_lit 13)), (.ofNat (nat_lit 20)), (nat_lit 1))])
def lcn_36 : Nat × aAg := ((nat_lit 3), .inl [((.ofNat (nat_lit 14)), (.ofNat (nat_lit 14)), (nat_lit 1))])
def sl_37 : (Nat × Nat) × aI := (((nat_lit 82), (nat_lit 10)), [((.ofNat (nat_lit 14)), (.ofNat (nat_lit 20)), (nat_lit 1))])
def lcn_38 : Nat × aAg := ((nat_lit 3), .inl [((.ofNat (nat_lit 15)), (.ofNat (nat_lit 15)), (nat_lit 1))])
def sl_39 : (Nat × Nat) × aI := (((nat_lit 82), (nat_lit 10)), [((.ofNat (nat_lit 15)), (.ofNat (nat_lit 20)), (nat_lit 1))])
def lcn_40 : Nat × aAg := ((nat_lit 3), .inl [((.ofNat (nat_lit 16)), (.ofNat (nat_lit 16)), (nat_lit 1))])
def sl_41 : (Nat × Nat) × aI := (((nat_lit 82), (nat_lit 10)), [((.ofNat (nat_lit 16)), (.ofNat (nat_lit 20)), (nat_lit 1))])
def lcn_42 : Nat × aAg := ((nat_lit 3), .inl [((.ofNat (nat_lit 17)), (.ofNat (nat_lit 17)), (nat_lit 1))])
def sl_43 : (Nat × Nat) × aI := (((nat_lit 82), (nat_lit 10)), [((.ofNat (nat_lit 17)), (.ofNat (nat_lit 20)), (nat_lit 1))])
def lcn_44 : Nat × aAg := ((nat_lit 3), .inl [((.ofNat (nat_lit 18)), (.ofNat (nat_lit 18)), (nat_lit 1))])
def sl_45 : (Nat × Nat) × aI := (((nat_lit 82), (nat_lit 10)), [((.ofNat (nat_lit 18)), (.ofNat (nat_lit 20)), (nat_lit 1))])
def lcn_46 : Nat × aAg := ((nat_lit 3), .inl [((.ofNat (nat_lit 19)), (.ofNat (nat_lit 19)), (nat_lit 1))])
def sl_47 : (Nat × Nat) × aI := (((nat_lit 82), (nat_lit 10)), [((.ofNat (nat_lit 19)), (.ofNat (nat_lit 20)), (nat_lit 1))])
def lcn_48 : Nat × aAg := ((nat_lit 3), .inl [((.ofNat (nat_lit 20)), (.ofNat (nat_lit 20)), (nat_lit 1))])
def sl_49 : (Nat × Nat) × aI := (((nat_lit 82), (nat_lit 10)), [((.ofNat (nat_lit 20)), (.ofNat (nat_lit 20)), (nat_lit 1))])
set_option maxRecDepth 100000 in
theorem btX5_nameOfToken : bTab oX5_nameOfToken tX5_nameOfToken := ⟨ofX5_nameOfToken, by decide +kernel⟩
def ct_14 : aCt := (mX5_nameOfToken, [.inr (.inl [82])], ([], []), [(some (.inl [(-2, -2, 1)]), [], [], []), (some (.inl [(0, 0, 1)]), [], [((82, 10), [(1, 20, 1)])], []), (some (.inl [(1, 1, 1)]), [], [((82, 10), [(2, 20, 1)])], []), (some (.inl [(10, 10, 1)]), [], [((82, 10), [(11, 20, 1)])], []), (some (.inl [(11, 11, 1)]), [], [((82, 10), [(12, 20, 1)])], []), (some (.inl [(12, 12, 1)]), [], [((82, 10), [(13, 20, 1)])], []), (some (.inl [(13, 13, 1)]), [], [((82, 10), [(14, 20, 1)])], []), (some (.inl [(14, 14, 1)]), [], [((82, 10), [(15, 20, 1)])], []), (some (.inl [(15, 15, 1)]), [], [((82, 10), [(16, 20, 1)])], []), (some (.inl [(16, 16, 1)]), [], [((82, 10), [(17, 20, 1)])], []), (some (.inl [(17, 17, 1)]), [], [((82, 10), [(18, 20, 1)])], []), (some (.inl [(18, 18, 1)]), [], [((82, 10), [(19, 20, 1)])], []), (some (.inl [(19, 19, 1)]), [], [((82, 10), [(20, 20, 1)])], []), (some (.inl [(2, 2, 1)]), [], [((82, 10), [(3, 20, 1)])], []), (some (.inl [(3, 3, 1)]), [], [((82, 10), [(4, 20, 1)])], []), (some (.inl [(4, 4, 1)]), [], [((82, 10), [(5, 20, 1)])], []), (some (.inl [(5, 5, 1)]), [], [((82, 10), [(6, 20, 1)])], []), (some (.inl [(6, 6, 1)]), [], [((82, 10), [(7, 20, 1)])], []), (some (.inl [(7, 7, 1)]), [], [((82, 10), [(8, 20, 1)])], []), (some (.inl [(8, 8, 1)]), [], [((82, 10), [(9, 20, 1)])], []), (some (.inl [(9, 9, 1)]), [], [((82, 10), [(10, 20, 1)])], [])], [], [], 1)
set_option maxRecDepth 100000 in
theorem S_14 : aSpec wd ct_14 := bChk_ok wx_ok btX5_nameOfToken (nds := [((nat_lit 7), [lcn_0, lcn_7, lcn_9], [], [], [], (20, [])), ((nat_lit 7), [lcn_0, lcn_7, lcn_10], [], [sl_11], [], (19, [])), ((nat_lit 7), [lcn_0, lcn_7, lcn_12], [], [sl_13], [], (18, [])), ((nat_lit 7), [lcn_0, lcn_7, lcn_14], [], [sl_15], [], (17, [])), ((nat_lit 7), [lcn_0, lcn_7, lcn_16], [], [sl_17], [], (16, [])), ((nat_lit 7), [lcn_0, lcn_7, lcn_18], [], [sl_19], [], (15, [])), ((nat_lit 7), [lcn_0, lcn_7, lcn_20], [], [sl_21], [], (14, [])), ((nat_lit 7), [lcn_0, lcn_7, lcn_22], [], [sl_23], [], (13, [])), ((nat_lit 7), [lcn_0, lcn_7, lcn_24], [], [sl_25], [], (12, [])), ((nat_lit 7), [lcn_0, lcn_7, lcn_26], [], [sl_27], [], (11, [])), ((nat_lit 7), [lcn_0, lcn_7, lcn_28], [], [sl_29], [], (10, [])), ((nat_lit 7), [lcn_0, lcn_7, lcn_30], [], [sl_31], [], (9, [])), ((nat_lit 7), [lcn_0, lcn_7, lcn_32], [], [sl_33], [], (8, [])), ((nat_lit 7), [lcn_0, lcn_7, lcn_34], [], [sl_35], [], (7, [])), ((nat_lit 7), [lcn_0, lcn_7, lcn_36], [], [sl_37], [], (6, [])), ((nat_lit 7), [lcn_0, lcn_7, lcn_38], [], [sl_39], [], (5, [])), ((nat_lit 7), [lcn_0, lcn_7, lcn_40], [], [sl_41], [], (4, [])), ((nat_lit 7), [lcn_0, lcn_7, lcn_42], [], [sl_43], [], (3, [])), ((nat_lit 7), [lcn_0, lcn_7, lcn_44], [], [sl_45], [], (2, [])), ((nat_lit 7), [lcn_0, lcn_7, lcn_46], [], [sl_47], [], (1, [])), ((nat_lit 7), [lcn_0, lcn_7, lcn_48], [], [sl_49], [], (0, []))]) (fk := []) (rk := (21, [])) (sp := 128) (fuel := 3000) (by decide +kernel) (lk_c ml_5_251 S_13 lk_n) odX5_nameOfToken
def ct_15 : aCt := (mX5_faulty, [.inr (.inl [82]), .inl [(3, 3, 1)]], ([((82, 11), [(0, 0, 1)])], []), [(some (.inl [(0, 0, 1)]), [], [((82, 11), [(3, 3, 1)])], [])], [(82, 11, 13)], [], 0)
set_option maxRecDepth 100000 in
theorem S_15 : aSpec wd ct_15 := bChk_ok wx_ok btX5_faulty (nds := []) (fk := []) (rk := (1, [])) (sp := 0) (fuel := 3000) (by decide +kernel) lk_n odX5_faulty
set_option maxRecDepth 100000 in
theorem btX5_newName : bTab oX5_newName tX5_newName := ⟨ofX5_newName, by decide +kernel⟩
def ct_16 : aCt := (mX5_newName, [.inr (.inl [82]), .inl [(1, 1, 1)], .inl [(0, 6, 1)]], ([((82, 11), [(0, 0, 1)])], []), [(some (.inl [(0, 0, 1)]), [], [((82, 11), [(1, 1, 1), (3, 3, 1)])], []), (some (.inl [(1, 1, 1)]), [], [((82, 10), [(1, 20, 1)]), ((82, 11), [(0, 0, 1)])], [])], [(82, 2, 5), (82, 10, 13), (84, 0, 20), (85, 0, 20)], [], 2)
set_option maxRecDepth 100000 in
theorem S_16 : aSpec wd ct_16 := bChk_ok wx_ok btX5_newName (nds := []) (fk := [40]) (rk := (1, [])) (sp := 0) (fuel := 3000) (by decide +kernel) (lk_c ml_5_70 S_10 (lk_c ml_5_80 S_11 (lk_c ml_5_248 S_14 (lk_c ml_5_251 S_13 (lk_c ml_5_76 S_12 (lk_c ml_5_76 S_15 lk_n)))))) odX5_newName
def lcn_50 : Nat × aAg := ((nat_lit 1), .inl [((.ofNat (nat_lit 2)), (.ofNat (nat_lit 6)), (nat_lit 1))])
def lcn_51 : Nat × aAg := ((nat_lit 2), .inl aTop)
set_option maxRecDepth 100000 in
theorem btX5_songOfToken : bTab oX5_songOfToken tX5_songOfToken := ⟨ofX5_songOfToken, by decide +kernel⟩
def ct_17 : aCt := (mX5_songOfToken, [.inr (.inl [82])], ([], [((82, 6), 42)]), [(some (.inl aTop), [], [], []), (some (.inl [(-2, -2, 1)]), [], [], [])], [], [], 0)
set_option maxRecDepth 100000 in
theorem S_17 : aSpec wd ct_17 := bChk_ok wx_ok btX5_songOfToken (nds := [((nat_lit 31), [lcn_0, lcn_50, lcn_51, lcn_8], [], [], [((82, 6), 42)], (1000, [(2, -1)]))]) (fk := []) (rk := (1001, [])) (sp := 2147483648) (fuel := 3000) (by decide +kernel) lk_n odX5_songOfToken
def ct_18 : aCt := (mX5_faulty, [.inr (.inl [82]), .inl [(7, 7, 1)]], ([((82, 11), [(0, 0, 1)])], []), [(some (.inl [(0, 0, 1)]), [], [((82, 11), [(7, 7, 1)])], [])], [(82, 11, 13)], [], 0)
set_option maxRecDepth 100000 in
theorem S_18 : aSpec wd ct_18 := bChk_ok wx_ok btX5_faulty (nds := []) (fk := []) (rk := (1, [])) (sp := 0) (fuel := 3000) (by decide +kernel) lk_n odX5_faulty
def lcn_52 : Nat × aAg := ((nat_lit 0), .inr (.inl [(nat_lit 42)]))
def lcn_53 : Nat × aAg := ((nat_lit 1), .inl [((.negSucc (nat_lit 2147483647)), (.negSucc (nat_lit 2)), (nat_lit 1)), ((.negSucc (nat_lit 0)), (.ofNat (nat_lit 2147483647)), (nat_lit 1))])
def lcn_54 : Nat × aAg := ((nat_lit 2), .inl [((.negSucc (nat_lit 999)), (.ofNat (nat_lit 1000)), (nat_lit 1))])
def lcn_55 : Nat × aAg := ((nat_lit 3), .inl [((.ofNat (nat_lit 0)), (.ofNat (nat_lit 6)), (nat_lit 1))])
def sl_56 : (Nat × Nat) × aI := (((nat_lit 42), (nat_lit 4)), [((.ofNat (nat_lit 0)), (.ofNat (nat_lit 6)), (nat_lit 1))])
set_option maxRecDepth 100000 in
theorem btX4_hasSong : bTab oX4_hasSong tX4_hasSong := ⟨ofX4_hasSong, by decide +kernel⟩
def ct_19 : aCt := (mX4_hasSong, [.inr (.inl [42]), .inl [(-2147483648, -3, 1), (-1, 2147483647, 1)], .inl [(-1000, 1000, 1)]], ([((42, 4), [(0, 6, 1)])], []), [(some (.inl [(0, 0, 1)]), [], [], []), (some (.inl [(1, 1, 1)]), [], [((42, 4), [(1, 6, 1)])], [])], [], [], 0)
set_option maxRecDepth 100000 in
theorem S_19 : aSpec wd ct_19 := bChk_ok wx_ok btX4_hasSong (nds := [((nat_lit 2), [lcn_52, lcn_53, lcn_54, lcn_55], [], [sl_56], [], (6, [(2, -1)]))]) (fk := []) (rk := (7, [])) (sp := 4) (fuel := 3000) (by decide +kernel) lk_n odX4_hasSong
set_option maxRecDepth 100000 in
theorem btX5_readIsland : bTab oX5_readIsland tX5_readIsland := ⟨ofX5_readIsland, by decide +kernel⟩
def ct_20 : aCt := (mX5_readIsland, [.inr (.inl [82])], ([((42, 4), [(0, 6, 1)]), ((82, 11), [(0, 0, 1)])], [((82, 6), 42)]), [(some (.inl [(0, 0, 1)]), [], [((42, 4), [(0, 6, 1)]), ((82, 11), [(1, 1, 1), (3, 3, 1), (7, 7, 1)])], []), (some (.inl [(1, 1, 1)]), [], [((42, 4), [(1, 7, 1)]), ((82, 10), [(1, 20, 1)]), ((82, 11), [(0, 0, 1)])], [])], [(42, 4, 5), (43, 0, 7), (44, 0, 7), (82, 2, 5), (82, 10, 13), (84, 0, 20), (85, 0, 20)], [], 3)
set_option maxRecDepth 100000 in
theorem S_20 : aSpec wd ct_20 := bChk_ok wx_ok btX5_readIsland (nds := []) (fk := []) (rk := (1, [])) (sp := 0) (fuel := 3000) (by decide +kernel) (lk_c ml_5_161 S_17 (lk_c ml_5_70 S_10 (lk_c ml_5_76 S_12 (lk_c ml_5_76 S_18 (lk_c ml_5_76 S_15 (lk_c ml_5_158 S_16 (lk_c ml_5_164 S_19 lk_n))))))) odX5_readIsland
def ct_21 : aCt := (mX5_faulty, [.inr (.inl [82]), .inl [(5, 5, 1)]], ([((82, 11), [(0, 0, 1)])], []), [(some (.inl [(0, 0, 1)]), [], [((82, 11), [(5, 5, 1)])], [])], [(82, 11, 13)], [], 0)
set_option maxRecDepth 100000 in
theorem S_21 : aSpec wd ct_21 := bChk_ok wx_ok btX5_faulty (nds := []) (fk := []) (rk := (1, [])) (sp := 0) (fuel := 3000) (by decide +kernel) lk_n odX5_faulty
def ct_22 : aCt := (mX5_faulty, [.inr (.inl [82]), .inl [(6, 6, 1)]], ([((82, 11), [(0, 0, 1)])], []), [(some (.inl [(0, 0, 1)]), [], [((82, 11), [(6, 6, 1)])], [])], [(82, 11, 13)], [], 0)
set_option maxRecDepth 100000 in
theorem S_22 : aSpec wd ct_22 := bChk_ok wx_ok btX5_faulty (nds := []) (fk := []) (rk := (1, [])) (sp := 0) (fuel := 3000) (by decide +kernel) lk_n odX5_faulty
set_option maxRecDepth 100000 in
theorem btX5_word : bTab oX5_word tX5_word := ⟨ofX5_word, by decide +kernel⟩
def ct_23 : aCt := (mX5_word, [.inr (.inl [82]), .inr (.inl [1000010, 1000011, 1000012, 1000013, 1000014, 1000015, 1000016, 1000017, 1000018, 1000019, 1000020, 1000021, 1000022, 1000023, 1000024, 1000025, 1000026, 1000027, 1000028, 1000029, 1000030, 1000031, 1000032])], ([((82, 11), [(0, 0, 1)])], []), [(some (.inl [(0, 0, 1)]), [], [((82, 11), [(1, 1, 1)])], []), (some (.inl [(1, 1, 1)]), [], [((82, 11), [(0, 0, 1)])], [])], [(82, 2, 5), (82, 11, 13)], [], 2)
set_option maxRecDepth 100000 in
theorem S_23 : aSpec wd ct_23 := bChk_ok wx_ok btX5_word (nds := []) (fk := []) (rk := (1, [])) (sp := 0) (fuel := 3000) (by decide +kernel) (lk_c ml_5_70 S_10 (lk_c ml_5_76 S_12 (lk_c ml_5_245 S_X5_isToken_0 lk_n))) odX5_word
def ct_24 : aCt := (mX5_faulty, [.inr (.inl [82]), .inl [(4, 4, 1)]], ([((82, 11), [(0, 0, 1)])], []), [(some (.inl [(0, 0, 1)]), [], [((82, 11), [(4, 4, 1)])], [])], [(82, 11, 13)], [], 0)
set_option maxRecDepth 100000 in
theorem S_24 : aSpec wd ct_24 := bChk_ok wx_ok btX5_faulty (nds := []) (fk := []) (rk := (1, [])) (sp := 0) (fuel := 3000) (by decide +kernel) lk_n odX5_faulty
def lcn_57 : Nat × aAg := ((nat_lit 1), .inl [((.ofNat (nat_lit 2)), (.ofNat (nat_lit 2)), (nat_lit 1))])
def lcn_58 : Nat × aAg := ((nat_lit 2), .inl [((.ofNat (nat_lit 4)), (.ofNat (nat_lit 4)), (nat_lit 1))])
def sl_59 : (Nat × Nat) × aI := (((nat_lit 82), (nat_lit 3)), [((.ofNat (nat_lit 2)), (.ofNat (nat_lit 2)), (nat_lit 1))])
def sl_60 : (Nat × Nat) × aI := (((nat_lit 82), (nat_lit 11)), [((.ofNat (nat_lit 0)), (.ofNat (nat_lit 0)), (nat_lit 1))])
set_option maxRecDepth 100000 in
theorem btX5_whole : bTab oX5_whole tX5_whole := ⟨ofX5_whole, by decide +kernel⟩
def ct_25 : aCt := (mX5_whole, [.inr (.inl [82]), .inl [(2, 2, 1)], .inl [(4, 4, 1)]], ([((82, 11), [(0, 0, 1)])], []), [(some (.inl [(0, 0, 1)]), [], [((82, 11), [(1, 1, 1), (4, 4, 1)])], []), (some (.inl [(1, 1, 1)]), [], [((82, 5), [(2, 4, 1)]), ((82, 11), [(0, 0, 1)])], [])], [(82, 2, 6), (82, 11, 13)], [], 2)
set_option maxRecDepth 100000 in
theorem S_25 : aSpec wd ct_25 := bChk_ok wx_ok btX5_whole (nds := [((nat_lit 28), [lcn_0, lcn_57, lcn_58, lcn_8], [], [sl_59, sl_60], [], (1000, [(0, -1)]))]) (fk := []) (rk := (1001, [])) (sp := 268435456) (fuel := 3000) (by decide +kernel) (lk_c ml_5_70 S_10 (lk_c ml_5_76 S_12 (lk_c ml_5_76 S_24 lk_n))) odX5_whole
def lcn_61 : Nat × aAg := ((nat_lit 1), .inl [((.ofNat (nat_lit 0)), (.ofNat (nat_lit 0)), (nat_lit 1))])
def lcn_62 : Nat × aAg := ((nat_lit 2), .inl [((.ofNat (nat_lit 3)), (.ofNat (nat_lit 3)), (nat_lit 1))])
def ct_26 : aCt := (mX5_whole, [.inr (.inl [82]), .inl [(0, 0, 1)], .inl [(3, 3, 1)]], ([((82, 5), [(2, 4, 1)]), ((82, 11), [(0, 0, 1)])], []), [(some (.inl [(0, 0, 1)]), [], [((82, 5), [(-2147483648, -1, 1), (2, 2147483647, 1)]), ((82, 11), [(1, 1, 1), (4, 4, 1)])], []), (some (.inl [(1, 1, 1)]), [], [((82, 5), [(0, 3, 1)]), ((82, 11), [(0, 0, 1)])], [])], [(82, 2, 6), (82, 11, 13)], [], 2)
set_option maxRecDepth 100000 in
theorem S_26 : aSpec wd ct_26 := bChk_ok wx_ok btX5_whole (nds := [((nat_lit 28), [lcn_0, lcn_61, lcn_62, lcn_8], [], [sl_59, sl_60], [], (1000, [(0, -1)]))]) (fk := []) (rk := (1001, [])) (sp := 268435456) (fuel := 3000) (by decide +kernel) (lk_c ml_5_70 S_10 (lk_c ml_5_76 S_12 (lk_c ml_5_76 S_24 lk_n))) odX5_whole
def lcn_63 : Nat × aAg := ((nat_lit 2), .inl [((.ofNat (nat_lit 50)), (.ofNat (nat_lit 50)), (nat_lit 1))])
def ct_27 : aCt := (mX5_whole, [.inr (.inl [82]), .inl [(0, 0, 1)], .inl [(50, 50, 1)]], ([((82, 5), [(0, 3, 1)]), ((82, 11), [(0, 0, 1)])], []), [(some (.inl [(0, 0, 1)]), [], [((82, 5), [(-2147483648, 3, 1), (51, 2147483647, 1)]), ((82, 11), [(1, 1, 1), (4, 4, 1)])], []), (some (.inl [(1, 1, 1)]), [], [((82, 5), [(0, 50, 1)]), ((82, 11), [(0, 0, 1)])], [])], [(82, 2, 6), (82, 11, 13)], [], 2)
set_option maxRecDepth 100000 in
theorem S_27 : aSpec wd ct_27 := bChk_ok wx_ok btX5_whole (nds := [((nat_lit 28), [lcn_0, lcn_61, lcn_63, lcn_8], [], [sl_59, sl_60], [], (1000, [(0, -1)]))]) (fk := []) (rk := (1001, [])) (sp := 268435456) (fuel := 3000) (by decide +kernel) (lk_c ml_5_70 S_10 (lk_c ml_5_76 S_12 (lk_c ml_5_76 S_24 lk_n))) odX5_whole
def lcn_64 : Nat × aAg := ((nat_lit 2), .inl [((.ofNat (nat_lit 100)), (.ofNat (nat_lit 100)), (nat_lit 1))])
def ct_28 : aCt := (mX5_whole, [.inr (.inl [82]), .inl [(0, 0, 1)], .inl [(100, 100, 1)]], ([((82, 5), [(0, 50, 1)]), ((82, 11), [(0, 0, 1)])], []), [(some (.inl [(0, 0, 1)]), [], [((82, 5), [(-2147483648, 50, 1), (101, 2147483647, 1)]), ((82, 11), [(1, 1, 1), (4, 4, 1)])], []), (some (.inl [(1, 1, 1)]), [], [((82, 5), [(0, 100, 1)]), ((82, 11), [(0, 0, 1)])], [])], [(82, 2, 6), (82, 11, 13)], [], 2)
set_option maxRecDepth 100000 in
theorem S_28 : aSpec wd ct_28 := bChk_ok wx_ok btX5_whole (nds := [((nat_lit 28), [lcn_0, lcn_61, lcn_64, lcn_8], [], [sl_59, sl_60], [], (1000, [(0, -1)]))]) (fk := []) (rk := (1001, [])) (sp := 268435456) (fuel := 3000) (by decide +kernel) (lk_c ml_5_70 S_10 (lk_c ml_5_76 S_12 (lk_c ml_5_76 S_24 lk_n))) odX5_whole
set_option maxRecDepth 100000 in
theorem btX5_readHead : bTab oX5_readHead tX5_readHead := ⟨ofX5_readHead, by decide +kernel⟩
def ct_29 : aCt := (mX5_readHead, [.inr (.inl [82])], ([((82, 11), [(0, 0, 1)])], [((82, 6), 42)]), [(some (.inl [(0, 0, 1)]), [], [((82, 11), [(1, 1, 1), (4, 4, 1)])], []), (some (.inl [(1, 1, 1)]), [], [((82, 5), [(0, 100, 1)]), ((82, 11), [(0, 0, 1)])], [])], [(42, 0, 4), (82, 2, 6), (82, 11, 13)], [], 3)
set_option maxRecDepth 100000 in
theorem S_29 : aSpec wd ct_29 := bChk_ok wx_ok btX5_readHead (nds := []) (fk := []) (rk := (1, [])) (sp := 0) (fuel := 3000) (by decide +kernel) (lk_c ml_5_142 S_26 (lk_c ml_5_142 S_27 (lk_c ml_5_142 S_28 (lk_c ml_5_142 S_25 (lk_c ml_5_138 S_23 lk_n))))) odX5_readHead
def ct_30 : aCt := (mX5_newName, [.inr (.inl [82]), .inl [(4, 4, 1)], .inl [(0, 7, 1)]], ([((82, 11), [(0, 0, 1)])], []), [(some (.inl [(0, 0, 1)]), [], [((82, 11), [(1, 1, 1), (3, 3, 1)])], []), (some (.inl [(1, 1, 1)]), [], [((82, 10), [(1, 20, 1)]), ((82, 11), [(0, 0, 1)])], [])], [(82, 2, 5), (82, 10, 13), (84, 0, 20), (85, 0, 20)], [], 2)
set_option maxRecDepth 100000 in
theorem S_30 : aSpec wd ct_30 := bChk_ok wx_ok btX5_newName (nds := []) (fk := [40]) (rk := (1, [])) (sp := 0) (fuel := 3000) (by decide +kernel) (lk_c ml_5_70 S_10 (lk_c ml_5_80 S_11 (lk_c ml_5_248 S_14 (lk_c ml_5_251 S_13 (lk_c ml_5_76 S_12 (lk_c ml_5_76 S_15 lk_n)))))) odX5_newName
def ct_31 : aCt := (mX5_nameOfToken, [.inr (.inl [82])], ([((82, 10), [(1, 20, 1)])], []), [(some (.inl [(-2, -2, 1)]), [], [], []), (some (.inl [(0, 0, 1)]), [], [], []), (some (.inl [(1, 1, 1)]), [], [((82, 10), [(2, 20, 1)])], []), (some (.inl [(10, 10, 1)]), [], [((82, 10), [(11, 20, 1)])], []), (some (.inl [(11, 11, 1)]), [], [((82, 10), [(12, 20, 1)])], []), (some (.inl [(12, 12, 1)]), [], [((82, 10), [(13, 20, 1)])], []), (some (.inl [(13, 13, 1)]), [], [((82, 10), [(14, 20, 1)])], []), (some (.inl [(14, 14, 1)]), [], [((82, 10), [(15, 20, 1)])], []), (some (.inl [(15, 15, 1)]), [], [((82, 10), [(16, 20, 1)])], []), (some (.inl [(16, 16, 1)]), [], [((82, 10), [(17, 20, 1)])], []), (some (.inl [(17, 17, 1)]), [], [((82, 10), [(18, 20, 1)])], []), (some (.inl [(18, 18, 1)]), [], [((82, 10), [(19, 20, 1)])], []), (some (.inl [(19, 19, 1)]), [], [((82, 10), [(20, 20, 1)])], []), (some (.inl [(2, 2, 1)]), [], [((82, 10), [(3, 20, 1)])], []), (some (.inl [(3, 3, 1)]), [], [((82, 10), [(4, 20, 1)])], []), (some (.inl [(4, 4, 1)]), [], [((82, 10), [(5, 20, 1)])], []), (some (.inl [(5, 5, 1)]), [], [((82, 10), [(6, 20, 1)])], []), (some (.inl [(6, 6, 1)]), [], [((82, 10), [(7, 20, 1)])], []), (some (.inl [(7, 7, 1)]), [], [((82, 10), [(8, 20, 1)])], []), (some (.inl [(8, 8, 1)]), [], [((82, 10), [(9, 20, 1)])], []), (some (.inl [(9, 9, 1)]), [], [((82, 10), [(10, 20, 1)])], [])], [], [], 1)
set_option maxRecDepth 100000 in
theorem S_31 : aSpec wd ct_31 := bChk_ok wx_ok btX5_nameOfToken (nds := [((nat_lit 7), [lcn_0, lcn_7, lcn_9], [], [sl_11], [], (20, [])), ((nat_lit 7), [lcn_0, lcn_7, lcn_10], [], [sl_11], [], (19, [])), ((nat_lit 7), [lcn_0, lcn_7, lcn_12], [], [sl_13], [], (18, [])), ((nat_lit 7), [lcn_0, lcn_7, lcn_14], [], [sl_15], [], (17, [])), ((nat_lit 7), [lcn_0, lcn_7, lcn_16], [], [sl_17], [], (16, [])), ((nat_lit 7), [lcn_0, lcn_7, lcn_18], [], [sl_19], [], (15, [])), ((nat_lit 7), [lcn_0, lcn_7, lcn_20], [], [sl_21], [], (14, [])), ((nat_lit 7), [lcn_0, lcn_7, lcn_22], [], [sl_23], [], (13, [])), ((nat_lit 7), [lcn_0, lcn_7, lcn_24], [], [sl_25], [], (12, [])), ((nat_lit 7), [lcn_0, lcn_7, lcn_26], [], [sl_27], [], (11, [])), ((nat_lit 7), [lcn_0, lcn_7, lcn_28], [], [sl_29], [], (10, [])), ((nat_lit 7), [lcn_0, lcn_7, lcn_30], [], [sl_31], [], (9, [])), ((nat_lit 7), [lcn_0, lcn_7, lcn_32], [], [sl_33], [], (8, [])), ((nat_lit 7), [lcn_0, lcn_7, lcn_34], [], [sl_35], [], (7, [])), ((nat_lit 7), [lcn_0, lcn_7, lcn_36], [], [sl_37], [], (6, [])), ((nat_lit 7), [lcn_0, lcn_7, lcn_38], [], [sl_39], [], (5, [])), ((nat_lit 7), [lcn_0, lcn_7, lcn_40], [], [sl_41], [], (4, [])), ((nat_lit 7), [lcn_0, lcn_7, lcn_42], [], [sl_43], [], (3, [])), ((nat_lit 7), [lcn_0, lcn_7, lcn_44], [], [sl_45], [], (2, [])), ((nat_lit 7), [lcn_0, lcn_7, lcn_46], [], [sl_47], [], (1, [])), ((nat_lit 7), [lcn_0, lcn_7, lcn_48], [], [sl_49], [], (0, []))]) (fk := []) (rk := (21, [])) (sp := 128) (fuel := 3000) (by decide +kernel) (lk_c ml_5_251 S_13 lk_n) odX5_nameOfToken
def ct_32 : aCt := (mX5_faulty, [.inr (.inl [82]), .inl [(2, 2, 1)]], ([((82, 11), [(0, 0, 1)])], []), [(some (.inl [(0, 0, 1)]), [], [((82, 11), [(2, 2, 1)])], [])], [(82, 11, 13)], [], 0)
set_option maxRecDepth 100000 in
theorem S_32 : aSpec wd ct_32 := bChk_ok wx_ok btX5_faulty (nds := []) (fk := []) (rk := (1, [])) (sp := 0) (fuel := 3000) (by decide +kernel) lk_n odX5_faulty
set_option maxRecDepth 100000 in
theorem btX5_toldName : bTab oX5_toldName tX5_toldName := ⟨ofX5_toldName, by decide +kernel⟩
def ct_33 : aCt := (mX5_toldName, [.inr (.inl [82]), .inl [(1, 1, 1)]], ([((82, 10), [(1, 20, 1)]), ((82, 11), [(0, 0, 1)])], []), [(some (.inl [(0, 0, 1)]), [], [((82, 11), [(1, 2, 1)])], []), (some (.inl [(1, 1, 1)]), [], [((82, 5), [(0, 6, 1)]), ((82, 11), [(0, 0, 1)])], [])], [(82, 2, 6), (82, 11, 13)], [], 2)
set_option maxRecDepth 100000 in
theorem S_33 : aSpec wd ct_33 := bChk_ok wx_ok btX5_toldName (nds := []) (fk := []) (rk := (1, [])) (sp := 0) (fuel := 3000) (by decide +kernel) (lk_c ml_5_248 S_31 (lk_c ml_5_70 S_10 (lk_c ml_5_80 S_11 (lk_c ml_5_76 S_12 (lk_c ml_5_76 S_32 lk_n))))) odX5_toldName
def ct_34 : aCt := (mX5_toldName, [.inr (.inl [82]), .inl [(1, 1, 1)]], ([((82, 5), [(0, 6, 1)]), ((82, 10), [(1, 20, 1)]), ((82, 11), [(0, 0, 1)])], []), [(some (.inl [(0, 0, 1)]), [], [((82, 5), [(0, 6, 1)]), ((82, 11), [(1, 2, 1)])], []), (some (.inl [(1, 1, 1)]), [], [((82, 5), [(0, 6, 1)]), ((82, 11), [(0, 0, 1)])], [])], [(82, 2, 6), (82, 11, 13)], [], 2)
set_option maxRecDepth 100000 in
theorem S_34 : aSpec wd ct_34 := bChk_ok wx_ok btX5_toldName (nds := []) (fk := []) (rk := (1, [])) (sp := 0) (fuel := 3000) (by decide +kernel) (lk_c ml_5_248 S_31 (lk_c ml_5_70 S_10 (lk_c ml_5_80 S_11 (lk_c ml_5_76 S_12 (lk_c ml_5_76 S_32 lk_n))))) odX5_toldName
def lcn_65 : Nat × aAg := ((nat_lit 1), .inl [((.ofNat (nat_lit 1)), (.ofNat (nat_lit 1)), (nat_lit 1))])
def lcn_66 : Nat × aAg := ((nat_lit 2), .inl [((.ofNat (nat_lit 99)), (.ofNat (nat_lit 99)), (nat_lit 1))])
def ct_35 : aCt := (mX5_whole, [.inr (.inl [82]), .inl [(1, 1, 1)], .inl [(99, 99, 1)]], ([((82, 5), [(0, 6, 1)]), ((82, 11), [(0, 0, 1)])], []), [(some (.inl [(0, 0, 1)]), [], [((82, 5), [(-2147483648, 6, 1), (100, 2147483647, 1)]), ((82, 11), [(1, 1, 1), (4, 4, 1)])], []), (some (.inl [(1, 1, 1)]), [], [((82, 5), [(1, 99, 1)]), ((82, 11), [(0, 0, 1)])], [])], [(82, 2, 6), (82, 11, 13)], [], 2)
set_option maxRecDepth 100000 in
theorem S_35 : aSpec wd ct_35 := bChk_ok wx_ok btX5_whole (nds := [((nat_lit 28), [lcn_0, lcn_65, lcn_66, lcn_8], [], [sl_59, sl_60], [], (1000, [(0, -1)]))]) (fk := []) (rk := (1001, [])) (sp := 268435456) (fuel := 3000) (by decide +kernel) (lk_c ml_5_70 S_10 (lk_c ml_5_76 S_12 (lk_c ml_5_76 S_24 lk_n))) odX5_whole
def lcn_67 : Nat × aAg := ((nat_lit 2), .inl [((.ofNat (nat_lit 9999)), (.ofNat (nat_lit 9999)), (nat_lit 1))])
def ct_36 : aCt := (mX5_whole, [.inr (.inl [82]), .inl [(0, 0, 1)], .inl [(9999, 9999, 1)]], ([((82, 5), [(1, 99, 1)]), ((82, 11), [(0, 0, 1)])], []), [(some (.inl [(0, 0, 1)]), [], [((82, 5), [(-2147483648, -1, 1), (1, 99, 1), (10000, 2147483647, 1)]), ((82, 11), [(1, 1, 1), (4, 4, 1)])], []), (some (.inl [(1, 1, 1)]), [], [((82, 5), [(0, 9999, 1)]), ((82, 11), [(0, 0, 1)])], [])], [(82, 2, 6), (82, 11, 13)], [], 2)
set_option maxRecDepth 100000 in
theorem S_36 : aSpec wd ct_36 := bChk_ok wx_ok btX5_whole (nds := [((nat_lit 28), [lcn_0, lcn_61, lcn_67, lcn_8], [], [sl_59, sl_60], [], (1000, [(0, -1)]))]) (fk := []) (rk := (1001, [])) (sp := 268435456) (fuel := 3000) (by decide +kernel) (lk_c ml_5_70 S_10 (lk_c ml_5_76 S_12 (lk_c ml_5_76 S_24 lk_n))) odX5_whole
set_option maxRecDepth 100000 in
theorem btX5_readBox : bTab oX5_readBox tX5_readBox := ⟨ofX5_readBox, by decide +kernel⟩
def ct_37 : aCt := (mX5_readBox, [.inr (.inl [82]), .inr (.inl [66, 67, 68, 69, 70, 71, 72, 73])], ([((42, 7), [(0, 7, 1)]), ((82, 11), [(0, 0, 1)])], [((82, 6), 42)]), [(some (.inl [(0, 0, 1)]), [], [((42, 7), [(0, 7, 1)]), ((82, 11), [(1, 4, 1)])], []), (some (.inl [(1, 1, 1)]), [], [((42, 7), [(1, 8, 1)]), ((82, 5), [(0, 9999, 1)]), ((82, 10), [(1, 20, 1)]), ((82, 11), [(0, 0, 1)])], [])], [(42, 7, 8), (66, 0, 4), (67, 0, 4), (68, 0, 4), (69, 0, 4), (70, 0, 4), (71, 0, 4), (72, 0, 4), (73, 0, 4), (82, 2, 6), (82, 10, 13), (84, 0, 20), (85, 0, 20)], [], 3)
set_option maxRecDepth 100000 in
theorem S_37 : aSpec wd ct_37 := bChk_ok wx_ok btX5_readBox (nds := []) (fk := []) (rk := (1, [])) (sp := 0) (fuel := 3000) (by decide +kernel) (lk_c ml_5_173 S_34 (lk_c ml_5_173 S_33 (lk_c ml_5_142 S_35 (lk_c ml_5_142 S_36 (lk_c ml_5_158 S_30 (lk_c ml_5_138 S_23 lk_n)))))) odX5_readBox
def ct_38 : aCt := (mX5_newName, [.inr (.inl [82]), .inl [(3, 3, 1)], .inl [(4, 4, 1)]], ([((82, 11), [(0, 0, 1)])], []), [(some (.inl [(0, 0, 1)]), [], [((82, 11), [(1, 1, 1), (3, 3, 1)])], []), (some (.inl [(1, 1, 1)]), [], [((82, 10), [(1, 20, 1)]), ((82, 11), [(0, 0, 1)])], [])], [(82, 2, 5), (82, 10, 13), (84, 0, 20), (85, 0, 20)], [], 2)
set_option maxRecDepth 100000 in
theorem S_38 : aSpec wd ct_38 := bChk_ok wx_ok btX5_newName (nds := []) (fk := [40]) (rk := (1, [])) (sp := 0) (fuel := 3000) (by decide +kernel) (lk_c ml_5_70 S_10 (lk_c ml_5_80 S_11 (lk_c ml_5_248 S_14 (lk_c ml_5_251 S_13 (lk_c ml_5_76 S_12 (lk_c ml_5_76 S_15 lk_n)))))) odX5_newName
end Pk0
section Pk1
set_option maxRecDepth 100000 in
theorem btX5_kindOfToken : bTab oX5_kindOfToken tX5_kindOfToken := ⟨ofX5_kindOfToken, by decide +kernel⟩
def ct_39 : aCt := (mX5_kindOfToken, [.inr (.inl [82])], ([], []), [(some (.inl [(2, 3, 1)]), [], [], []), (some (.inl [(-2, -2, 1)]), [], [], []), (some (.inl [(0, 0, 1)]), [], [], []), (some (.inl [(1, 1, 1)]), [], [], [])], [], [], 1)
set_option maxRecDepth 100000 in
theorem S_39 : aSpec wd ct_39 := bChk_ok wx_ok btX5_kindOfToken (nds := []) (fk := []) (rk := (1, [])) (sp := 0) (fuel := 3000) (by decide +kernel) (lk_c ml_5_245 S_X5_isToken_0 lk_n) odX5_kindOfToken
def ct_40 : aCt := (mX5_whole, [.inr (.inl [82]), .inl [(0, 0, 1)], .inl [(99, 99, 1)]], ([((82, 5), [(0, 6, 1)]), ((82, 11), [(0, 0, 1)])], []), [(some (.inl [(0, 0, 1)]), [], [((82, 5), [(-2147483648, 6, 1), (100, 2147483647, 1)]), ((82, 11), [(1, 1, 1), (4, 4, 1)])], []), (some (.inl [(1, 1, 1)]), [], [((82, 5), [(0, 99, 1)]), ((82, 11), [(0, 0, 1)])], [])], [(82, 2, 6), (82, 11, 13)], [], 2)
set_option maxRecDepth 100000 in
theorem S_40 : aSpec wd ct_40 := bChk_ok wx_ok btX5_whole (nds := [((nat_lit 28), [lcn_0, lcn_61, lcn_66, lcn_8], [], [sl_59, sl_60], [], (1000, [(0, -1)]))]) (fk := []) (rk := (1001, [])) (sp := 268435456) (fuel := 3000) (by decide +kernel) (lk_c ml_5_70 S_10 (lk_c ml_5_76 S_12 (lk_c ml_5_76 S_24 lk_n))) odX5_whole
def ct_41 : aCt := (mX5_whole, [.inr (.inl [82]), .inl [(0, 0, 1)], .inl [(99, 99, 1)]], ([((82, 5), [(0, 99, 1)]), ((82, 11), [(0, 0, 1)])], []), [(some (.inl [(0, 0, 1)]), [], [((82, 11), [(1, 1, 1), (4, 4, 1)])], []), (some (.inl [(1, 1, 1)]), [], [((82, 5), [(0, 99, 1)]), ((82, 11), [(0, 0, 1)])], [])], [(82, 2, 6), (82, 11, 13)], [], 2)
set_option maxRecDepth 100000 in
theorem S_41 : aSpec wd ct_41 := bChk_ok wx_ok btX5_whole (nds := [((nat_lit 28), [lcn_0, lcn_61, lcn_66, lcn_8], [], [sl_59, sl_60], [], (1000, [(0, -1)]))]) (fk := []) (rk := (1001, [])) (sp := 268435456) (fuel := 3000) (by decide +kernel) (lk_c ml_5_70 S_10 (lk_c ml_5_76 S_12 (lk_c ml_5_76 S_24 lk_n))) odX5_whole
set_option maxRecDepth 100000 in
theorem btX5_readWhale : bTab oX5_readWhale tX5_readWhale := ⟨ofX5_readWhale, by decide +kernel⟩
def ct_42 : aCt := (mX5_readWhale, [.inr (.inl [82]), .inr (.inl [65])], ([((42, 6), [(4, 4, 1)]), ((82, 11), [(0, 0, 1)])], [((82, 6), 42)]), [(some (.inl [(0, 0, 1)]), [], [((42, 6), [(4, 4, 1)]), ((82, 11), [(1, 4, 1)])], []), (some (.inl [(1, 1, 1)]), [], [((42, 6), [(5, 5, 1)]), ((82, 5), [(0, 99, 1)]), ((82, 10), [(1, 20, 1)]), ((82, 11), [(0, 0, 1)])], [])], [(42, 6, 7), (65, 0, 4), (82, 2, 6), (82, 10, 13), (84, 0, 20), (85, 0, 20)], [], 3)
set_option maxRecDepth 100000 in
theorem S_42 : aSpec wd ct_42 := bChk_ok wx_ok btX5_readWhale (nds := []) (fk := []) (rk := (1, [])) (sp := 0) (fuel := 3000) (by decide +kernel) (lk_c ml_5_70 S_10 (lk_c ml_5_195 S_39 (lk_c ml_5_173 S_33 (lk_c ml_5_76 S_12 (lk_c ml_5_142 S_40 (lk_c ml_5_142 S_41 (lk_c ml_5_158 S_38 (lk_c ml_5_138 S_23 lk_n)))))))) odX5_readWhale
def ct_43 : aCt := (mX5_newName, [.inr (.inl [82]), .inl [(3, 3, 1)], .inl [(3, 3, 1)]], ([((82, 11), [(0, 0, 1)])], []), [(some (.inl [(0, 0, 1)]), [], [((82, 11), [(1, 1, 1), (3, 3, 1)])], []), (some (.inl [(1, 1, 1)]), [], [((82, 10), [(1, 20, 1)]), ((82, 11), [(0, 0, 1)])], [])], [(82, 2, 5), (82, 10, 13), (84, 0, 20), (85, 0, 20)], [], 2)
set_option maxRecDepth 100000 in
theorem S_43 : aSpec wd ct_43 := bChk_ok wx_ok btX5_newName (nds := []) (fk := [40]) (rk := (1, [])) (sp := 0) (fuel := 3000) (by decide +kernel) (lk_c ml_5_70 S_10 (lk_c ml_5_80 S_11 (lk_c ml_5_248 S_14 (lk_c ml_5_251 S_13 (lk_c ml_5_76 S_12 (lk_c ml_5_76 S_15 lk_n)))))) odX5_newName
def ct_44 : aCt := (mX5_readWhale, [.inr (.inl [82]), .inr (.inl [64])], ([((42, 6), [(3, 3, 1)]), ((82, 11), [(0, 0, 1)])], [((82, 6), 42)]), [(some (.inl [(0, 0, 1)]), [], [((42, 6), [(3, 3, 1)]), ((82, 11), [(1, 4, 1)])], []), (some (.inl [(1, 1, 1)]), [], [((42, 6), [(4, 4, 1)]), ((82, 5), [(0, 99, 1)]), ((82, 10), [(1, 20, 1)]), ((82, 11), [(0, 0, 1)])], [])], [(42, 6, 7), (64, 0, 4), (82, 2, 6), (82, 10, 13), (84, 0, 20), (85, 0, 20)], [], 3)
set_option maxRecDepth 100000 in
theorem S_44 : aSpec wd ct_44 := bChk_ok wx_ok btX5_readWhale (nds := []) (fk := []) (rk := (1, [])) (sp := 0) (fuel := 3000) (by decide +kernel) (lk_c ml_5_70 S_10 (lk_c ml_5_195 S_39 (lk_c ml_5_173 S_33 (lk_c ml_5_76 S_12 (lk_c ml_5_142 S_40 (lk_c ml_5_142 S_41 (lk_c ml_5_158 S_43 (lk_c ml_5_138 S_23 lk_n)))))))) odX5_readWhale
def ct_45 : aCt := (mX5_newName, [.inr (.inl [82]), .inl [(3, 3, 1)], .inl [(2, 2, 1)]], ([((82, 11), [(0, 0, 1)])], []), [(some (.inl [(0, 0, 1)]), [], [((82, 11), [(1, 1, 1), (3, 3, 1)])], []), (some (.inl [(1, 1, 1)]), [], [((82, 10), [(1, 20, 1)]), ((82, 11), [(0, 0, 1)])], [])], [(82, 2, 5), (82, 10, 13), (84, 0, 20), (85, 0, 20)], [], 2)
set_option maxRecDepth 100000 in
theorem S_45 : aSpec wd ct_45 := bChk_ok wx_ok btX5_newName (nds := []) (fk := [40]) (rk := (1, [])) (sp := 0) (fuel := 3000) (by decide +kernel) (lk_c ml_5_70 S_10 (lk_c ml_5_80 S_11 (lk_c ml_5_248 S_14 (lk_c ml_5_251 S_13 (lk_c ml_5_76 S_12 (lk_c ml_5_76 S_15 lk_n)))))) odX5_newName
def ct_46 : aCt := (mX5_readWhale, [.inr (.inl [82]), .inr (.inl [63])], ([((42, 6), [(2, 2, 1)]), ((82, 11), [(0, 0, 1)])], [((82, 6), 42)]), [(some (.inl [(0, 0, 1)]), [], [((42, 6), [(2, 2, 1)]), ((82, 11), [(1, 4, 1)])], []), (some (.inl [(1, 1, 1)]), [], [((42, 6), [(3, 3, 1)]), ((82, 5), [(0, 99, 1)]), ((82, 10), [(1, 20, 1)]), ((82, 11), [(0, 0, 1)])], [])], [(42, 6, 7), (63, 0, 4), (82, 2, 6), (82, 10, 13), (84, 0, 20), (85, 0, 20)], [], 3)
set_option maxRecDepth 100000 in
theorem S_46 : aSpec wd ct_46 := bChk_ok wx_ok btX5_readWhale (nds := []) (fk := []) (rk := (1, [])) (sp := 0) (fuel := 3000) (by decide +kernel) (lk_c ml_5_70 S_10 (lk_c ml_5_195 S_39 (lk_c ml_5_173 S_33 (lk_c ml_5_76 S_12 (lk_c ml_5_142 S_40 (lk_c ml_5_142 S_41 (lk_c ml_5_158 S_45 (lk_c ml_5_138 S_23 lk_n)))))))) odX5_readWhale
def ct_47 : aCt := (mX5_newName, [.inr (.inl [82]), .inl [(3, 3, 1)], .inl [(1, 1, 1)]], ([((82, 11), [(0, 0, 1)])], []), [(some (.inl [(0, 0, 1)]), [], [((82, 11), [(1, 1, 1), (3, 3, 1)])], []), (some (.inl [(1, 1, 1)]), [], [((82, 10), [(1, 20, 1)]), ((82, 11), [(0, 0, 1)])], [])], [(82, 2, 5), (82, 10, 13), (84, 0, 20), (85, 0, 20)], [], 2)
set_option maxRecDepth 100000 in
theorem S_47 : aSpec wd ct_47 := bChk_ok wx_ok btX5_newName (nds := []) (fk := [40]) (rk := (1, [])) (sp := 0) (fuel := 3000) (by decide +kernel) (lk_c ml_5_70 S_10 (lk_c ml_5_80 S_11 (lk_c ml_5_248 S_14 (lk_c ml_5_251 S_13 (lk_c ml_5_76 S_12 (lk_c ml_5_76 S_15 lk_n)))))) odX5_newName
def ct_48 : aCt := (mX5_readWhale, [.inr (.inl [82]), .inr (.inl [62])], ([((42, 6), [(1, 1, 1)]), ((82, 11), [(0, 0, 1)])], [((82, 6), 42)]), [(some (.inl [(0, 0, 1)]), [], [((42, 6), [(1, 1, 1)]), ((82, 11), [(1, 4, 1)])], []), (some (.inl [(1, 1, 1)]), [], [((42, 6), [(2, 2, 1)]), ((82, 5), [(0, 99, 1)]), ((82, 10), [(1, 20, 1)]), ((82, 11), [(0, 0, 1)])], [])], [(42, 6, 7), (62, 0, 4), (82, 2, 6), (82, 10, 13), (84, 0, 20), (85, 0, 20)], [], 3)
set_option maxRecDepth 100000 in
theorem S_48 : aSpec wd ct_48 := bChk_ok wx_ok btX5_readWhale (nds := []) (fk := []) (rk := (1, [])) (sp := 0) (fuel := 3000) (by decide +kernel) (lk_c ml_5_70 S_10 (lk_c ml_5_195 S_39 (lk_c ml_5_173 S_33 (lk_c ml_5_76 S_12 (lk_c ml_5_142 S_40 (lk_c ml_5_142 S_41 (lk_c ml_5_158 S_47 (lk_c ml_5_138 S_23 lk_n)))))))) odX5_readWhale
def ct_49 : aCt := (mX5_newName, [.inr (.inl [82]), .inl [(3, 3, 1)], .inl [(0, 0, 1)]], ([((82, 11), [(0, 0, 1)])], []), [(some (.inl [(0, 0, 1)]), [], [((82, 11), [(1, 1, 1), (3, 3, 1)])], []), (some (.inl [(1, 1, 1)]), [], [((82, 10), [(1, 20, 1)]), ((82, 11), [(0, 0, 1)])], [])], [(82, 2, 5), (82, 10, 13), (84, 0, 20), (85, 0, 20)], [], 2)
set_option maxRecDepth 100000 in
theorem S_49 : aSpec wd ct_49 := bChk_ok wx_ok btX5_newName (nds := []) (fk := [40]) (rk := (1, [])) (sp := 0) (fuel := 3000) (by decide +kernel) (lk_c ml_5_70 S_10 (lk_c ml_5_80 S_11 (lk_c ml_5_248 S_14 (lk_c ml_5_251 S_13 (lk_c ml_5_76 S_12 (lk_c ml_5_76 S_15 lk_n)))))) odX5_newName
def ct_50 : aCt := (mX5_readWhale, [.inr (.inl [82]), .inr (.inl [61])], ([((42, 6), [(0, 0, 1)]), ((82, 11), [(0, 0, 1)])], [((82, 6), 42)]), [(some (.inl [(0, 0, 1)]), [], [((42, 6), [(0, 0, 1)]), ((82, 11), [(1, 4, 1)])], []), (some (.inl [(1, 1, 1)]), [], [((42, 6), [(1, 1, 1)]), ((82, 5), [(0, 99, 1)]), ((82, 10), [(1, 20, 1)]), ((82, 11), [(0, 0, 1)])], [])], [(42, 6, 7), (61, 0, 4), (82, 2, 6), (82, 10, 13), (84, 0, 20), (85, 0, 20)], [], 3)
set_option maxRecDepth 100000 in
theorem S_50 : aSpec wd ct_50 := bChk_ok wx_ok btX5_readWhale (nds := []) (fk := []) (rk := (1, [])) (sp := 0) (fuel := 3000) (by decide +kernel) (lk_c ml_5_70 S_10 (lk_c ml_5_195 S_39 (lk_c ml_5_173 S_33 (lk_c ml_5_76 S_12 (lk_c ml_5_142 S_40 (lk_c ml_5_142 S_41 (lk_c ml_5_158 S_49 (lk_c ml_5_138 S_23 lk_n)))))))) odX5_readWhale
def ct_51 : aCt := (mX5_toldName, [.inr (.inl [82]), .inl [(1, 1, 1)]], ([((82, 11), [(0, 0, 1)])], []), [(some (.inl [(0, 0, 1)]), [], [((82, 11), [(1, 2, 1)])], []), (some (.inl [(1, 1, 1)]), [], [((82, 5), [(0, 6, 1)]), ((82, 10), [(1, 20, 1)]), ((82, 11), [(0, 0, 1)])], [])], [(82, 2, 6), (82, 11, 13)], [], 2)
set_option maxRecDepth 100000 in
theorem S_51 : aSpec wd ct_51 := bChk_ok wx_ok btX5_toldName (nds := []) (fk := []) (rk := (1, [])) (sp := 0) (fuel := 3000) (by decide +kernel) (lk_c ml_5_70 S_10 (lk_c ml_5_80 S_11 (lk_c ml_5_248 S_14 (lk_c ml_5_76 S_12 (lk_c ml_5_76 S_32 lk_n))))) odX5_toldName
def lcn_68 : Nat × aAg := ((nat_lit 1), .inl [((.ofNat (nat_lit 0)), (.ofNat (nat_lit 6)), (nat_lit 1))])
def lcn_69 : Nat × aAg := ((nat_lit 2), .inl [((.ofNat (nat_lit 0)), (.ofNat (nat_lit 6)), (nat_lit 1))])
def lcn_70 : Nat × aAg := ((nat_lit 3), .inl [((.ofNat (nat_lit 0)), (.ofNat (nat_lit 11)), (nat_lit 1))])
def sl_71 : (Nat × Nat) × aI := (((nat_lit 42), (nat_lit 5)), [((.ofNat (nat_lit 0)), (.ofNat (nat_lit 11)), (nat_lit 1))])
set_option maxRecDepth 100000 in
theorem btX4_wayBetween : bTab oX4_wayBetween tX4_wayBetween := ⟨ofX4_wayBetween, by decide +kernel⟩
def ct_52 : aCt := (mX4_wayBetween, [.inr (.inl [42]), .inl [(0, 6, 1)], .inl [(0, 6, 1)]], ([((42, 5), [(0, 11, 1)])], []), [(some (.inl [(0, 10, 1)]), [], [((42, 5), [(1, 11, 1)])], []), (some (.inl [(-2, -2, 1)]), [], [], [])], [], [], 0)
set_option maxRecDepth 100000 in
theorem S_52 : aSpec wd ct_52 := bChk_ok wx_ok btX4_wayBetween (nds := [((nat_lit 2), [lcn_52, lcn_68, lcn_69, lcn_70], [], [sl_71], [], (11, [(2, -1)]))]) (fk := []) (rk := (12, [])) (sp := 4) (fuel := 3000) (by decide +kernel) lk_n odX4_wayBetween
def lcn_72 : Nat × aAg := ((nat_lit 2), .inl [((.ofNat (nat_lit 15)), (.ofNat (nat_lit 15)), (nat_lit 1))])
def ct_53 : aCt := (mX5_whole, [.inr (.inl [82]), .inl [(1, 1, 1)], .inl [(15, 15, 1)]], ([((82, 5), [(1, 99, 1)]), ((82, 11), [(0, 0, 1)])], []), [(some (.inl [(0, 0, 1)]), [], [((82, 11), [(1, 1, 1), (4, 4, 1)])], []), (some (.inl [(1, 1, 1)]), [], [((82, 5), [(1, 15, 1)]), ((82, 11), [(0, 0, 1)])], [])], [(82, 2, 6), (82, 11, 13)], [], 2)
set_option maxRecDepth 100000 in
theorem S_53 : aSpec wd ct_53 := bChk_ok wx_ok btX5_whole (nds := [((nat_lit 28), [lcn_0, lcn_65, lcn_72, lcn_8], [], [sl_59, sl_60], [], (1000, [(0, -1)]))]) (fk := []) (rk := (1001, [])) (sp := 268435456) (fuel := 3000) (by decide +kernel) (lk_c ml_5_70 S_10 (lk_c ml_5_76 S_12 (lk_c ml_5_76 S_24 lk_n))) odX5_whole
set_option maxRecDepth 100000 in
theorem btX5_readWay : bTab oX5_readWay tX5_readWay := ⟨ofX5_readWay, by decide +kernel⟩
def ct_54 : aCt := (mX5_readWay, [.inr (.inl [82]), .inr (.inl [49, 50, 51, 52, 53, 54, 55, 56, 57, 58, 59, 60])], ([((42, 5), [(0, 11, 1)]), ((82, 11), [(0, 0, 1)])], [((82, 6), 42)]), [(some (.inl [(0, 0, 1)]), [], [((42, 5), [(0, 11, 1)]), ((82, 11), [(1, 4, 1)])], []), (some (.inl [(1, 1, 1)]), [], [((42, 5), [(1, 12, 1)]), ((82, 5), [(1, 15, 1)]), ((82, 10), [(1, 20, 1)]), ((82, 11), [(0, 0, 1)])], [])], [(42, 5, 6), (49, 0, 4), (50, 0, 4), (51, 0, 4), (52, 0, 4), (53, 0, 4), (54, 0, 4), (55, 0, 4), (56, 0, 4), (57, 0, 4), (58, 0, 4), (59, 0, 4), (60, 0, 4), (82, 2, 6), (82, 11, 13)], [], 3)
set_option maxRecDepth 100000 in
theorem S_54 : aSpec wd ct_54 := bChk_ok wx_ok btX5_readWay (nds := []) (fk := []) (rk := (1, [])) (sp := 0) (fuel := 3000) (by decide +kernel) (lk_c ml_5_173 S_34 (lk_c ml_5_173 S_51 (lk_c ml_5_76 S_15 (lk_c ml_5_142 S_35 (lk_c ml_5_142 S_53 (lk_c ml_5_184 S_52 (lk_c ml_5_138 S_23 lk_n))))))) odX5_readWay
def ct_55 : aCt := (mX5_toldName, [.inr (.inl [82]), .inl [(3, 3, 1)]], ([((82, 11), [(0, 0, 1)])], []), [(some (.inl [(0, 0, 1)]), [], [((82, 11), [(1, 2, 1)])], []), (some (.inl [(1, 1, 1)]), [], [((82, 5), [(0, 4, 1)]), ((82, 10), [(1, 20, 1)]), ((82, 11), [(0, 0, 1)])], [])], [(82, 2, 6), (82, 11, 13)], [], 2)
set_option maxRecDepth 100000 in
theorem S_55 : aSpec wd ct_55 := bChk_ok wx_ok btX5_toldName (nds := []) (fk := []) (rk := (1, [])) (sp := 0) (fuel := 3000) (by decide +kernel) (lk_c ml_5_70 S_10 (lk_c ml_5_80 S_11 (lk_c ml_5_248 S_14 (lk_c ml_5_76 S_12 (lk_c ml_5_76 S_32 lk_n))))) odX5_toldName
def ct_56 : aCt := (mX5_toldName, [.inr (.inl [82]), .inl [(1, 1, 1)]], ([((82, 5), [(0, 4, 1)]), ((82, 10), [(1, 20, 1)]), ((82, 11), [(0, 0, 1)])], []), [(some (.inl [(0, 0, 1)]), [], [((82, 5), [(0, 4, 1)]), ((82, 11), [(1, 2, 1)])], []), (some (.inl [(1, 1, 1)]), [], [((82, 5), [(0, 6, 1)]), ((82, 11), [(0, 0, 1)])], [])], [(82, 2, 6), (82, 11, 13)], [], 2)
set_option maxRecDepth 100000 in
theorem S_56 : aSpec wd ct_56 := bChk_ok wx_ok btX5_toldName (nds := []) (fk := []) (rk := (1, [])) (sp := 0) (fuel := 3000) (by decide +kernel) (lk_c ml_5_248 S_31 (lk_c ml_5_70 S_10 (lk_c ml_5_80 S_11 (lk_c ml_5_76 S_12 (lk_c ml_5_76 S_32 lk_n))))) odX5_toldName
end Pk1
section Pk2
def lcn_73 : Nat × aAg := ((nat_lit 1), .inl [((.ofNat (nat_lit 0)), (.ofNat (nat_lit 4)), (nat_lit 1))])
def lcn_74 : Nat × aAg := ((nat_lit 2), .inl [((.negSucc (nat_lit 0)), (.ofNat (nat_lit 6)), (nat_lit 1))])
def sl_75 : (Nat × Nat) × aI := (((nat_lit 42), (nat_lit 8)), [((.ofNat (nat_lit 0)), (.ofNat (nat_lit 7)), (nat_lit 1))])
set_option maxRecDepth 100000 in
theorem btX4_lastSpoutOf : bTab oX4_lastSpoutOf tX4_lastSpoutOf := ⟨ofX4_lastSpoutOf, by decide +kernel⟩
def ct_57 : aCt := (mX4_lastSpoutOf, [.inr (.inl [42]), .inl [(0, 4, 1)]], ([((42, 8), [(0, 7, 1)])], []), [(some (.inl [(0, 6, 1)]), [], [], []), (some (.inl [(-2, -2, 1)]), [], [], [])], [], [], 0)
set_option maxRecDepth 100000 in
theorem S_57 : aSpec wd ct_57 := bChk_ok wx_ok btX4_lastSpoutOf (nds := [((nat_lit 7), [lcn_52, lcn_73, lcn_74], [], [sl_75], [], (1, [(1, 1)]))]) (fk := []) (rk := (8, [])) (sp := 128) (fuel := 3000) (by decide +kernel) lk_n odX4_lastSpoutOf
def ct_58 : aCt := (mX5_whole, [.inr (.inl [82]), .inl [(0, 0, 1)], .inl [(9999, 9999, 1)]], ([((82, 5), [(0, 6, 1)]), ((82, 11), [(0, 0, 1)])], []), [(some (.inl [(0, 0, 1)]), [], [((82, 5), [(-2147483648, 6, 1), (10000, 2147483647, 1)]), ((82, 11), [(1, 1, 1), (4, 4, 1)])], []), (some (.inl [(1, 1, 1)]), [], [((82, 5), [(0, 9999, 1)]), ((82, 11), [(0, 0, 1)])], [])], [(82, 2, 6), (82, 11, 13)], [], 2)
set_option maxRecDepth 100000 in
theorem S_58 : aSpec wd ct_58 := bChk_ok wx_ok btX5_whole (nds := [((nat_lit 28), [lcn_0, lcn_61, lcn_67, lcn_8], [], [sl_59, sl_60], [], (1000, [(0, -1)]))]) (fk := []) (rk := (1001, [])) (sp := 268435456) (fuel := 3000) (by decide +kernel) (lk_c ml_5_70 S_10 (lk_c ml_5_76 S_12 (lk_c ml_5_76 S_24 lk_n))) odX5_whole
def lcn_76 : Nat × aAg := ((nat_lit 1), .inl aTop)
def ct_59 : aCt := (mX5_whole, [.inr (.inl [82]), .inl aTop, .inl [(9999, 9999, 1)]], ([((82, 5), [(0, 6, 1)]), ((82, 11), [(0, 0, 1)])], []), [(some (.inl [(0, 0, 1)]), [], [((82, 11), [(1, 1, 1), (4, 4, 1)])], []), (some (.inl [(1, 1, 1)]), [], [((82, 5), [(-2147483648, 9999, 1)]), ((82, 11), [(0, 0, 1)])], [])], [(82, 2, 6), (82, 11, 13)], [], 2)
set_option maxRecDepth 100000 in
theorem S_59 : aSpec wd ct_59 := bChk_ok wx_ok btX5_whole (nds := [((nat_lit 28), [lcn_0, lcn_76, lcn_67, lcn_8], [], [sl_59, sl_60], [], (1000, [(1, -1)]))]) (fk := []) (rk := (1001, [])) (sp := 268435456) (fuel := 3000) (by decide +kernel) (lk_c ml_5_70 S_10 (lk_c ml_5_76 S_12 (lk_c ml_5_76 S_24 lk_n))) odX5_whole
set_option maxRecDepth 100000 in
theorem btX5_readSpout : bTab oX5_readSpout tX5_readSpout := ⟨ofX5_readSpout, by decide +kernel⟩
def ct_60 : aCt := (mX5_readSpout, [.inr (.inl [82]), .inr (.inl [74, 75, 76, 77, 78, 79, 80, 81])], ([((42, 8), [(0, 7, 1)]), ((82, 11), [(0, 0, 1)])], [((82, 6), 42)]), [(some (.inl [(0, 0, 1)]), [], [((42, 8), [(0, 7, 1)]), ((82, 11), [(1, 2, 1), (4, 4, 1)])], []), (some (.inl [(1, 1, 1)]), [], [((42, 8), [(1, 8, 1)]), ((82, 5), [(-2147483648, 9999, 1)]), ((82, 10), [(1, 20, 1)]), ((82, 11), [(0, 0, 1)])], [])], [(42, 8, 9), (74, 0, 3), (75, 0, 3), (76, 0, 3), (77, 0, 3), (78, 0, 3), (79, 0, 3), (80, 0, 3), (81, 0, 3), (82, 2, 6), (82, 11, 13)], [], 3)
set_option maxRecDepth 100000 in
theorem S_60 : aSpec wd ct_60 := bChk_ok wx_ok btX5_readSpout (nds := []) (fk := []) (rk := (1, [])) (sp := 0) (fuel := 3000) (by decide +kernel) (lk_c ml_5_173 S_56 (lk_c ml_5_173 S_55 (lk_c ml_5_142 S_58 (lk_c ml_5_240 S_57 (lk_c ml_5_138 S_23 (lk_c ml_5_142 S_59 lk_n)))))) odX5_readSpout
set_option maxRecDepth 100000 in
theorem btX5_readLine : bTab oX5_readLine tX5_readLine := ⟨ofX5_readLine, by decide +kernel⟩
def ct_61 : aCt := (mX5_readLine, [.inr (.inl [82])], ([((82, 11), [(0, 0, 1)])], [((82, 6), 42)]), [(some (.inl [(0, 0, 1)]), [], [((82, 11), [(1, 7, 1)])], []), (some (.inl [(1, 1, 1)]), [], [((82, 11), [(0, 0, 1)])], [])], [(42, 0, 9), (43, 0, 7), (44, 0, 7), (49, 0, 4), (50, 0, 4), (51, 0, 4), (52, 0, 4), (53, 0, 4), (54, 0, 4), (55, 0, 4), (56, 0, 4), (57, 0, 4), (58, 0, 4), (59, 0, 4), (60, 0, 4), (61, 0, 4), (62, 0, 4), (63, 0, 4), (64, 0, 4), (65, 0, 4), (66, 0, 4), (67, 0, 4), (68, 0, 4), (69, 0, 4), (70, 0, 4), (71, 0, 4), (72, 0, 4), (73, 0, 4), (74, 0, 3), (75, 0, 3), (76, 0, 3), (77, 0, 3), (78, 0, 3), (79, 0, 3), (80, 0, 3), (81, 0, 3), (82, 2, 6), (82, 10, 13), (84, 0, 20), (85, 0, 20)], [], 4)
set_option maxRecDepth 100000 in
theorem S_61 : aSpec wd ct_61 := bChk_ok wx_ok btX5_readLine (nds := []) (fk := [172]) (rk := (1, [])) (sp := 0) (fuel := 3000) (by decide +kernel) (lk_c ml_5_90 S_20 (lk_c ml_5_87 S_29 (lk_c ml_5_70 S_10 (lk_c ml_5_80 S_11 (lk_c ml_5_111 S_42 (lk_c ml_5_111 S_44 (lk_c ml_5_111 S_46 (lk_c ml_5_111 S_48 (lk_c ml_5_111 S_50 (lk_c ml_5_76 S_21 (lk_c ml_5_76 S_22 (lk_c ml_5_76 S_15 (lk_c ml_5_76 S_12 (lk_c ml_5_122 S_37 (lk_c ml_5_133 S_60 (lk_c ml_5_100 S_54 lk_n)))))))))))))))) odX5_readLine
def lcn_77 : Nat × aAg := ((nat_lit 1), .inl [((.ofNat (nat_lit 0)), (.ofNat (nat_lit 1000)), (nat_lit 1))])
def lcn_78 : Nat × aAg := ((nat_lit 2), .inr (.inl [(nat_lit 42)]))
def lcn_79 : Nat × aAg := ((nat_lit 3), .inl [((.ofNat (nat_lit 0)), (.ofNat (nat_lit 1023)), (nat_lit 1))])
set_option maxRecDepth 100000 in
theorem btX5_readPost : bTab oX5_readPost tX5_readPost := ⟨ofX5_readPost, by decide +kernel⟩
def ct_62 : aCt := (mX5_readPost, [.inr (.inl [82]), .inl [(0, 1000, 1)], .inr (.inl [42])], ([], []), [(some (.inl [(0, 0, 1)]), [], [((82, 11), [(1, 7, 1)])], [((82, 6), 42)]), (some (.inl [(1, 1, 1)]), [], [((42, 4), [(1, 7, 1)]), ((82, 11), [(0, 0, 1)])], [((82, 6), 42)])], [(42, 0, 9), (43, 0, 7), (44, 0, 7), (49, 0, 4), (50, 0, 4), (51, 0, 4), (52, 0, 4), (53, 0, 4), (54, 0, 4), (55, 0, 4), (56, 0, 4), (57, 0, 4), (58, 0, 4), (59, 0, 4), (60, 0, 4), (61, 0, 4), (62, 0, 4), (63, 0, 4), (64, 0, 4), (65, 0, 4), (66, 0, 4), (67, 0, 4), (68, 0, 4), (69, 0, 4), (70, 0, 4), (71, 0, 4), (72, 0, 4), (73, 0, 4), (74, 0, 3), (75, 0, 3), (76, 0, 3), (77, 0, 3), (78, 0, 3), (79, 0, 3), (80, 0, 3), (81, 0, 3), (82, 1, 6), (82, 10, 13), (84, 0, 20), (85, 0, 20)], [(82, 6, 7)], 5)
set_option maxRecDepth 100000 in
theorem S_62 : aSpec wd ct_62 := bChk_ok wx_ok btX5_readPost (nds := [((nat_lit 47), [lcn_0, lcn_77, lcn_78, lcn_79], [], [sl_60], [((82, 6), 42)], (1023, [(1, -1)]))]) (fk := []) (rk := (1024, [])) (sp := 140737488355328) (fuel := 3000) (by decide +kernel) (lk_c ml_5_66 S_61 (lk_c ml_5_55 S_7 (lk_c ml_5_70 S_10 (lk_c ml_5_76 S_22 (lk_c ml_5_76 S_12 lk_n))))) odX5_readPost
def lcn_80 : Nat × aAg := ((nat_lit 0), .inr (.inl [(nat_lit 86)]))
def lcn_81 : Nat × aAg := ((nat_lit 1), .inr (.inl [(nat_lit 42)]))
def lcn_82 : Nat × aAg := ((nat_lit 2), .inl [((.ofNat (nat_lit 0)), (.ofNat (nat_lit 5)), (nat_lit 1))])
def sl_83 : (Nat × Nat) × aI := (((nat_lit 86), (nat_lit 0)), [((.ofNat (nat_lit 0)), (.ofNat (nat_lit 0)), (nat_lit 1))])
def sl_84 : (Nat × Nat) × aI := (((nat_lit 86), (nat_lit 1)), [((.ofNat (nat_lit 0)), (.ofNat (nat_lit 0)), (nat_lit 1))])
def lcn_85 : Nat × aAg := ((nat_lit 2), .inl [((.ofNat (nat_lit 0)), (.ofNat (nat_lit 8)), (nat_lit 1))])
set_option maxRecDepth 100000 in
theorem btX2_begin : bTab oX2_begin tX2_begin := ⟨ofX2_begin, by decide +kernel⟩
def ct_63 : aCt := (mX2_begin, [.inr (.inl [86]), .inr (.inl [42])], ([], []), [(none, [], [], [])], [(86, 0, 2), (87, 0, 5), (88, 0, 5), (89, 0, 8), (90, 0, 8), (91, 0, 8)], [], 0)
set_option maxRecDepth 100000 in
theorem S_63 : aSpec wd ct_63 := bChk_ok wx_ok btX2_begin (nds := [((nat_lit 12), [lcn_80, lcn_81, lcn_82], [], [sl_83, sl_84], [], (14, [(0, -1)])), ((nat_lit 50), [lcn_80, lcn_81, lcn_85], [], [sl_83, sl_84], [], (8, [(0, -1)]))]) (fk := []) (rk := (15, [])) (sp := 1125899906846720) (fuel := 3000) (by decide +kernel) lk_n odX2_begin
set_option maxRecDepth 100000 in
theorem btX11_takeDraft : bTab oX11_takeDraft tX11_takeDraft := ⟨ofX11_takeDraft, by decide +kernel⟩
def ct_64 : aCt := (mX11_takeDraft, [.inr (.inl [0])], ([], [((0, 3), 2), ((0, 4), 42), ((92, 0), 2), ((94, 0), 2), ((96, 0), 2)]), [(none, [], [((0, 15), [(0, 0, 1)])], [((0, 3), 42), ((0, 4), 2), ((92, 0), 42), ((94, 0), 42), ((96, 0), 42)])], [(0, 13, 14), (0, 15, 16), (86, 0, 2), (87, 0, 5), (88, 0, 5), (89, 0, 8), (90, 0, 8), (91, 0, 8)], [(0, 3, 4), (0, 4, 5), (92, 0, 1), (94, 0, 1), (96, 0, 1)], 1)
set_option maxRecDepth 100000 in
theorem S_64 : aSpec wd ct_64 := bChk_ok wx_ok btX11_takeDraft (nds := []) (fk := []) (rk := (1, [])) (sp := 0) (fuel := 3000) (by decide +kernel) (lk_c ml_11_391 S_63 lk_n) odX11_takeDraft
set_option maxRecDepth 100000 in
theorem btX11_granted : bTab oX11_granted tX11_granted := ⟨ofX11_granted, by decide +kernel⟩
def ct_65 : aCt := (mX11_granted, [.inr (.inl [0]), .inl [(1, 7, 1)]], ([], []), [(some (.inl [(1, 7, 1)]), [], [((0, 2), [(0, 0, 1)])], [])], [(0, 2, 3)], [], 0)
set_option maxRecDepth 100000 in
theorem S_65 : aSpec wd ct_65 := bChk_ok wx_ok btX11_granted (nds := []) (fk := []) (rk := (1, [])) (sp := 0) (fuel := 3000) (by decide +kernel) lk_n odX11_granted
def ct_66 : aCt := (mX11_refused, [.inr (.inl [0]), .inl [(4, 4, 1)]], ([], []), [(some (.inl [(-1, -1, 1)]), [], [((0, 2), [(4, 4, 1)])], [])], [(0, 2, 3)], [], 0)
set_option maxRecDepth 100000 in
theorem S_66 : aSpec wd ct_66 := bChk_ok wx_ok btX11_refused (nds := []) (fk := []) (rk := (1, [])) (sp := 0) (fuel := 3000) (by decide +kernel) lk_n odX11_refused
set_option maxRecDepth 100000 in
theorem btX11_post : bTab oX11_post tX11_post := ⟨ofX11_post, by decide +kernel⟩
def ct_67 : aCt := (mX11_post, [.inr (.inl [0]), .inl aTop], ([], [((0, 3), 2), ((0, 4), 42), ((92, 0), 2), ((94, 0), 2), ((96, 0), 2)]), [(some (.inl [(1, 7, 1)]), [none, some [(0, 1000, 1)]], [((0, 1), [(0, 0, 1)]), ((0, 2), [(0, 0, 1)]), ((0, 15), [(0, 0, 1)]), ((42, 4), [(1, 7, 1)]), ((82, 11), [(0, 0, 1)])], [((0, 3), 42), ((0, 4), 2), ((82, 6), 42), ((92, 0), 42), ((94, 0), 42), ((96, 0), 42)]), (some (.inl [(-1, -1, 1)]), [none, some [(0, 1000, 1)]], [((0, 1), [(0, 0, 1)]), ((0, 2), [(4, 4, 1)]), ((82, 11), [(1, 7, 1)])], [((0, 3), 2), ((0, 4), 42), ((82, 6), 42), ((92, 0), 2), ((94, 0), 2), ((96, 0), 2)]), (some (.inl [(-1, -1, 1)]), [none, some [(-2147483648, -1, 1), (1, 2147483647, 1)]], [((0, 2), [(2, 2, 1)])], [((0, 3), 2), ((0, 4), 42), ((92, 0), 2), ((94, 0), 2), ((96, 0), 2)])], [(0, 1, 3), (0, 13, 14), (0, 15, 16), (42, 0, 9), (43, 0, 7), (44, 0, 7), (49, 0, 4), (50, 0, 4), (51, 0, 4), (52, 0, 4), (53, 0, 4), (54, 0, 4), (55, 0, 4), (56, 0, 4), (57, 0, 4), (58, 0, 4), (59, 0, 4), (60, 0, 4), (61, 0, 4), (62, 0, 4), (63, 0, 4), (64, 0, 4), (65, 0, 4), (66, 0, 4), (67, 0, 4), (68, 0, 4), (69, 0, 4), (70, 0, 4), (71, 0, 4), (72, 0, 4), (73, 0, 4), (74, 0, 3), (75, 0, 3), (76, 0, 3), (77, 0, 3), (78, 0, 3), (79, 0, 3), (80, 0, 3), (81, 0, 3), (82, 1, 6), (82, 10, 13), (84, 0, 20), (85, 0, 20), (86, 0, 2), (87, 0, 5), (88, 0, 5), (89, 0, 8), (90, 0, 8), (91, 0, 8)], [(0, 3, 4), (0, 4, 5), (82, 6, 7), (92, 0, 1), (94, 0, 1), (96, 0, 1)], 6)
set_option maxRecDepth 100000 in
theorem S_67 : aSpec wd ct_67 := bChk_ok wx_ok btX11_post (nds := []) (fk := []) (rk := (1, [])) (sp := 0) (fuel := 3000) (by decide +kernel) (lk_c ml_11_106 S_64 (lk_c ml_11_98 S_6 (lk_c ml_11_98 S_66 (lk_c ml_11_112 S_65 (lk_c ml_11_102 S_62 lk_n))))) odX11_post
set_option maxRecDepth 100000 in
theorem btX11_fault : bTab oX11_fault tX11_fault := ⟨ofX11_fault, by decide +kernel⟩
def ct_68 : aCt := (mX11_fault, [.inr (.inl [0])], ([], []), [(some (.inl aTop), [], [], [])], [], [], 0)
set_option maxRecDepth 100000 in
theorem S_68 : aSpec wd ct_68 := bChk_ok wx_ok btX11_fault (nds := []) (fk := []) (rk := (1, [])) (sp := 0) (fuel := 3000) (by decide +kernel) lk_n odX11_fault
set_option maxRecDepth 100000 in
theorem btX11_where : bTab oX11_where tX11_where := ⟨ofX11_where, by decide +kernel⟩
def ct_69 : aCt := (mX11_where, [.inr (.inl [0])], ([], []), [(some (.inl aTop), [], [((0, 2), [(4, 4, 1)])], []), (some (.inl [(-1, -1, 1)]), [], [((0, 2), [(0, 3, 1), (5, 6, 1)])], [])], [], [], 0)
set_option maxRecDepth 100000 in
theorem S_69 : aSpec wd ct_69 := bChk_ok wx_ok btX11_where (nds := []) (fk := []) (rk := (1, [])) (sp := 0) (fuel := 3000) (by decide +kernel) lk_n odX11_where
set_option maxRecDepth 100000 in
theorem btX11_isWhale : bTab oX11_isWhale tX11_isWhale := ⟨ofX11_isWhale, by decide +kernel⟩
def ct_70 : aCt := (mX11_isWhale, [.inr (.inl [0]), .inl aTop], ([], [((0, 3), 2)]), [(some (.inl [(0, 0, 1)]), [none, some [(0, 2147483647, 1)]], [((2, 6), [(0, 0, 1)])], []), (some (.inl [(0, 0, 1)]), [none, some [(1, 2147483647, 1)]], [((2, 6), [(1, 1, 1)])], []), (some (.inl [(0, 0, 1)]), [none, some [(2, 2147483647, 1)]], [((2, 6), [(2, 2, 1)])], []), (some (.inl [(0, 0, 1)]), [none, some [(3, 2147483647, 1)]], [((2, 6), [(3, 3, 1)])], []), (some (.inl [(0, 0, 1)]), [none, some [(4, 2147483647, 1)]], [((2, 6), [(4, 4, 1)])], []), (some (.inl [(0, 0, 1)]), [none, some [(5, 2147483647, 1)]], [((2, 6), [(5, 5, 1)])], []), (some (.inl [(0, 0, 1)]), [none, some [(-2147483648, -1, 1)]], [], []), (some (.inl [(1, 1, 1)]), [none, some [(0, 0, 1)]], [((2, 6), [(1, 1, 1)])], []), (some (.inl [(1, 1, 1)]), [none, some [(0, 1, 1)]], [((2, 6), [(2, 2, 1)])], []), (some (.inl [(1, 1, 1)]), [none, some [(0, 2, 1)]], [((2, 6), [(3, 3, 1)])], []), (some (.inl [(1, 1, 1)]), [none, some [(0, 3, 1)]], [((2, 6), [(4, 4, 1)])], []), (some (.inl [(1, 1, 1)]), [none, some [(0, 4, 1)]], [((2, 6), [(5, 5, 1)])], [])], [], [], 0)
set_option maxRecDepth 100000 in
theorem S_70 : aSpec wd ct_70 := bChk_ok wx_ok btX11_isWhale (nds := []) (fk := [12]) (rk := (1, [])) (sp := 0) (fuel := 3000) (by decide +kernel) lk_n odX11_isWhale
def ct_71 : aCt := (mX11_granted, [.inr (.inl [0]), .inl aTop], ([], []), [(some (.inl aTop), [], [((0, 2), [(0, 0, 1)])], [])], [(0, 2, 3)], [], 0)
set_option maxRecDepth 100000 in
theorem S_71 : aSpec wd ct_71 := bChk_ok wx_ok btX11_granted (nds := []) (fk := []) (rk := (1, [])) (sp := 0) (fuel := 3000) (by decide +kernel) lk_n odX11_granted
def ct_72 : aCt := (mX11_granted, [.inr (.inl [0]), .inl [(0, 6, 1)]], ([], []), [(some (.inl [(0, 6, 1)]), [], [((0, 2), [(0, 0, 1)])], [])], [(0, 2, 3)], [], 0)
set_option maxRecDepth 100000 in
theorem S_72 : aSpec wd ct_72 := bChk_ok wx_ok btX11_granted (nds := []) (fk := []) (rk := (1, [])) (sp := 0) (fuel := 3000) (by decide +kernel) lk_n odX11_granted
def ct_73 : aCt := (mX11_granted, [.inr (.inl [0]), .inl [(0, 3, 1)]], ([], []), [(some (.inl [(0, 3, 1)]), [], [((0, 2), [(0, 0, 1)])], [])], [(0, 2, 3)], [], 0)
set_option maxRecDepth 100000 in
theorem S_73 : aSpec wd ct_73 := bChk_ok wx_ok btX11_granted (nds := []) (fk := []) (rk := (1, [])) (sp := 0) (fuel := 3000) (by decide +kernel) lk_n odX11_granted
def ct_74 : aCt := (mX11_refused, [.inr (.inl [0]), .inl [(1, 1, 1)]], ([], []), [(some (.inl [(-1, -1, 1)]), [], [((0, 2), [(1, 1, 1)])], [])], [(0, 2, 3)], [], 0)
set_option maxRecDepth 100000 in
theorem S_74 : aSpec wd ct_74 := bChk_ok wx_ok btX11_refused (nds := []) (fk := []) (rk := (1, [])) (sp := 0) (fuel := 3000) (by decide +kernel) lk_n odX11_refused
set_option maxRecDepth 100000 in
theorem btX11_whale : bTab oX11_whale tX11_whale := ⟨ofX11_whale, by decide +kernel⟩
def ct_75 : aCt := (mX11_whale, [.inr (.inl [0]), .inl aTop, .inl aTop], ([], [((0, 3), 2)]), [(some (.inl aTop), [none, some [(0, 4, 1)], some [(0, 4, 1)]], [((0, 2), [(0, 0, 1)]), ((2, 6), [(1, 5, 1)])], []), (some (.inl [(-1, -1, 1)]), [none, some aTop, none], [((0, 2), [(1, 1, 1)])], [])], [(0, 2, 3)], [], 1)
set_option maxRecDepth 100000 in
theorem S_75 : aSpec wd ct_75 := bChk_ok wx_ok btX11_whale (nds := []) (fk := []) (rk := (1, [])) (sp := 0) (fuel := 3000) (by decide +kernel) (lk_c ml_11_98 S_74 (lk_c ml_11_112 S_73 (lk_c ml_11_112 S_72 (lk_c ml_11_121 S_70 (lk_c ml_11_112 S_71 lk_n))))) odX11_whale
set_option maxRecDepth 100000 in
theorem btX11_isBox : bTab oX11_isBox tX11_isBox := ⟨ofX11_isBox, by decide +kernel⟩
def ct_76 : aCt := (mX11_isBox, [.inr (.inl [0]), .inl aTop], ([], [((0, 3), 2)]), [(some (.inl [(0, 0, 1)]), [none, some aTop], [], []), (some (.inl [(1, 1, 1)]), [none, some [(0, 7, 1)]], [((2, 7), [(1, 8, 1)])], [])], [], [], 0)
set_option maxRecDepth 100000 in
theorem S_76 : aSpec wd ct_76 := bChk_ok wx_ok btX11_isBox (nds := []) (fk := []) (rk := (1, [])) (sp := 0) (fuel := 3000) (by decide +kernel) lk_n odX11_isBox
set_option maxRecDepth 100000 in
theorem btX11_box : bTab oX11_box tX11_box := ⟨ofX11_box, by decide +kernel⟩
def ct_77 : aCt := (mX11_box, [.inr (.inl [0]), .inl aTop, .inl aTop], ([], [((0, 3), 2)]), [(some (.inl aTop), [none, some [(0, 7, 1)], some [(0, 5, 1)]], [((0, 2), [(0, 0, 1)]), ((2, 7), [(1, 8, 1)])], []), (some (.inl [(-1, -1, 1)]), [], [((0, 2), [(1, 1, 1)])], [])], [(0, 2, 3)], [], 1)
set_option maxRecDepth 100000 in
theorem S_77 : aSpec wd ct_77 := bChk_ok wx_ok btX11_box (nds := []) (fk := []) (rk := (1, [])) (sp := 0) (fuel := 3000) (by decide +kernel) (lk_c ml_11_98 S_74 (lk_c ml_11_112 S_72 (lk_c ml_11_147 S_76 (lk_c ml_11_112 S_71 lk_n)))) odX11_box
set_option maxRecDepth 100000 in
theorem btX11_isIsland : bTab oX11_isIsland tX11_isIsland := ⟨ofX11_isIsland, by decide +kernel⟩
def ct_78 : aCt := (mX11_isIsland, [.inr (.inl [0]), .inl aTop], ([], [((0, 3), 2)]), [(some (.inl [(0, 0, 1)]), [none, some aTop], [], []), (some (.inl [(1, 1, 1)]), [none, some [(0, 6, 1)]], [((2, 4), [(1, 7, 1)])], [])], [], [], 0)
set_option maxRecDepth 100000 in
theorem S_78 : aSpec wd ct_78 := bChk_ok wx_ok btX11_isIsland (nds := []) (fk := []) (rk := (1, [])) (sp := 0) (fuel := 3000) (by decide +kernel) lk_n odX11_isIsland
def ct_79 : aCt := (mX11_granted, [.inr (.inl [0]), .inl [(-1000, 1000, 1)]], ([], []), [(some (.inl [(-1000, 1000, 1)]), [], [((0, 2), [(0, 0, 1)])], [])], [(0, 2, 3)], [], 0)
set_option maxRecDepth 100000 in
theorem S_79 : aSpec wd ct_79 := bChk_ok wx_ok btX11_granted (nds := []) (fk := []) (rk := (1, [])) (sp := 0) (fuel := 3000) (by decide +kernel) lk_n odX11_granted
set_option maxRecDepth 100000 in
theorem btX11_length : bTab oX11_length tX11_length := ⟨ofX11_length, by decide +kernel⟩
def ct_80 : aCt := (mX11_length, [.inr (.inl [0]), .inl aTop], ([], [((0, 3), 2)]), [(some (.inl [(-1000, 1000, 1)]), [none, some [(0, 6, 1)]], [((0, 2), [(0, 0, 1)]), ((2, 4), [(1, 7, 1)])], []), (some (.inl [(-1, -1, 1)]), [], [((0, 2), [(1, 1, 1)])], [])], [(0, 2, 3)], [], 1)
set_option maxRecDepth 100000 in
theorem S_80 : aSpec wd ct_80 := bChk_ok wx_ok btX11_length (nds := []) (fk := []) (rk := (1, [])) (sp := 0) (fuel := 3000) (by decide +kernel) (lk_c ml_11_98 S_74 (lk_c ml_11_112 S_79 (lk_c ml_11_174 S_78 lk_n))) odX11_length
set_option maxRecDepth 100000 in
theorem btX7_fallIn : bTab oX7_fallIn tX7_fallIn := ⟨ofX7_fallIn, by decide +kernel⟩
def ct_81 : aCt := (mX7_fallIn, [.inr (.inl [92]), .inl [(0, 9999, 1)]], ([], [((92, 0), 2)]), [(some (.inl [(0, 3, 1)]), [], [], []), (some (.inl [(0, 0, 1)]), [], [], [])], [], [], 0)
set_option maxRecDepth 100000 in
theorem S_81 : aSpec wd ct_81 := bChk_ok wx_ok btX7_fallIn (nds := []) (fk := []) (rk := (1, [])) (sp := 0) (fuel := 3000) (by decide +kernel) lk_n odX7_fallIn
set_option maxRecDepth 100000 in
theorem btX11_noteAt : bTab oX11_noteAt tX11_noteAt := ⟨ofX11_noteAt, by decide +kernel⟩
def ct_82 : aCt := (mX11_noteAt, [.inl aTop, .inl [(1, 1000, 1)], .inl [(0, 999, 1)]], ([], []), [(some (.inl [(0, 3, 1)]), [], [], [])], [], [], 0)
set_option maxRecDepth 100000 in
theorem S_82 : aSpec wd ct_82 := bChk_ok wx_ok btX11_noteAt (nds := []) (fk := []) (rk := (1, [])) (sp := 0) (fuel := 3000) (by decide +kernel) lk_n odX11_noteAt
def lcn_86 : Nat × aAg := ((nat_lit 0), .inr (.inl [(nat_lit 92)]))
def lcn_87 : Nat × aAg := ((nat_lit 3), .inl [((.ofNat (nat_lit 1)), (.ofNat (nat_lit 4)), (nat_lit 1))])
def lcn_88 : Nat × aAg := ((nat_lit 4), .inl aTop)
def lcn_89 : Nat × aAg := ((nat_lit 5), .inl [((.ofNat (nat_lit 0)), (.ofNat (nat_lit 1000)), (nat_lit 1))])
def sl_90 : (Nat × Nat) × aI := (((nat_lit 2), (nat_lit 0)), [((.ofNat (nat_lit 1)), (.ofNat (nat_lit 4)), (nat_lit 1))])
set_option maxRecDepth 100000 in
theorem btX7_raised : bTab oX7_raised tX7_raised := ⟨ofX7_raised, by decide +kernel⟩
def ct_83 : aCt := (mX7_raised, [.inr (.inl [92]), .inl aTop, .inl [(-1000, 1000, 1)], .inl [(0, 4, 1)]], ([], [((92, 0), 2)]), [(some (.inl aTop), [], [], [])], [], [], 1)
set_option maxRecDepth 100000 in
theorem S_83 : aSpec wd ct_83 := bChk_ok wx_ok btX7_raised (nds := [((nat_lit 22), [lcn_86, lcn_76, lcn_54, lcn_87, lcn_88, lcn_89], [], [sl_90], [((92, 0), 2)], (1000, [(4, -1)]))]) (fk := []) (rk := (1001, [])) (sp := 4194304) (fuel := 3000) (by decide +kernel) (lk_c ml_7_40 S_82 lk_n) odX7_raised
def lcn_91 : Nat × aAg := ((nat_lit 3), .inl [((.negSucc (nat_lit 2)), (.negSucc (nat_lit 0)), (nat_lit 1)), ((.ofNat (nat_lit 1)), (.ofNat (nat_lit 4)), (nat_lit 1))])
def ct_84 : aCt := (mX7_raised, [.inr (.inl [92]), .inl aTop, .inl [(-1000, 1000, 1)], .inl [(-3, 4, 1)]], ([], [((92, 0), 2)]), [(some (.inl aTop), [], [], [])], [], [], 1)
set_option maxRecDepth 100000 in
theorem S_84 : aSpec wd ct_84 := bChk_ok wx_ok btX7_raised (nds := [((nat_lit 22), [lcn_86, lcn_76, lcn_54, lcn_91, lcn_88, lcn_89], [], [sl_90], [((92, 0), 2)], (1000, [(4, -1)]))]) (fk := []) (rk := (1001, [])) (sp := 4194304) (fuel := 3000) (by decide +kernel) (lk_c ml_7_40 S_82 lk_n) odX7_raised
set_option maxRecDepth 100000 in
theorem btX7_songIn : bTab oX7_songIn tX7_songIn := ⟨ofX7_songIn, by decide +kernel⟩
def ct_85 : aCt := (mX7_songIn, [.inr (.inl [92]), .inl [(0, 6, 1)], .inl [(0, 9999, 1)]], ([], [((92, 0), 2)]), [(some (.inl aTop), [], [], [])], [], [], 2)
set_option maxRecDepth 100000 in
theorem S_85 : aSpec wd ct_85 := bChk_ok wx_ok btX7_songIn (nds := []) (fk := []) (rk := (1, [])) (sp := 0) (fuel := 3000) (by decide +kernel) (lk_c ml_7_50 S_81 (lk_c ml_7_54 S_83 (lk_c ml_7_54 S_84 lk_n))) odX7_songIn
def ct_86 : aCt := (mX11_noteAt, [.inl aTop, .inl [(-1000, 1000, 1)], .inl [(0, 999, 1)]], ([], []), [(some (.inl [(0, 3, 1)]), [], [], [])], [], [], 0)
set_option maxRecDepth 100000 in
theorem S_86 : aSpec wd ct_86 := bChk_ok wx_ok btX11_noteAt (nds := []) (fk := []) (rk := (1, [])) (sp := 0) (fuel := 3000) (by decide +kernel) lk_n odX11_noteAt
set_option maxRecDepth 100000 in
theorem btX11_note : bTab oX11_note tX11_note := ⟨ofX11_note, by decide +kernel⟩
def ct_87 : aCt := (mX11_note, [.inr (.inl [0]), .inl aTop, .inl aTop], ([], [((0, 3), 2), ((92, 0), 2)]), [(some (.inl [(0, 3, 1)]), [none, some [(0, 6, 1)], some [(0, 999, 1)]], [((0, 2), [(0, 0, 1)]), ((2, 4), [(1, 7, 1)])], []), (some (.inl [(-1, -1, 1)]), [], [((0, 2), [(1, 1, 1)])], [])], [(0, 2, 3)], [], 3)
set_option maxRecDepth 100000 in
theorem S_87 : aSpec wd ct_87 := bChk_ok wx_ok btX11_note (nds := []) (fk := []) (rk := (1, [])) (sp := 0) (fuel := 3000) (by decide +kernel) (lk_c ml_11_98 S_74 (lk_c ml_11_112 S_73 (lk_c ml_11_183 S_85 (lk_c ml_11_174 S_78 (lk_c ml_11_187 S_86 lk_n))))) odX11_note
set_option maxRecDepth 100000 in
theorem btX4_boxLength : bTab oX4_boxLength tX4_boxLength := ⟨ofX4_boxLength, by decide +kernel⟩
def ct_88 : aCt := (mX4_boxLength, [.inr (.inl [2]), .inl [(0, 7, 1)]], ([], []), [(some (.inl [(-1000, 1000, 1)]), [], [], [])], [], [], 0)
set_option maxRecDepth 100000 in
theorem S_88 : aSpec wd ct_88 := bChk_ok wx_ok btX4_boxLength (nds := []) (fk := []) (rk := (1, [])) (sp := 0) (fuel := 3000) (by decide +kernel) lk_n odX4_boxLength
set_option maxRecDepth 100000 in
theorem btX11_isNoteOfBox : bTab oX11_isNoteOfBox tX11_isNoteOfBox := ⟨ofX11_isNoteOfBox, by decide +kernel⟩
def ct_89 : aCt := (mX11_isNoteOfBox, [.inr (.inl [0]), .inl aTop, .inl aTop], ([], [((0, 3), 2)]), [(some (.inl [(0, 0, 1)]), [], [], []), (some (.inl [(1, 1, 1)]), [none, some [(0, 7, 1)], some [(0, 999, 1)]], [((2, 7), [(1, 8, 1)])], [])], [], [], 1)
set_option maxRecDepth 100000 in
theorem S_89 : aSpec wd ct_89 := bChk_ok wx_ok btX11_isNoteOfBox (nds := []) (fk := []) (rk := (1, [])) (sp := 0) (fuel := 3000) (by decide +kernel) (lk_c ml_11_198 S_88 (lk_c ml_11_147 S_76 lk_n)) odX11_isNoteOfBox
set_option maxRecDepth 100000 in
theorem btX11_sung : bTab oX11_sung tX11_sung := ⟨ofX11_sung, by decide +kernel⟩
def ct_90 : aCt := (mX11_sung, [.inr (.inl [0]), .inl aTop, .inl aTop], ([], [((0, 3), 2)]), [(some (.inl [(0, 3, 1)]), [none, some [(0, 7, 1)], some [(0, 999, 1)]], [((0, 2), [(0, 0, 1)]), ((2, 7), [(1, 8, 1)])], []), (some (.inl [(-1, -1, 1)]), [], [((0, 2), [(1, 1, 1)])], [])], [(0, 2, 3)], [], 2)
set_option maxRecDepth 100000 in
theorem S_90 : aSpec wd ct_90 := bChk_ok wx_ok btX11_sung (nds := []) (fk := []) (rk := (1, [])) (sp := 0) (fuel := 3000) (by decide +kernel) (lk_c ml_11_98 S_74 (lk_c ml_11_112 S_73 (lk_c ml_11_198 S_88 (lk_c ml_11_187 S_86 (lk_c ml_11_191 S_89 lk_n))))) odX11_sung
def ct_91 : aCt := (mX7_raised, [.inr (.inl [92]), .inl aTop, .inl [(-1000, 1000, 1)], .inl [(0, 0, 1)]], ([], [((92, 0), 2)]), [(some (.inl aTop), [], [], [])], [], [], 0)
set_option maxRecDepth 100000 in
theorem S_91 : aSpec wd ct_91 := bChk_ok wx_ok btX7_raised (nds := []) (fk := []) (rk := (1, [])) (sp := 0) (fuel := 3000) (by decide +kernel) lk_n odX7_raised
def lcn_92 : Nat × aAg := ((nat_lit 3), .inl [((.ofNat (nat_lit 1)), (.ofNat (nat_lit 3)), (nat_lit 1))])
def ct_92 : aCt := (mX7_raised, [.inr (.inl [92]), .inl aTop, .inl [(-1000, 1000, 1)], .inl [(0, 3, 1)]], ([], [((92, 0), 2)]), [(some (.inl aTop), [], [], [])], [], [], 1)
set_option maxRecDepth 100000 in
theorem S_92 : aSpec wd ct_92 := bChk_ok wx_ok btX7_raised (nds := [((nat_lit 22), [lcn_86, lcn_76, lcn_54, lcn_92, lcn_88, lcn_89], [], [sl_90], [((92, 0), 2)], (1000, [(4, -1)]))]) (fk := []) (rk := (1001, [])) (sp := 4194304) (fuel := 3000) (by decide +kernel) (lk_c ml_7_40 S_82 lk_n) odX7_raised
set_option maxRecDepth 100000 in
theorem btJ6_bitCount_0f7a4 : bTab oJ6_bitCount_0f7a4 tJ6_bitCount_0f7a4 := ⟨ofJ6_bitCount_0f7a4, by decide +kernel⟩
def ct_93 : aCt := (mJ6_bitCount_0f7a4, [.inl [(0, 1365, 1)]], ([], []), [(some (.inl [(0, 63, 1)]), [], [], [])], [], [], 0)
set_option maxRecDepth 100000 in
theorem S_93 : aSpec wd ct_93 := bChk_ok wx_ok btJ6_bitCount_0f7a4 (nds := []) (fk := []) (rk := (1, [])) (sp := 0) (fuel := 3000) (by decide +kernel) lk_n odJ6_bitCount_0f7a4
set_option maxRecDepth 100000 in
theorem btX11_unlikeNotes : bTab oX11_unlikeNotes tX11_unlikeNotes := ⟨ofX11_unlikeNotes, by decide +kernel⟩
def ct_94 : aCt := (mX11_unlikeNotes, [.inl aTop, .inl aTop], ([], []), [(some (.inl [(0, 63, 1)]), [], [], [])], [], [], 1)
set_option maxRecDepth 100000 in
theorem S_94 : aSpec wd ct_94 := bChk_ok wx_ok btX11_unlikeNotes (nds := []) (fk := []) (rk := (1, [])) (sp := 0) (fuel := 3000) (by decide +kernel) (lk_c ml_11_411 S_93 lk_n) odX11_unlikeNotes
def lcn_93 : Nat × aAg := ((nat_lit 3), .inl [((.ofNat (nat_lit 0)), (.ofNat (nat_lit 9999)), (nat_lit 1))])
def lcn_94 : Nat × aAg := ((nat_lit 5), .inl [((.negSucc (nat_lit 1)), (.negSucc (nat_lit 1)), (nat_lit 1)), ((.ofNat (nat_lit 0)), (.ofNat (nat_lit 6)), (nat_lit 1))])
def lcn_95 : Nat × aAg := ((nat_lit 6), .inl [((.ofNat (nat_lit 0)), (.ofNat (nat_lit 7)), (nat_lit 1))])
def sl_96 : (Nat × Nat) × aI := (((nat_lit 92), (nat_lit 2)), [((.negSucc (nat_lit 998)), (.ofNat (nat_lit 1001)), (nat_lit 1))])
set_option maxRecDepth 100000 in
theorem btX7_hearerOf : bTab oX7_hearerOf tX7_hearerOf := ⟨ofX7_hearerOf, by decide +kernel⟩
def ct_95 : aCt := (mX7_hearerOf, [.inr (.inl [92]), .inl aTop, .inl [(-1000, 1000, 1)], .inl [(0, 9999, 1)]], ([], [((92, 0), 2)]), [(some (.inl [(-2, -2, 1), (0, 6, 1)]), [], [], []), (some (.inl [(-2, -2, 1)]), [], [], [])], [(92, 2, 4)], [], 2)
set_option maxRecDepth 100000 in
theorem S_95 : aSpec wd ct_95 := bChk_ok wx_ok btX7_hearerOf (nds := [((nat_lit 32), [lcn_86, lcn_76, lcn_54, lcn_93, lcn_88, lcn_94, lcn_95], [], [sl_96], [((92, 0), 2)], (7, [(5, -1)]))]) (fk := []) (rk := (8, [])) (sp := 4294967296) (fuel := 3000) (by decide +kernel) (lk_c ml_7_50 S_81 (lk_c ml_7_54 S_91 (lk_c ml_7_54 S_92 (lk_c ml_7_60 S_94 lk_n)))) odX7_hearerOf
set_option maxRecDepth 100000 in
theorem btX11_hearerIn : bTab oX11_hearerIn tX11_hearerIn := ⟨ofX11_hearerIn, by decide +kernel⟩
def ct_96 : aCt := (mX11_hearerIn, [.inr (.inl [0]), .inl [(0, 7, 1)], .inl [(0, 9999, 1)]], ([], [((0, 3), 2), ((92, 0), 2)]), [(some (.inl [(-2, -2, 1), (0, 6, 1)]), [], [], []), (some (.inl [(-2, -2, 1)]), [], [], [])], [(92, 2, 4)], [], 3)
set_option maxRecDepth 100000 in
theorem S_96 : aSpec wd ct_96 := bChk_ok wx_ok btX11_hearerIn (nds := []) (fk := []) (rk := (1, [])) (sp := 0) (fuel := 3000) (by decide +kernel) (lk_c ml_11_198 S_88 (lk_c ml_11_277 S_95 lk_n)) odX11_hearerIn
def ct_97 : aCt := (mX11_granted, [.inr (.inl [0]), .inl [(-2, -2, 1)]], ([], []), [(some (.inl [(-2, -2, 1)]), [], [((0, 2), [(0, 0, 1)])], [])], [(0, 2, 3)], [], 0)
set_option maxRecDepth 100000 in
theorem S_97 : aSpec wd ct_97 := bChk_ok wx_ok btX11_granted (nds := []) (fk := []) (rk := (1, [])) (sp := 0) (fuel := 3000) (by decide +kernel) lk_n odX11_granted
def ct_98 : aCt := (mX11_granted, [.inr (.inl [0]), .inl [(-2, -2, 1), (0, 6, 1)]], ([], []), [(some (.inl [(-2, -2, 1), (0, 6, 1)]), [], [((0, 2), [(0, 0, 1)])], [])], [(0, 2, 3)], [], 0)
set_option maxRecDepth 100000 in
theorem S_98 : aSpec wd ct_98 := bChk_ok wx_ok btX11_granted (nds := []) (fk := []) (rk := (1, [])) (sp := 0) (fuel := 3000) (by decide +kernel) lk_n odX11_granted
set_option maxRecDepth 100000 in
theorem btX11_heard : bTab oX11_heard tX11_heard := ⟨ofX11_heard, by decide +kernel⟩
def ct_99 : aCt := (mX11_heard, [.inr (.inl [0]), .inl aTop], ([], [((0, 3), 2), ((92, 0), 2)]), [(some (.inl [(-2, -2, 1), (0, 6, 1)]), [none, some [(0, 7, 1)]], [((0, 2), [(0, 0, 1)]), ((2, 7), [(1, 8, 1)])], []), (some (.inl [(-1, -1, 1)]), [], [((0, 2), [(1, 1, 1)])], []), (some (.inl [(-2, -2, 1)]), [none, some [(0, 7, 1)]], [((0, 2), [(0, 0, 1)]), ((2, 7), [(1, 8, 1)])], [])], [(0, 2, 3), (92, 2, 4)], [], 4)
set_option maxRecDepth 100000 in
theorem S_99 : aSpec wd ct_99 := bChk_ok wx_ok btX11_heard (nds := []) (fk := []) (rk := (1, [])) (sp := 0) (fuel := 3000) (by decide +kernel) (lk_c ml_11_112 S_97 (lk_c ml_11_98 S_74 (lk_c ml_11_112 S_98 (lk_c ml_11_201 S_96 (lk_c ml_11_147 S_76 lk_n))))) odX11_heard
def ct_100 : aCt := (mX11_isIsland, [.inr (.inl [0]), .inl aTop], ([((2, 4), [(1, 7, 1)])], [((0, 3), 2)]), [(some (.inl [(0, 0, 1)]), [none, some [(-2147483648, -1, 1), (1, 2147483647, 1)]], [], []), (some (.inl [(1, 1, 1)]), [none, some [(0, 6, 1)]], [], [])], [], [], 0)
set_option maxRecDepth 100000 in
theorem S_100 : aSpec wd ct_100 := bChk_ok wx_ok btX11_isIsland (nds := []) (fk := []) (rk := (1, [])) (sp := 0) (fuel := 3000) (by decide +kernel) lk_n odX11_isIsland
set_option maxRecDepth 100000 in
theorem btX11_areTwoIslands : bTab oX11_areTwoIslands tX11_areTwoIslands := ⟨ofX11_areTwoIslands, by decide +kernel⟩
def ct_101 : aCt := (mX11_areTwoIslands, [.inr (.inl [0]), .inl aTop, .inl aTop], ([], [((0, 3), 2)]), [(some (.inl [(0, 0, 1)]), [], [], []), (some (.inl [(1, 1, 1)]), [none, some [(0, 6, 1)], some [(0, 6, 1)]], [((2, 4), [(1, 7, 1)])], [])], [], [], 1)
set_option maxRecDepth 100000 in
theorem S_101 : aSpec wd ct_101 := bChk_ok wx_ok btX11_areTwoIslands (nds := []) (fk := []) (rk := (1, [])) (sp := 0) (fuel := 3000) (by decide +kernel) (lk_c ml_11_174 S_100 (lk_c ml_11_174 S_78 lk_n)) odX11_areTwoIslands
def lcn_97 : Nat × aAg := ((nat_lit 0), .inr (.inl [(nat_lit 2)]))
def lcn_98 : Nat × aAg := ((nat_lit 3), .inl [((.ofNat (nat_lit 0)), (.ofNat (nat_lit 12)), (nat_lit 1))])
def ct_102 : aCt := (mX4_wayBetween, [.inr (.inl [2]), .inl [(0, 6, 1)], .inl [(0, 6, 1)]], ([], []), [(some (.inl [(0, 11, 1)]), [], [((2, 5), [(1, 12, 1)])], []), (some (.inl [(-2, -2, 1)]), [], [], [])], [], [], 0)
set_option maxRecDepth 100000 in
theorem S_102 : aSpec wd ct_102 := bChk_ok wx_ok btX4_wayBetween (nds := [((nat_lit 2), [lcn_97, lcn_68, lcn_69, lcn_98], [], [], [], (12, [(2, -1)]))]) (fk := []) (rk := (13, [])) (sp := 4) (fuel := 3000) (by decide +kernel) lk_n odX4_wayBetween
set_option maxRecDepth 100000 in
theorem btX2_isClosed : bTab oX2_isClosed tX2_isClosed := ⟨ofX2_isClosed, by decide +kernel⟩
def ct_103 : aCt := (mX2_isClosed, [.inr (.inl [86]), .inl [(0, 11, 1)]], ([], []), [(some (.inl [(0, 0, 1)]), [], [], []), (some (.inl [(1, 1, 1)]), [], [], [])], [], [], 0)
set_option maxRecDepth 100000 in
theorem S_103 : aSpec wd ct_103 := bChk_ok wx_ok btX2_isClosed (nds := []) (fk := []) (rk := (1, [])) (sp := 0) (fuel := 3000) (by decide +kernel) lk_n odX2_isClosed
set_option maxRecDepth 100000 in
theorem btX11_way : bTab oX11_way tX11_way := ⟨ofX11_way, by decide +kernel⟩
def ct_104 : aCt := (mX11_way, [.inr (.inl [0]), .inl aTop, .inl aTop], ([], [((0, 3), 2)]), [(some (.inl aTop), [none, some [(0, 6, 1)], some [(0, 6, 1)]], [((0, 2), [(0, 0, 1)]), ((2, 4), [(1, 7, 1)]), ((2, 5), [(1, 12, 1)])], []), (some (.inl [(-1, -1, 1)]), [], [((0, 2), [(1, 1, 1)])], []), (some (.inl [(-2, -2, 1)]), [none, some [(0, 6, 1)], some [(0, 6, 1)]], [((0, 2), [(0, 0, 1)]), ((2, 4), [(1, 7, 1)])], [])], [(0, 2, 3)], [], 2)
set_option maxRecDepth 100000 in
theorem S_104 : aSpec wd ct_104 := bChk_ok wx_ok btX11_way (nds := []) (fk := []) (rk := (1, [])) (sp := 0) (fuel := 3000) (by decide +kernel) (lk_c ml_11_112 S_97 (lk_c ml_11_98 S_74 (lk_c ml_11_210 S_103 (lk_c ml_11_207 S_102 (lk_c ml_11_112 S_71 (lk_c ml_11_204 S_101 lk_n)))))) odX11_way
set_option maxRecDepth 100000 in
theorem btX11_hasPost : bTab oX11_hasPost tX11_hasPost := ⟨ofX11_hasPost, by decide +kernel⟩
def ct_105 : aCt := (mX11_hasPost, [.inr (.inl [0])], ([], [((0, 3), 2)]), [(some (.inl [(0, 0, 1)]), [], [((2, 4), [(0, 0, 1)])], []), (some (.inl [(1, 1, 1)]), [], [((2, 4), [(1, 7, 1)])], [])], [], [], 0)
set_option maxRecDepth 100000 in
theorem S_105 : aSpec wd ct_105 := bChk_ok wx_ok btX11_hasPost (nds := []) (fk := []) (rk := (1, [])) (sp := 0) (fuel := 3000) (by decide +kernel) lk_n odX11_hasPost
set_option maxRecDepth 100000 in
theorem btX11_isWithin : bTab oX11_isWithin tX11_isWithin := ⟨ofX11_isWithin, by decide +kernel⟩
def ct_106 : aCt := (mX11_isWithin, [.inl aTop, .inl [(99999, 99999, 1)]], ([], []), [(some (.inl [(0, 0, 1)]), [some [(-2147483648, -1, 1), (100000, 2147483647, 1)], none], [], []), (some (.inl [(1, 1, 1)]), [some [(0, 99999, 1)], none], [], [])], [], [], 0)
set_option maxRecDepth 100000 in
theorem S_106 : aSpec wd ct_106 := bChk_ok wx_ok btX11_isWithin (nds := []) (fk := []) (rk := (1, [])) (sp := 0) (fuel := 3000) (by decide +kernel) lk_n odX11_isWithin
set_option maxRecDepth 100000 in
theorem btX11_season : bTab oX11_season tX11_season := ⟨ofX11_season, by decide +kernel⟩
def ct_107 : aCt := (mX11_season, [.inr (.inl [0]), .inl aTop], ([], [((0, 3), 2)]), [(some (.inl [(0, 3, 1)]), [none, some [(0, 99999, 1)]], [((0, 2), [(0, 0, 1)]), ((2, 4), [(1, 7, 1)])], []), (some (.inl [(-1, -1, 1)]), [], [((0, 2), [(1, 2, 1)])], [])], [(0, 2, 3)], [], 1)
set_option maxRecDepth 100000 in
theorem S_107 : aSpec wd ct_107 := bChk_ok wx_ok btX11_season (nds := []) (fk := []) (rk := (1, [])) (sp := 0) (fuel := 3000) (by decide +kernel) (lk_c ml_11_222 S_105 (lk_c ml_11_98 S_6 (lk_c ml_11_98 S_74 (lk_c ml_11_112 S_73 (lk_c ml_11_227 S_106 lk_n))))) odX11_season
set_option maxRecDepth 100000 in
theorem btX11_isWay : bTab oX11_isWay tX11_isWay := ⟨ofX11_isWay, by decide +kernel⟩
def ct_108 : aCt := (mX11_isWay, [.inr (.inl [0]), .inl aTop], ([], [((0, 3), 2)]), [(some (.inl [(0, 0, 1)]), [none, some aTop], [], []), (some (.inl [(1, 1, 1)]), [none, some [(0, 11, 1)]], [((2, 5), [(1, 12, 1)])], [])], [], [], 0)
set_option maxRecDepth 100000 in
theorem S_108 : aSpec wd ct_108 := bChk_ok wx_ok btX11_isWay (nds := []) (fk := []) (rk := (1, [])) (sp := 0) (fuel := 3000) (by decide +kernel) lk_n odX11_isWay
def ct_109 : aCt := (mX11_isWithin, [.inl aTop, .inl [(9999, 9999, 1)]], ([], []), [(some (.inl [(0, 0, 1)]), [some [(-2147483648, -1, 1), (10000, 2147483647, 1)], none], [], []), (some (.inl [(1, 1, 1)]), [some [(0, 9999, 1)], none], [], [])], [], [], 0)
set_option maxRecDepth 100000 in
theorem S_109 : aSpec wd ct_109 := bChk_ok wx_ok btX11_isWithin (nds := []) (fk := []) (rk := (1, [])) (sp := 0) (fuel := 3000) (by decide +kernel) lk_n odX11_isWithin
def lcn_99 : Nat × aAg := ((nat_lit 0), .inr (.inl [(nat_lit 94)]))
def lcn_100 : Nat × aAg := ((nat_lit 1), .inl [((.ofNat (nat_lit 0)), (.ofNat (nat_lit 2)), (nat_lit 1))])
def lcn_101 : Nat × aAg := ((nat_lit 4), .inl [((.ofNat (nat_lit 0)), (.ofNat (nat_lit 111)), (nat_lit 1))])
def lcn_102 : Nat × aAg := ((nat_lit 5), .inl [((.ofNat (nat_lit 0)), (.ofNat (nat_lit 4)), (nat_lit 1))])
set_option maxRecDepth 100000 in
theorem btX6_dayOfLeaving : bTab oX6_dayOfLeaving tX6_dayOfLeaving := ⟨ofX6_dayOfLeaving, by decide +kernel⟩
def ct_110 : aCt := (mX6_dayOfLeaving, [.inr (.inl [94]), .inl [(0, 3, 1)], .inl aTop, .inl [(0, 9999, 1)]], ([], []), [(some (.inl [(0, 9999, 1), (90, 10260, 90)]), [], [], [])], [], [], 0)
set_option maxRecDepth 100000 in
theorem S_110 : aSpec wd ct_110 := bChk_ok wx_ok btX6_dayOfLeaving (nds := [((nat_lit 16), [lcn_99, lcn_100, lcn_51, lcn_93, lcn_101, lcn_102], [], [], [], (4, [(4, -1)]))]) (fk := []) (rk := (5, [])) (sp := 65536) (fuel := 3000) (by decide +kernel) lk_n odX6_dayOfLeaving
def ct_111 : aCt := (mX11_granted, [.inr (.inl [0]), .inl [(0, 9999, 1), (90, 10260, 90)]], ([], []), [(some (.inl [(0, 9999, 1), (90, 10260, 90)]), [], [((0, 2), [(0, 0, 1)])], [])], [(0, 2, 3)], [], 0)
set_option maxRecDepth 100000 in
theorem S_111 : aSpec wd ct_111 := bChk_ok wx_ok btX11_granted (nds := []) (fk := []) (rk := (1, [])) (sp := 0) (fuel := 3000) (by decide +kernel) lk_n odX11_granted
set_option maxRecDepth 100000 in
theorem btX11_sets : bTab oX11_sets tX11_sets := ⟨ofX11_sets, by decide +kernel⟩
def ct_112 : aCt := (mX11_sets, [.inr (.inl [0]), .inl aTop, .inl aTop, .inl aTop], ([], [((0, 3), 2)]), [(some (.inl [(0, 9999, 1), (90, 10260, 90)]), [none, some [(0, 4, 1)], some [(0, 11, 1)], some [(0, 9999, 1)]], [((0, 2), [(0, 0, 1)]), ((2, 5), [(1, 12, 1)]), ((2, 6), [(1, 5, 1)])], []), (some (.inl [(-1, -1, 1)]), [none, some aTop, none, none], [((0, 2), [(1, 2, 1)])], []), (some (.inl [(-2, -2, 1)]), [none, some [(0, 4, 1)], some [(0, 11, 1)], some [(0, 9999, 1)]], [((0, 2), [(0, 0, 1)]), ((2, 5), [(1, 12, 1)]), ((2, 6), [(1, 5, 1)])], [])], [(0, 2, 3)], [], 1)
set_option maxRecDepth 100000 in
theorem S_112 : aSpec wd ct_112 := bChk_ok wx_ok btX11_sets (nds := []) (fk := []) (rk := (1, [])) (sp := 0) (fuel := 3000) (by decide +kernel) (lk_c ml_11_112 S_97 (lk_c ml_11_98 S_6 (lk_c ml_11_98 S_74 (lk_c ml_11_210 S_103 (lk_c ml_11_112 S_111 (lk_c ml_11_121 S_70 (lk_c ml_11_230 S_108 (lk_c ml_11_227 S_109 (lk_c ml_11_236 S_110 lk_n))))))))) odX11_sets
set_option maxRecDepth 100000 in
theorem btX2_isSent : bTab oX2_isSent tX2_isSent := ⟨ofX2_isSent, by decide +kernel⟩
def ct_113 : aCt := (mX2_isSent, [.inr (.inl [86]), .inl [(0, 7, 1)]], ([], []), [(some (.inl [(0, 0, 1)]), [], [], []), (some (.inl [(1, 1, 1)]), [], [], [])], [], [], 0)
set_option maxRecDepth 100000 in
theorem S_113 : aSpec wd ct_113 := bChk_ok wx_ok btX2_isSent (nds := []) (fk := []) (rk := (1, [])) (sp := 0) (fuel := 3000) (by decide +kernel) lk_n odX2_isSent
set_option maxRecDepth 100000 in
theorem btX11_sentPart : bTab oX11_sentPart tX11_sentPart := ⟨ofX11_sentPart, by decide +kernel⟩
def ct_114 : aCt := (mX11_sentPart, [.inr (.inl [0]), .inl [(0, 7, 1)], .inl [(0, 2, 1)]], ([], [((0, 3), 2)]), [(some (.inl aTop), [none, none, some [(2, 2, 1)]], [], []), (some (.inl [(0, 0, 1)]), [none, none, some [(1, 1, 1)]], [], []), (some (.inl [(1, 1, 1)]), [none, none, some [(0, 1, 1)]], [], [])], [], [], 0)
set_option maxRecDepth 100000 in
theorem S_114 : aSpec wd ct_114 := bChk_ok wx_ok btX11_sentPart (nds := []) (fk := []) (rk := (1, [])) (sp := 0) (fuel := 3000) (by decide +kernel) lk_n odX11_sentPart
def lcn_103 : Nat × aAg := ((nat_lit 0), .inr (.inl [(nat_lit 0)]))
def lcn_104 : Nat × aAg := ((nat_lit 3), .inl [((.ofNat (nat_lit 0)), (.ofNat (nat_lit 8)), (nat_lit 1))])
def sl_105 : (Nat × Nat) × aI := (((nat_lit 2), (nat_lit 4)), [((.ofNat (nat_lit 1)), (.ofNat (nat_lit 7)), (nat_lit 1))])
set_option maxRecDepth 100000 in
theorem btX11_sent : bTab oX11_sent tX11_sent := ⟨ofX11_sent, by decide +kernel⟩
def ct_115 : aCt := (mX11_sent, [.inr (.inl [0]), .inl aTop], ([], [((0, 3), 2)]), [(some (.inl aTop), [], [((0, 2), [(0, 0, 1)]), ((2, 4), [(1, 7, 1)])], []), (some (.inl [(-1, -1, 1)]), [], [((0, 2), [(1, 1, 1)])], [])], [(0, 2, 3)], [], 1)
set_option maxRecDepth 100000 in
theorem S_115 : aSpec wd ct_115 := bChk_ok wx_ok btX11_sent (nds := [((nat_lit 26), [lcn_103, lcn_100, lcn_51, lcn_104], [], [sl_105], [((0, 3), 2)], (8, [(2, -1)]))]) (fk := []) (rk := (9, [])) (sp := 67108864) (fuel := 3000) (by decide +kernel) (lk_c ml_11_222 S_105 (lk_c ml_11_98 S_74 (lk_c ml_11_242 S_113 (lk_c ml_11_245 S_114 (lk_c ml_11_112 S_71 lk_n))))) odX11_sent
set_option maxRecDepth 100000 in
theorem btX7_apartness : bTab oX7_apartness tX7_apartness := ⟨ofX7_apartness, by decide +kernel⟩
def ct_116 : aCt := (mX7_apartness, [.inr (.inl [92]), .inl [(0, 6, 1)], .inl [(0, 6, 1)]], ([], [((92, 0), 2)]), [(some (.inl [(0, 63, 1)]), [], [], []), (some (.inl [(-2, -2, 1)]), [], [], [])], [], [], 2)
set_option maxRecDepth 100000 in
theorem S_116 : aSpec wd ct_116 := bChk_ok wx_ok btX7_apartness (nds := []) (fk := []) (rk := (1, [])) (sp := 0) (fuel := 3000) (by decide +kernel) (lk_c ml_7_60 S_94 lk_n) odX7_apartness
def ct_117 : aCt := (mX11_granted, [.inr (.inl [0]), .inl [(0, 63, 1)]], ([], []), [(some (.inl [(0, 63, 1)]), [], [((0, 2), [(0, 0, 1)])], [])], [(0, 2, 3)], [], 0)
set_option maxRecDepth 100000 in
theorem S_117 : aSpec wd ct_117 := bChk_ok wx_ok btX11_granted (nds := []) (fk := []) (rk := (1, [])) (sp := 0) (fuel := 3000) (by decide +kernel) lk_n odX11_granted
set_option maxRecDepth 100000 in
theorem btX11_apart : bTab oX11_apart tX11_apart := ⟨ofX11_apart, by decide +kernel⟩
def ct_118 : aCt := (mX11_apart, [.inr (.inl [0]), .inl aTop, .inl aTop], ([], [((0, 3), 2), ((92, 0), 2)]), [(some (.inl [(0, 63, 1)]), [none, some [(0, 6, 1)], some [(0, 6, 1)]], [((0, 2), [(0, 0, 1)]), ((2, 4), [(1, 7, 1)])], []), (some (.inl [(-1, -1, 1)]), [], [((0, 2), [(1, 1, 1)])], []), (some (.inl [(-2, -2, 1)]), [none, some [(0, 6, 1)], some [(0, 6, 1)]], [((0, 2), [(0, 0, 1)]), ((2, 4), [(1, 7, 1)])], [])], [(0, 2, 3)], [], 3)
set_option maxRecDepth 100000 in
theorem S_118 : aSpec wd ct_118 := bChk_ok wx_ok btX11_apart (nds := []) (fk := []) (rk := (1, [])) (sp := 0) (fuel := 3000) (by decide +kernel) (lk_c ml_11_112 S_97 (lk_c ml_11_98 S_74 (lk_c ml_11_248 S_116 (lk_c ml_11_112 S_117 (lk_c ml_11_174 S_100 (lk_c ml_11_174 S_78 lk_n)))))) odX11_apart
def ct_119 : aCt := (mX7_apartness, [.inr (.inl [92]), .inl [(1, 6, 1)], .inl [(0, 5, 1)]], ([], [((92, 0), 2)]), [(some (.inl [(0, 63, 1)]), [], [], []), (some (.inl [(-2, -2, 1)]), [], [], [])], [], [], 2)
set_option maxRecDepth 100000 in
theorem S_119 : aSpec wd ct_119 := bChk_ok wx_ok btX7_apartness (nds := []) (fk := []) (rk := (1, [])) (sp := 0) (fuel := 3000) (by decide +kernel) (lk_c ml_7_60 S_94 lk_n) odX7_apartness
def lcn_106 : Nat × aAg := ((nat_lit 2), .inl [((.ofNat (nat_lit 0)), (.ofNat (nat_lit 7)), (nat_lit 1))])
set_option maxRecDepth 100000 in
theorem btX7_bearable : bTab oX7_bearable tX7_bearable := ⟨ofX7_bearable, by decide +kernel⟩
def ct_120 : aCt := (mX7_bearable, [.inr (.inl [92])], ([((2, 4), [(1, 7, 1)])], [((92, 0), 2)]), [(some (.inl aTop), [], [], [])], [], [], 3)
set_option maxRecDepth 100000 in
theorem S_120 : aSpec wd ct_120 := bChk_ok wx_ok btX7_bearable (nds := [((nat_lit 5), [lcn_86, lcn_76, lcn_106], [], [sl_105], [((92, 0), 2)], (63, [(1, -8)])), ((nat_lit 18), [lcn_86, lcn_76, lcn_69, lcn_55], [], [sl_105], [((92, 0), 2)], (62, [(1, -8), (2, -1)]))]) (fk := []) (rk := (64, [])) (sp := 262176) (fuel := 3000) (by decide +kernel) (lk_c ml_7_67 S_119 lk_n) odX7_bearable
set_option maxRecDepth 100000 in
theorem btX11_bear : bTab oX11_bear tX11_bear := ⟨ofX11_bear, by decide +kernel⟩
def ct_121 : aCt := (mX11_bear, [.inr (.inl [0])], ([], [((0, 3), 2), ((92, 0), 2)]), [(some (.inl aTop), [], [((0, 2), [(0, 0, 1)]), ((2, 4), [(1, 7, 1)])], []), (some (.inl [(-1, -1, 1)]), [], [((0, 2), [(1, 1, 1)]), ((2, 4), [(0, 0, 1)])], [])], [(0, 2, 3)], [], 4)
set_option maxRecDepth 100000 in
theorem S_121 : aSpec wd ct_121 := bChk_ok wx_ok btX11_bear (nds := []) (fk := []) (rk := (1, [])) (sp := 0) (fuel := 3000) (by decide +kernel) (lk_c ml_11_251 S_120 (lk_c ml_11_222 S_105 (lk_c ml_11_98 S_74 (lk_c ml_11_112 S_71 lk_n)))) odX11_bear
set_option maxRecDepth 100000 in
theorem btX7_mixedPairs : bTab oX7_mixedPairs tX7_mixedPairs := ⟨ofX7_mixedPairs, by decide +kernel⟩
def ct_122 : aCt := (mX7_mixedPairs, [.inr (.inl [92])], ([((2, 4), [(1, 7, 1)])], [((92, 0), 2)]), [(some (.inl aTop), [], [], [])], [], [], 3)
set_option maxRecDepth 100000 in
theorem S_122 : aSpec wd ct_122 := bChk_ok wx_ok btX7_mixedPairs (nds := [((nat_lit 4), [lcn_86, lcn_76, lcn_106], [], [sl_105], [((92, 0), 2)], (63, [(1, -8)])), ((nat_lit 17), [lcn_86, lcn_76, lcn_69, lcn_55], [], [sl_105], [((92, 0), 2)], (62, [(1, -8), (2, -1)]))]) (fk := []) (rk := (64, [])) (sp := 131088) (fuel := 3000) (by decide +kernel) (lk_c ml_7_67 S_119 lk_n) odX7_mixedPairs
set_option maxRecDepth 100000 in
theorem btX11_mixed : bTab oX11_mixed tX11_mixed := ⟨ofX11_mixed, by decide +kernel⟩
def ct_123 : aCt := (mX11_mixed, [.inr (.inl [0])], ([], [((0, 3), 2), ((92, 0), 2)]), [(some (.inl aTop), [], [((0, 2), [(0, 0, 1)]), ((2, 4), [(1, 7, 1)])], []), (some (.inl [(-1, -1, 1)]), [], [((0, 2), [(1, 1, 1)]), ((2, 4), [(0, 0, 1)])], [])], [(0, 2, 3)], [], 4)
set_option maxRecDepth 100000 in
theorem S_123 : aSpec wd ct_123 := bChk_ok wx_ok btX11_mixed (nds := []) (fk := []) (rk := (1, [])) (sp := 0) (fuel := 3000) (by decide +kernel) (lk_c ml_11_255 S_122 (lk_c ml_11_222 S_105 (lk_c ml_11_98 S_74 (lk_c ml_11_112 S_71 lk_n)))) odX11_mixed
set_option maxRecDepth 100000 in
theorem btX11_refusalOfNewSong : bTab oX11_refusalOfNewSong tX11_refusalOfNewSong := ⟨ofX11_refusalOfNewSong, by decide +kernel⟩
def ct_124 : aCt := (mX11_refusalOfNewSong, [.inr (.inl [0]), .inl aTop, .inl aTop], ([], [((0, 3), 2)]), [(some (.inl [(2, 2, 1)]), [none, some aTop, none], [((2, 4), [(1, 7, 1)])], []), (some (.inl [(0, 0, 1)]), [none, some [(2, 5, 1)], some [(1, 5, 1)]], [((2, 4), [(1, 7, 1)])], []), (some (.inl [(1, 1, 1)]), [], [((2, 4), [(0, 0, 1)])], [])], [], [], 1)
set_option maxRecDepth 100000 in
theorem S_124 : aSpec wd ct_124 := bChk_ok wx_ok btX11_refusalOfNewSong (nds := []) (fk := []) (rk := (1, [])) (sp := 0) (fuel := 3000) (by decide +kernel) (lk_c ml_11_222 S_105 lk_n) odX11_refusalOfNewSong
def ct_125 : aCt := (mX7_songIn, [.inr (.inl [92]), .inl [(0, 0, 1)], .inl [(0, 9999, 1)]], ([], [((92, 0), 2)]), [(some (.inl aTop), [], [], [])], [], [], 2)
set_option maxRecDepth 100000 in
theorem S_125 : aSpec wd ct_125 := bChk_ok wx_ok btX7_songIn (nds := []) (fk := []) (rk := (1, [])) (sp := 0) (fuel := 3000) (by decide +kernel) (lk_c ml_7_50 S_81 (lk_c ml_7_54 S_83 (lk_c ml_7_54 S_84 lk_n))) odX7_songIn
def ct_126 : aCt := (mX7_songIn, [.inr (.inl [92]), .inl [(1, 1, 1)], .inl [(0, 9999, 1)]], ([], [((92, 0), 2)]), [(some (.inl aTop), [], [], [])], [], [], 2)
set_option maxRecDepth 100000 in
theorem S_126 : aSpec wd ct_126 := bChk_ok wx_ok btX7_songIn (nds := []) (fk := []) (rk := (1, [])) (sp := 0) (fuel := 3000) (by decide +kernel) (lk_c ml_7_50 S_81 (lk_c ml_7_54 S_83 (lk_c ml_7_54 S_84 lk_n))) odX7_songIn
def ct_127 : aCt := (mX7_songIn, [.inr (.inl [92]), .inl [(2, 2, 1)], .inl [(0, 9999, 1)]], ([], [((92, 0), 2)]), [(some (.inl aTop), [], [], [])], [], [], 2)
set_option maxRecDepth 100000 in
theorem S_127 : aSpec wd ct_127 := bChk_ok wx_ok btX7_songIn (nds := []) (fk := []) (rk := (1, [])) (sp := 0) (fuel := 3000) (by decide +kernel) (lk_c ml_7_50 S_81 (lk_c ml_7_54 S_83 (lk_c ml_7_54 S_84 lk_n))) odX7_songIn
def ct_128 : aCt := (mX7_songIn, [.inr (.inl [92]), .inl [(3, 3, 1)], .inl [(0, 9999, 1)]], ([], [((92, 0), 2)]), [(some (.inl aTop), [], [], [])], [], [], 2)
set_option maxRecDepth 100000 in
theorem S_128 : aSpec wd ct_128 := bChk_ok wx_ok btX7_songIn (nds := []) (fk := []) (rk := (1, [])) (sp := 0) (fuel := 3000) (by decide +kernel) (lk_c ml_7_50 S_81 (lk_c ml_7_54 S_83 (lk_c ml_7_54 S_84 lk_n))) odX7_songIn
def ct_129 : aCt := (mX7_songIn, [.inr (.inl [92]), .inl [(4, 4, 1)], .inl [(0, 9999, 1)]], ([], [((92, 0), 2)]), [(some (.inl aTop), [], [], [])], [], [], 2)
set_option maxRecDepth 100000 in
theorem S_129 : aSpec wd ct_129 := bChk_ok wx_ok btX7_songIn (nds := []) (fk := []) (rk := (1, [])) (sp := 0) (fuel := 3000) (by decide +kernel) (lk_c ml_7_50 S_81 (lk_c ml_7_54 S_83 (lk_c ml_7_54 S_84 lk_n))) odX7_songIn
def ct_130 : aCt := (mX7_songIn, [.inr (.inl [92]), .inl [(5, 5, 1)], .inl [(0, 9999, 1)]], ([], [((92, 0), 2)]), [(some (.inl aTop), [], [], [])], [], [], 2)
set_option maxRecDepth 100000 in
theorem S_130 : aSpec wd ct_130 := bChk_ok wx_ok btX7_songIn (nds := []) (fk := []) (rk := (1, [])) (sp := 0) (fuel := 3000) (by decide +kernel) (lk_c ml_7_50 S_81 (lk_c ml_7_54 S_83 (lk_c ml_7_54 S_84 lk_n))) odX7_songIn
def ct_131 : aCt := (mX7_songIn, [.inr (.inl [92]), .inl [(6, 6, 1)], .inl [(0, 9999, 1)]], ([], [((92, 0), 2)]), [(some (.inl aTop), [], [], [])], [], [], 2)
set_option maxRecDepth 100000 in
theorem S_131 : aSpec wd ct_131 := bChk_ok wx_ok btX7_songIn (nds := []) (fk := []) (rk := (1, [])) (sp := 0) (fuel := 3000) (by decide +kernel) (lk_c ml_7_50 S_81 (lk_c ml_7_54 S_83 (lk_c ml_7_54 S_84 lk_n))) odX7_songIn
def lcn_107 : Nat × aAg := ((nat_lit 1), .inl [((.ofNat (nat_lit 2)), (.ofNat (nat_lit 5)), (nat_lit 1))])
def lcn_108 : Nat × aAg := ((nat_lit 2), .inl [((.ofNat (nat_lit 0)), (.ofNat (nat_lit 9999)), (nat_lit 1))])
def lcn_109 : Nat × aAg := ((nat_lit 4), .inl [((.ofNat (nat_lit 0)), (.ofNat (nat_lit 0)), (nat_lit 1))])
def lcn_110 : Nat × aAg := ((nat_lit 3), .inl [((.ofNat (nat_lit 0)), (.ofNat (nat_lit 1)), (nat_lit 1))])
def lcn_111 : Nat × aAg := ((nat_lit 4), .inl [((.ofNat (nat_lit 1)), (.ofNat (nat_lit 1)), (nat_lit 1))])
def lcn_112 : Nat × aAg := ((nat_lit 3), .inl [((.ofNat (nat_lit 0)), (.ofNat (nat_lit 2)), (nat_lit 1))])
def lcn_113 : Nat × aAg := ((nat_lit 4), .inl [((.ofNat (nat_lit 2)), (.ofNat (nat_lit 2)), (nat_lit 1))])
def sl_114 : (Nat × Nat) × aI := (((nat_lit 2), (nat_lit 4)), [((.ofNat (nat_lit 2)), (.ofNat (nat_lit 7)), (nat_lit 1))])
def lcn_115 : Nat × aAg := ((nat_lit 3), .inl [((.ofNat (nat_lit 0)), (.ofNat (nat_lit 3)), (nat_lit 1))])
def lcn_116 : Nat × aAg := ((nat_lit 4), .inl [((.ofNat (nat_lit 3)), (.ofNat (nat_lit 3)), (nat_lit 1))])
def sl_117 : (Nat × Nat) × aI := (((nat_lit 2), (nat_lit 4)), [((.ofNat (nat_lit 3)), (.ofNat (nat_lit 7)), (nat_lit 1))])
def lcn_118 : Nat × aAg := ((nat_lit 3), .inl [((.ofNat (nat_lit 0)), (.ofNat (nat_lit 4)), (nat_lit 1))])
def lcn_119 : Nat × aAg := ((nat_lit 4), .inl [((.ofNat (nat_lit 4)), (.ofNat (nat_lit 4)), (nat_lit 1))])
def sl_120 : (Nat × Nat) × aI := (((nat_lit 2), (nat_lit 4)), [((.ofNat (nat_lit 4)), (.ofNat (nat_lit 7)), (nat_lit 1))])
def lcn_121 : Nat × aAg := ((nat_lit 3), .inl [((.ofNat (nat_lit 0)), (.ofNat (nat_lit 5)), (nat_lit 1))])
def lcn_122 : Nat × aAg := ((nat_lit 4), .inl [((.ofNat (nat_lit 5)), (.ofNat (nat_lit 5)), (nat_lit 1))])
def sl_123 : (Nat × Nat) × aI := (((nat_lit 2), (nat_lit 4)), [((.ofNat (nat_lit 5)), (.ofNat (nat_lit 7)), (nat_lit 1))])
def lcn_124 : Nat × aAg := ((nat_lit 4), .inl [((.ofNat (nat_lit 6)), (.ofNat (nat_lit 6)), (nat_lit 1))])
def sl_125 : (Nat × Nat) × aI := (((nat_lit 2), (nat_lit 4)), [((.ofNat (nat_lit 6)), (.ofNat (nat_lit 7)), (nat_lit 1))])
def lcn_126 : Nat × aAg := ((nat_lit 3), .inl [((.ofNat (nat_lit 0)), (.ofNat (nat_lit 7)), (nat_lit 1))])
def lcn_127 : Nat × aAg := ((nat_lit 4), .inl [((.ofNat (nat_lit 7)), (.ofNat (nat_lit 7)), (nat_lit 1))])
def sl_128 : (Nat × Nat) × aI := (((nat_lit 2), (nat_lit 4)), [((.ofNat (nat_lit 7)), (.ofNat (nat_lit 7)), (nat_lit 1))])
set_option maxRecDepth 100000 in
theorem btX7_keepSongsOf : bTab oX7_keepSongsOf tX7_keepSongsOf := ⟨ofX7_keepSongsOf, by decide +kernel⟩
def ct_132 : aCt := (mX7_keepSongsOf, [.inr (.inl [92]), .inl [(2, 5, 1)], .inl [(0, 9999, 1)]], ([((2, 4), [(1, 7, 1)])], [((92, 0), 2)]), [(some (.inl [(0, 7, 1)]), [], [], [])], [(93, 0, 7)], [], 3)
set_option maxRecDepth 100000 in
theorem S_132 : aSpec wd ct_132 := bChk_ok wx_ok btX7_keepSongsOf (nds := [((nat_lit 5), [lcn_86, lcn_107, lcn_108, lcn_9, lcn_109], [], [sl_105], [((92, 0), 2)], (7, [])), ((nat_lit 5), [lcn_86, lcn_107, lcn_108, lcn_110, lcn_111], [], [sl_105], [((92, 0), 2)], (6, [])), ((nat_lit 5), [lcn_86, lcn_107, lcn_108, lcn_112, lcn_113], [], [sl_114], [((92, 0), 2)], (5, [])), ((nat_lit 5), [lcn_86, lcn_107, lcn_108, lcn_115, lcn_116], [], [sl_117], [((92, 0), 2)], (4, [])), ((nat_lit 5), [lcn_86, lcn_107, lcn_108, lcn_118, lcn_119], [], [sl_120], [((92, 0), 2)], (3, [])), ((nat_lit 5), [lcn_86, lcn_107, lcn_108, lcn_121, lcn_122], [], [sl_123], [((92, 0), 2)], (2, [])), ((nat_lit 5), [lcn_86, lcn_107, lcn_108, lcn_55, lcn_124], [], [sl_125], [((92, 0), 2)], (1, [])), ((nat_lit 5), [lcn_86, lcn_107, lcn_108, lcn_126, lcn_127], [], [sl_128], [((92, 0), 2)], (0, []))]) (fk := []) (rk := (8, [])) (sp := 32) (fuel := 3000) (by decide +kernel) (lk_c ml_7_81 S_125 (lk_c ml_7_81 S_126 (lk_c ml_7_81 S_127 (lk_c ml_7_81 S_128 (lk_c ml_7_81 S_129 (lk_c ml_7_81 S_130 (lk_c ml_7_81 S_131 lk_n))))))) odX7_keepSongsOf
def ct_133 : aCt := (mX11_noteAt, [.inl [(0, 1023, 1)], .inl [(2, 5, 1)], .inl [(0, 4, 1)]], ([], []), [(some (.inl [(0, 3, 1)]), [], [], [])], [], [], 0)
set_option maxRecDepth 100000 in
theorem S_133 : aSpec wd ct_133 := bChk_ok wx_ok btX11_noteAt (nds := []) (fk := []) (rk := (1, [])) (sp := 0) (fuel := 3000) (by decide +kernel) lk_n odX11_noteAt
def lcn_129 : Nat × aAg := ((nat_lit 1), .inl [((.ofNat (nat_lit 0)), (.ofNat (nat_lit 1023)), (nat_lit 1))])
def lcn_130 : Nat × aAg := ((nat_lit 2), .inl [((.ofNat (nat_lit 2)), (.ofNat (nat_lit 5)), (nat_lit 1))])
set_option maxRecDepth 100000 in
theorem btX7_isOfNotes : bTab oX7_isOfNotes tX7_isOfNotes := ⟨ofX7_isOfNotes, by decide +kernel⟩
def ct_134 : aCt := (mX7_isOfNotes, [.inr (.inl [92]), .inl [(0, 1023, 1)], .inl [(2, 5, 1)]], ([], [((92, 0), 2)]), [(some (.inl [(0, 0, 1)]), [], [], []), (some (.inl [(1, 1, 1)]), [], [], [])], [], [], 1)
set_option maxRecDepth 100000 in
theorem S_134 : aSpec wd ct_134 := bChk_ok wx_ok btX7_isOfNotes (nds := [((nat_lit 2), [lcn_86, lcn_129, lcn_130, lcn_121], [], [], [((92, 0), 2)], (5, [(2, -1)]))]) (fk := []) (rk := (6, [])) (sp := 4) (fuel := 3000) (by decide +kernel) (lk_c ml_7_40 S_133 lk_n) odX7_isOfNotes
def ct_135 : aCt := (mX11_unlikeNotes, [.inl [(0, 1023, 1)], .inl aTop], ([], []), [(some (.inl [(0, 63, 1)]), [], [], [])], [], [], 1)
set_option maxRecDepth 100000 in
theorem S_135 : aSpec wd ct_135 := bChk_ok wx_ok btX11_unlikeNotes (nds := []) (fk := []) (rk := (1, [])) (sp := 0) (fuel := 3000) (by decide +kernel) (lk_c ml_11_411 S_93 lk_n) odX11_unlikeNotes
def lcn_131 : Nat × aAg := ((nat_lit 2), .inl [((.ofNat (nat_lit 1)), (.ofNat (nat_lit 1)), (nat_lit 1))])
def lcn_132 : Nat × aAg := ((nat_lit 4), .inl [((.ofNat (nat_lit 0)), (.ofNat (nat_lit 7)), (nat_lit 1))])
set_option maxRecDepth 100000 in
theorem btX7_isFarFromKept : bTab oX7_isFarFromKept tX7_isFarFromKept := ⟨ofX7_isFarFromKept, by decide +kernel⟩
def ct_136 : aCt := (mX7_isFarFromKept, [.inr (.inl [92]), .inl [(0, 1023, 1)], .inl [(1, 1, 1)], .inl [(7, 7, 1)]], ([], []), [(some (.inl [(0, 0, 1)]), [], [], []), (some (.inl [(1, 1, 1)]), [], [], [])], [], [], 2)
set_option maxRecDepth 100000 in
theorem S_136 : aSpec wd ct_136 := bChk_ok wx_ok btX7_isFarFromKept (nds := [((nat_lit 3), [lcn_86, lcn_129, lcn_131, lcn_22, lcn_132], [], [], [], (7, [(1, -1)]))]) (fk := []) (rk := (8, [])) (sp := 8) (fuel := 3000) (by decide +kernel) (lk_c ml_7_60 S_135 lk_n) odX7_isFarFromKept
def ct_137 : aCt := (mX7_isFarFromKept, [.inr (.inl [92]), .inl [(0, 1023, 1)], .inl [(2, 5, 1)], .inl [(7, 7, 1)]], ([], []), [(some (.inl [(0, 0, 1)]), [], [], []), (some (.inl [(1, 1, 1)]), [], [], [])], [], [], 2)
set_option maxRecDepth 100000 in
theorem S_137 : aSpec wd ct_137 := bChk_ok wx_ok btX7_isFarFromKept (nds := [((nat_lit 3), [lcn_86, lcn_129, lcn_130, lcn_22, lcn_132], [], [], [], (7, [(2, -1)]))]) (fk := []) (rk := (8, [])) (sp := 8) (fuel := 3000) (by decide +kernel) (lk_c ml_7_60 S_135 lk_n) odX7_isFarFromKept
def lcn_133 : Nat × aAg := ((nat_lit 4), .inl [((.ofNat (nat_lit 0)), (.ofNat (nat_lit 6)), (nat_lit 1))])
def ct_138 : aCt := (mX7_isFarFromKept, [.inr (.inl [92]), .inl [(0, 1023, 1)], .inl [(1, 1, 1)], .inl [(6, 6, 1)]], ([], []), [(some (.inl [(0, 0, 1)]), [], [], []), (some (.inl [(1, 1, 1)]), [], [], [])], [], [], 2)
set_option maxRecDepth 100000 in
theorem S_138 : aSpec wd ct_138 := bChk_ok wx_ok btX7_isFarFromKept (nds := [((nat_lit 3), [lcn_86, lcn_129, lcn_131, lcn_20, lcn_133], [], [], [], (6, [(1, -1)]))]) (fk := []) (rk := (7, [])) (sp := 8) (fuel := 3000) (by decide +kernel) (lk_c ml_7_60 S_135 lk_n) odX7_isFarFromKept
def ct_139 : aCt := (mX7_isFarFromKept, [.inr (.inl [92]), .inl [(0, 1023, 1)], .inl [(2, 5, 1)], .inl [(6, 6, 1)]], ([], []), [(some (.inl [(0, 0, 1)]), [], [], []), (some (.inl [(1, 1, 1)]), [], [], [])], [], [], 2)
set_option maxRecDepth 100000 in
theorem S_139 : aSpec wd ct_139 := bChk_ok wx_ok btX7_isFarFromKept (nds := [((nat_lit 3), [lcn_86, lcn_129, lcn_130, lcn_20, lcn_133], [], [], [], (6, [(2, -1)]))]) (fk := []) (rk := (7, [])) (sp := 8) (fuel := 3000) (by decide +kernel) (lk_c ml_7_60 S_135 lk_n) odX7_isFarFromKept
def lcn_134 : Nat × aAg := ((nat_lit 4), .inl [((.ofNat (nat_lit 0)), (.ofNat (nat_lit 5)), (nat_lit 1))])
def ct_140 : aCt := (mX7_isFarFromKept, [.inr (.inl [92]), .inl [(0, 1023, 1)], .inl [(1, 1, 1)], .inl [(5, 5, 1)]], ([], []), [(some (.inl [(0, 0, 1)]), [], [], []), (some (.inl [(1, 1, 1)]), [], [], [])], [], [], 2)
set_option maxRecDepth 100000 in
theorem S_140 : aSpec wd ct_140 := bChk_ok wx_ok btX7_isFarFromKept (nds := [((nat_lit 3), [lcn_86, lcn_129, lcn_131, lcn_18, lcn_134], [], [], [], (5, [(1, -1)]))]) (fk := []) (rk := (6, [])) (sp := 8) (fuel := 3000) (by decide +kernel) (lk_c ml_7_60 S_135 lk_n) odX7_isFarFromKept
def ct_141 : aCt := (mX7_isFarFromKept, [.inr (.inl [92]), .inl [(0, 1023, 1)], .inl [(2, 5, 1)], .inl [(5, 5, 1)]], ([], []), [(some (.inl [(0, 0, 1)]), [], [], []), (some (.inl [(1, 1, 1)]), [], [], [])], [], [], 2)
set_option maxRecDepth 100000 in
theorem S_141 : aSpec wd ct_141 := bChk_ok wx_ok btX7_isFarFromKept (nds := [((nat_lit 3), [lcn_86, lcn_129, lcn_130, lcn_18, lcn_134], [], [], [], (5, [(2, -1)]))]) (fk := []) (rk := (6, [])) (sp := 8) (fuel := 3000) (by decide +kernel) (lk_c ml_7_60 S_135 lk_n) odX7_isFarFromKept
def lcn_135 : Nat × aAg := ((nat_lit 4), .inl [((.ofNat (nat_lit 0)), (.ofNat (nat_lit 4)), (nat_lit 1))])
def ct_142 : aCt := (mX7_isFarFromKept, [.inr (.inl [92]), .inl [(0, 1023, 1)], .inl [(1, 1, 1)], .inl [(4, 4, 1)]], ([], []), [(some (.inl [(0, 0, 1)]), [], [], []), (some (.inl [(1, 1, 1)]), [], [], [])], [], [], 2)
set_option maxRecDepth 100000 in
theorem S_142 : aSpec wd ct_142 := bChk_ok wx_ok btX7_isFarFromKept (nds := [((nat_lit 3), [lcn_86, lcn_129, lcn_131, lcn_16, lcn_135], [], [], [], (4, [(1, -1)]))]) (fk := []) (rk := (5, [])) (sp := 8) (fuel := 3000) (by decide +kernel) (lk_c ml_7_60 S_135 lk_n) odX7_isFarFromKept
def ct_143 : aCt := (mX7_isFarFromKept, [.inr (.inl [92]), .inl [(0, 1023, 1)], .inl [(2, 5, 1)], .inl [(4, 4, 1)]], ([], []), [(some (.inl [(0, 0, 1)]), [], [], []), (some (.inl [(1, 1, 1)]), [], [], [])], [], [], 2)
set_option maxRecDepth 100000 in
theorem S_143 : aSpec wd ct_143 := bChk_ok wx_ok btX7_isFarFromKept (nds := [((nat_lit 3), [lcn_86, lcn_129, lcn_130, lcn_16, lcn_135], [], [], [], (4, [(2, -1)]))]) (fk := []) (rk := (5, [])) (sp := 8) (fuel := 3000) (by decide +kernel) (lk_c ml_7_60 S_135 lk_n) odX7_isFarFromKept
def lcn_136 : Nat × aAg := ((nat_lit 4), .inl [((.ofNat (nat_lit 0)), (.ofNat (nat_lit 3)), (nat_lit 1))])
def ct_144 : aCt := (mX7_isFarFromKept, [.inr (.inl [92]), .inl [(0, 1023, 1)], .inl [(1, 1, 1)], .inl [(3, 3, 1)]], ([], []), [(some (.inl [(0, 0, 1)]), [], [], []), (some (.inl [(1, 1, 1)]), [], [], [])], [], [], 2)
set_option maxRecDepth 100000 in
theorem S_144 : aSpec wd ct_144 := bChk_ok wx_ok btX7_isFarFromKept (nds := [((nat_lit 3), [lcn_86, lcn_129, lcn_131, lcn_14, lcn_136], [], [], [], (3, [(1, -1)]))]) (fk := []) (rk := (4, [])) (sp := 8) (fuel := 3000) (by decide +kernel) (lk_c ml_7_60 S_135 lk_n) odX7_isFarFromKept
def ct_145 : aCt := (mX7_isFarFromKept, [.inr (.inl [92]), .inl [(0, 1023, 1)], .inl [(2, 5, 1)], .inl [(3, 3, 1)]], ([], []), [(some (.inl [(0, 0, 1)]), [], [], []), (some (.inl [(1, 1, 1)]), [], [], [])], [], [], 2)
set_option maxRecDepth 100000 in
theorem S_145 : aSpec wd ct_145 := bChk_ok wx_ok btX7_isFarFromKept (nds := [((nat_lit 3), [lcn_86, lcn_129, lcn_130, lcn_14, lcn_136], [], [], [], (3, [(2, -1)]))]) (fk := []) (rk := (4, [])) (sp := 8) (fuel := 3000) (by decide +kernel) (lk_c ml_7_60 S_135 lk_n) odX7_isFarFromKept
def lcn_137 : Nat × aAg := ((nat_lit 4), .inl [((.ofNat (nat_lit 0)), (.ofNat (nat_lit 2)), (nat_lit 1))])
def ct_146 : aCt := (mX7_isFarFromKept, [.inr (.inl [92]), .inl [(0, 1023, 1)], .inl [(1, 1, 1)], .inl [(2, 2, 1)]], ([], []), [(some (.inl [(0, 0, 1)]), [], [], []), (some (.inl [(1, 1, 1)]), [], [], [])], [], [], 2)
set_option maxRecDepth 100000 in
theorem S_146 : aSpec wd ct_146 := bChk_ok wx_ok btX7_isFarFromKept (nds := [((nat_lit 3), [lcn_86, lcn_129, lcn_131, lcn_12, lcn_137], [], [], [], (2, [(1, -1)]))]) (fk := []) (rk := (3, [])) (sp := 8) (fuel := 3000) (by decide +kernel) (lk_c ml_7_60 S_135 lk_n) odX7_isFarFromKept
def ct_147 : aCt := (mX7_isFarFromKept, [.inr (.inl [92]), .inl [(0, 1023, 1)], .inl [(2, 5, 1)], .inl [(2, 2, 1)]], ([], []), [(some (.inl [(0, 0, 1)]), [], [], []), (some (.inl [(1, 1, 1)]), [], [], [])], [], [], 2)
set_option maxRecDepth 100000 in
theorem S_147 : aSpec wd ct_147 := bChk_ok wx_ok btX7_isFarFromKept (nds := [((nat_lit 3), [lcn_86, lcn_129, lcn_130, lcn_12, lcn_137], [], [], [], (2, [(2, -1)]))]) (fk := []) (rk := (3, [])) (sp := 8) (fuel := 3000) (by decide +kernel) (lk_c ml_7_60 S_135 lk_n) odX7_isFarFromKept
def lcn_138 : Nat × aAg := ((nat_lit 4), .inl [((.ofNat (nat_lit 0)), (.ofNat (nat_lit 1)), (nat_lit 1))])
def ct_148 : aCt := (mX7_isFarFromKept, [.inr (.inl [92]), .inl [(0, 1023, 1)], .inl [(1, 1, 1)], .inl [(1, 1, 1)]], ([], []), [(some (.inl [(0, 0, 1)]), [], [], []), (some (.inl [(1, 1, 1)]), [], [], [])], [], [], 2)
set_option maxRecDepth 100000 in
theorem S_148 : aSpec wd ct_148 := bChk_ok wx_ok btX7_isFarFromKept (nds := [((nat_lit 3), [lcn_86, lcn_129, lcn_131, lcn_10, lcn_138], [], [], [], (1, [(1, -1)]))]) (fk := []) (rk := (2, [])) (sp := 8) (fuel := 3000) (by decide +kernel) (lk_c ml_7_60 S_135 lk_n) odX7_isFarFromKept
def ct_149 : aCt := (mX7_isFarFromKept, [.inr (.inl [92]), .inl [(0, 1023, 1)], .inl [(2, 5, 1)], .inl [(1, 1, 1)]], ([], []), [(some (.inl [(0, 0, 1)]), [], [], []), (some (.inl [(1, 1, 1)]), [], [], [])], [], [], 2)
set_option maxRecDepth 100000 in
theorem S_149 : aSpec wd ct_149 := bChk_ok wx_ok btX7_isFarFromKept (nds := [((nat_lit 3), [lcn_86, lcn_129, lcn_130, lcn_10, lcn_138], [], [], [], (1, [(2, -1)]))]) (fk := []) (rk := (2, [])) (sp := 8) (fuel := 3000) (by decide +kernel) (lk_c ml_7_60 S_135 lk_n) odX7_isFarFromKept
def ct_150 : aCt := (mX7_isFarFromKept, [.inr (.inl [92]), .inl [(0, 1023, 1)], .inl [(1, 1, 1)], .inl [(0, 0, 1)]], ([], []), [(some (.inl [(1, 1, 1)]), [], [], [])], [], [], 0)
set_option maxRecDepth 100000 in
theorem S_150 : aSpec wd ct_150 := bChk_ok wx_ok btX7_isFarFromKept (nds := [((nat_lit 3), [lcn_86, lcn_129, lcn_131, lcn_9, lcn_109], [], [], [], (0, []))]) (fk := []) (rk := (1, [])) (sp := 8) (fuel := 3000) (by decide +kernel) lk_n odX7_isFarFromKept
def ct_151 : aCt := (mX7_isFarFromKept, [.inr (.inl [92]), .inl [(0, 1023, 1)], .inl [(2, 5, 1)], .inl [(0, 0, 1)]], ([], []), [(some (.inl [(1, 1, 1)]), [], [], [])], [], [], 0)
set_option maxRecDepth 100000 in
theorem S_151 : aSpec wd ct_151 := bChk_ok wx_ok btX7_isFarFromKept (nds := [((nat_lit 3), [lcn_86, lcn_129, lcn_130, lcn_9, lcn_109], [], [], [], (0, []))]) (fk := []) (rk := (1, [])) (sp := 8) (fuel := 3000) (by decide +kernel) lk_n odX7_isFarFromKept
def lcn_139 : Nat × aAg := ((nat_lit 2), .inl [((.ofNat (nat_lit 1)), (.ofNat (nat_lit 5)), (nat_lit 1))])
def lcn_140 : Nat × aAg := ((nat_lit 5), .inl [((.ofNat (nat_lit 7)), (.ofNat (nat_lit 7)), (nat_lit 1))])
def lcn_141 : Nat × aAg := ((nat_lit 6), .inl [((.ofNat (nat_lit 7)), (.ofNat (nat_lit 8)), (nat_lit 1))])
def lcn_142 : Nat × aAg := ((nat_lit 7), .inl aTop)
def lcn_143 : Nat × aAg := ((nat_lit 8), .inl [((.ofNat (nat_lit 0)), (.ofNat (nat_lit 1024)), (nat_lit 1))])
def lcn_144 : Nat × aAg := ((nat_lit 5), .inl [((.ofNat (nat_lit 6)), (.ofNat (nat_lit 6)), (nat_lit 1))])
def lcn_145 : Nat × aAg := ((nat_lit 6), .inl [((.ofNat (nat_lit 6)), (.ofNat (nat_lit 7)), (nat_lit 1))])
def lcn_146 : Nat × aAg := ((nat_lit 5), .inl [((.ofNat (nat_lit 5)), (.ofNat (nat_lit 5)), (nat_lit 1))])
def lcn_147 : Nat × aAg := ((nat_lit 6), .inl [((.ofNat (nat_lit 5)), (.ofNat (nat_lit 6)), (nat_lit 1))])
def lcn_148 : Nat × aAg := ((nat_lit 5), .inl [((.ofNat (nat_lit 4)), (.ofNat (nat_lit 4)), (nat_lit 1))])
def lcn_149 : Nat × aAg := ((nat_lit 6), .inl [((.ofNat (nat_lit 4)), (.ofNat (nat_lit 5)), (nat_lit 1))])
def lcn_150 : Nat × aAg := ((nat_lit 5), .inl [((.ofNat (nat_lit 3)), (.ofNat (nat_lit 3)), (nat_lit 1))])
def lcn_151 : Nat × aAg := ((nat_lit 6), .inl [((.ofNat (nat_lit 3)), (.ofNat (nat_lit 4)), (nat_lit 1))])
def lcn_152 : Nat × aAg := ((nat_lit 5), .inl [((.ofNat (nat_lit 2)), (.ofNat (nat_lit 2)), (nat_lit 1))])
def lcn_153 : Nat × aAg := ((nat_lit 6), .inl [((.ofNat (nat_lit 2)), (.ofNat (nat_lit 3)), (nat_lit 1))])
def lcn_154 : Nat × aAg := ((nat_lit 5), .inl [((.ofNat (nat_lit 1)), (.ofNat (nat_lit 1)), (nat_lit 1))])
def lcn_155 : Nat × aAg := ((nat_lit 6), .inl [((.ofNat (nat_lit 1)), (.ofNat (nat_lit 2)), (nat_lit 1))])
def lcn_156 : Nat × aAg := ((nat_lit 5), .inl [((.ofNat (nat_lit 0)), (.ofNat (nat_lit 0)), (nat_lit 1))])
def lcn_157 : Nat × aAg := ((nat_lit 6), .inl [((.ofNat (nat_lit 0)), (.ofNat (nat_lit 1)), (nat_lit 1))])
set_option maxRecDepth 100000 in
theorem btX7_findNew : bTab oX7_findNew tX7_findNew := ⟨ofX7_findNew, by decide +kernel⟩
def ct_152 : aCt := (mX7_findNew, [.inr (.inl [92]), .inl [(2, 5, 1)], .inl [(1, 5, 1)], .inl [(0, 9999, 1)], .inl [(1, 1, 1)]], ([((2, 4), [(1, 7, 1)])], [((92, 0), 2)]), [(some (.inl [(0, 1, 1)]), [], [], []), (some (.inl [(1, 1, 1)]), [], [], [])], [(92, 4, 5), (93, 0, 8)], [], 4)
set_option maxRecDepth 100000 in
theorem S_152 : aSpec wd ct_152 := bChk_ok wx_ok btX7_findNew (nds := [((nat_lit 24), [lcn_86, lcn_107, lcn_139, lcn_93, lcn_111, lcn_140, lcn_141, lcn_142, lcn_143], [], [sl_105], [((92, 0), 2)], (9224, [(3, -1025), (5, -1)])), ((nat_lit 24), [lcn_86, lcn_107, lcn_139, lcn_93, lcn_111, lcn_144, lcn_145, lcn_142, lcn_143], [], [sl_105], [((92, 0), 2)], (8199, [(3, -1025), (5, -1)])), ((nat_lit 24), [lcn_86, lcn_107, lcn_139, lcn_93, lcn_111, lcn_146, lcn_147, lcn_142, lcn_143], [], [sl_105], [((92, 0), 2)], (7174, [(3, -1025), (5, -1)])), ((nat_lit 24), [lcn_86, lcn_107, lcn_139, lcn_93, lcn_111, lcn_148, lcn_149, lcn_142, lcn_143], [], [sl_105], [((92, 0), 2)], (6149, [(3, -1025), (5, -1)])), ((nat_lit 24), [lcn_86, lcn_107, lcn_139, lcn_93, lcn_111, lcn_150, lcn_151, lcn_142, lcn_143], [], [sl_105], [((92, 0), 2)], (5124, [(3, -1025), (5, -1)])), ((nat_lit 24), [lcn_86, lcn_107, lcn_139, lcn_93, lcn_111, lcn_152, lcn_153, lcn_142, lcn_143], [], [sl_105], [((92, 0), 2)], (4099, [(3, -1025), (5, -1)])), ((nat_lit 24), [lcn_86, lcn_107, lcn_139, lcn_93, lcn_111, lcn_154, lcn_155, lcn_142, lcn_143], [], [sl_105], [((92, 0), 2)], (3074, [(3, -1025), (5, -1)])), ((nat_lit 24), [lcn_86, lcn_107, lcn_139, lcn_93, lcn_111, lcn_156, lcn_157, lcn_142, lcn_143], [], [sl_105], [((92, 0), 2)], (2049, [(3, -1025), (5, -1)]))]) (fk := [6]) (rk := (2050, [])) (sp := 16777216) (fuel := 3000) (by decide +kernel) (lk_c ml_7_77 S_136 (lk_c ml_7_77 S_138 (lk_c ml_7_77 S_140 (lk_c ml_7_77 S_142 (lk_c ml_7_77 S_144 (lk_c ml_7_77 S_146 (lk_c ml_7_77 S_148 (lk_c ml_7_77 S_150 (lk_c ml_7_73 S_134 (lk_c ml_7_77 S_137 (lk_c ml_7_77 S_139 (lk_c ml_7_77 S_141 (lk_c ml_7_77 S_143 (lk_c ml_7_77 S_145 (lk_c ml_7_77 S_147 (lk_c ml_7_77 S_149 (lk_c ml_7_77 S_151 (lk_c ml_7_70 S_132 lk_n)))))))))))))))))) odX7_findNew
end Pk2
