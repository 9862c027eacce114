section Pk0
set_option maxRecDepth 100000 in
theorem btX11_appendBytes : bTab oX11_appendBytes tX11_appendBytes := ⟨ofX11_appendBytes, by decide +kernel⟩
def ct_0 : aCt := (mX11_appendBytes, [.inr (.inl [0]), .inl aTop], ([((0, 1), [(0, 980, 1)])], []), [(none, [], [((0, 1), [(4, 984, 1)])], [])], [(0, 1, 2), (1, 0, 984)], [], 0)
set_option maxRecDepth 100000 in
theorem S_0 : aSpec wd ct_0 := bChk_ok wx_ok btX11_appendBytes (lk := []) (nds := []) (fk := []) (rk := (1, [])) (sp := 0) (fuel := 3000) (by decide +kernel) (fun _ h => nomatch h) odX11_appendBytes
def ct_1 : aCt := (mX11_appendBytes, [.inr (.inl [0]), .inl aTop], ([((0, 1), [(4, 984, 1)])], []), [(none, [], [((0, 1), [(8, 988, 1)])], [])], [(0, 1, 2), (1, 4, 988)], [], 0)
set_option maxRecDepth 100000 in
theorem S_1 : aSpec wd ct_1 := bChk_ok wx_ok btX11_appendBytes (lk := []) (nds := []) (fk := []) (rk := (1, [])) (sp := 0) (fuel := 3000) (by decide +kernel) (fun _ h => nomatch h) odX11_appendBytes
def ct_2 : aCt := (mX11_appendBytes, [.inr (.inl [0]), .inl aTop], ([((0, 1), [(8, 988, 1)])], []), [(none, [], [((0, 1), [(12, 992, 1)])], [])], [(0, 1, 2), (1, 8, 992)], [], 0)
set_option maxRecDepth 100000 in
theorem S_2 : aSpec wd ct_2 := bChk_ok wx_ok btX11_appendBytes (lk := []) (nds := []) (fk := []) (rk := (1, [])) (sp := 0) (fuel := 3000) (by decide +kernel) (fun _ h => nomatch h) odX11_appendBytes
def ct_3 : aCt := (mX11_appendBytes, [.inr (.inl [0]), .inl aTop], ([((0, 1), [(12, 992, 1)])], []), [(none, [], [((0, 1), [(16, 996, 1)])], [])], [(0, 1, 2), (1, 12, 996)], [], 0)
set_option maxRecDepth 100000 in
theorem S_3 : aSpec wd ct_3 := bChk_ok wx_ok btX11_appendBytes (lk := []) (nds := []) (fk := []) (rk := (1, [])) (sp := 0) (fuel := 3000) (by decide +kernel) (fun _ h => nomatch h) odX11_appendBytes
def ct_4 : aCt := (mX11_appendBytes, [.inr (.inl [0]), .inl aTop], ([((0, 1), [(16, 996, 1)])], []), [(none, [], [((0, 1), [(20, 1000, 1)])], [])], [(0, 1, 2), (1, 16, 1000)], [], 0)
set_option maxRecDepth 100000 in
theorem S_4 : aSpec wd ct_4 := bChk_ok wx_ok btX11_appendBytes (lk := []) (nds := []) (fk := []) (rk := (1, [])) (sp := 0) (fuel := 3000) (by decide +kernel) (fun _ h => nomatch h) odX11_appendBytes
set_option maxRecDepth 100000 in
theorem btX11_feed : bTab oX11_feed tX11_feed := ⟨ofX11_feed, by decide +kernel⟩
def ct_5 : aCt := (mX11_feed, [.inr (.inl [0]), .inl aTop, .inl aTop, .inl aTop, .inl aTop, .inl aTop], ([], []), [(some (.inl [(20, 1000, 1)]), [], [((0, 1), [(20, 1000, 1)])], []), (some (.inl [(-1, -1, 1)]), [], [((0, 1), [(981, 1000, 1)])], [])], [(0, 1, 2), (1, 0, 1000)], [], 1)
set_option maxRecDepth 100000 in
theorem S_5 : aSpec wd ct_5 := bChk_ok wx_ok btX11_feed (lk := [(94, 0, 2, ct_0), (94, 0, 2, ct_1), (94, 0, 2, ct_2), (94, 0, 2, ct_3), (94, 0, 2, ct_4)]) (nds := []) (fk := []) (rk := (1, [])) (sp := 0) (fuel := 3000) (by decide +kernel) (List.forall_mem_cons.mpr ⟨⟨ml_11_94, S_0⟩, List.forall_mem_cons.mpr ⟨⟨ml_11_94, S_1⟩, List.forall_mem_cons.mpr ⟨⟨ml_11_94, S_2⟩, List.forall_mem_cons.mpr ⟨⟨ml_11_94, S_3⟩, List.forall_mem_cons.mpr ⟨⟨ml_11_94, S_4⟩, fun _ h => nomatch h⟩⟩⟩⟩⟩) odX11_feed
set_option maxRecDepth 100000 in
theorem btX11_refused : bTab oX11_refused tX11_refused := ⟨ofX11_refused, by decide +kernel⟩
def ct_6 : aCt := (mX11_refused, [.inr (.inl [0]), .inl [(2, 2, 1)]], ([], []), [(some (.inl [(-1, -1, 1)]), [], [((0, 2), [(2, 2, 1)])], [])], [(0, 2, 3)], [], 0)
set_option maxRecDepth 100000 in
theorem S_6 : aSpec wd ct_6 := bChk_ok wx_ok btX11_refused (lk := []) (nds := []) (fk := []) (rk := (1, [])) (sp := 0) (fuel := 3000) (by decide +kernel) (fun _ h => nomatch h) odX11_refused
set_option maxRecDepth 100000 in
theorem btX4_clear : bTab oX4_clear tX4_clear := ⟨ofX4_clear, by decide +kernel⟩
def ct_7 : aCt := (mX4_clear, [.inr (.inl [42])], ([], []), [(none, [], [((42, 4), [(0, 0, 1)]), ((42, 5), [(0, 0, 1)]), ((42, 6), [(0, 0, 1)]), ((42, 7), [(0, 0, 1)]), ((42, 8), [(0, 0, 1)])], [])], [(42, 0, 9)], [], 0)
set_option maxRecDepth 100000 in
theorem S_7 : aSpec wd ct_7 := bChk_ok wx_ok btX4_clear (lk := []) (nds := []) (fk := []) (rk := (1, [])) (sp := 0) (fuel := 3000) (by decide +kernel) (fun _ h => nomatch h) odX4_clear
def sl_0 : (Nat × Nat) × aI := ((82, 1), [(1, 1000, 1)])
def sl_1 : (Nat × Nat) × aI := ((82, 2), [(1, 1000, 1)])
set_option maxRecDepth 100000 in
theorem btX5_passAll : bTab oX5_passAll tX5_passAll := ⟨ofX5_passAll, by decide +kernel⟩
def ct_8 : aCt := (mX5_passAll, [.inr (.inl [82]), .inl [(97, 97, 1)], .inl [(122, 122, 1)]], ([], []), [(some (.inl [(0, 0, 1)]), [], [], []), (some (.inl [(1, 1, 1)]), [], [], [])], [(82, 2, 3)], [], 0)
set_option maxRecDepth 100000 in
theorem S_8 : aSpec wd ct_8 := bChk_ok wx_ok btX5_passAll (lk := []) (nds := [(0, [(0, .inr (.inl [82])), (1, .inl [(97, 97, 1)]), (2, .inl [(122, 122, 1)])], [], [sl_0, sl_1], [], (1000, [(1, -1)]))]) (fk := []) (rk := (1000, [])) (sp := 1) (fuel := 3000) (by decide +kernel) (fun _ h => nomatch h) odX5_passAll
def ct_9 : aCt := (mX5_passAll, [.inr (.inl [82]), .inl [(48, 48, 1)], .inl [(57, 57, 1)]], ([], []), [(some (.inl [(0, 0, 1)]), [], [], []), (some (.inl [(1, 1, 1)]), [], [], [])], [(82, 2, 3)], [], 0)
set_option maxRecDepth 100000 in
theorem S_9 : aSpec wd ct_9 := bChk_ok wx_ok btX5_passAll (lk := []) (nds := [(0, [(0, .inr (.inl [82])), (1, .inl [(48, 48, 1)]), (2, .inl [(57, 57, 1)])], [], [sl_0, sl_1], [], (1000, [(1, -1)]))]) (fk := []) (rk := (1000, [])) (sp := 1) (fuel := 3000) (by decide +kernel) (fun _ h => nomatch h) odX5_passAll
set_option maxRecDepth 100000 in
theorem btX5_nextToken : bTab oX5_nextToken tX5_nextToken := ⟨ofX5_nextToken, by decide +kernel⟩
def ct_10 : aCt := (mX5_nextToken, [.inr (.inl [82])], ([], []), [(none, [], [], [])], [(82, 2, 5)], [], 1)
set_option maxRecDepth 100000 in
theorem S_10 : aSpec wd ct_10 := bChk_ok wx_ok btX5_nextToken (lk := [(278, 0, 3, ct_8), (278, 0, 3, ct_9)]) (nds := [(0, [(0, .inr (.inl [82]))], [], [sl_0, sl_1], [], (1000, [(1, -1)]))]) (fk := []) (rk := (1000, [])) (sp := 1) (fuel := 3000) (by decide +kernel) (List.forall_mem_cons.mpr ⟨⟨ml_5_278, S_8⟩, List.forall_mem_cons.mpr ⟨⟨ml_5_278, S_9⟩, fun _ h => nomatch h⟩⟩) odX5_nextToken
set_option maxRecDepth 100000 in
theorem btX5_sortOfLine : bTab oX5_sortOfLine tX5_sortOfLine := ⟨ofX5_sortOfLine, by decide +kernel⟩
def ct_11 : aCt := (mX5_sortOfLine, [.inr (.inl [82])], ([], []), [(some (.inl [(2, 5, 1)]), [], [], []), (some (.inl [(-2, -2, 1)]), [], [], []), (some (.inl [(0, 0, 1)]), [], [], []), (some (.inl [(1, 1, 1)]), [], [], [])], [], [], 1)
set_option maxRecDepth 100000 in
theorem S_11 : aSpec wd ct_11 := bChk_ok wx_ok btX5_sortOfLine (lk := [(245, 0, 2, ct_X5_isToken_0)]) (nds := []) (fk := []) (rk := (1, [])) (sp := 0) (fuel := 3000) (by decide +kernel) (List.forall_mem_cons.mpr ⟨⟨ml_5_245, S_X5_isToken_0⟩, fun _ h => nomatch h⟩) odX5_sortOfLine
set_option maxRecDepth 100000 in
theorem btX5_faulty : bTab oX5_faulty tX5_faulty := ⟨ofX5_faulty, by decide +kernel⟩
def ct_12 : aCt := (mX5_faulty, [.inr (.inl [82]), .inl [(1, 1, 1)]], ([((82, 11), [(0, 0, 1)])], []), [(some (.inl [(0, 0, 1)]), [], [((82, 11), [(1, 1, 1)])], [])], [(82, 11, 13)], [], 0)
set_option maxRecDepth 100000 in
theorem S_12 : aSpec wd ct_12 := bChk_ok wx_ok btX5_faulty (lk := []) (nds := []) (fk := []) (rk := (1, [])) (sp := 0) (fuel := 3000) (by decide +kernel) (fun _ h => nomatch h) odX5_faulty
set_option maxRecDepth 100000 in
theorem btX5_letters : bTab oX5_letters tX5_letters := ⟨ofX5_letters, by decide +kernel⟩
def ct_13 : aCt := (mX5_letters, [.inr (.inl [82])], ([], []), [(some (.inr ()), [], [], [])], [], [], 0)
set_option maxRecDepth 100000 in
theorem S_13 : aSpec wd ct_13 := bChk_ok wx_ok btX5_letters (lk := []) (nds := [(7, [(0, .inr (.inl [82])), (1, .inr (.inr false)), (3, .inl [(0, 1000, 1)])], [], [], [], (1000, [(0, -1)]))]) (fk := []) (rk := (1001, [])) (sp := 128) (fuel := 3000) (by decide +kernel) (fun _ h => nomatch h) odX5_letters
def sl_2 : (Nat × Nat) × aI := ((82, 10), [(1, 20, 1)])
def sl_3 : (Nat × Nat) × aI := ((82, 10), [(2, 20, 1)])
def sl_4 : (Nat × Nat) × aI := ((82, 10), [(3, 20, 1)])
def sl_5 : (Nat × Nat) × aI := ((82, 10), [(4, 20, 1)])
def sl_6 : (Nat × Nat) × aI := ((82, 10), [(5, 20, 1)])
def sl_7 : (Nat × Nat) × aI := ((82, 10), [(6, 20, 1)])
def sl_8 : (Nat × Nat) × aI := ((82, 10), [(7, 20, 1)])
def sl_9 : (Nat × Nat) × aI := ((82, 10), [(8, 20, 1)])
def sl_10 : (Nat × Nat) × aI := ((82, 10), [(9, 20, 1)])
def sl_11 : (Nat × Nat) × aI := ((82, 10), [(10, 20, 1)])
def sl_12 : (Nat × Nat) × aI := ((82, 10), [(11, 20, 1)])
def sl_13 : (Nat × Nat) × aI := ((82, 10), [(12, 20, 1)])
def sl_14 : (Nat × Nat) × aI := ((82, 10), [(13, 20, 1)])
def sl_15 : (Nat × Nat) × aI := ((82, 10), [(14, 20, 1)])
def sl_16 : (Nat × Nat) × aI := ((82, 10), [(15, 20, 1)])
def sl_17 : (Nat × Nat) × aI := ((82, 10), [(16, 20, 1)])
def sl_18 : (Nat × Nat) × aI := ((82, 10), [(17, 20, 1)])
def sl_19 : (Nat × Nat) × aI := ((82, 10), [(18, 20, 1)])
def sl_20 : (Nat × Nat) × aI := ((82, 10), [(19, 20, 1)])
def sl_21 : (Nat × Nat) × aI := ((82, 10), [(20, 20, 1)])
set_option maxRecDepth 100000 in
theorem btX5_nameOfToken : bTab oX5_nameOfToken tX5_nameOfToken := ⟨ofX5_nameOfToken, by decide +kernel⟩
def ct_14 : aCt := (mX5_nameOfToken, [.inr (.inl [82])], ([], []), [(some (.inl [(-2, -2, 1)]), [], [], []), (some (.inl [(0, 0, 1)]), [], [((82, 10), [(1, 20, 1)])], []), (some (.inl [(1, 1, 1)]), [], [((82, 10), [(2, 20, 1)])], []), (some (.inl [(10, 10, 1)]), [], [((82, 10), [(11, 20, 1)])], []), (some (.inl [(11, 11, 1)]), [], [((82, 10), [(12, 20, 1)])], []), (some (.inl [(12, 12, 1)]), [], [((82, 10), [(13, 20, 1)])], []), (some (.inl [(13, 13, 1)]), [], [((82, 10), [(14, 20, 1)])], []), (some (.inl [(14, 14, 1)]), [], [((82, 10), [(15, 20, 1)])], []), (some (.inl [(15, 15, 1)]), [], [((82, 10), [(16, 20, 1)])], []), (some (.inl [(16, 16, 1)]), [], [((82, 10), [(17, 20, 1)])], []), (some (.inl [(17, 17, 1)]), [], [((82, 10), [(18, 20, 1)])], []), (some (.inl [(18, 18, 1)]), [], [((82, 10), [(19, 20, 1)])], []), (some (.inl [(19, 19, 1)]), [], [((82, 10), [(20, 20, 1)])], []), (some (.inl [(2, 2, 1)]), [], [((82, 10), [(3, 20, 1)])], []), (some (.inl [(3, 3, 1)]), [], [((82, 10), [(4, 20, 1)])], []), (some (.inl [(4, 4, 1)]), [], [((82, 10), [(5, 20, 1)])], []), (some (.inl [(5, 5, 1)]), [], [((82, 10), [(6, 20, 1)])], []), (some (.inl [(6, 6, 1)]), [], [((82, 10), [(7, 20, 1)])], []), (some (.inl [(7, 7, 1)]), [], [((82, 10), [(8, 20, 1)])], []), (some (.inl [(8, 8, 1)]), [], [((82, 10), [(9, 20, 1)])], []), (some (.inl [(9, 9, 1)]), [], [((82, 10), [(10, 20, 1)])], [])], [], [], 1)
set_option maxRecDepth 100000 in
theorem S_14 : aSpec wd ct_14 := bChk_ok wx_ok btX5_nameOfToken (lk := [(251, 0, 1, ct_13)]) (nds := [(7, [(0, .inr (.inl [82])), (1, .inr (.inr false)), (3, .inl [(0, 0, 1)])], [], [], [], (20, [])), (7, [(0, .inr (.inl [82])), (1, .inr (.inr false)), (3, .inl [(1, 1, 1)])], [], [sl_2], [], (19, [])), (7, [(0, .inr (.inl [82])), (1, .inr (.inr false)), (3, .inl [(2, 2, 1)])], [], [sl_3], [], (18, [])), (7, [(0, .inr (.inl [82])), (1, .inr (.inr false)), (3, .inl [(3, 3, 1)])], [], [sl_4], [], (17, [])), (7, [(0, .inr (.inl [82])), (1, .inr (.inr false)), (3, .inl [(4, 4, 1)])], [], [sl_5], [], (16, [])), (7, [(0, .inr (.inl [82])), (1, .inr (.inr false)), (3, .inl [(5, 5, 1)])], [], [sl_6], [], (15, [])), (7, [(0, .inr (.inl [82])), (1, .inr (.inr false)), (3, .inl [(6, 6, 1)])], [], [sl_7], [], (14, [])), (7, [(0, .inr (.inl [82])), (1, .inr (.inr false)), (3, .inl [(7, 7, 1)])], [], [sl_8], [], (13, [])), (7, [(0, .inr (.inl [82])), (1, .inr (.inr false)), (3, .inl [(8, 8, 1)])], [], [sl_9], [], (12, [])), (7, [(0, .inr (.inl [82])), (1, .inr (.inr false)), (3, .inl [(9, 9, 1)])], [], [sl_10], [], (11, [])), (7, [(0, .inr (.inl [82])), (1, .inr (.inr false)), (3, .inl [(10, 10, 1)])], [], [sl_11], [], (10, [])), (7, [(0, .inr (.inl [82])), (1, .inr (.inr false)), (3, .inl [(11, 11, 1)])], [], [sl_12], [], (9, [])), (7, [(0, .inr (.inl [82])), (1, .inr (.inr false)), (3, .inl [(12, 12, 1)])], [], [sl_13], [], (8, [])), (7, [(0, .inr (.inl [82])), (1, .inr (.inr false)), (3, .inl [(13, 13, 1)])], [], [sl_14], [], (7, [])), (7, [(0, .inr (.inl [82])), (1, .inr (.inr false)), (3, .inl [(14, 14, 1)])], [], [sl_15], [], (6, [])), (7, [(0, .inr (.inl [82])), (1, .inr (.inr false)), (3, .inl [(15, 15, 1)])], [], [sl_16], [], (5, [])), (7, [(0, .inr (.inl [82])), (1, .inr (.inr false)), (3, .inl [(16, 16, 1)])], [], [sl_17], [], (4, [])), (7, [(0, .inr (.inl [82])), (1, .inr (.inr false)), (3, .inl [(17, 17, 1)])], [], [sl_18], [], (3, [])), (7, [(0, .inr (.inl [82])), (1, .inr (.inr false)), (3, .inl [(18, 18, 1)])], [], [sl_19], [], (2, [])), (7, [(0, .inr (.inl [82])), (1, .inr (.inr false)), (3, .inl [(19, 19, 1)])], [], [sl_20], [], (1, [])), (7, [(0, .inr (.inl [82])), (1, .inr (.inr false)), (3, .inl [(20, 20, 1)])], [], [sl_21], [], (0, []))]) (fk := []) (rk := (21, [])) (sp := 128) (fuel := 3000) (by decide +kernel) (List.forall_mem_cons.mpr ⟨⟨ml_5_251, S_13⟩, fun _ h => nomatch h⟩) odX5_nameOfToken
def ct_15 : aCt := (mX5_faulty, [.inr (.inl [82]), .inl [(3, 3, 1)]], ([((82, 11), [(0, 0, 1)])], []), [(some (.inl [(0, 0, 1)]), [], [((82, 11), [(3, 3, 1)])], [])], [(82, 11, 13)], [], 0)
set_option maxRecDepth 100000 in
theorem S_15 : aSpec wd ct_15 := bChk_ok wx_ok btX5_faulty (lk := []) (nds := []) (fk := []) (rk := (1, [])) (sp := 0) (fuel := 3000) (by decide +kernel) (fun _ h => nomatch h) odX5_faulty
set_option maxRecDepth 100000 in
theorem btX5_newName : bTab oX5_newName tX5_newName := ⟨ofX5_newName, by decide +kernel⟩
def ct_16 : aCt := (mX5_newName, [.inr (.inl [82]), .inl [(1, 1, 1)], .inl [(0, 6, 1)]], ([((82, 11), [(0, 0, 1)])], []), [(some (.inl [(0, 0, 1)]), [], [((82, 11), [(1, 1, 1), (3, 3, 1)])], []), (some (.inl [(1, 1, 1)]), [], [((82, 10), [(1, 20, 1)]), ((82, 11), [(0, 0, 1)])], [])], [(82, 2, 5), (82, 10, 13), (84, 0, 20), (85, 0, 20)], [], 2)
set_option maxRecDepth 100000 in
theorem S_16 : aSpec wd ct_16 := bChk_ok wx_ok btX5_newName (lk := [(70, 0, 1, ct_10), (80, 0, 1, ct_11), (248, 0, 1, ct_14), (251, 0, 1, ct_13), (76, 0, 2, ct_12), (76, 0, 2, ct_15)]) (nds := []) (fk := [40]) (rk := (1, [])) (sp := 0) (fuel := 3000) (by decide +kernel) (List.forall_mem_cons.mpr ⟨⟨ml_5_70, S_10⟩, List.forall_mem_cons.mpr ⟨⟨ml_5_80, S_11⟩, List.forall_mem_cons.mpr ⟨⟨ml_5_248, S_14⟩, List.forall_mem_cons.mpr ⟨⟨ml_5_251, S_13⟩, List.forall_mem_cons.mpr ⟨⟨ml_5_76, S_12⟩, List.forall_mem_cons.mpr ⟨⟨ml_5_76, S_15⟩, fun _ h => nomatch h⟩⟩⟩⟩⟩⟩) odX5_newName
set_option maxRecDepth 100000 in
theorem btX5_songOfToken : bTab oX5_songOfToken tX5_songOfToken := ⟨ofX5_songOfToken, by decide +kernel⟩
def ct_17 : aCt := (mX5_songOfToken, [.inr (.inl [82])], ([], [((82, 6), 42)]), [(some (.inl aTop), [], [], []), (some (.inl [(-2, -2, 1)]), [], [], [])], [], [], 0)
set_option maxRecDepth 100000 in
theorem S_17 : aSpec wd ct_17 := bChk_ok wx_ok btX5_songOfToken (lk := []) (nds := [(31, [(0, .inr (.inl [82])), (1, .inl [(2, 6, 1)]), (2, .inl aTop), (3, .inl [(0, 1000, 1)])], [], [], [((82, 6), 42)], (1000, [(2, -1)]))]) (fk := []) (rk := (1001, [])) (sp := 2147483648) (fuel := 3000) (by decide +kernel) (fun _ h => nomatch h) odX5_songOfToken
def ct_18 : aCt := (mX5_faulty, [.inr (.inl [82]), .inl [(7, 7, 1)]], ([((82, 11), [(0, 0, 1)])], []), [(some (.inl [(0, 0, 1)]), [], [((82, 11), [(7, 7, 1)])], [])], [(82, 11, 13)], [], 0)
set_option maxRecDepth 100000 in
theorem S_18 : aSpec wd ct_18 := bChk_ok wx_ok btX5_faulty (lk := []) (nds := []) (fk := []) (rk := (1, [])) (sp := 0) (fuel := 3000) (by decide +kernel) (fun _ h => nomatch h) odX5_faulty
def sl_22 : (Nat × Nat) × aI := ((42, 4), [(0, 6, 1)])
set_option maxRecDepth 100000 in
theorem btX4_hasSong : bTab oX4_hasSong tX4_hasSong := ⟨ofX4_hasSong, by decide +kernel⟩
def ct_19 : aCt := (mX4_hasSong, [.inr (.inl [42]), .inl [(-2147483648, -3, 1), (-1, 2147483647, 1)], .inl [(-1000, 1000, 1)]], ([((42, 4), [(0, 6, 1)])], []), [(some (.inl [(0, 0, 1)]), [], [], []), (some (.inl [(1, 1, 1)]), [], [((42, 4), [(1, 6, 1)])], [])], [], [], 0)
set_option maxRecDepth 100000 in
theorem S_19 : aSpec wd ct_19 := bChk_ok wx_ok btX4_hasSong (lk := []) (nds := [(2, [(0, .inr (.inl [42])), (1, .inl [(-2147483648, -3, 1), (-1, 2147483647, 1)]), (2, .inl [(-1000, 1000, 1)]), (3, .inl [(0, 6, 1)])], [], [sl_22], [], (6, [(2, -1)]))]) (fk := []) (rk := (7, [])) (sp := 4) (fuel := 3000) (by decide +kernel) (fun _ h => nomatch h) odX4_hasSong
set_option maxRecDepth 100000 in
theorem btX5_readIsland : bTab oX5_readIsland tX5_readIsland := ⟨ofX5_readIsland, by decide +kernel⟩
def ct_20 : aCt := (mX5_readIsland, [.inr (.inl [82])], ([((42, 4), [(0, 6, 1)]), ((82, 11), [(0, 0, 1)])], [((82, 6), 42)]), [(some (.inl [(0, 0, 1)]), [], [((42, 4), [(0, 6, 1)]), ((82, 11), [(1, 1, 1), (3, 3, 1), (7, 7, 1)])], []), (some (.inl [(1, 1, 1)]), [], [((42, 4), [(1, 7, 1)]), ((82, 10), [(1, 20, 1)]), ((82, 11), [(0, 0, 1)])], [])], [(42, 4, 5), (43, 0, 7), (44, 0, 7), (82, 2, 5), (82, 10, 13), (84, 0, 20), (85, 0, 20)], [], 3)
set_option maxRecDepth 100000 in
theorem S_20 : aSpec wd ct_20 := bChk_ok wx_ok btX5_readIsland (lk := [(161, 0, 1, ct_17), (70, 0, 1, ct_10), (76, 0, 2, ct_12), (76, 0, 2, ct_18), (76, 0, 2, ct_15), (158, 0, 3, ct_16), (164, 0, 3, ct_19)]) (nds := []) (fk := []) (rk := (1, [])) (sp := 0) (fuel := 3000) (by decide +kernel) (List.forall_mem_cons.mpr ⟨⟨ml_5_161, S_17⟩, List.forall_mem_cons.mpr ⟨⟨ml_5_70, S_10⟩, List.forall_mem_cons.mpr ⟨⟨ml_5_76, S_12⟩, List.forall_mem_cons.mpr ⟨⟨ml_5_76, S_18⟩, List.forall_mem_cons.mpr ⟨⟨ml_5_76, S_15⟩, List.forall_mem_cons.mpr ⟨⟨ml_5_158, S_16⟩, List.forall_mem_cons.mpr ⟨⟨ml_5_164, S_19⟩, fun _ h => nomatch h⟩⟩⟩⟩⟩⟩⟩) odX5_readIsland
def ct_21 : aCt := (mX5_faulty, [.inr (.inl [82]), .inl [(5, 5, 1)]], ([((82, 11), [(0, 0, 1)])], []), [(some (.inl [(0, 0, 1)]), [], [((82, 11), [(5, 5, 1)])], [])], [(82, 11, 13)], [], 0)
set_option maxRecDepth 100000 in
theorem S_21 : aSpec wd ct_21 := bChk_ok wx_ok btX5_faulty (lk := []) (nds := []) (fk := []) (rk := (1, [])) (sp := 0) (fuel := 3000) (by decide +kernel) (fun _ h => nomatch h) odX5_faulty
def ct_22 : aCt := (mX5_faulty, [.inr (.inl [82]), .inl [(6, 6, 1)]], ([((82, 11), [(0, 0, 1)])], []), [(some (.inl [(0, 0, 1)]), [], [((82, 11), [(6, 6, 1)])], [])], [(82, 11, 13)], [], 0)
set_option maxRecDepth 100000 in
theorem S_22 : aSpec wd ct_22 := bChk_ok wx_ok btX5_faulty (lk := []) (nds := []) (fk := []) (rk := (1, [])) (sp := 0) (fuel := 3000) (by decide +kernel) (fun _ h => nomatch h) odX5_faulty
set_option maxRecDepth 100000 in
theorem btX5_word : bTab oX5_word tX5_word := ⟨ofX5_word, by decide +kernel⟩
def ct_23 : aCt := (mX5_word, [.inr (.inl [82]), .inr (.inl [1000010, 1000011, 1000012, 1000013, 1000014, 1000015, 1000016, 1000017, 1000018, 1000019, 1000020, 1000021, 1000022, 1000023, 1000024, 1000025, 1000026, 1000027, 1000028, 1000029, 1000030, 1000031, 1000032])], ([((82, 11), [(0, 0, 1)])], []), [(some (.inl [(0, 0, 1)]), [], [((82, 11), [(1, 1, 1)])], []), (some (.inl [(1, 1, 1)]), [], [((82, 11), [(0, 0, 1)])], [])], [(82, 2, 5), (82, 11, 13)], [], 2)
set_option maxRecDepth 100000 in
theorem S_23 : aSpec wd ct_23 := bChk_ok wx_ok btX5_word (lk := [(70, 0, 1, ct_10), (76, 0, 2, ct_12), (245, 0, 2, ct_X5_isToken_0)]) (nds := []) (fk := []) (rk := (1, [])) (sp := 0) (fuel := 3000) (by decide +kernel) (List.forall_mem_cons.mpr ⟨⟨ml_5_70, S_10⟩, List.forall_mem_cons.mpr ⟨⟨ml_5_76, S_12⟩, List.forall_mem_cons.mpr ⟨⟨ml_5_245, S_X5_isToken_0⟩, fun _ h => nomatch h⟩⟩⟩) odX5_word
def ct_24 : aCt := (mX5_faulty, [.inr (.inl [82]), .inl [(4, 4, 1)]], ([((82, 11), [(0, 0, 1)])], []), [(some (.inl [(0, 0, 1)]), [], [((82, 11), [(4, 4, 1)])], [])], [(82, 11, 13)], [], 0)
set_option maxRecDepth 100000 in
theorem S_24 : aSpec wd ct_24 := bChk_ok wx_ok btX5_faulty (lk := []) (nds := []) (fk := []) (rk := (1, [])) (sp := 0) (fuel := 3000) (by decide +kernel) (fun _ h => nomatch h) odX5_faulty
def sl_23 : (Nat × Nat) × aI := ((82, 3), [(2, 2, 1)])
def sl_24 : (Nat × Nat) × aI := ((82, 11), [(0, 0, 1)])
set_option maxRecDepth 100000 in
theorem btX5_whole : bTab oX5_whole tX5_whole := ⟨ofX5_whole, by decide +kernel⟩
def ct_25 : aCt := (mX5_whole, [.inr (.inl [82]), .inl [(2, 2, 1)], .inl [(4, 4, 1)]], ([((82, 11), [(0, 0, 1)])], []), [(some (.inl [(0, 0, 1)]), [], [((82, 11), [(1, 1, 1), (4, 4, 1)])], []), (some (.inl [(1, 1, 1)]), [], [((82, 5), [(2, 4, 1)]), ((82, 11), [(0, 0, 1)])], [])], [(82, 2, 6), (82, 11, 13)], [], 2)
set_option maxRecDepth 100000 in
theorem S_25 : aSpec wd ct_25 := bChk_ok wx_ok btX5_whole (lk := [(70, 0, 1, ct_10), (76, 0, 2, ct_12), (76, 0, 2, ct_24)]) (nds := [(28, [(0, .inr (.inl [82])), (1, .inl [(2, 2, 1)]), (2, .inl [(4, 4, 1)]), (3, .inl [(0, 1000, 1)])], [], [sl_23, sl_24], [], (1000, [(0, -1)]))]) (fk := []) (rk := (1001, [])) (sp := 268435456) (fuel := 3000) (by decide +kernel) (List.forall_mem_cons.mpr ⟨⟨ml_5_70, S_10⟩, List.forall_mem_cons.mpr ⟨⟨ml_5_76, S_12⟩, List.forall_mem_cons.mpr ⟨⟨ml_5_76, S_24⟩, fun _ h => nomatch h⟩⟩⟩) odX5_whole
def ct_26 : aCt := (mX5_whole, [.inr (.inl [82]), .inl [(0, 0, 1)], .inl [(3, 3, 1)]], ([((82, 5), [(2, 4, 1)]), ((82, 11), [(0, 0, 1)])], []), [(some (.inl [(0, 0, 1)]), [], [((82, 5), [(-2147483648, -1, 1), (2, 2147483647, 1)]), ((82, 11), [(1, 1, 1), (4, 4, 1)])], []), (some (.inl [(1, 1, 1)]), [], [((82, 5), [(0, 3, 1)]), ((82, 11), [(0, 0, 1)])], [])], [(82, 2, 6), (82, 11, 13)], [], 2)
set_option maxRecDepth 100000 in
theorem S_26 : aSpec wd ct_26 := bChk_ok wx_ok btX5_whole (lk := [(70, 0, 1, ct_10), (76, 0, 2, ct_12), (76, 0, 2, ct_24)]) (nds := [(28, [(0, .inr (.inl [82])), (1, .inl [(0, 0, 1)]), (2, .inl [(3, 3, 1)]), (3, .inl [(0, 1000, 1)])], [], [sl_23, sl_24], [], (1000, [(0, -1)]))]) (fk := []) (rk := (1001, [])) (sp := 268435456) (fuel := 3000) (by decide +kernel) (List.forall_mem_cons.mpr ⟨⟨ml_5_70, S_10⟩, List.forall_mem_cons.mpr ⟨⟨ml_5_76, S_12⟩, List.forall_mem_cons.mpr ⟨⟨ml_5_76, S_24⟩, fun _ h => nomatch h⟩⟩⟩) odX5_whole
def ct_27 : aCt := (mX5_whole, [.inr (.inl [82]), .inl [(0, 0, 1)], .inl [(50, 50, 1)]], ([((82, 5), [(0, 3, 1)]), ((82, 11), [(0, 0, 1)])], []), [(some (.inl [(0, 0, 1)]), [], [((82, 5), [(-2147483648, 3, 1), (51, 2147483647, 1)]), ((82, 11), [(1, 1, 1), (4, 4, 1)])], []), (some (.inl [(1, 1, 1)]), [], [((82, 5), [(0, 50, 1)]), ((82, 11), [(0, 0, 1)])], [])], [(82, 2, 6), (82, 11, 13)], [], 2)
set_option maxRecDepth 100000 in
theorem S_27 : aSpec wd ct_27 := bChk_ok wx_ok btX5_whole (lk := [(70, 0, 1, ct_10), (76, 0, 2, ct_12), (76, 0, 2, ct_24)]) (nds := [(28, [(0, .inr (.inl [82])), (1, .inl [(0, 0, 1)]), (2, .inl [(50, 50, 1)]), (3, .inl [(0, 1000, 1)])], [], [sl_23, sl_24], [], (1000, [(0, -1)]))]) (fk := []) (rk := (1001, [])) (sp := 268435456) (fuel := 3000) (by decide +kernel) (List.forall_mem_cons.mpr ⟨⟨ml_5_70, S_10⟩, List.forall_mem_cons.mpr ⟨⟨ml_5_76, S_12⟩, List.forall_mem_cons.mpr ⟨⟨ml_5_76, S_24⟩, fun _ h => nomatch h⟩⟩⟩) odX5_whole
def ct_28 : aCt := (mX5_whole, [.inr (.inl [82]), .inl [(0, 0, 1)], .inl [(100, 100, 1)]], ([((82, 5), [(0, 50, 1)]), ((82, 11), [(0, 0, 1)])], []), [(some (.inl [(0, 0, 1)]), [], [((82, 5), [(-2147483648, 50, 1), (101, 2147483647, 1)]), ((82, 11), [(1, 1, 1), (4, 4, 1)])], []), (some (.inl [(1, 1, 1)]), [], [((82, 5), [(0, 100, 1)]), ((82, 11), [(0, 0, 1)])], [])], [(82, 2, 6), (82, 11, 13)], [], 2)
set_option maxRecDepth 100000 in
theorem S_28 : aSpec wd ct_28 := bChk_ok wx_ok btX5_whole (lk := [(70, 0, 1, ct_10), (76, 0, 2, ct_12), (76, 0, 2, ct_24)]) (nds := [(28, [(0, .inr (.inl [82])), (1, .inl [(0, 0, 1)]), (2, .inl [(100, 100, 1)]), (3, .inl [(0, 1000, 1)])], [], [sl_23, sl_24], [], (1000, [(0, -1)]))]) (fk := []) (rk := (1001, [])) (sp := 268435456) (fuel := 3000) (by decide +kernel) (List.forall_mem_cons.mpr ⟨⟨ml_5_70, S_10⟩, List.forall_mem_cons.mpr ⟨⟨ml_5_76, S_12⟩, List.forall_mem_cons.mpr ⟨⟨ml_5_76, S_24⟩, fun _ h => nomatch h⟩⟩⟩) odX5_whole
set_option maxRecDepth 100000 in
theorem btX5_readHead : bTab oX5_readHead tX5_readHead := ⟨ofX5_readHead, by decide +kernel⟩
def ct_29 : aCt := (mX5_readHead, [.inr (.inl [82])], ([((82, 11), [(0, 0, 1)])], [((82, 6), 42)]), [(some (.inl [(0, 0, 1)]), [], [((82, 11), [(1, 1, 1), (4, 4, 1)])], []), (some (.inl [(1, 1, 1)]), [], [((82, 5), [(0, 100, 1)]), ((82, 11), [(0, 0, 1)])], [])], [(42, 0, 4), (82, 2, 6), (82, 11, 13)], [], 3)
set_option maxRecDepth 100000 in
theorem S_29 : aSpec wd ct_29 := bChk_ok wx_ok btX5_readHead (lk := [(142, 0, 3, ct_26), (142, 0, 3, ct_27), (142, 0, 3, ct_28), (142, 0, 3, ct_25), (138, 0, 2, ct_23)]) (nds := []) (fk := []) (rk := (1, [])) (sp := 0) (fuel := 3000) (by decide +kernel) (List.forall_mem_cons.mpr ⟨⟨ml_5_142, S_26⟩, List.forall_mem_cons.mpr ⟨⟨ml_5_142, S_27⟩, List.forall_mem_cons.mpr ⟨⟨ml_5_142, S_28⟩, List.forall_mem_cons.mpr ⟨⟨ml_5_142, S_25⟩, List.forall_mem_cons.mpr ⟨⟨ml_5_138, S_23⟩, fun _ h => nomatch h⟩⟩⟩⟩⟩) odX5_readHead
def ct_30 : aCt := (mX5_newName, [.inr (.inl [82]), .inl [(4, 4, 1)], .inl [(0, 7, 1)]], ([((82, 11), [(0, 0, 1)])], []), [(some (.inl [(0, 0, 1)]), [], [((82, 11), [(1, 1, 1), (3, 3, 1)])], []), (some (.inl [(1, 1, 1)]), [], [((82, 10), [(1, 20, 1)]), ((82, 11), [(0, 0, 1)])], [])], [(82, 2, 5), (82, 10, 13), (84, 0, 20), (85, 0, 20)], [], 2)
set_option maxRecDepth 100000 in
theorem S_30 : aSpec wd ct_30 := bChk_ok wx_ok btX5_newName (lk := [(70, 0, 1, ct_10), (80, 0, 1, ct_11), (248, 0, 1, ct_14), (251, 0, 1, ct_13), (76, 0, 2, ct_12), (76, 0, 2, ct_15)]) (nds := []) (fk := [40]) (rk := (1, [])) (sp := 0) (fuel := 3000) (by decide +kernel) (List.forall_mem_cons.mpr ⟨⟨ml_5_70, S_10⟩, List.forall_mem_cons.mpr ⟨⟨ml_5_80, S_11⟩, List.forall_mem_cons.mpr ⟨⟨ml_5_248, S_14⟩, List.forall_mem_cons.mpr ⟨⟨ml_5_251, S_13⟩, List.forall_mem_cons.mpr ⟨⟨ml_5_76, S_12⟩, List.forall_mem_cons.mpr ⟨⟨ml_5_76, S_15⟩, fun _ h => nomatch h⟩⟩⟩⟩⟩⟩) odX5_newName
def ct_31 : aCt := (mX5_nameOfToken, [.inr (.inl [82])], ([((82, 10), [(1, 20, 1)])], []), [(some (.inl [(-2, -2, 1)]), [], [], []), (some (.inl [(0, 0, 1)]), [], [], []), (some (.inl [(1, 1, 1)]), [], [((82, 10), [(2, 20, 1)])], []), (some (.inl [(10, 10, 1)]), [], [((82, 10), [(11, 20, 1)])], []), (some (.inl [(11, 11, 1)]), [], [((82, 10), [(12, 20, 1)])], []), (some (.inl [(12, 12, 1)]), [], [((82, 10), [(13, 20, 1)])], []), (some (.inl [(13, 13, 1)]), [], [((82, 10), [(14, 20, 1)])], []), (some (.inl [(14, 14, 1)]), [], [((82, 10), [(15, 20, 1)])], []), (some (.inl [(15, 15, 1)]), [], [((82, 10), [(16, 20, 1)])], []), (some (.inl [(16, 16, 1)]), [], [((82, 10), [(17, 20, 1)])], []), (some (.inl [(17, 17, 1)]), [], [((82, 10), [(18, 20, 1)])], []), (some (.inl [(18, 18, 1)]), [], [((82, 10), [(19, 20, 1)])], []), (some (.inl [(19, 19, 1)]), [], [((82, 10), [(20, 20, 1)])], []), (some (.inl [(2, 2, 1)]), [], [((82, 10), [(3, 20, 1)])], []), (some (.inl [(3, 3, 1)]), [], [((82, 10), [(4, 20, 1)])], []), (some (.inl [(4, 4, 1)]), [], [((82, 10), [(5, 20, 1)])], []), (some (.inl [(5, 5, 1)]), [], [((82, 10), [(6, 20, 1)])], []), (some (.inl [(6, 6, 1)]), [], [((82, 10), [(7, 20, 1)])], []), (some (.inl [(7, 7, 1)]), [], [((82, 10), [(8, 20, 1)])], []), (some (.inl [(8, 8, 1)]), [], [((82, 10), [(9, 20, 1)])], []), (some (.inl [(9, 9, 1)]), [], [((82, 10), [(10, 20, 1)])], [])], [], [], 1)
set_option maxRecDepth 100000 in
theorem S_31 : aSpec wd ct_31 := bChk_ok wx_ok btX5_nameOfToken (lk := [(251, 0, 1, ct_13)]) (nds := [(7, [(0, .inr (.inl [82])), (1, .inr (.inr false)), (3, .inl [(0, 0, 1)])], [], [sl_2], [], (20, [])), (7, [(0, .inr (.inl [82])), (1, .inr (.inr false)), (3, .inl [(1, 1, 1)])], [], [sl_2], [], (19, [])), (7, [(0, .inr (.inl [82])), (1, .inr (.inr false)), (3, .inl [(2, 2, 1)])], [], [sl_3], [], (18, [])), (7, [(0, .inr (.inl [82])), (1, .inr (.inr false)), (3, .inl [(3, 3, 1)])], [], [sl_4], [], (17, [])), (7, [(0, .inr (.inl [82])), (1, .inr (.inr false)), (3, .inl [(4, 4, 1)])], [], [sl_5], [], (16, [])), (7, [(0, .inr (.inl [82])), (1, .inr (.inr false)), (3, .inl [(5, 5, 1)])], [], [sl_6], [], (15, [])), (7, [(0, .inr (.inl [82])), (1, .inr (.inr false)), (3, .inl [(6, 6, 1)])], [], [sl_7], [], (14, [])), (7, [(0, .inr (.inl [82])), (1, .inr (.inr false)), (3, .inl [(7, 7, 1)])], [], [sl_8], [], (13, [])), (7, [(0, .inr (.inl [82])), (1, .inr (.inr false)), (3, .inl [(8, 8, 1)])], [], [sl_9], [], (12, [])), (7, [(0, .inr (.inl [82])), (1, .inr (.inr false)), (3, .inl [(9, 9, 1)])], [], [sl_10], [], (11, [])), (7, [(0, .inr (.inl [82])), (1, .inr (.inr false)), (3, .inl [(10, 10, 1)])], [], [sl_11], [], (10, [])), (7, [(0, .inr (.inl [82])), (1, .inr (.inr false)), (3, .inl [(11, 11, 1)])], [], [sl_12], [], (9, [])), (7, [(0, .inr (.inl [82])), (1, .inr (.inr false)), (3, .inl [(12, 12, 1)])], [], [sl_13], [], (8, [])), (7, [(0, .inr (.inl [82])), (1, .inr (.inr false)), (3, .inl [(13, 13, 1)])], [], [sl_14], [], (7, [])), (7, [(0, .inr (.inl [82])), (1, .inr (.inr false)), (3, .inl [(14, 14, 1)])], [], [sl_15], [], (6, [])), (7, [(0, .inr (.inl [82])), (1, .inr (.inr false)), (3, .inl [(15, 15, 1)])], [], [sl_16], [], (5, [])), (7, [(0, .inr (.inl [82])), (1, .inr (.inr false)), (3, .inl [(16, 16, 1)])], [], [sl_17], [], (4, [])), (7, [(0, .inr (.inl [82])), (1, .inr (.inr false)), (3, .inl [(17, 17, 1)])], [], [sl_18], [], (3, [])), (7, [(0, .inr (.inl [82])), (1, .inr (.inr false)), (3, .inl [(18, 18, 1)])], [], [sl_19], [], (2, [])), (7, [(0, .inr (.inl [82])), (1, .inr (.inr false)), (3, .inl [(19, 19, 1)])], [], [sl_20], [], (1, [])), (7, [(0, .inr (.inl [82])), (1, .inr (.inr false)), (3, .inl [(20, 20, 1)])], [], [sl_21], [], (0, []))]) (fk := []) (rk := (21, [])) (sp := 128) (fuel := 3000) (by decide +kernel) (List.forall_mem_cons.mpr ⟨⟨ml_5_251, S_13⟩, fun _ h => nomatch h⟩) odX5_nameOfToken
def ct_32 : aCt := (mX5_faulty, [.inr (.inl [82]), .inl [(2, 2, 1)]], ([((82, 11), [(0, 0, 1)])], []), [(some (.inl [(0, 0, 1)]), [], [((82, 11), [(2, 2, 1)])], [])], [(82, 11, 13)], [], 0)
set_option maxRecDepth 100000 in
theorem S_32 : aSpec wd ct_32 := bChk_ok wx_ok btX5_faulty (lk := []) (nds := []) (fk := []) (rk := (1, [])) (sp := 0) (fuel := 3000) (by decide +kernel) (fun _ h => nomatch h) odX5_faulty
set_option maxRecDepth 100000 in
theorem btX5_toldName : bTab oX5_toldName tX5_toldName := ⟨ofX5_toldName, by decide +kernel⟩
def ct_33 : aCt := (mX5_toldName, [.inr (.inl [82]), .inl [(1, 1, 1)]], ([((82, 10), [(1, 20, 1)]), ((82, 11), [(0, 0, 1)])], []), [(some (.inl [(0, 0, 1)]), [], [((82, 11), [(1, 2, 1)])], []), (some (.inl [(1, 1, 1)]), [], [((82, 5), [(0, 6, 1)]), ((82, 11), [(0, 0, 1)])], [])], [(82, 2, 6), (82, 11, 13)], [], 2)
set_option maxRecDepth 100000 in
theorem S_33 : aSpec wd ct_33 := bChk_ok wx_ok btX5_toldName (lk := [(248, 0, 1, ct_31), (70, 0, 1, ct_10), (80, 0, 1, ct_11), (76, 0, 2, ct_12), (76, 0, 2, ct_32)]) (nds := []) (fk := []) (rk := (1, [])) (sp := 0) (fuel := 3000) (by decide +kernel) (List.forall_mem_cons.mpr ⟨⟨ml_5_248, S_31⟩, List.forall_mem_cons.mpr ⟨⟨ml_5_70, S_10⟩, List.forall_mem_cons.mpr ⟨⟨ml_5_80, S_11⟩, List.forall_mem_cons.mpr ⟨⟨ml_5_76, S_12⟩, List.forall_mem_cons.mpr ⟨⟨ml_5_76, S_32⟩, fun _ h => nomatch h⟩⟩⟩⟩⟩) odX5_toldName
def ct_34 : aCt := (mX5_toldName, [.inr (.inl [82]), .inl [(1, 1, 1)]], ([((82, 5), [(0, 6, 1)]), ((82, 10), [(1, 20, 1)]), ((82, 11), [(0, 0, 1)])], []), [(some (.inl [(0, 0, 1)]), [], [((82, 5), [(0, 6, 1)]), ((82, 11), [(1, 2, 1)])], []), (some (.inl [(1, 1, 1)]), [], [((82, 5), [(0, 6, 1)]), ((82, 11), [(0, 0, 1)])], [])], [(82, 2, 6), (82, 11, 13)], [], 2)
set_option maxRecDepth 100000 in
theorem S_34 : aSpec wd ct_34 := bChk_ok wx_ok btX5_toldName (lk := [(248, 0, 1, ct_31), (70, 0, 1, ct_10), (80, 0, 1, ct_11), (76, 0, 2, ct_12), (76, 0, 2, ct_32)]) (nds := []) (fk := []) (rk := (1, [])) (sp := 0) (fuel := 3000) (by decide +kernel) (List.forall_mem_cons.mpr ⟨⟨ml_5_248, S_31⟩, List.forall_mem_cons.mpr ⟨⟨ml_5_70, S_10⟩, List.forall_mem_cons.mpr ⟨⟨ml_5_80, S_11⟩, List.forall_mem_cons.mpr ⟨⟨ml_5_76, S_12⟩, List.forall_mem_cons.mpr ⟨⟨ml_5_76, S_32⟩, fun _ h => nomatch h⟩⟩⟩⟩⟩) odX5_toldName
def ct_35 : aCt := (mX5_whole, [.inr (.inl [82]), .inl [(1, 1, 1)], .inl [(99, 99, 1)]], ([((82, 5), [(0, 6, 1)]), ((82, 11), [(0, 0, 1)])], []), [(some (.inl [(0, 0, 1)]), [], [((82, 5), [(-2147483648, 6, 1), (100, 2147483647, 1)]), ((82, 11), [(1, 1, 1), (4, 4, 1)])], []), (some (.inl [(1, 1, 1)]), [], [((82, 5), [(1, 99, 1)]), ((82, 11), [(0, 0, 1)])], [])], [(82, 2, 6), (82, 11, 13)], [], 2)
set_option maxRecDepth 100000 in
theorem S_35 : aSpec wd ct_35 := bChk_ok wx_ok btX5_whole (lk := [(70, 0, 1, ct_10), (76, 0, 2, ct_12), (76, 0, 2, ct_24)]) (nds := [(28, [(0, .inr (.inl [82])), (1, .inl [(1, 1, 1)]), (2, .inl [(99, 99, 1)]), (3, .inl [(0, 1000, 1)])], [], [sl_23, sl_24], [], (1000, [(0, -1)]))]) (fk := []) (rk := (1001, [])) (sp := 268435456) (fuel := 3000) (by decide +kernel) (List.forall_mem_cons.mpr ⟨⟨ml_5_70, S_10⟩, List.forall_mem_cons.mpr ⟨⟨ml_5_76, S_12⟩, List.forall_mem_cons.mpr ⟨⟨ml_5_76, S_24⟩, fun _ h => nomatch h⟩⟩⟩) odX5_whole
def ct_36 : aCt := (mX5_whole, [.inr (.inl [82]), .inl [(0, 0, 1)], .inl [(9999, 9999, 1)]], ([((82, 5), [(1, 99, 1)]), ((82, 11), [(0, 0, 1)])], []), [(some (.inl [(0, 0, 1)]), [], [((82, 5), [(-2147483648, -1, 1), (1, 99, 1), (10000, 2147483647, 1)]), ((82, 11), [(1, 1, 1), (4, 4, 1)])], []), (some (.inl [(1, 1, 1)]), [], [((82, 5), [(0, 9999, 1)]), ((82, 11), [(0, 0, 1)])], [])], [(82, 2, 6), (82, 11, 13)], [], 2)
set_option maxRecDepth 100000 in
theorem S_36 : aSpec wd ct_36 := bChk_ok wx_ok btX5_whole (lk := [(70, 0, 1, ct_10), (76, 0, 2, ct_12), (76, 0, 2, ct_24)]) (nds := [(28, [(0, .inr (.inl [82])), (1, .inl [(0, 0, 1)]), (2, .inl [(9999, 9999, 1)]), (3, .inl [(0, 1000, 1)])], [], [sl_23, sl_24], [], (1000, [(0, -1)]))]) (fk := []) (rk := (1001, [])) (sp := 268435456) (fuel := 3000) (by decide +kernel) (List.forall_mem_cons.mpr ⟨⟨ml_5_70, S_10⟩, List.forall_mem_cons.mpr ⟨⟨ml_5_76, S_12⟩, List.forall_mem_cons.mpr ⟨⟨ml_5_76, S_24⟩, fun _ h => nomatch h⟩⟩⟩) odX5_whole
set_option maxRecDepth 100000 in
theorem btX5_readBox : bTab oX5_readBox tX5_readBox := ⟨ofX5_readBox, by decide +kernel⟩
def ct_37 : aCt := (mX5_readBox, [.inr (.inl [82]), .inr (.inl [66, 67, 68, 69, 70, 71, 72, 73])], ([((42, 7), [(0, 7, 1)]), ((82, 11), [(0, 0, 1)])], [((82, 6), 42)]), [(some (.inl [(0, 0, 1)]), [], [((42, 7), [(0, 7, 1)]), ((82, 11), [(1, 4, 1)])], []), (some (.inl [(1, 1, 1)]), [], [((42, 7), [(1, 8, 1)]), ((82, 5), [(0, 9999, 1)]), ((82, 10), [(1, 20, 1)]), ((82, 11), [(0, 0, 1)])], [])], [(42, 7, 8), (66, 0, 4), (67, 0, 4), (68, 0, 4), (69, 0, 4), (70, 0, 4), (71, 0, 4), (72, 0, 4), (73, 0, 4), (82, 2, 6), (82, 10, 13), (84, 0, 20), (85, 0, 20)], [], 3)
set_option maxRecDepth 100000 in
theorem S_37 : aSpec wd ct_37 := bChk_ok wx_ok btX5_readBox (lk := [(173, 0, 2, ct_34), (173, 0, 2, ct_33), (142, 0, 3, ct_35), (142, 0, 3, ct_36), (158, 0, 3, ct_30), (138, 0, 2, ct_23)]) (nds := []) (fk := []) (rk := (1, [])) (sp := 0) (fuel := 3000) (by decide +kernel) (List.forall_mem_cons.mpr ⟨⟨ml_5_173, S_34⟩, List.forall_mem_cons.mpr ⟨⟨ml_5_173, S_33⟩, List.forall_mem_cons.mpr ⟨⟨ml_5_142, S_35⟩, List.forall_mem_cons.mpr ⟨⟨ml_5_142, S_36⟩, List.forall_mem_cons.mpr ⟨⟨ml_5_158, S_30⟩, List.forall_mem_cons.mpr ⟨⟨ml_5_138, S_23⟩, fun _ h => nomatch h⟩⟩⟩⟩⟩⟩) odX5_readBox
def ct_38 : aCt := (mX5_newName, [.inr (.inl [82]), .inl [(3, 3, 1)], .inl [(4, 4, 1)]], ([((82, 11), [(0, 0, 1)])], []), [(some (.inl [(0, 0, 1)]), [], [((82, 11), [(1, 1, 1), (3, 3, 1)])], []), (some (.inl [(1, 1, 1)]), [], [((82, 10), [(1, 20, 1)]), ((82, 11), [(0, 0, 1)])], [])], [(82, 2, 5), (82, 10, 13), (84, 0, 20), (85, 0, 20)], [], 2)
set_option maxRecDepth 100000 in
theorem S_38 : aSpec wd ct_38 := bChk_ok wx_ok btX5_newName (lk := [(70, 0, 1, ct_10), (80, 0, 1, ct_11), (248, 0, 1, ct_14), (251, 0, 1, ct_13), (76, 0, 2, ct_12), (76, 0, 2, ct_15)]) (nds := []) (fk := [40]) (rk := (1, [])) (sp := 0) (fuel := 3000) (by decide +kernel) (List.forall_mem_cons.mpr ⟨⟨ml_5_70, S_10⟩, List.forall_mem_cons.mpr ⟨⟨ml_5_80, S_11⟩, List.forall_mem_cons.mpr ⟨⟨ml_5_248, S_14⟩, List.forall_mem_cons.mpr ⟨⟨ml_5_251, S_13⟩, List.forall_mem_cons.mpr ⟨⟨ml_5_76, S_12⟩, List.forall_mem_cons.mpr ⟨⟨ml_5_76, S_15⟩, fun _ h => nomatch h⟩⟩⟩⟩⟩⟩) odX5_newName
end Pk0
section Pk1
set_option maxRecDepth 100000 in
theorem btX5_kindOfToken : bTab oX5_kindOfToken tX5_kindOfToken := ⟨ofX5_kindOfToken, by decide +kernel⟩
def ct_39 : aCt := (mX5_kindOfToken, [.inr (.inl [82])], ([], []), [(some (.inl [(2, 3, 1)]), [], [], []), (some (.inl [(-2, -2, 1)]), [], [], []), (some (.inl [(0, 0, 1)]), [], [], []), (some (.inl [(1, 1, 1)]), [], [], [])], [], [], 1)
set_option maxRecDepth 100000 in
theorem S_39 : aSpec wd ct_39 := bChk_ok wx_ok btX5_kindOfToken (lk := [(245, 0, 2, ct_X5_isToken_0)]) (nds := []) (fk := []) (rk := (1, [])) (sp := 0) (fuel := 3000) (by decide +kernel) (List.forall_mem_cons.mpr ⟨⟨ml_5_245, S_X5_isToken_0⟩, fun _ h => nomatch h⟩) odX5_kindOfToken
def ct_40 : aCt := (mX5_whole, [.inr (.inl [82]), .inl [(0, 0, 1)], .inl [(99, 99, 1)]], ([((82, 5), [(0, 6, 1)]), ((82, 11), [(0, 0, 1)])], []), [(some (.inl [(0, 0, 1)]), [], [((82, 5), [(-2147483648, 6, 1), (100, 2147483647, 1)]), ((82, 11), [(1, 1, 1), (4, 4, 1)])], []), (some (.inl [(1, 1, 1)]), [], [((82, 5), [(0, 99, 1)]), ((82, 11), [(0, 0, 1)])], [])], [(82, 2, 6), (82, 11, 13)], [], 2)
set_option maxRecDepth 100000 in
theorem S_40 : aSpec wd ct_40 := bChk_ok wx_ok btX5_whole (lk := [(70, 0, 1, ct_10), (76, 0, 2, ct_12), (76, 0, 2, ct_24)]) (nds := [(28, [(0, .inr (.inl [82])), (1, .inl [(0, 0, 1)]), (2, .inl [(99, 99, 1)]), (3, .inl [(0, 1000, 1)])], [], [sl_23, sl_24], [], (1000, [(0, -1)]))]) (fk := []) (rk := (1001, [])) (sp := 268435456) (fuel := 3000) (by decide +kernel) (List.forall_mem_cons.mpr ⟨⟨ml_5_70, S_10⟩, List.forall_mem_cons.mpr ⟨⟨ml_5_76, S_12⟩, List.forall_mem_cons.mpr ⟨⟨ml_5_76, S_24⟩, fun _ h => nomatch h⟩⟩⟩) odX5_whole
def ct_41 : aCt := (mX5_whole, [.inr (.inl [82]), .inl [(0, 0, 1)], .inl [(99, 99, 1)]], ([((82, 5), [(0, 99, 1)]), ((82, 11), [(0, 0, 1)])], []), [(some (.inl [(0, 0, 1)]), [], [((82, 11), [(1, 1, 1), (4, 4, 1)])], []), (some (.inl [(1, 1, 1)]), [], [((82, 5), [(0, 99, 1)]), ((82, 11), [(0, 0, 1)])], [])], [(82, 2, 6), (82, 11, 13)], [], 2)
set_option maxRecDepth 100000 in
theorem S_41 : aSpec wd ct_41 := bChk_ok wx_ok btX5_whole (lk := [(70, 0, 1, ct_10), (76, 0, 2, ct_12), (76, 0, 2, ct_24)]) (nds := [(28, [(0, .inr (.inl [82])), (1, .inl [(0, 0, 1)]), (2, .inl [(99, 99, 1)]), (3, .inl [(0, 1000, 1)])], [], [sl_23, sl_24], [], (1000, [(0, -1)]))]) (fk := []) (rk := (1001, [])) (sp := 268435456) (fuel := 3000) (by decide +kernel) (List.forall_mem_cons.mpr ⟨⟨ml_5_70, S_10⟩, List.forall_mem_cons.mpr ⟨⟨ml_5_76, S_12⟩, List.forall_mem_cons.mpr ⟨⟨ml_5_76, S_24⟩, fun _ h => nomatch h⟩⟩⟩) odX5_whole
set_option maxRecDepth 100000 in
theorem btX5_readWhale : bTab oX5_readWhale tX5_readWhale := ⟨ofX5_readWhale, by decide +kernel⟩
def ct_42 : aCt := (mX5_readWhale, [.inr (.inl [82]), .inr (.inl [65])], ([((42, 6), [(4, 4, 1)]), ((82, 11), [(0, 0, 1)])], [((82, 6), 42)]), [(some (.inl [(0, 0, 1)]), [], [((42, 6), [(4, 4, 1)]), ((82, 11), [(1, 4, 1)])], []), (some (.inl [(1, 1, 1)]), [], [((42, 6), [(5, 5, 1)]), ((82, 5), [(0, 99, 1)]), ((82, 10), [(1, 20, 1)]), ((82, 11), [(0, 0, 1)])], [])], [(42, 6, 7), (65, 0, 4), (82, 2, 6), (82, 10, 13), (84, 0, 20), (85, 0, 20)], [], 3)
set_option maxRecDepth 100000 in
theorem S_42 : aSpec wd ct_42 := bChk_ok wx_ok btX5_readWhale (lk := [(70, 0, 1, ct_10), (195, 0, 1, ct_39), (173, 0, 2, ct_33), (76, 0, 2, ct_12), (142, 0, 3, ct_40), (142, 0, 3, ct_41), (158, 0, 3, ct_38), (138, 0, 2, ct_23)]) (nds := []) (fk := []) (rk := (1, [])) (sp := 0) (fuel := 3000) (by decide +kernel) (List.forall_mem_cons.mpr ⟨⟨ml_5_70, S_10⟩, List.forall_mem_cons.mpr ⟨⟨ml_5_195, S_39⟩, List.forall_mem_cons.mpr ⟨⟨ml_5_173, S_33⟩, List.forall_mem_cons.mpr ⟨⟨ml_5_76, S_12⟩, List.forall_mem_cons.mpr ⟨⟨ml_5_142, S_40⟩, List.forall_mem_cons.mpr ⟨⟨ml_5_142, S_41⟩, List.forall_mem_cons.mpr ⟨⟨ml_5_158, S_38⟩, List.forall_mem_cons.mpr ⟨⟨ml_5_138, S_23⟩, fun _ h => nomatch h⟩⟩⟩⟩⟩⟩⟩⟩) odX5_readWhale
def ct_43 : aCt := (mX5_newName, [.inr (.inl [82]), .inl [(3, 3, 1)], .inl [(3, 3, 1)]], ([((82, 11), [(0, 0, 1)])], []), [(some (.inl [(0, 0, 1)]), [], [((82, 11), [(1, 1, 1), (3, 3, 1)])], []), (some (.inl [(1, 1, 1)]), [], [((82, 10), [(1, 20, 1)]), ((82, 11), [(0, 0, 1)])], [])], [(82, 2, 5), (82, 10, 13), (84, 0, 20), (85, 0, 20)], [], 2)
set_option maxRecDepth 100000 in
theorem S_43 : aSpec wd ct_43 := bChk_ok wx_ok btX5_newName (lk := [(70, 0, 1, ct_10), (80, 0, 1, ct_11), (248, 0, 1, ct_14), (251, 0, 1, ct_13), (76, 0, 2, ct_12), (76, 0, 2, ct_15)]) (nds := []) (fk := [40]) (rk := (1, [])) (sp := 0) (fuel := 3000) (by decide +kernel) (List.forall_mem_cons.mpr ⟨⟨ml_5_70, S_10⟩, List.forall_mem_cons.mpr ⟨⟨ml_5_80, S_11⟩, List.forall_mem_cons.mpr ⟨⟨ml_5_248, S_14⟩, List.forall_mem_cons.mpr ⟨⟨ml_5_251, S_13⟩, List.forall_mem_cons.mpr ⟨⟨ml_5_76, S_12⟩, List.forall_mem_cons.mpr ⟨⟨ml_5_76, S_15⟩, fun _ h => nomatch h⟩⟩⟩⟩⟩⟩) odX5_newName
def ct_44 : aCt := (mX5_readWhale, [.inr (.inl [82]), .inr (.inl [64])], ([((42, 6), [(3, 3, 1)]), ((82, 11), [(0, 0, 1)])], [((82, 6), 42)]), [(some (.inl [(0, 0, 1)]), [], [((42, 6), [(3, 3, 1)]), ((82, 11), [(1, 4, 1)])], []), (some (.inl [(1, 1, 1)]), [], [((42, 6), [(4, 4, 1)]), ((82, 5), [(0, 99, 1)]), ((82, 10), [(1, 20, 1)]), ((82, 11), [(0, 0, 1)])], [])], [(42, 6, 7), (64, 0, 4), (82, 2, 6), (82, 10, 13), (84, 0, 20), (85, 0, 20)], [], 3)
set_option maxRecDepth 100000 in
theorem S_44 : aSpec wd ct_44 := bChk_ok wx_ok btX5_readWhale (lk := [(70, 0, 1, ct_10), (195, 0, 1, ct_39), (173, 0, 2, ct_33), (76, 0, 2, ct_12), (142, 0, 3, ct_40), (142, 0, 3, ct_41), (158, 0, 3, ct_43), (138, 0, 2, ct_23)]) (nds := []) (fk := []) (rk := (1, [])) (sp := 0) (fuel := 3000) (by decide +kernel) (List.forall_mem_cons.mpr ⟨⟨ml_5_70, S_10⟩, List.forall_mem_cons.mpr ⟨⟨ml_5_195, S_39⟩, List.forall_mem_cons.mpr ⟨⟨ml_5_173, S_33⟩, List.forall_mem_cons.mpr ⟨⟨ml_5_76, S_12⟩, List.forall_mem_cons.mpr ⟨⟨ml_5_142, S_40⟩, List.forall_mem_cons.mpr ⟨⟨ml_5_142, S_41⟩, List.forall_mem_cons.mpr ⟨⟨ml_5_158, S_43⟩, List.forall_mem_cons.mpr ⟨⟨ml_5_138, S_23⟩, fun _ h => nomatch h⟩⟩⟩⟩⟩⟩⟩⟩) odX5_readWhale
def ct_45 : aCt := (mX5_newName, [.inr (.inl [82]), .inl [(3, 3, 1)], .inl [(2, 2, 1)]], ([((82, 11), [(0, 0, 1)])], []), [(some (.inl [(0, 0, 1)]), [], [((82, 11), [(1, 1, 1), (3, 3, 1)])], []), (some (.inl [(1, 1, 1)]), [], [((82, 10), [(1, 20, 1)]), ((82, 11), [(0, 0, 1)])], [])], [(82, 2, 5), (82, 10, 13), (84, 0, 20), (85, 0, 20)], [], 2)
set_option maxRecDepth 100000 in
theorem S_45 : aSpec wd ct_45 := bChk_ok wx_ok btX5_newName (lk := [(70, 0, 1, ct_10), (80, 0, 1, ct_11), (248, 0, 1, ct_14), (251, 0, 1, ct_13), (76, 0, 2, ct_12), (76, 0, 2, ct_15)]) (nds := []) (fk := [40]) (rk := (1, [])) (sp := 0) (fuel := 3000) (by decide +kernel) (List.forall_mem_cons.mpr ⟨⟨ml_5_70, S_10⟩, List.forall_mem_cons.mpr ⟨⟨ml_5_80, S_11⟩, List.forall_mem_cons.mpr ⟨⟨ml_5_248, S_14⟩, List.forall_mem_cons.mpr ⟨⟨ml_5_251, S_13⟩, List.forall_mem_cons.mpr ⟨⟨ml_5_76, S_12⟩, List.forall_mem_cons.mpr ⟨⟨ml_5_76, S_15⟩, fun _ h => nomatch h⟩⟩⟩⟩⟩⟩) odX5_newName
def ct_46 : aCt := (mX5_readWhale, [.inr (.inl [82]), .inr (.inl [63])], ([((42, 6), [(2, 2, 1)]), ((82, 11), [(0, 0, 1)])], [((82, 6), 42)]), [(some (.inl [(0, 0, 1)]), [], [((42, 6), [(2, 2, 1)]), ((82, 11), [(1, 4, 1)])], []), (some (.inl [(1, 1, 1)]), [], [((42, 6), [(3, 3, 1)]), ((82, 5), [(0, 99, 1)]), ((82, 10), [(1, 20, 1)]), ((82, 11), [(0, 0, 1)])], [])], [(42, 6, 7), (63, 0, 4), (82, 2, 6), (82, 10, 13), (84, 0, 20), (85, 0, 20)], [], 3)
set_option maxRecDepth 100000 in
theorem S_46 : aSpec wd ct_46 := bChk_ok wx_ok btX5_readWhale (lk := [(70, 0, 1, ct_10), (195, 0, 1, ct_39), (173, 0, 2, ct_33), (76, 0, 2, ct_12), (142, 0, 3, ct_40), (142, 0, 3, ct_41), (158, 0, 3, ct_45), (138, 0, 2, ct_23)]) (nds := []) (fk := []) (rk := (1, [])) (sp := 0) (fuel := 3000) (by decide +kernel) (List.forall_mem_cons.mpr ⟨⟨ml_5_70, S_10⟩, List.forall_mem_cons.mpr ⟨⟨ml_5_195, S_39⟩, List.forall_mem_cons.mpr ⟨⟨ml_5_173, S_33⟩, List.forall_mem_cons.mpr ⟨⟨ml_5_76, S_12⟩, List.forall_mem_cons.mpr ⟨⟨ml_5_142, S_40⟩, List.forall_mem_cons.mpr ⟨⟨ml_5_142, S_41⟩, List.forall_mem_cons.mpr ⟨⟨ml_5_158, S_45⟩, List.forall_mem_cons.mpr ⟨⟨ml_5_138, S_23⟩, fun _ h => nomatch h⟩⟩⟩⟩⟩⟩⟩⟩) odX5_readWhale
def ct_47 : aCt := (mX5_newName, [.inr (.inl [82]), .inl [(3, 3, 1)], .inl [(1, 1, 1)]], ([((82, 11), [(0, 0, 1)])], []), [(some (.inl [(0, 0, 1)]), [], [((82, 11), [(1, 1, 1), (3, 3, 1)])], []), (some (.inl [(1, 1, 1)]), [], [((82, 10), [(1, 20, 1)]), ((82, 11), [(0, 0, 1)])], [])], [(82, 2, 5), (82, 10, 13), (84, 0, 20), (85, 0, 20)], [], 2)
set_option maxRecDepth 100000 in
theorem S_47 : aSpec wd ct_47 := bChk_ok wx_ok btX5_newName (lk := [(70, 0, 1, ct_10), (80, 0, 1, ct_11), (248, 0, 1, ct_14), (251, 0, 1, ct_13), (76, 0, 2, ct_12), (76, 0, 2, ct_15)]) (nds := []) (fk := [40]) (rk := (1, [])) (sp := 0) (fuel := 3000) (by decide +kernel) (List.forall_mem_cons.mpr ⟨⟨ml_5_70, S_10⟩, List.forall_mem_cons.mpr ⟨⟨ml_5_80, S_11⟩, List.forall_mem_cons.mpr ⟨⟨ml_5_248, S_14⟩, List.forall_mem_cons.mpr ⟨⟨ml_5_251, S_13⟩, List.forall_mem_cons.mpr ⟨⟨ml_5_76, S_12⟩, List.forall_mem_cons.mpr ⟨⟨ml_5_76, S_15⟩, fun _ h => nomatch h⟩⟩⟩⟩⟩⟩) odX5_newName
def ct_48 : aCt := (mX5_readWhale, [.inr (.inl [82]), .inr (.inl [62])], ([((42, 6), [(1, 1, 1)]), ((82, 11), [(0, 0, 1)])], [((82, 6), 42)]), [(some (.inl [(0, 0, 1)]), [], [((42, 6), [(1, 1, 1)]), ((82, 11), [(1, 4, 1)])], []), (some (.inl [(1, 1, 1)]), [], [((42, 6), [(2, 2, 1)]), ((82, 5), [(0, 99, 1)]), ((82, 10), [(1, 20, 1)]), ((82, 11), [(0, 0, 1)])], [])], [(42, 6, 7), (62, 0, 4), (82, 2, 6), (82, 10, 13), (84, 0, 20), (85, 0, 20)], [], 3)
set_option maxRecDepth 100000 in
theorem S_48 : aSpec wd ct_48 := bChk_ok wx_ok btX5_readWhale (lk := [(70, 0, 1, ct_10), (195, 0, 1, ct_39), (173, 0, 2, ct_33), (76, 0, 2, ct_12), (142, 0, 3, ct_40), (142, 0, 3, ct_41), (158, 0, 3, ct_47), (138, 0, 2, ct_23)]) (nds := []) (fk := []) (rk := (1, [])) (sp := 0) (fuel := 3000) (by decide +kernel) (List.forall_mem_cons.mpr ⟨⟨ml_5_70, S_10⟩, List.forall_mem_cons.mpr ⟨⟨ml_5_195, S_39⟩, List.forall_mem_cons.mpr ⟨⟨ml_5_173, S_33⟩, List.forall_mem_cons.mpr ⟨⟨ml_5_76, S_12⟩, List.forall_mem_cons.mpr ⟨⟨ml_5_142, S_40⟩, List.forall_mem_cons.mpr ⟨⟨ml_5_142, S_41⟩, List.forall_mem_cons.mpr ⟨⟨ml_5_158, S_47⟩, List.forall_mem_cons.mpr ⟨⟨ml_5_138, S_23⟩, fun _ h => nomatch h⟩⟩⟩⟩⟩⟩⟩⟩) odX5_readWhale
def ct_49 : aCt := (mX5_newName, [.inr (.inl [82]), .inl [(3, 3, 1)], .inl [(0, 0, 1)]], ([((82, 11), [(0, 0, 1)])], []), [(some (.inl [(0, 0, 1)]), [], [((82, 11), [(1, 1, 1), (3, 3, 1)])], []), (some (.inl [(1, 1, 1)]), [], [((82, 10), [(1, 20, 1)]), ((82, 11), [(0, 0, 1)])], [])], [(82, 2, 5), (82, 10, 13), (84, 0, 20), (85, 0, 20)], [], 2)
set_option maxRecDepth 100000 in
theorem S_49 : aSpec wd ct_49 := bChk_ok wx_ok btX5_newName (lk := [(70, 0, 1, ct_10), (80, 0, 1, ct_11), (248, 0, 1, ct_14), (251, 0, 1, ct_13), (76, 0, 2, ct_12), (76, 0, 2, ct_15)]) (nds := []) (fk := [40]) (rk := (1, [])) (sp := 0) (fuel := 3000) (by decide +kernel) (List.forall_mem_cons.mpr ⟨⟨ml_5_70, S_10⟩, List.forall_mem_cons.mpr ⟨⟨ml_5_80, S_11⟩, List.forall_mem_cons.mpr ⟨⟨ml_5_248, S_14⟩, List.forall_mem_cons.mpr ⟨⟨ml_5_251, S_13⟩, List.forall_mem_cons.mpr ⟨⟨ml_5_76, S_12⟩, List.forall_mem_cons.mpr ⟨⟨ml_5_76, S_15⟩, fun _ h => nomatch h⟩⟩⟩⟩⟩⟩) odX5_newName
def ct_50 : aCt := (mX5_readWhale, [.inr (.inl [82]), .inr (.inl [61])], ([((42, 6), [(0, 0, 1)]), ((82, 11), [(0, 0, 1)])], [((82, 6), 42)]), [(some (.inl [(0, 0, 1)]), [], [((42, 6), [(0, 0, 1)]), ((82, 11), [(1, 4, 1)])], []), (some (.inl [(1, 1, 1)]), [], [((42, 6), [(1, 1, 1)]), ((82, 5), [(0, 99, 1)]), ((82, 10), [(1, 20, 1)]), ((82, 11), [(0, 0, 1)])], [])], [(42, 6, 7), (61, 0, 4), (82, 2, 6), (82, 10, 13), (84, 0, 20), (85, 0, 20)], [], 3)
set_option maxRecDepth 100000 in
theorem S_50 : aSpec wd ct_50 := bChk_ok wx_ok btX5_readWhale (lk := [(70, 0, 1, ct_10), (195, 0, 1, ct_39), (173, 0, 2, ct_33), (76, 0, 2, ct_12), (142, 0, 3, ct_40), (142, 0, 3, ct_41), (158, 0, 3, ct_49), (138, 0, 2, ct_23)]) (nds := []) (fk := []) (rk := (1, [])) (sp := 0) (fuel := 3000) (by decide +kernel) (List.forall_mem_cons.mpr ⟨⟨ml_5_70, S_10⟩, List.forall_mem_cons.mpr ⟨⟨ml_5_195, S_39⟩, List.forall_mem_cons.mpr ⟨⟨ml_5_173, S_33⟩, List.forall_mem_cons.mpr ⟨⟨ml_5_76, S_12⟩, List.forall_mem_cons.mpr ⟨⟨ml_5_142, S_40⟩, List.forall_mem_cons.mpr ⟨⟨ml_5_142, S_41⟩, List.forall_mem_cons.mpr ⟨⟨ml_5_158, S_49⟩, List.forall_mem_cons.mpr ⟨⟨ml_5_138, S_23⟩, fun _ h => nomatch h⟩⟩⟩⟩⟩⟩⟩⟩) odX5_readWhale
def ct_51 : aCt := (mX5_toldName, [.inr (.inl [82]), .inl [(1, 1, 1)]], ([((82, 11), [(0, 0, 1)])], []), [(some (.inl [(0, 0, 1)]), [], [((82, 11), [(1, 2, 1)])], []), (some (.inl [(1, 1, 1)]), [], [((82, 5), [(0, 6, 1)]), ((82, 10), [(1, 20, 1)]), ((82, 11), [(0, 0, 1)])], [])], [(82, 2, 6), (82, 11, 13)], [], 2)
set_option maxRecDepth 100000 in
theorem S_51 : aSpec wd ct_51 := bChk_ok wx_ok btX5_toldName (lk := [(70, 0, 1, ct_10), (80, 0, 1, ct_11), (248, 0, 1, ct_14), (76, 0, 2, ct_12), (76, 0, 2, ct_32)]) (nds := []) (fk := []) (rk := (1, [])) (sp := 0) (fuel := 3000) (by decide +kernel) (List.forall_mem_cons.mpr ⟨⟨ml_5_70, S_10⟩, List.forall_mem_cons.mpr ⟨⟨ml_5_80, S_11⟩, List.forall_mem_cons.mpr ⟨⟨ml_5_248, S_14⟩, List.forall_mem_cons.mpr ⟨⟨ml_5_76, S_12⟩, List.forall_mem_cons.mpr ⟨⟨ml_5_76, S_32⟩, fun _ h => nomatch h⟩⟩⟩⟩⟩) odX5_toldName
def sl_25 : (Nat × Nat) × aI := ((42, 5), [(0, 11, 1)])
set_option maxRecDepth 100000 in
theorem btX4_wayBetween : bTab oX4_wayBetween tX4_wayBetween := ⟨ofX4_wayBetween, by decide +kernel⟩
def ct_52 : aCt := (mX4_wayBetween, [.inr (.inl [42]), .inl [(0, 6, 1)], .inl [(0, 6, 1)]], ([((42, 5), [(0, 11, 1)])], []), [(some (.inl [(0, 10, 1)]), [], [((42, 5), [(1, 11, 1)])], []), (some (.inl [(-2, -2, 1)]), [], [], [])], [], [], 0)
set_option maxRecDepth 100000 in
theorem S_52 : aSpec wd ct_52 := bChk_ok wx_ok btX4_wayBetween (lk := []) (nds := [(2, [(0, .inr (.inl [42])), (1, .inl [(0, 6, 1)]), (2, .inl [(0, 6, 1)]), (3, .inl [(0, 11, 1)])], [], [sl_25], [], (11, [(2, -1)]))]) (fk := []) (rk := (12, [])) (sp := 4) (fuel := 3000) (by decide +kernel) (fun _ h => nomatch h) odX4_wayBetween
def ct_53 : aCt := (mX5_whole, [.inr (.inl [82]), .inl [(1, 1, 1)], .inl [(15, 15, 1)]], ([((82, 5), [(1, 99, 1)]), ((82, 11), [(0, 0, 1)])], []), [(some (.inl [(0, 0, 1)]), [], [((82, 11), [(1, 1, 1), (4, 4, 1)])], []), (some (.inl [(1, 1, 1)]), [], [((82, 5), [(1, 15, 1)]), ((82, 11), [(0, 0, 1)])], [])], [(82, 2, 6), (82, 11, 13)], [], 2)
set_option maxRecDepth 100000 in
theorem S_53 : aSpec wd ct_53 := bChk_ok wx_ok btX5_whole (lk := [(70, 0, 1, ct_10), (76, 0, 2, ct_12), (76, 0, 2, ct_24)]) (nds := [(28, [(0, .inr (.inl [82])), (1, .inl [(1, 1, 1)]), (2, .inl [(15, 15, 1)]), (3, .inl [(0, 1000, 1)])], [], [sl_23, sl_24], [], (1000, [(0, -1)]))]) (fk := []) (rk := (1001, [])) (sp := 268435456) (fuel := 3000) (by decide +kernel) (List.forall_mem_cons.mpr ⟨⟨ml_5_70, S_10⟩, List.forall_mem_cons.mpr ⟨⟨ml_5_76, S_12⟩, List.forall_mem_cons.mpr ⟨⟨ml_5_76, S_24⟩, fun _ h => nomatch h⟩⟩⟩) odX5_whole
set_option maxRecDepth 100000 in
theorem btX5_readWay : bTab oX5_readWay tX5_readWay := ⟨ofX5_readWay, by decide +kernel⟩
def ct_54 : aCt := (mX5_readWay, [.inr (.inl [82]), .inr (.inl [49, 50, 51, 52, 53, 54, 55, 56, 57, 58, 59, 60])], ([((42, 5), [(0, 11, 1)]), ((82, 11), [(0, 0, 1)])], [((82, 6), 42)]), [(some (.inl [(0, 0, 1)]), [], [((42, 5), [(0, 11, 1)]), ((82, 11), [(1, 4, 1)])], []), (some (.inl [(1, 1, 1)]), [], [((42, 5), [(1, 12, 1)]), ((82, 5), [(1, 15, 1)]), ((82, 10), [(1, 20, 1)]), ((82, 11), [(0, 0, 1)])], [])], [(42, 5, 6), (49, 0, 4), (50, 0, 4), (51, 0, 4), (52, 0, 4), (53, 0, 4), (54, 0, 4), (55, 0, 4), (56, 0, 4), (57, 0, 4), (58, 0, 4), (59, 0, 4), (60, 0, 4), (82, 2, 6), (82, 11, 13)], [], 3)
set_option maxRecDepth 100000 in
theorem S_54 : aSpec wd ct_54 := bChk_ok wx_ok btX5_readWay (lk := [(173, 0, 2, ct_34), (173, 0, 2, ct_51), (76, 0, 2, ct_15), (142, 0, 3, ct_35), (142, 0, 3, ct_53), (184, 0, 3, ct_52), (138, 0, 2, ct_23)]) (nds := []) (fk := []) (rk := (1, [])) (sp := 0) (fuel := 3000) (by decide +kernel) (List.forall_mem_cons.mpr ⟨⟨ml_5_173, S_34⟩, List.forall_mem_cons.mpr ⟨⟨ml_5_173, S_51⟩, List.forall_mem_cons.mpr ⟨⟨ml_5_76, S_15⟩, List.forall_mem_cons.mpr ⟨⟨ml_5_142, S_35⟩, List.forall_mem_cons.mpr ⟨⟨ml_5_142, S_53⟩, List.forall_mem_cons.mpr ⟨⟨ml_5_184, S_52⟩, List.forall_mem_cons.mpr ⟨⟨ml_5_138, S_23⟩, fun _ h => nomatch h⟩⟩⟩⟩⟩⟩⟩) odX5_readWay
def ct_55 : aCt := (mX5_toldName, [.inr (.inl [82]), .inl [(3, 3, 1)]], ([((82, 11), [(0, 0, 1)])], []), [(some (.inl [(0, 0, 1)]), [], [((82, 11), [(1, 2, 1)])], []), (some (.inl [(1, 1, 1)]), [], [((82, 5), [(0, 4, 1)]), ((82, 10), [(1, 20, 1)]), ((82, 11), [(0, 0, 1)])], [])], [(82, 2, 6), (82, 11, 13)], [], 2)
set_option maxRecDepth 100000 in
theorem S_55 : aSpec wd ct_55 := bChk_ok wx_ok btX5_toldName (lk := [(70, 0, 1, ct_10), (80, 0, 1, ct_11), (248, 0, 1, ct_14), (76, 0, 2, ct_12), (76, 0, 2, ct_32)]) (nds := []) (fk := []) (rk := (1, [])) (sp := 0) (fuel := 3000) (by decide +kernel) (List.forall_mem_cons.mpr ⟨⟨ml_5_70, S_10⟩, List.forall_mem_cons.mpr ⟨⟨ml_5_80, S_11⟩, List.forall_mem_cons.mpr ⟨⟨ml_5_248, S_14⟩, List.forall_mem_cons.mpr ⟨⟨ml_5_76, S_12⟩, List.forall_mem_cons.mpr ⟨⟨ml_5_76, S_32⟩, fun _ h => nomatch h⟩⟩⟩⟩⟩) odX5_toldName
def ct_56 : aCt := (mX5_toldName, [.inr (.inl [82]), .inl [(1, 1, 1)]], ([((82, 5), [(0, 4, 1)]), ((82, 10), [(1, 20, 1)]), ((82, 11), [(0, 0, 1)])], []), [(some (.inl [(0, 0, 1)]), [], [((82, 5), [(0, 4, 1)]), ((82, 11), [(1, 2, 1)])], []), (some (.inl [(1, 1, 1)]), [], [((82, 5), [(0, 6, 1)]), ((82, 11), [(0, 0, 1)])], [])], [(82, 2, 6), (82, 11, 13)], [], 2)
set_option maxRecDepth 100000 in
theorem S_56 : aSpec wd ct_56 := bChk_ok wx_ok btX5_toldName (lk := [(248, 0, 1, ct_31), (70, 0, 1, ct_10), (80, 0, 1, ct_11), (76, 0, 2, ct_12), (76, 0, 2, ct_32)]) (nds := []) (fk := []) (rk := (1, [])) (sp := 0) (fuel := 3000) (by decide +kernel) (List.forall_mem_cons.mpr ⟨⟨ml_5_248, S_31⟩, List.forall_mem_cons.mpr ⟨⟨ml_5_70, S_10⟩, List.forall_mem_cons.mpr ⟨⟨ml_5_80, S_11⟩, List.forall_mem_cons.mpr ⟨⟨ml_5_76, S_12⟩, List.forall_mem_cons.mpr ⟨⟨ml_5_76, S_32⟩, fun _ h => nomatch h⟩⟩⟩⟩⟩) odX5_toldName
end Pk1
section Pk2
def sl_26 : (Nat × Nat) × aI := ((42, 8), [(0, 7, 1)])
set_option maxRecDepth 100000 in
theorem btX4_lastSpoutOf : bTab oX4_lastSpoutOf tX4_lastSpoutOf := ⟨ofX4_lastSpoutOf, by decide +kernel⟩
def ct_57 : aCt := (mX4_lastSpoutOf, [.inr (.inl [42]), .inl [(0, 4, 1)]], ([((42, 8), [(0, 7, 1)])], []), [(some (.inl [(0, 6, 1)]), [], [], []), (some (.inl [(-2, -2, 1)]), [], [], [])], [], [], 0)
set_option maxRecDepth 100000 in
theorem S_57 : aSpec wd ct_57 := bChk_ok wx_ok btX4_lastSpoutOf (lk := []) (nds := [(7, [(0, .inr (.inl [42])), (1, .inl [(0, 4, 1)]), (2, .inl [(-1, 6, 1)])], [], [sl_26], [], (1, [(1, 1)]))]) (fk := []) (rk := (8, [])) (sp := 128) (fuel := 3000) (by decide +kernel) (fun _ h => nomatch h) odX4_lastSpoutOf
def ct_58 : aCt := (mX5_whole, [.inr (.inl [82]), .inl [(0, 0, 1)], .inl [(9999, 9999, 1)]], ([((82, 5), [(0, 6, 1)]), ((82, 11), [(0, 0, 1)])], []), [(some (.inl [(0, 0, 1)]), [], [((82, 5), [(-2147483648, 6, 1), (10000, 2147483647, 1)]), ((82, 11), [(1, 1, 1), (4, 4, 1)])], []), (some (.inl [(1, 1, 1)]), [], [((82, 5), [(0, 9999, 1)]), ((82, 11), [(0, 0, 1)])], [])], [(82, 2, 6), (82, 11, 13)], [], 2)
set_option maxRecDepth 100000 in
theorem S_58 : aSpec wd ct_58 := bChk_ok wx_ok btX5_whole (lk := [(70, 0, 1, ct_10), (76, 0, 2, ct_12), (76, 0, 2, ct_24)]) (nds := [(28, [(0, .inr (.inl [82])), (1, .inl [(0, 0, 1)]), (2, .inl [(9999, 9999, 1)]), (3, .inl [(0, 1000, 1)])], [], [sl_23, sl_24], [], (1000, [(0, -1)]))]) (fk := []) (rk := (1001, [])) (sp := 268435456) (fuel := 3000) (by decide +kernel) (List.forall_mem_cons.mpr ⟨⟨ml_5_70, S_10⟩, List.forall_mem_cons.mpr ⟨⟨ml_5_76, S_12⟩, List.forall_mem_cons.mpr ⟨⟨ml_5_76, S_24⟩, fun _ h => nomatch h⟩⟩⟩) odX5_whole
def ct_59 : aCt := (mX5_whole, [.inr (.inl [82]), .inl aTop, .inl [(9999, 9999, 1)]], ([((82, 5), [(0, 6, 1)]), ((82, 11), [(0, 0, 1)])], []), [(some (.inl [(0, 0, 1)]), [], [((82, 11), [(1, 1, 1), (4, 4, 1)])], []), (some (.inl [(1, 1, 1)]), [], [((82, 5), [(-2147483648, 9999, 1)]), ((82, 11), [(0, 0, 1)])], [])], [(82, 2, 6), (82, 11, 13)], [], 2)
set_option maxRecDepth 100000 in
theorem S_59 : aSpec wd ct_59 := bChk_ok wx_ok btX5_whole (lk := [(70, 0, 1, ct_10), (76, 0, 2, ct_12), (76, 0, 2, ct_24)]) (nds := [(28, [(0, .inr (.inl [82])), (1, .inl aTop), (2, .inl [(9999, 9999, 1)]), (3, .inl [(0, 1000, 1)])], [], [sl_23, sl_24], [], (1000, [(1, -1)]))]) (fk := []) (rk := (1001, [])) (sp := 268435456) (fuel := 3000) (by decide +kernel) (List.forall_mem_cons.mpr ⟨⟨ml_5_70, S_10⟩, List.forall_mem_cons.mpr ⟨⟨ml_5_76, S_12⟩, List.forall_mem_cons.mpr ⟨⟨ml_5_76, S_24⟩, fun _ h => nomatch h⟩⟩⟩) odX5_whole
set_option maxRecDepth 100000 in
theorem btX5_readSpout : bTab oX5_readSpout tX5_readSpout := ⟨ofX5_readSpout, by decide +kernel⟩
def ct_60 : aCt := (mX5_readSpout, [.inr (.inl [82]), .inr (.inl [74, 75, 76, 77, 78, 79, 80, 81])], ([((42, 8), [(0, 7, 1)]), ((82, 11), [(0, 0, 1)])], [((82, 6), 42)]), [(some (.inl [(0, 0, 1)]), [], [((42, 8), [(0, 7, 1)]), ((82, 11), [(1, 2, 1), (4, 4, 1)])], []), (some (.inl [(1, 1, 1)]), [], [((42, 8), [(1, 8, 1)]), ((82, 5), [(-2147483648, 9999, 1)]), ((82, 10), [(1, 20, 1)]), ((82, 11), [(0, 0, 1)])], [])], [(42, 8, 9), (74, 0, 3), (75, 0, 3), (76, 0, 3), (77, 0, 3), (78, 0, 3), (79, 0, 3), (80, 0, 3), (81, 0, 3), (82, 2, 6), (82, 11, 13)], [], 3)
set_option maxRecDepth 100000 in
theorem S_60 : aSpec wd ct_60 := bChk_ok wx_ok btX5_readSpout (lk := [(173, 0, 2, ct_56), (173, 0, 2, ct_55), (142, 0, 3, ct_58), (240, 0, 2, ct_57), (138, 0, 2, ct_23), (142, 0, 3, ct_59)]) (nds := []) (fk := []) (rk := (1, [])) (sp := 0) (fuel := 3000) (by decide +kernel) (List.forall_mem_cons.mpr ⟨⟨ml_5_173, S_56⟩, List.forall_mem_cons.mpr ⟨⟨ml_5_173, S_55⟩, List.forall_mem_cons.mpr ⟨⟨ml_5_142, S_58⟩, List.forall_mem_cons.mpr ⟨⟨ml_5_240, S_57⟩, List.forall_mem_cons.mpr ⟨⟨ml_5_138, S_23⟩, List.forall_mem_cons.mpr ⟨⟨ml_5_142, S_59⟩, fun _ h => nomatch h⟩⟩⟩⟩⟩⟩) odX5_readSpout
set_option maxRecDepth 100000 in
theorem btX5_readLine : bTab oX5_readLine tX5_readLine := ⟨ofX5_readLine, by decide +kernel⟩
def ct_61 : aCt := (mX5_readLine, [.inr (.inl [82])], ([((82, 11), [(0, 0, 1)])], [((82, 6), 42)]), [(some (.inl [(0, 0, 1)]), [], [((82, 11), [(1, 7, 1)])], []), (some (.inl [(1, 1, 1)]), [], [((82, 11), [(0, 0, 1)])], [])], [(42, 0, 9), (43, 0, 7), (44, 0, 7), (49, 0, 4), (50, 0, 4), (51, 0, 4), (52, 0, 4), (53, 0, 4), (54, 0, 4), (55, 0, 4), (56, 0, 4), (57, 0, 4), (58, 0, 4), (59, 0, 4), (60, 0, 4), (61, 0, 4), (62, 0, 4), (63, 0, 4), (64, 0, 4), (65, 0, 4), (66, 0, 4), (67, 0, 4), (68, 0, 4), (69, 0, 4), (70, 0, 4), (71, 0, 4), (72, 0, 4), (73, 0, 4), (74, 0, 3), (75, 0, 3), (76, 0, 3), (77, 0, 3), (78, 0, 3), (79, 0, 3), (80, 0, 3), (81, 0, 3), (82, 2, 6), (82, 10, 13), (84, 0, 20), (85, 0, 20)], [], 4)
set_option maxRecDepth 100000 in
theorem S_61 : aSpec wd ct_61 := bChk_ok wx_ok btX5_readLine (lk := [(90, 0, 1, ct_20), (87, 0, 1, ct_29), (70, 0, 1, ct_10), (80, 0, 1, ct_11), (111, 0, 2, ct_42), (111, 0, 2, ct_44), (111, 0, 2, ct_46), (111, 0, 2, ct_48), (111, 0, 2, ct_50), (76, 0, 2, ct_21), (76, 0, 2, ct_22), (76, 0, 2, ct_15), (76, 0, 2, ct_12), (122, 0, 2, ct_37), (133, 0, 2, ct_60), (100, 0, 2, ct_54)]) (nds := []) (fk := [172]) (rk := (1, [])) (sp := 0) (fuel := 3000) (by decide +kernel) (List.forall_mem_cons.mpr ⟨⟨ml_5_90, S_20⟩, List.forall_mem_cons.mpr ⟨⟨ml_5_87, S_29⟩, List.forall_mem_cons.mpr ⟨⟨ml_5_70, S_10⟩, List.forall_mem_cons.mpr ⟨⟨ml_5_80, S_11⟩, List.forall_mem_cons.mpr ⟨⟨ml_5_111, S_42⟩, List.forall_mem_cons.mpr ⟨⟨ml_5_111, S_44⟩, List.forall_mem_cons.mpr ⟨⟨ml_5_111, S_46⟩, List.forall_mem_cons.mpr ⟨⟨ml_5_111, S_48⟩, List.forall_mem_cons.mpr ⟨⟨ml_5_111, S_50⟩, List.forall_mem_cons.mpr ⟨⟨ml_5_76, S_21⟩, List.forall_mem_cons.mpr ⟨⟨ml_5_76, S_22⟩, List.forall_mem_cons.mpr ⟨⟨ml_5_76, S_15⟩, List.forall_mem_cons.mpr ⟨⟨ml_5_76, S_12⟩, List.forall_mem_cons.mpr ⟨⟨ml_5_122, S_37⟩, List.forall_mem_cons.mpr ⟨⟨ml_5_133, S_60⟩, List.forall_mem_cons.mpr ⟨⟨ml_5_100, S_54⟩, fun _ h => nomatch h⟩⟩⟩⟩⟩⟩⟩⟩⟩⟩⟩⟩⟩⟩⟩⟩) odX5_readLine
set_option maxRecDepth 100000 in
theorem btX5_readPost : bTab oX5_readPost tX5_readPost := ⟨ofX5_readPost, by decide +kernel⟩
def ct_62 : aCt := (mX5_readPost, [.inr (.inl [82]), .inl [(0, 1000, 1)], .inr (.inl [42])], ([], []), [(some (.inl [(0, 0, 1)]), [], [((82, 11), [(1, 7, 1)])], [((82, 6), 42)]), (some (.inl [(1, 1, 1)]), [], [((42, 4), [(1, 7, 1)]), ((82, 11), [(0, 0, 1)])], [((82, 6), 42)])], [(42, 0, 9), (43, 0, 7), (44, 0, 7), (49, 0, 4), (50, 0, 4), (51, 0, 4), (52, 0, 4), (53, 0, 4), (54, 0, 4), (55, 0, 4), (56, 0, 4), (57, 0, 4), (58, 0, 4), (59, 0, 4), (60, 0, 4), (61, 0, 4), (62, 0, 4), (63, 0, 4), (64, 0, 4), (65, 0, 4), (66, 0, 4), (67, 0, 4), (68, 0, 4), (69, 0, 4), (70, 0, 4), (71, 0, 4), (72, 0, 4), (73, 0, 4), (74, 0, 3), (75, 0, 3), (76, 0, 3), (77, 0, 3), (78, 0, 3), (79, 0, 3), (80, 0, 3), (81, 0, 3), (82, 1, 6), (82, 10, 13), (84, 0, 20), (85, 0, 20)], [(82, 6, 7)], 5)
set_option maxRecDepth 100000 in
theorem S_62 : aSpec wd ct_62 := bChk_ok wx_ok btX5_readPost (lk := [(66, 0, 1, ct_61), (55, 0, 1, ct_7), (70, 0, 1, ct_10), (76, 0, 2, ct_22), (76, 0, 2, ct_12)]) (nds := [(47, [(0, .inr (.inl [82])), (1, .inl [(0, 1000, 1)]), (2, .inr (.inl [42])), (3, .inl [(0, 1023, 1)])], [], [sl_24], [((82, 6), 42)], (1023, [(1, -1)]))]) (fk := []) (rk := (1024, [])) (sp := 140737488355328) (fuel := 3000) (by decide +kernel) (List.forall_mem_cons.mpr ⟨⟨ml_5_66, S_61⟩, List.forall_mem_cons.mpr ⟨⟨ml_5_55, S_7⟩, List.forall_mem_cons.mpr ⟨⟨ml_5_70, S_10⟩, List.forall_mem_cons.mpr ⟨⟨ml_5_76, S_22⟩, List.forall_mem_cons.mpr ⟨⟨ml_5_76, S_12⟩, fun _ h => nomatch h⟩⟩⟩⟩⟩) odX5_readPost
def sl_27 : (Nat × Nat) × aI := ((86, 0), [(0, 0, 1)])
def sl_28 : (Nat × Nat) × aI := ((86, 1), [(0, 0, 1)])
set_option maxRecDepth 100000 in
theorem btX2_begin : bTab oX2_begin tX2_begin := ⟨ofX2_begin, by decide +kernel⟩
def ct_63 : aCt := (mX2_begin, [.inr (.inl [86]), .inr (.inl [42])], ([], []), [(none, [], [], [])], [(86, 0, 2), (87, 0, 5), (88, 0, 5), (89, 0, 8), (90, 0, 8), (91, 0, 8)], [], 0)
set_option maxRecDepth 100000 in
theorem S_63 : aSpec wd ct_63 := bChk_ok wx_ok btX2_begin (lk := []) (nds := [(12, [(0, .inr (.inl [86])), (1, .inr (.inl [42])), (2, .inl [(0, 5, 1)])], [], [sl_27, sl_28], [], (14, [(0, -1)])), (50, [(0, .inr (.inl [86])), (1, .inr (.inl [42])), (2, .inl [(0, 8, 1)])], [], [sl_27, sl_28], [], (8, [(0, -1)]))]) (fk := []) (rk := (15, [])) (sp := 1125899906846720) (fuel := 3000) (by decide +kernel) (fun _ h => nomatch h) odX2_begin
set_option maxRecDepth 100000 in
theorem btX11_takeDraft : bTab oX11_takeDraft tX11_takeDraft := ⟨ofX11_takeDraft, by decide +kernel⟩
def ct_64 : aCt := (mX11_takeDraft, [.inr (.inl [0])], ([], [((0, 3), 2), ((0, 4), 42), ((92, 0), 2), ((94, 0), 2), ((96, 0), 2)]), [(none, [], [((0, 15), [(0, 0, 1)])], [((0, 3), 42), ((0, 4), 2), ((92, 0), 42), ((94, 0), 42), ((96, 0), 42)])], [(0, 13, 14), (0, 15, 16), (86, 0, 2), (87, 0, 5), (88, 0, 5), (89, 0, 8), (90, 0, 8), (91, 0, 8)], [(0, 3, 4), (0, 4, 5), (92, 0, 1), (94, 0, 1), (96, 0, 1)], 1)
set_option maxRecDepth 100000 in
theorem S_64 : aSpec wd ct_64 := bChk_ok wx_ok btX11_takeDraft (lk := [(391, 0, 2, ct_63)]) (nds := []) (fk := []) (rk := (1, [])) (sp := 0) (fuel := 3000) (by decide +kernel) (List.forall_mem_cons.mpr ⟨⟨ml_11_391, S_63⟩, fun _ h => nomatch h⟩) odX11_takeDraft
set_option maxRecDepth 100000 in
theorem btX11_granted : bTab oX11_granted tX11_granted := ⟨ofX11_granted, by decide +kernel⟩
def ct_65 : aCt := (mX11_granted, [.inr (.inl [0]), .inl [(1, 7, 1)]], ([], []), [(some (.inl [(1, 7, 1)]), [], [((0, 2), [(0, 0, 1)])], [])], [(0, 2, 3)], [], 0)
set_option maxRecDepth 100000 in
theorem S_65 : aSpec wd ct_65 := bChk_ok wx_ok btX11_granted (lk := []) (nds := []) (fk := []) (rk := (1, [])) (sp := 0) (fuel := 3000) (by decide +kernel) (fun _ h => nomatch h) odX11_granted
def ct_66 : aCt := (mX11_refused, [.inr (.inl [0]), .inl [(4, 4, 1)]], ([], []), [(some (.inl [(-1, -1, 1)]), [], [((0, 2), [(4, 4, 1)])], [])], [(0, 2, 3)], [], 0)
set_option maxRecDepth 100000 in
theorem S_66 : aSpec wd ct_66 := bChk_ok wx_ok btX11_refused (lk := []) (nds := []) (fk := []) (rk := (1, [])) (sp := 0) (fuel := 3000) (by decide +kernel) (fun _ h => nomatch h) odX11_refused
set_option maxRecDepth 100000 in
theorem btX11_post : bTab oX11_post tX11_post := ⟨ofX11_post, by decide +kernel⟩
def ct_67 : aCt := (mX11_post, [.inr (.inl [0]), .inl aTop], ([], [((0, 3), 2), ((0, 4), 42), ((92, 0), 2), ((94, 0), 2), ((96, 0), 2)]), [(some (.inl [(1, 7, 1)]), [none, some [(0, 1000, 1)]], [((0, 1), [(0, 0, 1)]), ((0, 2), [(0, 0, 1)]), ((0, 15), [(0, 0, 1)]), ((42, 4), [(1, 7, 1)]), ((82, 11), [(0, 0, 1)])], [((0, 3), 42), ((0, 4), 2), ((82, 6), 42), ((92, 0), 42), ((94, 0), 42), ((96, 0), 42)]), (some (.inl [(-1, -1, 1)]), [none, some [(0, 1000, 1)]], [((0, 1), [(0, 0, 1)]), ((0, 2), [(4, 4, 1)]), ((82, 11), [(1, 7, 1)])], [((0, 3), 2), ((0, 4), 42), ((82, 6), 42), ((92, 0), 2), ((94, 0), 2), ((96, 0), 2)]), (some (.inl [(-1, -1, 1)]), [none, some [(-2147483648, -1, 1), (1, 2147483647, 1)]], [((0, 2), [(2, 2, 1)])], [((0, 3), 2), ((0, 4), 42), ((92, 0), 2), ((94, 0), 2), ((96, 0), 2)])], [(0, 1, 3), (0, 13, 14), (0, 15, 16), (42, 0, 9), (43, 0, 7), (44, 0, 7), (49, 0, 4), (50, 0, 4), (51, 0, 4), (52, 0, 4), (53, 0, 4), (54, 0, 4), (55, 0, 4), (56, 0, 4), (57, 0, 4), (58, 0, 4), (59, 0, 4), (60, 0, 4), (61, 0, 4), (62, 0, 4), (63, 0, 4), (64, 0, 4), (65, 0, 4), (66, 0, 4), (67, 0, 4), (68, 0, 4), (69, 0, 4), (70, 0, 4), (71, 0, 4), (72, 0, 4), (73, 0, 4), (74, 0, 3), (75, 0, 3), (76, 0, 3), (77, 0, 3), (78, 0, 3), (79, 0, 3), (80, 0, 3), (81, 0, 3), (82, 1, 6), (82, 10, 13), (84, 0, 20), (85, 0, 20), (86, 0, 2), (87, 0, 5), (88, 0, 5), (89, 0, 8), (90, 0, 8), (91, 0, 8)], [(0, 3, 4), (0, 4, 5), (82, 6, 7), (92, 0, 1), (94, 0, 1), (96, 0, 1)], 6)
set_option maxRecDepth 100000 in
theorem S_67 : aSpec wd ct_67 := bChk_ok wx_ok btX11_post (lk := [(106, 0, 1, ct_64), (98, 0, 2, ct_6), (98, 0, 2, ct_66), (112, 0, 2, ct_65), (102, 0, 3, ct_62)]) (nds := []) (fk := []) (rk := (1, [])) (sp := 0) (fuel := 3000) (by decide +kernel) (List.forall_mem_cons.mpr ⟨⟨ml_11_106, S_64⟩, List.forall_mem_cons.mpr ⟨⟨ml_11_98, S_6⟩, List.forall_mem_cons.mpr ⟨⟨ml_11_98, S_66⟩, List.forall_mem_cons.mpr ⟨⟨ml_11_112, S_65⟩, List.forall_mem_cons.mpr ⟨⟨ml_11_102, S_62⟩, fun _ h => nomatch h⟩⟩⟩⟩⟩) odX11_post
set_option maxRecDepth 100000 in
theorem btX11_fault : bTab oX11_fault tX11_fault := ⟨ofX11_fault, by decide +kernel⟩
def ct_68 : aCt := (mX11_fault, [.inr (.inl [0])], ([], []), [(some (.inl aTop), [], [], [])], [], [], 0)
set_option maxRecDepth 100000 in
theorem S_68 : aSpec wd ct_68 := bChk_ok wx_ok btX11_fault (lk := []) (nds := []) (fk := []) (rk := (1, [])) (sp := 0) (fuel := 3000) (by decide +kernel) (fun _ h => nomatch h) odX11_fault
set_option maxRecDepth 100000 in
theorem btX11_where : bTab oX11_where tX11_where := ⟨ofX11_where, by decide +kernel⟩
def ct_69 : aCt := (mX11_where, [.inr (.inl [0])], ([], []), [(some (.inl aTop), [], [((0, 2), [(4, 4, 1)])], []), (some (.inl [(-1, -1, 1)]), [], [((0, 2), [(0, 3, 1), (5, 6, 1)])], [])], [], [], 0)
set_option maxRecDepth 100000 in
theorem S_69 : aSpec wd ct_69 := bChk_ok wx_ok btX11_where (lk := []) (nds := []) (fk := []) (rk := (1, [])) (sp := 0) (fuel := 3000) (by decide +kernel) (fun _ h => nomatch h) odX11_where
set_option maxRecDepth 100000 in
theorem btX11_isWhale : bTab oX11_isWhale tX11_isWhale := ⟨ofX11_isWhale, by decide +kernel⟩
def ct_70 : aCt := (mX11_isWhale, [.inr (.inl [0]), .inl aTop], ([], [((0, 3), 2)]), [(some (.inl [(0, 0, 1)]), [none, some [(0, 2147483647, 1)]], [((2, 6), [(0, 0, 1)])], []), (some (.inl [(0, 0, 1)]), [none, some [(1, 2147483647, 1)]], [((2, 6), [(1, 1, 1)])], []), (some (.inl [(0, 0, 1)]), [none, some [(2, 2147483647, 1)]], [((2, 6), [(2, 2, 1)])], []), (some (.inl [(0, 0, 1)]), [none, some [(3, 2147483647, 1)]], [((2, 6), [(3, 3, 1)])], []), (some (.inl [(0, 0, 1)]), [none, some [(4, 2147483647, 1)]], [((2, 6), [(4, 4, 1)])], []), (some (.inl [(0, 0, 1)]), [none, some [(5, 2147483647, 1)]], [((2, 6), [(5, 5, 1)])], []), (some (.inl [(0, 0, 1)]), [none, some [(-2147483648, -1, 1)]], [], []), (some (.inl [(1, 1, 1)]), [none, some [(0, 0, 1)]], [((2, 6), [(1, 1, 1)])], []), (some (.inl [(1, 1, 1)]), [none, some [(0, 1, 1)]], [((2, 6), [(2, 2, 1)])], []), (some (.inl [(1, 1, 1)]), [none, some [(0, 2, 1)]], [((2, 6), [(3, 3, 1)])], []), (some (.inl [(1, 1, 1)]), [none, some [(0, 3, 1)]], [((2, 6), [(4, 4, 1)])], []), (some (.inl [(1, 1, 1)]), [none, some [(0, 4, 1)]], [((2, 6), [(5, 5, 1)])], [])], [], [], 0)
set_option maxRecDepth 100000 in
theorem S_70 : aSpec wd ct_70 := bChk_ok wx_ok btX11_isWhale (lk := []) (nds := []) (fk := [12]) (rk := (1, [])) (sp := 0) (fuel := 3000) (by decide +kernel) (fun _ h => nomatch h) odX11_isWhale
def ct_71 : aCt := (mX11_granted, [.inr (.inl [0]), .inl aTop], ([], []), [(some (.inl aTop), [], [((0, 2), [(0, 0, 1)])], [])], [(0, 2, 3)], [], 0)
set_option maxRecDepth 100000 in
theorem S_71 : aSpec wd ct_71 := bChk_ok wx_ok btX11_granted (lk := []) (nds := []) (fk := []) (rk := (1, [])) (sp := 0) (fuel := 3000) (by decide +kernel) (fun _ h => nomatch h) odX11_granted
def ct_72 : aCt := (mX11_granted, [.inr (.inl [0]), .inl [(0, 6, 1)]], ([], []), [(some (.inl [(0, 6, 1)]), [], [((0, 2), [(0, 0, 1)])], [])], [(0, 2, 3)], [], 0)
set_option maxRecDepth 100000 in
theorem S_72 : aSpec wd ct_72 := bChk_ok wx_ok btX11_granted (lk := []) (nds := []) (fk := []) (rk := (1, [])) (sp := 0) (fuel := 3000) (by decide +kernel) (fun _ h => nomatch h) odX11_granted
def ct_73 : aCt := (mX11_granted, [.inr (.inl [0]), .inl [(0, 3, 1)]], ([], []), [(some (.inl [(0, 3, 1)]), [], [((0, 2), [(0, 0, 1)])], [])], [(0, 2, 3)], [], 0)
set_option maxRecDepth 100000 in
theorem S_73 : aSpec wd ct_73 := bChk_ok wx_ok btX11_granted (lk := []) (nds := []) (fk := []) (rk := (1, [])) (sp := 0) (fuel := 3000) (by decide +kernel) (fun _ h => nomatch h) odX11_granted
def ct_74 : aCt := (mX11_refused, [.inr (.inl [0]), .inl [(1, 1, 1)]], ([], []), [(some (.inl [(-1, -1, 1)]), [], [((0, 2), [(1, 1, 1)])], [])], [(0, 2, 3)], [], 0)
set_option maxRecDepth 100000 in
theorem S_74 : aSpec wd ct_74 := bChk_ok wx_ok btX11_refused (lk := []) (nds := []) (fk := []) (rk := (1, [])) (sp := 0) (fuel := 3000) (by decide +kernel) (fun _ h => nomatch h) odX11_refused
set_option maxRecDepth 100000 in
theorem btX11_whale : bTab oX11_whale tX11_whale := ⟨ofX11_whale, by decide +kernel⟩
def ct_75 : aCt := (mX11_whale, [.inr (.inl [0]), .inl aTop, .inl aTop], ([], [((0, 3), 2)]), [(some (.inl aTop), [none, some [(0, 4, 1)], some [(0, 4, 1)]], [((0, 2), [(0, 0, 1)]), ((2, 6), [(1, 5, 1)])], []), (some (.inl [(-1, -1, 1)]), [none, some aTop, none], [((0, 2), [(1, 1, 1)])], [])], [(0, 2, 3)], [], 1)
set_option maxRecDepth 100000 in
theorem S_75 : aSpec wd ct_75 := bChk_ok wx_ok btX11_whale (lk := [(98, 0, 2, ct_74), (112, 0, 2, ct_73), (112, 0, 2, ct_72), (121, 0, 2, ct_70), (112, 0, 2, ct_71)]) (nds := []) (fk := []) (rk := (1, [])) (sp := 0) (fuel := 3000) (by decide +kernel) (List.forall_mem_cons.mpr ⟨⟨ml_11_98, S_74⟩, List.forall_mem_cons.mpr ⟨⟨ml_11_112, S_73⟩, List.forall_mem_cons.mpr ⟨⟨ml_11_112, S_72⟩, List.forall_mem_cons.mpr ⟨⟨ml_11_121, S_70⟩, List.forall_mem_cons.mpr ⟨⟨ml_11_112, S_71⟩, fun _ h => nomatch h⟩⟩⟩⟩⟩) odX11_whale
set_option maxRecDepth 100000 in
theorem btX11_isBox : bTab oX11_isBox tX11_isBox := ⟨ofX11_isBox, by decide +kernel⟩
def ct_76 : aCt := (mX11_isBox, [.inr (.inl [0]), .inl aTop], ([], [((0, 3), 2)]), [(some (.inl [(0, 0, 1)]), [none, some aTop], [], []), (some (.inl [(1, 1, 1)]), [none, some [(0, 7, 1)]], [((2, 7), [(1, 8, 1)])], [])], [], [], 0)
set_option maxRecDepth 100000 in
theorem S_76 : aSpec wd ct_76 := bChk_ok wx_ok btX11_isBox (lk := []) (nds := []) (fk := []) (rk := (1, [])) (sp := 0) (fuel := 3000) (by decide +kernel) (fun _ h => nomatch h) odX11_isBox
set_option maxRecDepth 100000 in
theorem btX11_box : bTab oX11_box tX11_box := ⟨ofX11_box, by decide +kernel⟩
def ct_77 : aCt := (mX11_box, [.inr (.inl [0]), .inl aTop, .inl aTop], ([], [((0, 3), 2)]), [(some (.inl aTop), [none, some [(0, 7, 1)], some [(0, 5, 1)]], [((0, 2), [(0, 0, 1)]), ((2, 7), [(1, 8, 1)])], []), (some (.inl [(-1, -1, 1)]), [], [((0, 2), [(1, 1, 1)])], [])], [(0, 2, 3)], [], 1)
set_option maxRecDepth 100000 in
theorem S_77 : aSpec wd ct_77 := bChk_ok wx_ok btX11_box (lk := [(98, 0, 2, ct_74), (112, 0, 2, ct_72), (147, 0, 2, ct_76), (112, 0, 2, ct_71)]) (nds := []) (fk := []) (rk := (1, [])) (sp := 0) (fuel := 3000) (by decide +kernel) (List.forall_mem_cons.mpr ⟨⟨ml_11_98, S_74⟩, List.forall_mem_cons.mpr ⟨⟨ml_11_112, S_72⟩, List.forall_mem_cons.mpr ⟨⟨ml_11_147, S_76⟩, List.forall_mem_cons.mpr ⟨⟨ml_11_112, S_71⟩, fun _ h => nomatch h⟩⟩⟩⟩) odX11_box
set_option maxRecDepth 100000 in
theorem btX11_isIsland : bTab oX11_isIsland tX11_isIsland := ⟨ofX11_isIsland, by decide +kernel⟩
def ct_78 : aCt := (mX11_isIsland, [.inr (.inl [0]), .inl aTop], ([], [((0, 3), 2)]), [(some (.inl [(0, 0, 1)]), [none, some aTop], [], []), (some (.inl [(1, 1, 1)]), [none, some [(0, 6, 1)]], [((2, 4), [(1, 7, 1)])], [])], [], [], 0)
set_option maxRecDepth 100000 in
theorem S_78 : aSpec wd ct_78 := bChk_ok wx_ok btX11_isIsland (lk := []) (nds := []) (fk := []) (rk := (1, [])) (sp := 0) (fuel := 3000) (by decide +kernel) (fun _ h => nomatch h) odX11_isIsland
def ct_79 : aCt := (mX11_granted, [.inr (.inl [0]), .inl [(-1000, 1000, 1)]], ([], []), [(some (.inl [(-1000, 1000, 1)]), [], [((0, 2), [(0, 0, 1)])], [])], [(0, 2, 3)], [], 0)
set_option maxRecDepth 100000 in
theorem S_79 : aSpec wd ct_79 := bChk_ok wx_ok btX11_granted (lk := []) (nds := []) (fk := []) (rk := (1, [])) (sp := 0) (fuel := 3000) (by decide +kernel) (fun _ h => nomatch h) odX11_granted
set_option maxRecDepth 100000 in
theorem btX11_length : bTab oX11_length tX11_length := ⟨ofX11_length, by decide +kernel⟩
def ct_80 : aCt := (mX11_length, [.inr (.inl [0]), .inl aTop], ([], [((0, 3), 2)]), [(some (.inl [(-1000, 1000, 1)]), [none, some [(0, 6, 1)]], [((0, 2), [(0, 0, 1)]), ((2, 4), [(1, 7, 1)])], []), (some (.inl [(-1, -1, 1)]), [], [((0, 2), [(1, 1, 1)])], [])], [(0, 2, 3)], [], 1)
set_option maxRecDepth 100000 in
theorem S_80 : aSpec wd ct_80 := bChk_ok wx_ok btX11_length (lk := [(98, 0, 2, ct_74), (112, 0, 2, ct_79), (174, 0, 2, ct_78)]) (nds := []) (fk := []) (rk := (1, [])) (sp := 0) (fuel := 3000) (by decide +kernel) (List.forall_mem_cons.mpr ⟨⟨ml_11_98, S_74⟩, List.forall_mem_cons.mpr ⟨⟨ml_11_112, S_79⟩, List.forall_mem_cons.mpr ⟨⟨ml_11_174, S_78⟩, fun _ h => nomatch h⟩⟩⟩) odX11_length
set_option maxRecDepth 100000 in
theorem btX7_fallIn : bTab oX7_fallIn tX7_fallIn := ⟨ofX7_fallIn, by decide +kernel⟩
def ct_81 : aCt := (mX7_fallIn, [.inr (.inl [92]), .inl [(0, 9999, 1)]], ([], [((92, 0), 2)]), [(some (.inl [(0, 3, 1)]), [], [], []), (some (.inl [(0, 0, 1)]), [], [], [])], [], [], 0)
set_option maxRecDepth 100000 in
theorem S_81 : aSpec wd ct_81 := bChk_ok wx_ok btX7_fallIn (lk := []) (nds := []) (fk := []) (rk := (1, [])) (sp := 0) (fuel := 3000) (by decide +kernel) (fun _ h => nomatch h) odX7_fallIn
set_option maxRecDepth 100000 in
theorem btX11_noteAt : bTab oX11_noteAt tX11_noteAt := ⟨ofX11_noteAt, by decide +kernel⟩
def ct_82 : aCt := (mX11_noteAt, [.inl aTop, .inl [(1, 1000, 1)], .inl [(0, 999, 1)]], ([], []), [(some (.inl [(0, 3, 1)]), [], [], [])], [], [], 0)
set_option maxRecDepth 100000 in
theorem S_82 : aSpec wd ct_82 := bChk_ok wx_ok btX11_noteAt (lk := []) (nds := []) (fk := []) (rk := (1, [])) (sp := 0) (fuel := 3000) (by decide +kernel) (fun _ h => nomatch h) odX11_noteAt
def sl_29 : (Nat × Nat) × aI := ((2, 0), [(1, 4, 1)])
set_option maxRecDepth 100000 in
theorem btX7_raised : bTab oX7_raised tX7_raised := ⟨ofX7_raised, by decide +kernel⟩
def ct_83 : aCt := (mX7_raised, [.inr (.inl [92]), .inl aTop, .inl [(-1000, 1000, 1)], .inl [(0, 4, 1)]], ([], [((92, 0), 2)]), [(some (.inl aTop), [], [], [])], [], [], 1)
set_option maxRecDepth 100000 in
theorem S_83 : aSpec wd ct_83 := bChk_ok wx_ok btX7_raised (lk := [(40, 3, 3, ct_82)]) (nds := [(22, [(0, .inr (.inl [92])), (1, .inl aTop), (2, .inl [(-1000, 1000, 1)]), (3, .inl [(1, 4, 1)]), (4, .inl aTop), (5, .inl [(0, 1000, 1)])], [], [sl_29], [((92, 0), 2)], (1000, [(4, -1)]))]) (fk := []) (rk := (1001, [])) (sp := 4194304) (fuel := 3000) (by decide +kernel) (List.forall_mem_cons.mpr ⟨⟨ml_7_40, S_82⟩, fun _ h => nomatch h⟩) odX7_raised
def ct_84 : aCt := (mX7_raised, [.inr (.inl [92]), .inl aTop, .inl [(-1000, 1000, 1)], .inl [(-3, 4, 1)]], ([], [((92, 0), 2)]), [(some (.inl aTop), [], [], [])], [], [], 1)
set_option maxRecDepth 100000 in
theorem S_84 : aSpec wd ct_84 := bChk_ok wx_ok btX7_raised (lk := [(40, 3, 3, ct_82)]) (nds := [(22, [(0, .inr (.inl [92])), (1, .inl aTop), (2, .inl [(-1000, 1000, 1)]), (3, .inl [(-3, -1, 1), (1, 4, 1)]), (4, .inl aTop), (5, .inl [(0, 1000, 1)])], [], [sl_29], [((92, 0), 2)], (1000, [(4, -1)]))]) (fk := []) (rk := (1001, [])) (sp := 4194304) (fuel := 3000) (by decide +kernel) (List.forall_mem_cons.mpr ⟨⟨ml_7_40, S_82⟩, fun _ h => nomatch h⟩) odX7_raised
set_option maxRecDepth 100000 in
theorem btX7_songIn : bTab oX7_songIn tX7_songIn := ⟨ofX7_songIn, by decide +kernel⟩
def ct_85 : aCt := (mX7_songIn, [.inr (.inl [92]), .inl [(0, 6, 1)], .inl [(0, 9999, 1)]], ([], [((92, 0), 2)]), [(some (.inl aTop), [], [], [])], [], [], 2)
set_option maxRecDepth 100000 in
theorem S_85 : aSpec wd ct_85 := bChk_ok wx_ok btX7_songIn (lk := [(50, 0, 2, ct_81), (54, 0, 4, ct_83), (54, 0, 4, ct_84)]) (nds := []) (fk := []) (rk := (1, [])) (sp := 0) (fuel := 3000) (by decide +kernel) (List.forall_mem_cons.mpr ⟨⟨ml_7_50, S_81⟩, List.forall_mem_cons.mpr ⟨⟨ml_7_54, S_83⟩, List.forall_mem_cons.mpr ⟨⟨ml_7_54, S_84⟩, fun _ h => nomatch h⟩⟩⟩) odX7_songIn
def ct_86 : aCt := (mX11_noteAt, [.inl aTop, .inl [(-1000, 1000, 1)], .inl [(0, 999, 1)]], ([], []), [(some (.inl [(0, 3, 1)]), [], [], [])], [], [], 0)
set_option maxRecDepth 100000 in
theorem S_86 : aSpec wd ct_86 := bChk_ok wx_ok btX11_noteAt (lk := []) (nds := []) (fk := []) (rk := (1, [])) (sp := 0) (fuel := 3000) (by decide +kernel) (fun _ h => nomatch h) odX11_noteAt
set_option maxRecDepth 100000 in
theorem btX11_note : bTab oX11_note tX11_note := ⟨ofX11_note, by decide +kernel⟩
def ct_87 : aCt := (mX11_note, [.inr (.inl [0]), .inl aTop, .inl aTop], ([], [((0, 3), 2), ((92, 0), 2)]), [(some (.inl [(0, 3, 1)]), [none, some [(0, 6, 1)], some [(0, 999, 1)]], [((0, 2), [(0, 0, 1)]), ((2, 4), [(1, 7, 1)])], []), (some (.inl [(-1, -1, 1)]), [], [((0, 2), [(1, 1, 1)])], [])], [(0, 2, 3)], [], 3)
set_option maxRecDepth 100000 in
theorem S_87 : aSpec wd ct_87 := bChk_ok wx_ok btX11_note (lk := [(98, 0, 2, ct_74), (112, 0, 2, ct_73), (183, 0, 3, ct_85), (174, 0, 2, ct_78), (187, 1, 3, ct_86)]) (nds := []) (fk := []) (rk := (1, [])) (sp := 0) (fuel := 3000) (by decide +kernel) (List.forall_mem_cons.mpr ⟨⟨ml_11_98, S_74⟩, List.forall_mem_cons.mpr ⟨⟨ml_11_112, S_73⟩, List.forall_mem_cons.mpr ⟨⟨ml_11_183, S_85⟩, List.forall_mem_cons.mpr ⟨⟨ml_11_174, S_78⟩, List.forall_mem_cons.mpr ⟨⟨ml_11_187, S_86⟩, fun _ h => nomatch h⟩⟩⟩⟩⟩) odX11_note
set_option maxRecDepth 100000 in
theorem btX4_boxLength : bTab oX4_boxLength tX4_boxLength := ⟨ofX4_boxLength, by decide +kernel⟩
def ct_88 : aCt := (mX4_boxLength, [.inr (.inl [2]), .inl [(0, 7, 1)]], ([], []), [(some (.inl [(-1000, 1000, 1)]), [], [], [])], [], [], 0)
set_option maxRecDepth 100000 in
theorem S_88 : aSpec wd ct_88 := bChk_ok wx_ok btX4_boxLength (lk := []) (nds := []) (fk := []) (rk := (1, [])) (sp := 0) (fuel := 3000) (by decide +kernel) (fun _ h => nomatch h) odX4_boxLength
set_option maxRecDepth 100000 in
theorem btX11_isNoteOfBox : bTab oX11_isNoteOfBox tX11_isNoteOfBox := ⟨ofX11_isNoteOfBox, by decide +kernel⟩
def ct_89 : aCt := (mX11_isNoteOfBox, [.inr (.inl [0]), .inl aTop, .inl aTop], ([], [((0, 3), 2)]), [(some (.inl [(0, 0, 1)]), [], [], []), (some (.inl [(1, 1, 1)]), [none, some [(0, 7, 1)], some [(0, 999, 1)]], [((2, 7), [(1, 8, 1)])], [])], [], [], 1)
set_option maxRecDepth 100000 in
theorem S_89 : aSpec wd ct_89 := bChk_ok wx_ok btX11_isNoteOfBox (lk := [(198, 0, 2, ct_88), (147, 0, 2, ct_76)]) (nds := []) (fk := []) (rk := (1, [])) (sp := 0) (fuel := 3000) (by decide +kernel) (List.forall_mem_cons.mpr ⟨⟨ml_11_198, S_88⟩, List.forall_mem_cons.mpr ⟨⟨ml_11_147, S_76⟩, fun _ h => nomatch h⟩⟩) odX11_isNoteOfBox
set_option maxRecDepth 100000 in
theorem btX11_sung : bTab oX11_sung tX11_sung := ⟨ofX11_sung, by decide +kernel⟩
def ct_90 : aCt := (mX11_sung, [.inr (.inl [0]), .inl aTop, .inl aTop], ([], [((0, 3), 2)]), [(some (.inl [(0, 3, 1)]), [none, some [(0, 7, 1)], some [(0, 999, 1)]], [((0, 2), [(0, 0, 1)]), ((2, 7), [(1, 8, 1)])], []), (some (.inl [(-1, -1, 1)]), [], [((0, 2), [(1, 1, 1)])], [])], [(0, 2, 3)], [], 2)
set_option maxRecDepth 100000 in
theorem S_90 : aSpec wd ct_90 := bChk_ok wx_ok btX11_sung (lk := [(98, 0, 2, ct_74), (112, 0, 2, ct_73), (198, 0, 2, ct_88), (187, 1, 3, ct_86), (191, 0, 3, ct_89)]) (nds := []) (fk := []) (rk := (1, [])) (sp := 0) (fuel := 3000) (by decide +kernel) (List.forall_mem_cons.mpr ⟨⟨ml_11_98, S_74⟩, List.forall_mem_cons.mpr ⟨⟨ml_11_112, S_73⟩, List.forall_mem_cons.mpr ⟨⟨ml_11_198, S_88⟩, List.forall_mem_cons.mpr ⟨⟨ml_11_187, S_86⟩, List.forall_mem_cons.mpr ⟨⟨ml_11_191, S_89⟩, fun _ h => nomatch h⟩⟩⟩⟩⟩) odX11_sung
def ct_91 : aCt := (mX7_raised, [.inr (.inl [92]), .inl aTop, .inl [(-1000, 1000, 1)], .inl [(0, 0, 1)]], ([], [((92, 0), 2)]), [(some (.inl aTop), [], [], [])], [], [], 0)
set_option maxRecDepth 100000 in
theorem S_91 : aSpec wd ct_91 := bChk_ok wx_ok btX7_raised (lk := []) (nds := []) (fk := []) (rk := (1, [])) (sp := 0) (fuel := 3000) (by decide +kernel) (fun _ h => nomatch h) odX7_raised
def ct_92 : aCt := (mX7_raised, [.inr (.inl [92]), .inl aTop, .inl [(-1000, 1000, 1)], .inl [(0, 3, 1)]], ([], [((92, 0), 2)]), [(some (.inl aTop), [], [], [])], [], [], 1)
set_option maxRecDepth 100000 in
theorem S_92 : aSpec wd ct_92 := bChk_ok wx_ok btX7_raised (lk := [(40, 3, 3, ct_82)]) (nds := [(22, [(0, .inr (.inl [92])), (1, .inl aTop), (2, .inl [(-1000, 1000, 1)]), (3, .inl [(1, 3, 1)]), (4, .inl aTop), (5, .inl [(0, 1000, 1)])], [], [sl_29], [((92, 0), 2)], (1000, [(4, -1)]))]) (fk := []) (rk := (1001, [])) (sp := 4194304) (fuel := 3000) (by decide +kernel) (List.forall_mem_cons.mpr ⟨⟨ml_7_40, S_82⟩, fun _ h => nomatch h⟩) odX7_raised
set_option maxRecDepth 100000 in
theorem btJ6_bitCount_0f7a4 : bTab oJ6_bitCount_0f7a4 tJ6_bitCount_0f7a4 := ⟨ofJ6_bitCount_0f7a4, by decide +kernel⟩
def ct_93 : aCt := (mJ6_bitCount_0f7a4, [.inl [(0, 1365, 1)]], ([], []), [(some (.inl [(0, 63, 1)]), [], [], [])], [], [], 0)
set_option maxRecDepth 100000 in
theorem S_93 : aSpec wd ct_93 := bChk_ok wx_ok btJ6_bitCount_0f7a4 (lk := []) (nds := []) (fk := []) (rk := (1, [])) (sp := 0) (fuel := 3000) (by decide +kernel) (fun _ h => nomatch h) odJ6_bitCount_0f7a4
set_option maxRecDepth 100000 in
theorem btX11_unlikeNotes : bTab oX11_unlikeNotes tX11_unlikeNotes := ⟨ofX11_unlikeNotes, by decide +kernel⟩
def ct_94 : aCt := (mX11_unlikeNotes, [.inl aTop, .inl aTop], ([], []), [(some (.inl [(0, 63, 1)]), [], [], [])], [], [], 1)
set_option maxRecDepth 100000 in
theorem S_94 : aSpec wd ct_94 := bChk_ok wx_ok btX11_unlikeNotes (lk := [(411, 1, 1, ct_93)]) (nds := []) (fk := []) (rk := (1, [])) (sp := 0) (fuel := 3000) (by decide +kernel) (List.forall_mem_cons.mpr ⟨⟨ml_11_411, S_93⟩, fun _ h => nomatch h⟩) odX11_unlikeNotes
def sl_30 : (Nat × Nat) × aI := ((92, 2), [(-999, 1001, 1)])
set_option maxRecDepth 100000 in
theorem btX7_hearerOf : bTab oX7_hearerOf tX7_hearerOf := ⟨ofX7_hearerOf, by decide +kernel⟩
def ct_95 : aCt := (mX7_hearerOf, [.inr (.inl [92]), .inl aTop, .inl [(-1000, 1000, 1)], .inl [(0, 9999, 1)]], ([], [((92, 0), 2)]), [(some (.inl [(-2, -2, 1), (0, 6, 1)]), [], [], []), (some (.inl [(-2, -2, 1)]), [], [], [])], [(92, 2, 4)], [], 2)
set_option maxRecDepth 100000 in
theorem S_95 : aSpec wd ct_95 := bChk_ok wx_ok btX7_hearerOf (lk := [(50, 0, 2, ct_81), (54, 0, 4, ct_91), (54, 0, 4, ct_92), (60, 3, 2, ct_94)]) (nds := [(32, [(0, .inr (.inl [92])), (1, .inl aTop), (2, .inl [(-1000, 1000, 1)]), (3, .inl [(0, 9999, 1)]), (4, .inl aTop), (5, .inl [(-2, -2, 1), (0, 6, 1)]), (6, .inl [(0, 7, 1)])], [], [sl_30], [((92, 0), 2)], (7, [(5, -1)]))]) (fk := []) (rk := (8, [])) (sp := 4294967296) (fuel := 3000) (by decide +kernel) (List.forall_mem_cons.mpr ⟨⟨ml_7_50, S_81⟩, List.forall_mem_cons.mpr ⟨⟨ml_7_54, S_91⟩, List.forall_mem_cons.mpr ⟨⟨ml_7_54, S_92⟩, List.forall_mem_cons.mpr ⟨⟨ml_7_60, S_94⟩, fun _ h => nomatch h⟩⟩⟩⟩) odX7_hearerOf
set_option maxRecDepth 100000 in
theorem btX11_hearerIn : bTab oX11_hearerIn tX11_hearerIn := ⟨ofX11_hearerIn, by decide +kernel⟩
def ct_96 : aCt := (mX11_hearerIn, [.inr (.inl [0]), .inl [(0, 7, 1)], .inl [(0, 9999, 1)]], ([], [((0, 3), 2), ((92, 0), 2)]), [(some (.inl [(-2, -2, 1), (0, 6, 1)]), [], [], []), (some (.inl [(-2, -2, 1)]), [], [], [])], [(92, 2, 4)], [], 3)
set_option maxRecDepth 100000 in
theorem S_96 : aSpec wd ct_96 := bChk_ok wx_ok btX11_hearerIn (lk := [(198, 0, 2, ct_88), (277, 0, 4, ct_95)]) (nds := []) (fk := []) (rk := (1, [])) (sp := 0) (fuel := 3000) (by decide +kernel) (List.forall_mem_cons.mpr ⟨⟨ml_11_198, S_88⟩, List.forall_mem_cons.mpr ⟨⟨ml_11_277, S_95⟩, fun _ h => nomatch h⟩⟩) odX11_hearerIn
def ct_97 : aCt := (mX11_granted, [.inr (.inl [0]), .inl [(-2, -2, 1)]], ([], []), [(some (.inl [(-2, -2, 1)]), [], [((0, 2), [(0, 0, 1)])], [])], [(0, 2, 3)], [], 0)
set_option maxRecDepth 100000 in
theorem S_97 : aSpec wd ct_97 := bChk_ok wx_ok btX11_granted (lk := []) (nds := []) (fk := []) (rk := (1, [])) (sp := 0) (fuel := 3000) (by decide +kernel) (fun _ h => nomatch h) odX11_granted
def ct_98 : aCt := (mX11_granted, [.inr (.inl [0]), .inl [(-2, -2, 1), (0, 6, 1)]], ([], []), [(some (.inl [(-2, -2, 1), (0, 6, 1)]), [], [((0, 2), [(0, 0, 1)])], [])], [(0, 2, 3)], [], 0)
set_option maxRecDepth 100000 in
theorem S_98 : aSpec wd ct_98 := bChk_ok wx_ok btX11_granted (lk := []) (nds := []) (fk := []) (rk := (1, [])) (sp := 0) (fuel := 3000) (by decide +kernel) (fun _ h => nomatch h) odX11_granted
set_option maxRecDepth 100000 in
theorem btX11_heard : bTab oX11_heard tX11_heard := ⟨ofX11_heard, by decide +kernel⟩
def ct_99 : aCt := (mX11_heard, [.inr (.inl [0]), .inl aTop], ([], [((0, 3), 2), ((92, 0), 2)]), [(some (.inl [(-2, -2, 1), (0, 6, 1)]), [none, some [(0, 7, 1)]], [((0, 2), [(0, 0, 1)]), ((2, 7), [(1, 8, 1)])], []), (some (.inl [(-1, -1, 1)]), [], [((0, 2), [(1, 1, 1)])], []), (some (.inl [(-2, -2, 1)]), [none, some [(0, 7, 1)]], [((0, 2), [(0, 0, 1)]), ((2, 7), [(1, 8, 1)])], [])], [(0, 2, 3), (92, 2, 4)], [], 4)
set_option maxRecDepth 100000 in
theorem S_99 : aSpec wd ct_99 := bChk_ok wx_ok btX11_heard (lk := [(112, 0, 2, ct_97), (98, 0, 2, ct_74), (112, 0, 2, ct_98), (201, 0, 3, ct_96), (147, 0, 2, ct_76)]) (nds := []) (fk := []) (rk := (1, [])) (sp := 0) (fuel := 3000) (by decide +kernel) (List.forall_mem_cons.mpr ⟨⟨ml_11_112, S_97⟩, List.forall_mem_cons.mpr ⟨⟨ml_11_98, S_74⟩, List.forall_mem_cons.mpr ⟨⟨ml_11_112, S_98⟩, List.forall_mem_cons.mpr ⟨⟨ml_11_201, S_96⟩, List.forall_mem_cons.mpr ⟨⟨ml_11_147, S_76⟩, fun _ h => nomatch h⟩⟩⟩⟩⟩) odX11_heard
def ct_100 : aCt := (mX11_isIsland, [.inr (.inl [0]), .inl aTop], ([((2, 4), [(1, 7, 1)])], [((0, 3), 2)]), [(some (.inl [(0, 0, 1)]), [none, some [(-2147483648, -1, 1), (1, 2147483647, 1)]], [], []), (some (.inl [(1, 1, 1)]), [none, some [(0, 6, 1)]], [], [])], [], [], 0)
set_option maxRecDepth 100000 in
theorem S_100 : aSpec wd ct_100 := bChk_ok wx_ok btX11_isIsland (lk := []) (nds := []) (fk := []) (rk := (1, [])) (sp := 0) (fuel := 3000) (by decide +kernel) (fun _ h => nomatch h) odX11_isIsland
set_option maxRecDepth 100000 in
theorem btX11_areTwoIslands : bTab oX11_areTwoIslands tX11_areTwoIslands := ⟨ofX11_areTwoIslands, by decide +kernel⟩
def ct_101 : aCt := (mX11_areTwoIslands, [.inr (.inl [0]), .inl aTop, .inl aTop], ([], [((0, 3), 2)]), [(some (.inl [(0, 0, 1)]), [], [], []), (some (.inl [(1, 1, 1)]), [none, some [(0, 6, 1)], some [(0, 6, 1)]], [((2, 4), [(1, 7, 1)])], [])], [], [], 1)
set_option maxRecDepth 100000 in
theorem S_101 : aSpec wd ct_101 := bChk_ok wx_ok btX11_areTwoIslands (lk := [(174, 0, 2, ct_100), (174, 0, 2, ct_78)]) (nds := []) (fk := []) (rk := (1, [])) (sp := 0) (fuel := 3000) (by decide +kernel) (List.forall_mem_cons.mpr ⟨⟨ml_11_174, S_100⟩, List.forall_mem_cons.mpr ⟨⟨ml_11_174, S_78⟩, fun _ h => nomatch h⟩⟩) odX11_areTwoIslands
def ct_102 : aCt := (mX4_wayBetween, [.inr (.inl [2]), .inl [(0, 6, 1)], .inl [(0, 6, 1)]], ([], []), [(some (.inl [(0, 11, 1)]), [], [((2, 5), [(1, 12, 1)])], []), (some (.inl [(-2, -2, 1)]), [], [], [])], [], [], 0)
set_option maxRecDepth 100000 in
theorem S_102 : aSpec wd ct_102 := bChk_ok wx_ok btX4_wayBetween (lk := []) (nds := [(2, [(0, .inr (.inl [2])), (1, .inl [(0, 6, 1)]), (2, .inl [(0, 6, 1)]), (3, .inl [(0, 12, 1)])], [], [], [], (12, [(2, -1)]))]) (fk := []) (rk := (13, [])) (sp := 4) (fuel := 3000) (by decide +kernel) (fun _ h => nomatch h) odX4_wayBetween
set_option maxRecDepth 100000 in
theorem btX2_isClosed : bTab oX2_isClosed tX2_isClosed := ⟨ofX2_isClosed, by decide +kernel⟩
def ct_103 : aCt := (mX2_isClosed, [.inr (.inl [86]), .inl [(0, 11, 1)]], ([], []), [(some (.inl [(0, 0, 1)]), [], [], []), (some (.inl [(1, 1, 1)]), [], [], [])], [], [], 0)
set_option maxRecDepth 100000 in
theorem S_103 : aSpec wd ct_103 := bChk_ok wx_ok btX2_isClosed (lk := []) (nds := []) (fk := []) (rk := (1, [])) (sp := 0) (fuel := 3000) (by decide +kernel) (fun _ h => nomatch h) odX2_isClosed
set_option maxRecDepth 100000 in
theorem btX11_way : bTab oX11_way tX11_way := ⟨ofX11_way, by decide +kernel⟩
def ct_104 : aCt := (mX11_way, [.inr (.inl [0]), .inl aTop, .inl aTop], ([], [((0, 3), 2)]), [(some (.inl aTop), [none, some [(0, 6, 1)], some [(0, 6, 1)]], [((0, 2), [(0, 0, 1)]), ((2, 4), [(1, 7, 1)]), ((2, 5), [(1, 12, 1)])], []), (some (.inl [(-1, -1, 1)]), [], [((0, 2), [(1, 1, 1)])], []), (some (.inl [(-2, -2, 1)]), [none, some [(0, 6, 1)], some [(0, 6, 1)]], [((0, 2), [(0, 0, 1)]), ((2, 4), [(1, 7, 1)])], [])], [(0, 2, 3)], [], 2)
set_option maxRecDepth 100000 in
theorem S_104 : aSpec wd ct_104 := bChk_ok wx_ok btX11_way (lk := [(112, 0, 2, ct_97), (98, 0, 2, ct_74), (210, 0, 2, ct_103), (207, 0, 3, ct_102), (112, 0, 2, ct_71), (204, 0, 3, ct_101)]) (nds := []) (fk := []) (rk := (1, [])) (sp := 0) (fuel := 3000) (by decide +kernel) (List.forall_mem_cons.mpr ⟨⟨ml_11_112, S_97⟩, List.forall_mem_cons.mpr ⟨⟨ml_11_98, S_74⟩, List.forall_mem_cons.mpr ⟨⟨ml_11_210, S_103⟩, List.forall_mem_cons.mpr ⟨⟨ml_11_207, S_102⟩, List.forall_mem_cons.mpr ⟨⟨ml_11_112, S_71⟩, List.forall_mem_cons.mpr ⟨⟨ml_11_204, S_101⟩, fun _ h => nomatch h⟩⟩⟩⟩⟩⟩) odX11_way
set_option maxRecDepth 100000 in
theorem btX11_hasPost : bTab oX11_hasPost tX11_hasPost := ⟨ofX11_hasPost, by decide +kernel⟩
def ct_105 : aCt := (mX11_hasPost, [.inr (.inl [0])], ([], [((0, 3), 2)]), [(some (.inl [(0, 0, 1)]), [], [((2, 4), [(0, 0, 1)])], []), (some (.inl [(1, 1, 1)]), [], [((2, 4), [(1, 7, 1)])], [])], [], [], 0)
set_option maxRecDepth 100000 in
theorem S_105 : aSpec wd ct_105 := bChk_ok wx_ok btX11_hasPost (lk := []) (nds := []) (fk := []) (rk := (1, [])) (sp := 0) (fuel := 3000) (by decide +kernel) (fun _ h => nomatch h) odX11_hasPost
set_option maxRecDepth 100000 in
theorem btX11_isWithin : bTab oX11_isWithin tX11_isWithin := ⟨ofX11_isWithin, by decide +kernel⟩
def ct_106 : aCt := (mX11_isWithin, [.inl aTop, .inl [(99999, 99999, 1)]], ([], []), [(some (.inl [(0, 0, 1)]), [some [(-2147483648, -1, 1), (100000, 2147483647, 1)], none], [], []), (some (.inl [(1, 1, 1)]), [some [(0, 99999, 1)], none], [], [])], [], [], 0)
set_option maxRecDepth 100000 in
theorem S_106 : aSpec wd ct_106 := bChk_ok wx_ok btX11_isWithin (lk := []) (nds := []) (fk := []) (rk := (1, [])) (sp := 0) (fuel := 3000) (by decide +kernel) (fun _ h => nomatch h) odX11_isWithin
set_option maxRecDepth 100000 in
theorem btX11_season : bTab oX11_season tX11_season := ⟨ofX11_season, by decide +kernel⟩
def ct_107 : aCt := (mX11_season, [.inr (.inl [0]), .inl aTop], ([], [((0, 3), 2)]), [(some (.inl [(0, 3, 1)]), [none, some [(0, 99999, 1)]], [((0, 2), [(0, 0, 1)]), ((2, 4), [(1, 7, 1)])], []), (some (.inl [(-1, -1, 1)]), [], [((0, 2), [(1, 2, 1)])], [])], [(0, 2, 3)], [], 1)
set_option maxRecDepth 100000 in
theorem S_107 : aSpec wd ct_107 := bChk_ok wx_ok btX11_season (lk := [(222, 0, 1, ct_105), (98, 0, 2, ct_6), (98, 0, 2, ct_74), (112, 0, 2, ct_73), (227, 1, 2, ct_106)]) (nds := []) (fk := []) (rk := (1, [])) (sp := 0) (fuel := 3000) (by decide +kernel) (List.forall_mem_cons.mpr ⟨⟨ml_11_222, S_105⟩, List.forall_mem_cons.mpr ⟨⟨ml_11_98, S_6⟩, List.forall_mem_cons.mpr ⟨⟨ml_11_98, S_74⟩, List.forall_mem_cons.mpr ⟨⟨ml_11_112, S_73⟩, List.forall_mem_cons.mpr ⟨⟨ml_11_227, S_106⟩, fun _ h => nomatch h⟩⟩⟩⟩⟩) odX11_season
set_option maxRecDepth 100000 in
theorem btX11_isWay : bTab oX11_isWay tX11_isWay := ⟨ofX11_isWay, by decide +kernel⟩
def ct_108 : aCt := (mX11_isWay, [.inr (.inl [0]), .inl aTop], ([], [((0, 3), 2)]), [(some (.inl [(0, 0, 1)]), [none, some aTop], [], []), (some (.inl [(1, 1, 1)]), [none, some [(0, 11, 1)]], [((2, 5), [(1, 12, 1)])], [])], [], [], 0)
set_option maxRecDepth 100000 in
theorem S_108 : aSpec wd ct_108 := bChk_ok wx_ok btX11_isWay (lk := []) (nds := []) (fk := []) (rk := (1, [])) (sp := 0) (fuel := 3000) (by decide +kernel) (fun _ h => nomatch h) odX11_isWay
def ct_109 : aCt := (mX11_isWithin, [.inl aTop, .inl [(9999, 9999, 1)]], ([], []), [(some (.inl [(0, 0, 1)]), [some [(-2147483648, -1, 1), (10000, 2147483647, 1)], none], [], []), (some (.inl [(1, 1, 1)]), [some [(0, 9999, 1)], none], [], [])], [], [], 0)
set_option maxRecDepth 100000 in
theorem S_109 : aSpec wd ct_109 := bChk_ok wx_ok btX11_isWithin (lk := []) (nds := []) (fk := []) (rk := (1, [])) (sp := 0) (fuel := 3000) (by decide +kernel) (fun _ h => nomatch h) odX11_isWithin
set_option maxRecDepth 100000 in
theorem btX6_dayOfLeaving : bTab oX6_dayOfLeaving tX6_dayOfLeaving := ⟨ofX6_dayOfLeaving, by decide +kernel⟩
def ct_110 : aCt := (mX6_dayOfLeaving, [.inr (.inl [94]), .inl [(0, 3, 1)], .inl aTop, .inl [(0, 9999, 1)]], ([], []), [(some (.inl [(0, 9999, 1), (90, 10260, 90)]), [], [], [])], [], [], 0)
set_option maxRecDepth 100000 in
theorem S_110 : aSpec wd ct_110 := bChk_ok wx_ok btX6_dayOfLeaving (lk := []) (nds := [(16, [(0, .inr (.inl [94])), (1, .inl [(0, 2, 1)]), (2, .inl aTop), (3, .inl [(0, 9999, 1)]), (4, .inl [(0, 111, 1)]), (5, .inl [(0, 4, 1)])], [], [], [], (4, [(4, -1)]))]) (fk := []) (rk := (5, [])) (sp := 65536) (fuel := 3000) (by decide +kernel) (fun _ h => nomatch h) odX6_dayOfLeaving
def ct_111 : aCt := (mX11_granted, [.inr (.inl [0]), .inl [(0, 9999, 1), (90, 10260, 90)]], ([], []), [(some (.inl [(0, 9999, 1), (90, 10260, 90)]), [], [((0, 2), [(0, 0, 1)])], [])], [(0, 2, 3)], [], 0)
set_option maxRecDepth 100000 in
theorem S_111 : aSpec wd ct_111 := bChk_ok wx_ok btX11_granted (lk := []) (nds := []) (fk := []) (rk := (1, [])) (sp := 0) (fuel := 3000) (by decide +kernel) (fun _ h => nomatch h) odX11_granted
set_option maxRecDepth 100000 in
theorem btX11_sets : bTab oX11_sets tX11_sets := ⟨ofX11_sets, by decide +kernel⟩
def ct_112 : aCt := (mX11_sets, [.inr (.inl [0]), .inl aTop, .inl aTop, .inl aTop], ([], [((0, 3), 2)]), [(some (.inl [(0, 9999, 1), (90, 10260, 90)]), [none, some [(0, 4, 1)], some [(0, 11, 1)], some [(0, 9999, 1)]], [((0, 2), [(0, 0, 1)]), ((2, 5), [(1, 12, 1)]), ((2, 6), [(1, 5, 1)])], []), (some (.inl [(-1, -1, 1)]), [none, some aTop, none, none], [((0, 2), [(1, 2, 1)])], []), (some (.inl [(-2, -2, 1)]), [none, some [(0, 4, 1)], some [(0, 11, 1)], some [(0, 9999, 1)]], [((0, 2), [(0, 0, 1)]), ((2, 5), [(1, 12, 1)]), ((2, 6), [(1, 5, 1)])], [])], [(0, 2, 3)], [], 1)
set_option maxRecDepth 100000 in
theorem S_112 : aSpec wd ct_112 := bChk_ok wx_ok btX11_sets (lk := [(112, 0, 2, ct_97), (98, 0, 2, ct_6), (98, 0, 2, ct_74), (210, 0, 2, ct_103), (112, 0, 2, ct_111), (121, 0, 2, ct_70), (230, 0, 2, ct_108), (227, 1, 2, ct_109), (236, 0, 4, ct_110)]) (nds := []) (fk := []) (rk := (1, [])) (sp := 0) (fuel := 3000) (by decide +kernel) (List.forall_mem_cons.mpr ⟨⟨ml_11_112, S_97⟩, List.forall_mem_cons.mpr ⟨⟨ml_11_98, S_6⟩, List.forall_mem_cons.mpr ⟨⟨ml_11_98, S_74⟩, List.forall_mem_cons.mpr ⟨⟨ml_11_210, S_103⟩, List.forall_mem_cons.mpr ⟨⟨ml_11_112, S_111⟩, List.forall_mem_cons.mpr ⟨⟨ml_11_121, S_70⟩, List.forall_mem_cons.mpr ⟨⟨ml_11_230, S_108⟩, List.forall_mem_cons.mpr ⟨⟨ml_11_227, S_109⟩, List.forall_mem_cons.mpr ⟨⟨ml_11_236, S_110⟩, fun _ h => nomatch h⟩⟩⟩⟩⟩⟩⟩⟩⟩) odX11_sets
set_option maxRecDepth 100000 in
theorem btX2_isSent : bTab oX2_isSent tX2_isSent := ⟨ofX2_isSent, by decide +kernel⟩
def ct_113 : aCt := (mX2_isSent, [.inr (.inl [86]), .inl [(0, 7, 1)]], ([], []), [(some (.inl [(0, 0, 1)]), [], [], []), (some (.inl [(1, 1, 1)]), [], [], [])], [], [], 0)
set_option maxRecDepth 100000 in
theorem S_113 : aSpec wd ct_113 := bChk_ok wx_ok btX2_isSent (lk := []) (nds := []) (fk := []) (rk := (1, [])) (sp := 0) (fuel := 3000) (by decide +kernel) (fun _ h => nomatch h) odX2_isSent
set_option maxRecDepth 100000 in
theorem btX11_sentPart : bTab oX11_sentPart tX11_sentPart := ⟨ofX11_sentPart, by decide +kernel⟩
def ct_114 : aCt := (mX11_sentPart, [.inr (.inl [0]), .inl [(0, 7, 1)], .inl [(0, 2, 1)]], ([], [((0, 3), 2)]), [(some (.inl aTop), [none, none, some [(2, 2, 1)]], [], []), (some (.inl [(0, 0, 1)]), [none, none, some [(1, 1, 1)]], [], []), (some (.inl [(1, 1, 1)]), [none, none, some [(0, 1, 1)]], [], [])], [], [], 0)
set_option maxRecDepth 100000 in
theorem S_114 : aSpec wd ct_114 := bChk_ok wx_ok btX11_sentPart (lk := []) (nds := []) (fk := []) (rk := (1, [])) (sp := 0) (fuel := 3000) (by decide +kernel) (fun _ h => nomatch h) odX11_sentPart
def sl_31 : (Nat × Nat) × aI := ((2, 4), [(1, 7, 1)])
set_option maxRecDepth 100000 in
theorem btX11_sent : bTab oX11_sent tX11_sent := ⟨ofX11_sent, by decide +kernel⟩
def ct_115 : aCt := (mX11_sent, [.inr (.inl [0]), .inl aTop], ([], [((0, 3), 2)]), [(some (.inl aTop), [], [((0, 2), [(0, 0, 1)]), ((2, 4), [(1, 7, 1)])], []), (some (.inl [(-1, -1, 1)]), [], [((0, 2), [(1, 1, 1)])], [])], [(0, 2, 3)], [], 1)
set_option maxRecDepth 100000 in
theorem S_115 : aSpec wd ct_115 := bChk_ok wx_ok btX11_sent (lk := [(222, 0, 1, ct_105), (98, 0, 2, ct_74), (242, 0, 2, ct_113), (245, 0, 3, ct_114), (112, 0, 2, ct_71)]) (nds := [(26, [(0, .inr (.inl [0])), (1, .inl [(0, 2, 1)]), (2, .inl aTop), (3, .inl [(0, 8, 1)])], [], [sl_31], [((0, 3), 2)], (8, [(2, -1)]))]) (fk := []) (rk := (9, [])) (sp := 67108864) (fuel := 3000) (by decide +kernel) (List.forall_mem_cons.mpr ⟨⟨ml_11_222, S_105⟩, List.forall_mem_cons.mpr ⟨⟨ml_11_98, S_74⟩, List.forall_mem_cons.mpr ⟨⟨ml_11_242, S_113⟩, List.forall_mem_cons.mpr ⟨⟨ml_11_245, S_114⟩, List.forall_mem_cons.mpr ⟨⟨ml_11_112, S_71⟩, fun _ h => nomatch h⟩⟩⟩⟩⟩) odX11_sent
set_option maxRecDepth 100000 in
theorem btX7_apartness : bTab oX7_apartness tX7_apartness := ⟨ofX7_apartness, by decide +kernel⟩
def ct_116 : aCt := (mX7_apartness, [.inr (.inl [92]), .inl [(0, 6, 1)], .inl [(0, 6, 1)]], ([], [((92, 0), 2)]), [(some (.inl [(0, 63, 1)]), [], [], []), (some (.inl [(-2, -2, 1)]), [], [], [])], [], [], 2)
set_option maxRecDepth 100000 in
theorem S_116 : aSpec wd ct_116 := bChk_ok wx_ok btX7_apartness (lk := [(60, 3, 2, ct_94)]) (nds := []) (fk := []) (rk := (1, [])) (sp := 0) (fuel := 3000) (by decide +kernel) (List.forall_mem_cons.mpr ⟨⟨ml_7_60, S_94⟩, fun _ h => nomatch h⟩) odX7_apartness
def ct_117 : aCt := (mX11_granted, [.inr (.inl [0]), .inl [(0, 63, 1)]], ([], []), [(some (.inl [(0, 63, 1)]), [], [((0, 2), [(0, 0, 1)])], [])], [(0, 2, 3)], [], 0)
set_option maxRecDepth 100000 in
theorem S_117 : aSpec wd ct_117 := bChk_ok wx_ok btX11_granted (lk := []) (nds := []) (fk := []) (rk := (1, [])) (sp := 0) (fuel := 3000) (by decide +kernel) (fun _ h => nomatch h) odX11_granted
set_option maxRecDepth 100000 in
theorem btX11_apart : bTab oX11_apart tX11_apart := ⟨ofX11_apart, by decide +kernel⟩
def ct_118 : aCt := (mX11_apart, [.inr (.inl [0]), .inl aTop, .inl aTop], ([], [((0, 3), 2), ((92, 0), 2)]), [(some (.inl [(0, 63, 1)]), [none, some [(0, 6, 1)], some [(0, 6, 1)]], [((0, 2), [(0, 0, 1)]), ((2, 4), [(1, 7, 1)])], []), (some (.inl [(-1, -1, 1)]), [], [((0, 2), [(1, 1, 1)])], []), (some (.inl [(-2, -2, 1)]), [none, some [(0, 6, 1)], some [(0, 6, 1)]], [((0, 2), [(0, 0, 1)]), ((2, 4), [(1, 7, 1)])], [])], [(0, 2, 3)], [], 3)
set_option maxRecDepth 100000 in
theorem S_118 : aSpec wd ct_118 := bChk_ok wx_ok btX11_apart (lk := [(112, 0, 2, ct_97), (98, 0, 2, ct_74), (248, 0, 3, ct_116), (112, 0, 2, ct_117), (174, 0, 2, ct_100), (174, 0, 2, ct_78)]) (nds := []) (fk := []) (rk := (1, [])) (sp := 0) (fuel := 3000) (by decide +kernel) (List.forall_mem_cons.mpr ⟨⟨ml_11_112, S_97⟩, List.forall_mem_cons.mpr ⟨⟨ml_11_98, S_74⟩, List.forall_mem_cons.mpr ⟨⟨ml_11_248, S_116⟩, List.forall_mem_cons.mpr ⟨⟨ml_11_112, S_117⟩, List.forall_mem_cons.mpr ⟨⟨ml_11_174, S_100⟩, List.forall_mem_cons.mpr ⟨⟨ml_11_174, S_78⟩, fun _ h => nomatch h⟩⟩⟩⟩⟩⟩) odX11_apart
def ct_119 : aCt := (mX7_apartness, [.inr (.inl [92]), .inl [(1, 6, 1)], .inl [(0, 5, 1)]], ([], [((92, 0), 2)]), [(some (.inl [(0, 63, 1)]), [], [], []), (some (.inl [(-2, -2, 1)]), [], [], [])], [], [], 2)
set_option maxRecDepth 100000 in
theorem S_119 : aSpec wd ct_119 := bChk_ok wx_ok btX7_apartness (lk := [(60, 3, 2, ct_94)]) (nds := []) (fk := []) (rk := (1, [])) (sp := 0) (fuel := 3000) (by decide +kernel) (List.forall_mem_cons.mpr ⟨⟨ml_7_60, S_94⟩, fun _ h => nomatch h⟩) odX7_apartness
set_option maxRecDepth 100000 in
theorem btX7_bearable : bTab oX7_bearable tX7_bearable := ⟨ofX7_bearable, by decide +kernel⟩
def ct_120 : aCt := (mX7_bearable, [.inr (.inl [92])], ([((2, 4), [(1, 7, 1)])], [((92, 0), 2)]), [(some (.inl aTop), [], [], [])], [], [], 3)
set_option maxRecDepth 100000 in
theorem S_120 : aSpec wd ct_120 := bChk_ok wx_ok btX7_bearable (lk := [(67, 0, 3, ct_119)]) (nds := [(5, [(0, .inr (.inl [92])), (1, .inl aTop), (2, .inl [(0, 7, 1)])], [], [sl_31], [((92, 0), 2)], (63, [(1, -8)])), (18, [(0, .inr (.inl [92])), (1, .inl aTop), (2, .inl [(0, 6, 1)]), (3, .inl [(0, 6, 1)])], [], [sl_31], [((92, 0), 2)], (62, [(1, -8), (2, -1)]))]) (fk := []) (rk := (64, [])) (sp := 262176) (fuel := 3000) (by decide +kernel) (List.forall_mem_cons.mpr ⟨⟨ml_7_67, S_119⟩, fun _ h => nomatch h⟩) odX7_bearable
set_option maxRecDepth 100000 in
theorem btX11_bear : bTab oX11_bear tX11_bear := ⟨ofX11_bear, by decide +kernel⟩
def ct_121 : aCt := (mX11_bear, [.inr (.inl [0])], ([], [((0, 3), 2), ((92, 0), 2)]), [(some (.inl aTop), [], [((0, 2), [(0, 0, 1)]), ((2, 4), [(1, 7, 1)])], []), (some (.inl [(-1, -1, 1)]), [], [((0, 2), [(1, 1, 1)]), ((2, 4), [(0, 0, 1)])], [])], [(0, 2, 3)], [], 4)
set_option maxRecDepth 100000 in
theorem S_121 : aSpec wd ct_121 := bChk_ok wx_ok btX11_bear (lk := [(251, 0, 1, ct_120), (222, 0, 1, ct_105), (98, 0, 2, ct_74), (112, 0, 2, ct_71)]) (nds := []) (fk := []) (rk := (1, [])) (sp := 0) (fuel := 3000) (by decide +kernel) (List.forall_mem_cons.mpr ⟨⟨ml_11_251, S_120⟩, List.forall_mem_cons.mpr ⟨⟨ml_11_222, S_105⟩, List.forall_mem_cons.mpr ⟨⟨ml_11_98, S_74⟩, List.forall_mem_cons.mpr ⟨⟨ml_11_112, S_71⟩, fun _ h => nomatch h⟩⟩⟩⟩) odX11_bear
set_option maxRecDepth 100000 in
theorem btX7_mixedPairs : bTab oX7_mixedPairs tX7_mixedPairs := ⟨ofX7_mixedPairs, by decide +kernel⟩
def ct_122 : aCt := (mX7_mixedPairs, [.inr (.inl [92])], ([((2, 4), [(1, 7, 1)])], [((92, 0), 2)]), [(some (.inl aTop), [], [], [])], [], [], 3)
set_option maxRecDepth 100000 in
theorem S_122 : aSpec wd ct_122 := bChk_ok wx_ok btX7_mixedPairs (lk := [(67, 0, 3, ct_119)]) (nds := [(4, [(0, .inr (.inl [92])), (1, .inl aTop), (2, .inl [(0, 7, 1)])], [], [sl_31], [((92, 0), 2)], (63, [(1, -8)])), (17, [(0, .inr (.inl [92])), (1, .inl aTop), (2, .inl [(0, 6, 1)]), (3, .inl [(0, 6, 1)])], [], [sl_31], [((92, 0), 2)], (62, [(1, -8), (2, -1)]))]) (fk := []) (rk := (64, [])) (sp := 131088) (fuel := 3000) (by decide +kernel) (List.forall_mem_cons.mpr ⟨⟨ml_7_67, S_119⟩, fun _ h => nomatch h⟩) odX7_mixedPairs
set_option maxRecDepth 100000 in
theorem btX11_mixed : bTab oX11_mixed tX11_mixed := ⟨ofX11_mixed, by decide +kernel⟩
def ct_123 : aCt := (mX11_mixed, [.inr (.inl [0])], ([], [((0, 3), 2), ((92, 0), 2)]), [(some (.inl aTop), [], [((0, 2), [(0, 0, 1)]), ((2, 4), [(1, 7, 1)])], []), (some (.inl [(-1, -1, 1)]), [], [((0, 2), [(1, 1, 1)]), ((2, 4), [(0, 0, 1)])], [])], [(0, 2, 3)], [], 4)
set_option maxRecDepth 100000 in
theorem S_123 : aSpec wd ct_123 := bChk_ok wx_ok btX11_mixed (lk := [(255, 0, 1, ct_122), (222, 0, 1, ct_105), (98, 0, 2, ct_74), (112, 0, 2, ct_71)]) (nds := []) (fk := []) (rk := (1, [])) (sp := 0) (fuel := 3000) (by decide +kernel) (List.forall_mem_cons.mpr ⟨⟨ml_11_255, S_122⟩, List.forall_mem_cons.mpr ⟨⟨ml_11_222, S_105⟩, List.forall_mem_cons.mpr ⟨⟨ml_11_98, S_74⟩, List.forall_mem_cons.mpr ⟨⟨ml_11_112, S_71⟩, fun _ h => nomatch h⟩⟩⟩⟩) odX11_mixed
set_option maxRecDepth 100000 in
theorem btX11_refusalOfNewSong : bTab oX11_refusalOfNewSong tX11_refusalOfNewSong := ⟨ofX11_refusalOfNewSong, by decide +kernel⟩
def ct_124 : aCt := (mX11_refusalOfNewSong, [.inr (.inl [0]), .inl aTop, .inl aTop], ([], [((0, 3), 2)]), [(some (.inl [(2, 2, 1)]), [none, some aTop, none], [((2, 4), [(1, 7, 1)])], []), (some (.inl [(0, 0, 1)]), [none, some [(2, 5, 1)], some [(1, 5, 1)]], [((2, 4), [(1, 7, 1)])], []), (some (.inl [(1, 1, 1)]), [], [((2, 4), [(0, 0, 1)])], [])], [], [], 1)
set_option maxRecDepth 100000 in
theorem S_124 : aSpec wd ct_124 := bChk_ok wx_ok btX11_refusalOfNewSong (lk := [(222, 0, 1, ct_105)]) (nds := []) (fk := []) (rk := (1, [])) (sp := 0) (fuel := 3000) (by decide +kernel) (List.forall_mem_cons.mpr ⟨⟨ml_11_222, S_105⟩, fun _ h => nomatch h⟩) odX11_refusalOfNewSong
def ct_125 : aCt := (mX7_songIn, [.inr (.inl [92]), .inl [(0, 0, 1)], .inl [(0, 9999, 1)]], ([], [((92, 0), 2)]), [(some (.inl aTop), [], [], [])], [], [], 2)
set_option maxRecDepth 100000 in
theorem S_125 : aSpec wd ct_125 := bChk_ok wx_ok btX7_songIn (lk := [(50, 0, 2, ct_81), (54, 0, 4, ct_83), (54, 0, 4, ct_84)]) (nds := []) (fk := []) (rk := (1, [])) (sp := 0) (fuel := 3000) (by decide +kernel) (List.forall_mem_cons.mpr ⟨⟨ml_7_50, S_81⟩, List.forall_mem_cons.mpr ⟨⟨ml_7_54, S_83⟩, List.forall_mem_cons.mpr ⟨⟨ml_7_54, S_84⟩, fun _ h => nomatch h⟩⟩⟩) odX7_songIn
def ct_126 : aCt := (mX7_songIn, [.inr (.inl [92]), .inl [(1, 1, 1)], .inl [(0, 9999, 1)]], ([], [((92, 0), 2)]), [(some (.inl aTop), [], [], [])], [], [], 2)
set_option maxRecDepth 100000 in
theorem S_126 : aSpec wd ct_126 := bChk_ok wx_ok btX7_songIn (lk := [(50, 0, 2, ct_81), (54, 0, 4, ct_83), (54, 0, 4, ct_84)]) (nds := []) (fk := []) (rk := (1, [])) (sp := 0) (fuel := 3000) (by decide +kernel) (List.forall_mem_cons.mpr ⟨⟨ml_7_50, S_81⟩, List.forall_mem_cons.mpr ⟨⟨ml_7_54, S_83⟩, List.forall_mem_cons.mpr ⟨⟨ml_7_54, S_84⟩, fun _ h => nomatch h⟩⟩⟩) odX7_songIn
def ct_127 : aCt := (mX7_songIn, [.inr (.inl [92]), .inl [(2, 2, 1)], .inl [(0, 9999, 1)]], ([], [((92, 0), 2)]), [(some (.inl aTop), [], [], [])], [], [], 2)
set_option maxRecDepth 100000 in
theorem S_127 : aSpec wd ct_127 := bChk_ok wx_ok btX7_songIn (lk := [(50, 0, 2, ct_81), (54, 0, 4, ct_83), (54, 0, 4, ct_84)]) (nds := []) (fk := []) (rk := (1, [])) (sp := 0) (fuel := 3000) (by decide +kernel) (List.forall_mem_cons.mpr ⟨⟨ml_7_50, S_81⟩, List.forall_mem_cons.mpr ⟨⟨ml_7_54, S_83⟩, List.forall_mem_cons.mpr ⟨⟨ml_7_54, S_84⟩, fun _ h => nomatch h⟩⟩⟩) odX7_songIn
def ct_128 : aCt := (mX7_songIn, [.inr (.inl [92]), .inl [(3, 3, 1)], .inl [(0, 9999, 1)]], ([], [((92, 0), 2)]), [(some (.inl aTop), [], [], [])], [], [], 2)
set_option maxRecDepth 100000 in
theorem S_128 : aSpec wd ct_128 := bChk_ok wx_ok btX7_songIn (lk := [(50, 0, 2, ct_81), (54, 0, 4, ct_83), (54, 0, 4, ct_84)]) (nds := []) (fk := []) (rk := (1, [])) (sp := 0) (fuel := 3000) (by decide +kernel) (List.forall_mem_cons.mpr ⟨⟨ml_7_50, S_81⟩, List.forall_mem_cons.mpr ⟨⟨ml_7_54, S_83⟩, List.forall_mem_cons.mpr ⟨⟨ml_7_54, S_84⟩, fun _ h => nomatch h⟩⟩⟩) odX7_songIn
def ct_129 : aCt := (mX7_songIn, [.inr (.inl [92]), .inl [(4, 4, 1)], .inl [(0, 9999, 1)]], ([], [((92, 0), 2)]), [(some (.inl aTop), [], [], [])], [], [], 2)
set_option maxRecDepth 100000 in
theorem S_129 : aSpec wd ct_129 := bChk_ok wx_ok btX7_songIn (lk := [(50, 0, 2, ct_81), (54, 0, 4, ct_83), (54, 0, 4, ct_84)]) (nds := []) (fk := []) (rk := (1, [])) (sp := 0) (fuel := 3000) (by decide +kernel) (List.forall_mem_cons.mpr ⟨⟨ml_7_50, S_81⟩, List.forall_mem_cons.mpr ⟨⟨ml_7_54, S_83⟩, List.forall_mem_cons.mpr ⟨⟨ml_7_54, S_84⟩, fun _ h => nomatch h⟩⟩⟩) odX7_songIn
def ct_130 : aCt := (mX7_songIn, [.inr (.inl [92]), .inl [(5, 5, 1)], .inl [(0, 9999, 1)]], ([], [((92, 0), 2)]), [(some (.inl aTop), [], [], [])], [], [], 2)
set_option maxRecDepth 100000 in
theorem S_130 : aSpec wd ct_130 := bChk_ok wx_ok btX7_songIn (lk := [(50, 0, 2, ct_81), (54, 0, 4, ct_83), (54, 0, 4, ct_84)]) (nds := []) (fk := []) (rk := (1, [])) (sp := 0) (fuel := 3000) (by decide +kernel) (List.forall_mem_cons.mpr ⟨⟨ml_7_50, S_81⟩, List.forall_mem_cons.mpr ⟨⟨ml_7_54, S_83⟩, List.forall_mem_cons.mpr ⟨⟨ml_7_54, S_84⟩, fun _ h => nomatch h⟩⟩⟩) odX7_songIn
def ct_131 : aCt := (mX7_songIn, [.inr (.inl [92]), .inl [(6, 6, 1)], .inl [(0, 9999, 1)]], ([], [((92, 0), 2)]), [(some (.inl aTop), [], [], [])], [], [], 2)
set_option maxRecDepth 100000 in
theorem S_131 : aSpec wd ct_131 := bChk_ok wx_ok btX7_songIn (lk := [(50, 0, 2, ct_81), (54, 0, 4, ct_83), (54, 0, 4, ct_84)]) (nds := []) (fk := []) (rk := (1, [])) (sp := 0) (fuel := 3000) (by decide +kernel) (List.forall_mem_cons.mpr ⟨⟨ml_7_50, S_81⟩, List.forall_mem_cons.mpr ⟨⟨ml_7_54, S_83⟩, List.forall_mem_cons.mpr ⟨⟨ml_7_54, S_84⟩, fun _ h => nomatch h⟩⟩⟩) odX7_songIn
def sl_32 : (Nat × Nat) × aI := ((2, 4), [(2, 7, 1)])
def sl_33 : (Nat × Nat) × aI := ((2, 4), [(3, 7, 1)])
def sl_34 : (Nat × Nat) × aI := ((2, 4), [(4, 7, 1)])
def sl_35 : (Nat × Nat) × aI := ((2, 4), [(5, 7, 1)])
def sl_36 : (Nat × Nat) × aI := ((2, 4), [(6, 7, 1)])
def sl_37 : (Nat × Nat) × aI := ((2, 4), [(7, 7, 1)])
set_option maxRecDepth 100000 in
theorem btX7_keepSongsOf : bTab oX7_keepSongsOf tX7_keepSongsOf := ⟨ofX7_keepSongsOf, by decide +kernel⟩
def ct_132 : aCt := (mX7_keepSongsOf, [.inr (.inl [92]), .inl [(2, 5, 1)], .inl [(0, 9999, 1)]], ([((2, 4), [(1, 7, 1)])], [((92, 0), 2)]), [(some (.inl [(0, 7, 1)]), [], [], [])], [(93, 0, 7)], [], 3)
set_option maxRecDepth 100000 in
theorem S_132 : aSpec wd ct_132 := bChk_ok wx_ok btX7_keepSongsOf (lk := [(81, 0, 3, ct_125), (81, 0, 3, ct_126), (81, 0, 3, ct_127), (81, 0, 3, ct_128), (81, 0, 3, ct_129), (81, 0, 3, ct_130), (81, 0, 3, ct_131)]) (nds := [(5, [(0, .inr (.inl [92])), (1, .inl [(2, 5, 1)]), (2, .inl [(0, 9999, 1)]), (3, .inl [(0, 0, 1)]), (4, .inl [(0, 0, 1)])], [], [sl_31], [((92, 0), 2)], (7, [])), (5, [(0, .inr (.inl [92])), (1, .inl [(2, 5, 1)]), (2, .inl [(0, 9999, 1)]), (3, .inl [(0, 1, 1)]), (4, .inl [(1, 1, 1)])], [], [sl_31], [((92, 0), 2)], (6, [])), (5, [(0, .inr (.inl [92])), (1, .inl [(2, 5, 1)]), (2, .inl [(0, 9999, 1)]), (3, .inl [(0, 2, 1)]), (4, .inl [(2, 2, 1)])], [], [sl_32], [((92, 0), 2)], (5, [])), (5, [(0, .inr (.inl [92])), (1, .inl [(2, 5, 1)]), (2, .inl [(0, 9999, 1)]), (3, .inl [(0, 3, 1)]), (4, .inl [(3, 3, 1)])], [], [sl_33], [((92, 0), 2)], (4, [])), (5, [(0, .inr (.inl [92])), (1, .inl [(2, 5, 1)]), (2, .inl [(0, 9999, 1)]), (3, .inl [(0, 4, 1)]), (4, .inl [(4, 4, 1)])], [], [sl_34], [((92, 0), 2)], (3, [])), (5, [(0, .inr (.inl [92])), (1, .inl [(2, 5, 1)]), (2, .inl [(0, 9999, 1)]), (3, .inl [(0, 5, 1)]), (4, .inl [(5, 5, 1)])], [], [sl_35], [((92, 0), 2)], (2, [])), (5, [(0, .inr (.inl [92])), (1, .inl [(2, 5, 1)]), (2, .inl [(0, 9999, 1)]), (3, .inl [(0, 6, 1)]), (4, .inl [(6, 6, 1)])], [], [sl_36], [((92, 0), 2)], (1, [])), (5, [(0, .inr (.inl [92])), (1, .inl [(2, 5, 1)]), (2, .inl [(0, 9999, 1)]), (3, .inl [(0, 7, 1)]), (4, .inl [(7, 7, 1)])], [], [sl_37], [((92, 0), 2)], (0, []))]) (fk := []) (rk := (8, [])) (sp := 32) (fuel := 3000) (by decide +kernel) (List.forall_mem_cons.mpr ⟨⟨ml_7_81, S_125⟩, List.forall_mem_cons.mpr ⟨⟨ml_7_81, S_126⟩, List.forall_mem_cons.mpr ⟨⟨ml_7_81, S_127⟩, List.forall_mem_cons.mpr ⟨⟨ml_7_81, S_128⟩, List.forall_mem_cons.mpr ⟨⟨ml_7_81, S_129⟩, List.forall_mem_cons.mpr ⟨⟨ml_7_81, S_130⟩, List.forall_mem_cons.mpr ⟨⟨ml_7_81, S_131⟩, fun _ h => nomatch h⟩⟩⟩⟩⟩⟩⟩) odX7_keepSongsOf
def ct_133 : aCt := (mX11_noteAt, [.inl [(0, 1023, 1)], .inl [(2, 5, 1)], .inl [(0, 4, 1)]], ([], []), [(some (.inl [(0, 3, 1)]), [], [], [])], [], [], 0)
set_option maxRecDepth 100000 in
theorem S_133 : aSpec wd ct_133 := bChk_ok wx_ok btX11_noteAt (lk := []) (nds := []) (fk := []) (rk := (1, [])) (sp := 0) (fuel := 3000) (by decide +kernel) (fun _ h => nomatch h) odX11_noteAt
set_option maxRecDepth 100000 in
theorem btX7_isOfNotes : bTab oX7_isOfNotes tX7_isOfNotes := ⟨ofX7_isOfNotes, by decide +kernel⟩
def ct_134 : aCt := (mX7_isOfNotes, [.inr (.inl [92]), .inl [(0, 1023, 1)], .inl [(2, 5, 1)]], ([], [((92, 0), 2)]), [(some (.inl [(0, 0, 1)]), [], [], []), (some (.inl [(1, 1, 1)]), [], [], [])], [], [], 1)
set_option maxRecDepth 100000 in
theorem S_134 : aSpec wd ct_134 := bChk_ok wx_ok btX7_isOfNotes (lk := [(40, 3, 3, ct_133)]) (nds := [(2, [(0, .inr (.inl [92])), (1, .inl [(0, 1023, 1)]), (2, .inl [(2, 5, 1)]), (3, .inl [(0, 5, 1)])], [], [], [((92, 0), 2)], (5, [(2, -1)]))]) (fk := []) (rk := (6, [])) (sp := 4) (fuel := 3000) (by decide +kernel) (List.forall_mem_cons.mpr ⟨⟨ml_7_40, S_133⟩, fun _ h => nomatch h⟩) odX7_isOfNotes
def ct_135 : aCt := (mX11_unlikeNotes, [.inl [(0, 1023, 1)], .inl aTop], ([], []), [(some (.inl [(0, 63, 1)]), [], [], [])], [], [], 1)
set_option maxRecDepth 100000 in
theorem S_135 : aSpec wd ct_135 := bChk_ok wx_ok btX11_unlikeNotes (lk := [(411, 1, 1, ct_93)]) (nds := []) (fk := []) (rk := (1, [])) (sp := 0) (fuel := 3000) (by decide +kernel) (List.forall_mem_cons.mpr ⟨⟨ml_11_411, S_93⟩, fun _ h => nomatch h⟩) odX11_unlikeNotes
set_option maxRecDepth 100000 in
theorem btX7_isFarFromKept : bTab oX7_isFarFromKept tX7_isFarFromKept := ⟨ofX7_isFarFromKept, by decide +kernel⟩
def ct_136 : aCt := (mX7_isFarFromKept, [.inr (.inl [92]), .inl [(0, 1023, 1)], .inl [(1, 1, 1)], .inl [(7, 7, 1)]], ([], []), [(some (.inl [(0, 0, 1)]), [], [], []), (some (.inl [(1, 1, 1)]), [], [], [])], [], [], 2)
set_option maxRecDepth 100000 in
theorem S_136 : aSpec wd ct_136 := bChk_ok wx_ok btX7_isFarFromKept (lk := [(60, 3, 2, ct_135)]) (nds := [(3, [(0, .inr (.inl [92])), (1, .inl [(0, 1023, 1)]), (2, .inl [(1, 1, 1)]), (3, .inl [(7, 7, 1)]), (4, .inl [(0, 7, 1)])], [], [], [], (7, [(1, -1)]))]) (fk := []) (rk := (8, [])) (sp := 8) (fuel := 3000) (by decide +kernel) (List.forall_mem_cons.mpr ⟨⟨ml_7_60, S_135⟩, fun _ h => nomatch h⟩) odX7_isFarFromKept
def ct_137 : aCt := (mX7_isFarFromKept, [.inr (.inl [92]), .inl [(0, 1023, 1)], .inl [(2, 5, 1)], .inl [(7, 7, 1)]], ([], []), [(some (.inl [(0, 0, 1)]), [], [], []), (some (.inl [(1, 1, 1)]), [], [], [])], [], [], 2)
set_option maxRecDepth 100000 in
theorem S_137 : aSpec wd ct_137 := bChk_ok wx_ok btX7_isFarFromKept (lk := [(60, 3, 2, ct_135)]) (nds := [(3, [(0, .inr (.inl [92])), (1, .inl [(0, 1023, 1)]), (2, .inl [(2, 5, 1)]), (3, .inl [(7, 7, 1)]), (4, .inl [(0, 7, 1)])], [], [], [], (7, [(2, -1)]))]) (fk := []) (rk := (8, [])) (sp := 8) (fuel := 3000) (by decide +kernel) (List.forall_mem_cons.mpr ⟨⟨ml_7_60, S_135⟩, fun _ h => nomatch h⟩) odX7_isFarFromKept
def ct_138 : aCt := (mX7_isFarFromKept, [.inr (.inl [92]), .inl [(0, 1023, 1)], .inl [(1, 1, 1)], .inl [(6, 6, 1)]], ([], []), [(some (.inl [(0, 0, 1)]), [], [], []), (some (.inl [(1, 1, 1)]), [], [], [])], [], [], 2)
set_option maxRecDepth 100000 in
theorem S_138 : aSpec wd ct_138 := bChk_ok wx_ok btX7_isFarFromKept (lk := [(60, 3, 2, ct_135)]) (nds := [(3, [(0, .inr (.inl [92])), (1, .inl [(0, 1023, 1)]), (2, .inl [(1, 1, 1)]), (3, .inl [(6, 6, 1)]), (4, .inl [(0, 6, 1)])], [], [], [], (6, [(1, -1)]))]) (fk := []) (rk := (7, [])) (sp := 8) (fuel := 3000) (by decide +kernel) (List.forall_mem_cons.mpr ⟨⟨ml_7_60, S_135⟩, fun _ h => nomatch h⟩) odX7_isFarFromKept
def ct_139 : aCt := (mX7_isFarFromKept, [.inr (.inl [92]), .inl [(0, 1023, 1)], .inl [(2, 5, 1)], .inl [(6, 6, 1)]], ([], []), [(some (.inl [(0, 0, 1)]), [], [], []), (some (.inl [(1, 1, 1)]), [], [], [])], [], [], 2)
set_option maxRecDepth 100000 in
theorem S_139 : aSpec wd ct_139 := bChk_ok wx_ok btX7_isFarFromKept (lk := [(60, 3, 2, ct_135)]) (nds := [(3, [(0, .inr (.inl [92])), (1, .inl [(0, 1023, 1)]), (2, .inl [(2, 5, 1)]), (3, .inl [(6, 6, 1)]), (4, .inl [(0, 6, 1)])], [], [], [], (6, [(2, -1)]))]) (fk := []) (rk := (7, [])) (sp := 8) (fuel := 3000) (by decide +kernel) (List.forall_mem_cons.mpr ⟨⟨ml_7_60, S_135⟩, fun _ h => nomatch h⟩) odX7_isFarFromKept
def ct_140 : aCt := (mX7_isFarFromKept, [.inr (.inl [92]), .inl [(0, 1023, 1)], .inl [(1, 1, 1)], .inl [(5, 5, 1)]], ([], []), [(some (.inl [(0, 0, 1)]), [], [], []), (some (.inl [(1, 1, 1)]), [], [], [])], [], [], 2)
set_option maxRecDepth 100000 in
theorem S_140 : aSpec wd ct_140 := bChk_ok wx_ok btX7_isFarFromKept (lk := [(60, 3, 2, ct_135)]) (nds := [(3, [(0, .inr (.inl [92])), (1, .inl [(0, 1023, 1)]), (2, .inl [(1, 1, 1)]), (3, .inl [(5, 5, 1)]), (4, .inl [(0, 5, 1)])], [], [], [], (5, [(1, -1)]))]) (fk := []) (rk := (6, [])) (sp := 8) (fuel := 3000) (by decide +kernel) (List.forall_mem_cons.mpr ⟨⟨ml_7_60, S_135⟩, fun _ h => nomatch h⟩) odX7_isFarFromKept
def ct_141 : aCt := (mX7_isFarFromKept, [.inr (.inl [92]), .inl [(0, 1023, 1)], .inl [(2, 5, 1)], .inl [(5, 5, 1)]], ([], []), [(some (.inl [(0, 0, 1)]), [], [], []), (some (.inl [(1, 1, 1)]), [], [], [])], [], [], 2)
set_option maxRecDepth 100000 in
theorem S_141 : aSpec wd ct_141 := bChk_ok wx_ok btX7_isFarFromKept (lk := [(60, 3, 2, ct_135)]) (nds := [(3, [(0, .inr (.inl [92])), (1, .inl [(0, 1023, 1)]), (2, .inl [(2, 5, 1)]), (3, .inl [(5, 5, 1)]), (4, .inl [(0, 5, 1)])], [], [], [], (5, [(2, -1)]))]) (fk := []) (rk := (6, [])) (sp := 8) (fuel := 3000) (by decide +kernel) (List.forall_mem_cons.mpr ⟨⟨ml_7_60, S_135⟩, fun _ h => nomatch h⟩) odX7_isFarFromKept
def ct_142 : aCt := (mX7_isFarFromKept, [.inr (.inl [92]), .inl [(0, 1023, 1)], .inl [(1, 1, 1)], .inl [(4, 4, 1)]], ([], []), [(some (.inl [(0, 0, 1)]), [], [], []), (some (.inl [(1, 1, 1)]), [], [], [])], [], [], 2)
set_option maxRecDepth 100000 in
theorem S_142 : aSpec wd ct_142 := bChk_ok wx_ok btX7_isFarFromKept (lk := [(60, 3, 2, ct_135)]) (nds := [(3, [(0, .inr (.inl [92])), (1, .inl [(0, 1023, 1)]), (2, .inl [(1, 1, 1)]), (3, .inl [(4, 4, 1)]), (4, .inl [(0, 4, 1)])], [], [], [], (4, [(1, -1)]))]) (fk := []) (rk := (5, [])) (sp := 8) (fuel := 3000) (by decide +kernel) (List.forall_mem_cons.mpr ⟨⟨ml_7_60, S_135⟩, fun _ h => nomatch h⟩) odX7_isFarFromKept
def ct_143 : aCt := (mX7_isFarFromKept, [.inr (.inl [92]), .inl [(0, 1023, 1)], .inl [(2, 5, 1)], .inl [(4, 4, 1)]], ([], []), [(some (.inl [(0, 0, 1)]), [], [], []), (some (.inl [(1, 1, 1)]), [], [], [])], [], [], 2)
set_option maxRecDepth 100000 in
theorem S_143 : aSpec wd ct_143 := bChk_ok wx_ok btX7_isFarFromKept (lk := [(60, 3, 2, ct_135)]) (nds := [(3, [(0, .inr (.inl [92])), (1, .inl [(0, 1023, 1)]), (2, .inl [(2, 5, 1)]), (3, .inl [(4, 4, 1)]), (4, .inl [(0, 4, 1)])], [], [], [], (4, [(2, -1)]))]) (fk := []) (rk := (5, [])) (sp := 8) (fuel := 3000) (by decide +kernel) (List.forall_mem_cons.mpr ⟨⟨ml_7_60, S_135⟩, fun _ h => nomatch h⟩) odX7_isFarFromKept
def ct_144 : aCt := (mX7_isFarFromKept, [.inr (.inl [92]), .inl [(0, 1023, 1)], .inl [(1, 1, 1)], .inl [(3, 3, 1)]], ([], []), [(some (.inl [(0, 0, 1)]), [], [], []), (some (.inl [(1, 1, 1)]), [], [], [])], [], [], 2)
set_option maxRecDepth 100000 in
theorem S_144 : aSpec wd ct_144 := bChk_ok wx_ok btX7_isFarFromKept (lk := [(60, 3, 2, ct_135)]) (nds := [(3, [(0, .inr (.inl [92])), (1, .inl [(0, 1023, 1)]), (2, .inl [(1, 1, 1)]), (3, .inl [(3, 3, 1)]), (4, .inl [(0, 3, 1)])], [], [], [], (3, [(1, -1)]))]) (fk := []) (rk := (4, [])) (sp := 8) (fuel := 3000) (by decide +kernel) (List.forall_mem_cons.mpr ⟨⟨ml_7_60, S_135⟩, fun _ h => nomatch h⟩) odX7_isFarFromKept
def ct_145 : aCt := (mX7_isFarFromKept, [.inr (.inl [92]), .inl [(0, 1023, 1)], .inl [(2, 5, 1)], .inl [(3, 3, 1)]], ([], []), [(some (.inl [(0, 0, 1)]), [], [], []), (some (.inl [(1, 1, 1)]), [], [], [])], [], [], 2)
set_option maxRecDepth 100000 in
theorem S_145 : aSpec wd ct_145 := bChk_ok wx_ok btX7_isFarFromKept (lk := [(60, 3, 2, ct_135)]) (nds := [(3, [(0, .inr (.inl [92])), (1, .inl [(0, 1023, 1)]), (2, .inl [(2, 5, 1)]), (3, .inl [(3, 3, 1)]), (4, .inl [(0, 3, 1)])], [], [], [], (3, [(2, -1)]))]) (fk := []) (rk := (4, [])) (sp := 8) (fuel := 3000) (by decide +kernel) (List.forall_mem_cons.mpr ⟨⟨ml_7_60, S_135⟩, fun _ h => nomatch h⟩) odX7_isFarFromKept
def ct_146 : aCt := (mX7_isFarFromKept, [.inr (.inl [92]), .inl [(0, 1023, 1)], .inl [(1, 1, 1)], .inl [(2, 2, 1)]], ([], []), [(some (.inl [(0, 0, 1)]), [], [], []), (some (.inl [(1, 1, 1)]), [], [], [])], [], [], 2)
set_option maxRecDepth 100000 in
theorem S_146 : aSpec wd ct_146 := bChk_ok wx_ok btX7_isFarFromKept (lk := [(60, 3, 2, ct_135)]) (nds := [(3, [(0, .inr (.inl [92])), (1, .inl [(0, 1023, 1)]), (2, .inl [(1, 1, 1)]), (3, .inl [(2, 2, 1)]), (4, .inl [(0, 2, 1)])], [], [], [], (2, [(1, -1)]))]) (fk := []) (rk := (3, [])) (sp := 8) (fuel := 3000) (by decide +kernel) (List.forall_mem_cons.mpr ⟨⟨ml_7_60, S_135⟩, fun _ h => nomatch h⟩) odX7_isFarFromKept
def ct_147 : aCt := (mX7_isFarFromKept, [.inr (.inl [92]), .inl [(0, 1023, 1)], .inl [(2, 5, 1)], .inl [(2, 2, 1)]], ([], []), [(some (.inl [(0, 0, 1)]), [], [], []), (some (.inl [(1, 1, 1)]), [], [], [])], [], [], 2)
set_option maxRecDepth 100000 in
theorem S_147 : aSpec wd ct_147 := bChk_ok wx_ok btX7_isFarFromKept (lk := [(60, 3, 2, ct_135)]) (nds := [(3, [(0, .inr (.inl [92])), (1, .inl [(0, 1023, 1)]), (2, .inl [(2, 5, 1)]), (3, .inl [(2, 2, 1)]), (4, .inl [(0, 2, 1)])], [], [], [], (2, [(2, -1)]))]) (fk := []) (rk := (3, [])) (sp := 8) (fuel := 3000) (by decide +kernel) (List.forall_mem_cons.mpr ⟨⟨ml_7_60, S_135⟩, fun _ h => nomatch h⟩) odX7_isFarFromKept
def ct_148 : aCt := (mX7_isFarFromKept, [.inr (.inl [92]), .inl [(0, 1023, 1)], .inl [(1, 1, 1)], .inl [(1, 1, 1)]], ([], []), [(some (.inl [(0, 0, 1)]), [], [], []), (some (.inl [(1, 1, 1)]), [], [], [])], [], [], 2)
set_option maxRecDepth 100000 in
theorem S_148 : aSpec wd ct_148 := bChk_ok wx_ok btX7_isFarFromKept (lk := [(60, 3, 2, ct_135)]) (nds := [(3, [(0, .inr (.inl [92])), (1, .inl [(0, 1023, 1)]), (2, .inl [(1, 1, 1)]), (3, .inl [(1, 1, 1)]), (4, .inl [(0, 1, 1)])], [], [], [], (1, [(1, -1)]))]) (fk := []) (rk := (2, [])) (sp := 8) (fuel := 3000) (by decide +kernel) (List.forall_mem_cons.mpr ⟨⟨ml_7_60, S_135⟩, fun _ h => nomatch h⟩) odX7_isFarFromKept
def ct_149 : aCt := (mX7_isFarFromKept, [.inr (.inl [92]), .inl [(0, 1023, 1)], .inl [(2, 5, 1)], .inl [(1, 1, 1)]], ([], []), [(some (.inl [(0, 0, 1)]), [], [], []), (some (.inl [(1, 1, 1)]), [], [], [])], [], [], 2)
set_option maxRecDepth 100000 in
theorem S_149 : aSpec wd ct_149 := bChk_ok wx_ok btX7_isFarFromKept (lk := [(60, 3, 2, ct_135)]) (nds := [(3, [(0, .inr (.inl [92])), (1, .inl [(0, 1023, 1)]), (2, .inl [(2, 5, 1)]), (3, .inl [(1, 1, 1)]), (4, .inl [(0, 1, 1)])], [], [], [], (1, [(2, -1)]))]) (fk := []) (rk := (2, [])) (sp := 8) (fuel := 3000) (by decide +kernel) (List.forall_mem_cons.mpr ⟨⟨ml_7_60, S_135⟩, fun _ h => nomatch h⟩) odX7_isFarFromKept
def ct_150 : aCt := (mX7_isFarFromKept, [.inr (.inl [92]), .inl [(0, 1023, 1)], .inl [(1, 1, 1)], .inl [(0, 0, 1)]], ([], []), [(some (.inl [(1, 1, 1)]), [], [], [])], [], [], 0)
set_option maxRecDepth 100000 in
theorem S_150 : aSpec wd ct_150 := bChk_ok wx_ok btX7_isFarFromKept (lk := []) (nds := [(3, [(0, .inr (.inl [92])), (1, .inl [(0, 1023, 1)]), (2, .inl [(1, 1, 1)]), (3, .inl [(0, 0, 1)]), (4, .inl [(0, 0, 1)])], [], [], [], (0, []))]) (fk := []) (rk := (1, [])) (sp := 8) (fuel := 3000) (by decide +kernel) (fun _ h => nomatch h) odX7_isFarFromKept
def ct_151 : aCt := (mX7_isFarFromKept, [.inr (.inl [92]), .inl [(0, 1023, 1)], .inl [(2, 5, 1)], .inl [(0, 0, 1)]], ([], []), [(some (.inl [(1, 1, 1)]), [], [], [])], [], [], 0)
set_option maxRecDepth 100000 in
theorem S_151 : aSpec wd ct_151 := bChk_ok wx_ok btX7_isFarFromKept (lk := []) (nds := [(3, [(0, .inr (.inl [92])), (1, .inl [(0, 1023, 1)]), (2, .inl [(2, 5, 1)]), (3, .inl [(0, 0, 1)]), (4, .inl [(0, 0, 1)])], [], [], [], (0, []))]) (fk := []) (rk := (1, [])) (sp := 8) (fuel := 3000) (by decide +kernel) (fun _ h => nomatch h) odX7_isFarFromKept
set_option maxRecDepth 100000 in
theorem btX7_findNew : bTab oX7_findNew tX7_findNew := ⟨ofX7_findNew, by decide +kernel⟩
def ct_152 : aCt := (mX7_findNew, [.inr (.inl [92]), .inl [(2, 5, 1)], .inl [(1, 5, 1)], .inl [(0, 9999, 1)], .inl [(1, 1, 1)]], ([((2, 4), [(1, 7, 1)])], [((92, 0), 2)]), [(some (.inl [(0, 1, 1)]), [], [], []), (some (.inl [(1, 1, 1)]), [], [], [])], [(92, 4, 5), (93, 0, 8)], [], 4)
set_option maxRecDepth 100000 in
theorem S_152 : aSpec wd ct_152 := bChk_ok wx_ok btX7_findNew (lk := [(77, 0, 4, ct_136), (77, 0, 4, ct_138), (77, 0, 4, ct_140), (77, 0, 4, ct_142), (77, 0, 4, ct_144), (77, 0, 4, ct_146), (77, 0, 4, ct_148), (77, 0, 4, ct_150), (73, 0, 3, ct_134), (77, 0, 4, ct_137), (77, 0, 4, ct_139), (77, 0, 4, ct_141), (77, 0, 4, ct_143), (77, 0, 4, ct_145), (77, 0, 4, ct_147), (77, 0, 4, ct_149), (77, 0, 4, ct_151), (70, 0, 3, ct_132)]) (nds := [(24, [(0, .inr (.inl [92])), (1, .inl [(2, 5, 1)]), (2, .inl [(1, 5, 1)]), (3, .inl [(0, 9999, 1)]), (4, .inl [(1, 1, 1)]), (5, .inl [(7, 7, 1)]), (6, .inl [(7, 8, 1)]), (7, .inl aTop), (8, .inl [(0, 1024, 1)])], [], [sl_31], [((92, 0), 2)], (9224, [(3, -1025), (5, -1)])), (24, [(0, .inr (.inl [92])), (1, .inl [(2, 5, 1)]), (2, .inl [(1, 5, 1)]), (3, .inl [(0, 9999, 1)]), (4, .inl [(1, 1, 1)]), (5, .inl [(6, 6, 1)]), (6, .inl [(6, 7, 1)]), (7, .inl aTop), (8, .inl [(0, 1024, 1)])], [], [sl_31], [((92, 0), 2)], (8199, [(3, -1025), (5, -1)])), (24, [(0, .inr (.inl [92])), (1, .inl [(2, 5, 1)]), (2, .inl [(1, 5, 1)]), (3, .inl [(0, 9999, 1)]), (4, .inl [(1, 1, 1)]), (5, .inl [(5, 5, 1)]), (6, .inl [(5, 6, 1)]), (7, .inl aTop), (8, .inl [(0, 1024, 1)])], [], [sl_31], [((92, 0), 2)], (7174, [(3, -1025), (5, -1)])), (24, [(0, .inr (.inl [92])), (1, .inl [(2, 5, 1)]), (2, .inl [(1, 5, 1)]), (3, .inl [(0, 9999, 1)]), (4, .inl [(1, 1, 1)]), (5, .inl [(4, 4, 1)]), (6, .inl [(4, 5, 1)]), (7, .inl aTop), (8, .inl [(0, 1024, 1)])], [], [sl_31], [((92, 0), 2)], (6149, [(3, -1025), (5, -1)])), (24, [(0, .inr (.inl [92])), (1, .inl [(2, 5, 1)]), (2, .inl [(1, 5, 1)]), (3, .inl [(0, 9999, 1)]), (4, .inl [(1, 1, 1)]), (5, .inl [(3, 3, 1)]), (6, .inl [(3, 4, 1)]), (7, .inl aTop), (8, .inl [(0, 1024, 1)])], [], [sl_31], [((92, 0), 2)], (5124, [(3, -1025), (5, -1)])), (24, [(0, .inr (.inl [92])), (1, .inl [(2, 5, 1)]), (2, .inl [(1, 5, 1)]), (3, .inl [(0, 9999, 1)]), (4, .inl [(1, 1, 1)]), (5, .inl [(2, 2, 1)]), (6, .inl [(2, 3, 1)]), (7, .inl aTop), (8, .inl [(0, 1024, 1)])], [], [sl_31], [((92, 0), 2)], (4099, [(3, -1025), (5, -1)])), (24, [(0, .inr (.inl [92])), (1, .inl [(2, 5, 1)]), (2, .inl [(1, 5, 1)]), (3, .inl [(0, 9999, 1)]), (4, .inl [(1, 1, 1)]), (5, .inl [(1, 1, 1)]), (6, .inl [(1, 2, 1)]), (7, .inl aTop), (8, .inl [(0, 1024, 1)])], [], [sl_31], [((92, 0), 2)], (3074, [(3, -1025), (5, -1)])), (24, [(0, .inr (.inl [92])), (1, .inl [(2, 5, 1)]), (2, .inl [(1, 5, 1)]), (3, .inl [(0, 9999, 1)]), (4, .inl [(1, 1, 1)]), (5, .inl [(0, 0, 1)]), (6, .inl [(0, 1, 1)]), (7, .inl aTop), (8, .inl [(0, 1024, 1)])], [], [sl_31], [((92, 0), 2)], (2049, [(3, -1025), (5, -1)]))]) (fk := [6]) (rk := (2050, [])) (sp := 16777216) (fuel := 3000) (by decide +kernel) (List.forall_mem_cons.mpr ⟨⟨ml_7_77, S_136⟩, List.forall_mem_cons.mpr ⟨⟨ml_7_77, S_138⟩, List.forall_mem_cons.mpr ⟨⟨ml_7_77, S_140⟩, List.forall_mem_cons.mpr ⟨⟨ml_7_77, S_142⟩, List.forall_mem_cons.mpr ⟨⟨ml_7_77, S_144⟩, List.forall_mem_cons.mpr ⟨⟨ml_7_77, S_146⟩, List.forall_mem_cons.mpr ⟨⟨ml_7_77, S_148⟩, List.forall_mem_cons.mpr ⟨⟨ml_7_77, S_150⟩, List.forall_mem_cons.mpr ⟨⟨ml_7_73, S_134⟩, List.forall_mem_cons.mpr ⟨⟨ml_7_77, S_137⟩, List.forall_mem_cons.mpr ⟨⟨ml_7_77, S_139⟩, List.forall_mem_cons.mpr ⟨⟨ml_7_77, S_141⟩, List.forall_mem_cons.mpr ⟨⟨ml_7_77, S_143⟩, List.forall_mem_cons.mpr ⟨⟨ml_7_77, S_145⟩, List.forall_mem_cons.mpr ⟨⟨ml_7_77, S_147⟩, List.forall_mem_cons.mpr ⟨⟨ml_7_77, S_149⟩, List.forall_mem_cons.mpr ⟨⟨ml_7_77, S_151⟩, List.forall_mem_cons.mpr ⟨⟨ml_7_70, S_132⟩, fun _ h => nomatch h⟩⟩⟩⟩⟩⟩⟩⟩⟩⟩⟩⟩⟩⟩⟩⟩⟩⟩) odX7_findNew
end Pk2
