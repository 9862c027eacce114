set_option maxRecDepth 100000 in
theorem btX7_slipped : bTab oX7_slipped tX7_slipped := ⟨ofX7_slipped, by decide +kernel⟩
def ct_327 : aCt := (mX7_slipped, [.inr (.inl [92]), .inl aTop, .inl [(-1000, 1000, 1)]], ([], [((92, 0), 2)]), [(some (.inl aTop), [], [], [])], [(92, 1, 2)], [], 1)
set_option maxRecDepth 100000 in
theorem S_327 : aSpec wd ct_327 := bChk_ok wx_ok btX7_slipped (lk := [(85, 0, 1, ct_325), (92, 3, 4, ct_326)]) (nds := []) (fk := []) (rk := (1, [])) (sp := 0) (fuel := 3000) (by decide +kernel) (List.forall_mem_cons.mpr ⟨⟨ml_7_85, S_325⟩, List.forall_mem_cons.mpr ⟨⟨ml_7_92, S_326⟩, fun _ h => nomatch h⟩⟩) odX7_slipped
def ct_328 : aCt := (mX7_fallIn, [.inr (.inl [92]), .inl [(0, 10048, 1)]], ([], [((92, 0), 2)]), [(some (.inl [(0, 3, 1)]), [], [], []), (some (.inl [(0, 0, 1)]), [], [], [])], [], [], 0)
set_option maxRecDepth 100000 in
theorem S_328 : aSpec wd ct_328 := bChk_ok wx_ok btX7_fallIn (lk := []) (nds := []) (fk := []) (rk := (1, [])) (sp := 0) (fuel := 3000) (by decide +kernel) (fun _ h => nomatch h) odX7_fallIn
def ct_329 : aCt := (mX7_hearerOf, [.inr (.inl [92]), .inl aTop, .inl [(-1000, 1000, 1)], .inl [(0, 10048, 1)]], ([((2, 4), [(1, 7, 1)])], [((92, 0), 2)]), [(some (.inl [(-2, -2, 1), (0, 6, 1)]), [], [], []), (some (.inl [(-2, -2, 1)]), [], [], [])], [(92, 2, 4)], [], 2)
set_option maxRecDepth 100000 in
theorem S_329 : aSpec wd ct_329 := bChk_ok wx_ok btX7_hearerOf (lk := [(50, 0, 2, ct_328), (54, 0, 4, ct_91), (54, 0, 4, ct_92), (60, 3, 2, ct_94)]) (nds := [(32, [(0, .inr (.inl [92])), (1, .inl aTop), (2, .inl [(-1000, 1000, 1)]), (3, .inl [(0, 10048, 1)]), (4, .inl aTop), (5, .inl [(-2, -2, 1), (0, 6, 1)]), (6, .inl [(0, 7, 1)])], [], [sl_31, sl_30], [((92, 0), 2)], (7, [(5, -1)]))]) (fk := []) (rk := (8, [])) (sp := 4294967296) (fuel := 3000) (by decide +kernel) (List.forall_mem_cons.mpr ⟨⟨ml_7_50, S_328⟩, List.forall_mem_cons.mpr ⟨⟨ml_7_54, S_91⟩, List.forall_mem_cons.mpr ⟨⟨ml_7_54, S_92⟩, List.forall_mem_cons.mpr ⟨⟨ml_7_60, S_94⟩, fun _ h => nomatch h⟩⟩⟩⟩) odX7_hearerOf
set_option maxRecDepth 100000 in
theorem btX11_heardWithSlips : bTab oX11_heardWithSlips tX11_heardWithSlips := ⟨ofX11_heardWithSlips, by decide +kernel⟩
def ct_330 : aCt := (mX11_heardWithSlips, [.inr (.inl [0]), .inl [(0, 10048, 1)]], ([((2, 4), [(1, 7, 1)])], [((0, 3), 2), ((92, 0), 2)]), [(some (.inl aTop), [], [], [])], [(92, 1, 4)], [], 3)
set_option maxRecDepth 100000 in
theorem S_330 : aSpec wd ct_330 := bChk_ok wx_ok btX11_heardWithSlips (lk := [(198, 0, 2, ct_88), (399, 0, 3, ct_327), (277, 0, 4, ct_329)]) (nds := [(4, [(0, .inr (.inl [0])), (1, .inl [(0, 10048, 1)]), (2, .inl aTop), (3, .inl [(0, 8, 1)])], [], [sl_31], [((0, 3), 2), ((92, 0), 2)], (8, [(2, -1)]))]) (fk := []) (rk := (9, [])) (sp := 16) (fuel := 3000) (by decide +kernel) (List.forall_mem_cons.mpr ⟨⟨ml_11_198, S_88⟩, List.forall_mem_cons.mpr ⟨⟨ml_11_399, S_327⟩, List.forall_mem_cons.mpr ⟨⟨ml_11_277, S_329⟩, fun _ h => nomatch h⟩⟩⟩) odX11_heardWithSlips
set_option maxRecDepth 100000 in
theorem btX11_decade : bTab oX11_decade tX11_decade := ⟨ofX11_decade, by decide +kernel⟩
def ct_331 : aCt := (mX11_decade, [.inr (.inl [0]), .inl aTop, .inl aTop], ([], [((0, 3), 2), ((92, 0), 2)]), [(some (.inl aTop), [], [((0, 2), [(0, 0, 1)]), ((2, 4), [(1, 7, 1)])], []), (some (.inl [(-1, -1, 1)]), [], [((0, 2), [(1, 2, 1)])], [])], [(0, 2, 3), (92, 1, 4)], [], 4)
set_option maxRecDepth 100000 in
theorem S_331 : aSpec wd ct_331 := bChk_ok wx_ok btX11_decade (lk := [(222, 0, 1, ct_105), (98, 0, 2, ct_6), (98, 0, 2, ct_74), (338, 0, 2, ct_330), (227, 1, 2, ct_323), (227, 1, 2, ct_324), (112, 0, 2, ct_71)]) (nds := [(51, [(0, .inr (.inl [0])), (1, .inl [(0, 65536, 1)]), (2, .inl [(0, 50, 1)]), (3, .inl aTop), (4, .inl [(0, 63, 1)])], [], [sl_31], [((0, 3), 2), ((92, 0), 2)], (63, [(3, -1)]))]) (fk := []) (rk := (64, [])) (sp := 2251799813685248) (fuel := 3000) (by decide +kernel) (List.forall_mem_cons.mpr ⟨⟨ml_11_222, S_105⟩, List.forall_mem_cons.mpr ⟨⟨ml_11_98, S_6⟩, List.forall_mem_cons.mpr ⟨⟨ml_11_98, S_74⟩, List.forall_mem_cons.mpr ⟨⟨ml_11_338, S_330⟩, List.forall_mem_cons.mpr ⟨⟨ml_11_227, S_323⟩, List.forall_mem_cons.mpr ⟨⟨ml_11_227, S_324⟩, List.forall_mem_cons.mpr ⟨⟨ml_11_112, S_71⟩, fun _ h => nomatch h⟩⟩⟩⟩⟩⟩⟩) odX11_decade
def ct_332 : aCt := (mX11_refused, [.inr (.inl [0]), .inl [(5, 5, 1)]], ([], []), [(some (.inl [(-1, -1, 1)]), [], [((0, 2), [(5, 5, 1)])], [])], [(0, 2, 3)], [], 0)
set_option maxRecDepth 100000 in
theorem S_332 : aSpec wd ct_332 := bChk_ok wx_ok btX11_refused (lk := []) (nds := []) (fk := []) (rk := (1, [])) (sp := 0) (fuel := 3000) (by decide +kernel) (fun _ h => nomatch h) odX11_refused
set_option maxRecDepth 100000 in
theorem btX2_copyFrom : bTab oX2_copyFrom tX2_copyFrom := ⟨ofX2_copyFrom, by decide +kernel⟩
def ct_333 : aCt := (mX2_copyFrom, [.inr (.inl [106, 112, 118, 124, 130, 136, 142, 148, 154, 160, 166, 172]), .inr (.inl [86])], ([], []), [(none, [], [], [])], [(106, 0, 2), (107, 0, 5), (108, 0, 5), (109, 0, 8), (110, 0, 8), (111, 0, 8), (112, 0, 2), (113, 0, 5), (114, 0, 5), (115, 0, 8), (116, 0, 8), (117, 0, 8), (118, 0, 2), (119, 0, 5), (120, 0, 5), (121, 0, 8), (122, 0, 8), (123, 0, 8), (124, 0, 2), (125, 0, 5), (126, 0, 5), (127, 0, 8), (128, 0, 8), (129, 0, 8), (130, 0, 2), (131, 0, 5), (132, 0, 5), (133, 0, 8), (134, 0, 8), (135, 0, 8), (136, 0, 2), (137, 0, 5), (138, 0, 5), (139, 0, 8), (140, 0, 8), (141, 0, 8), (142, 0, 2), (143, 0, 5), (144, 0, 5), (145, 0, 8), (146, 0, 8), (147, 0, 8), (148, 0, 2), (149, 0, 5), (150, 0, 5), (151, 0, 8), (152, 0, 8), (153, 0, 8), (154, 0, 2), (155, 0, 5), (156, 0, 5), (157, 0, 8), (158, 0, 8), (159, 0, 8), (160, 0, 2), (161, 0, 5), (162, 0, 5), (163, 0, 8), (164, 0, 8), (165, 0, 8), (166, 0, 2), (167, 0, 5), (168, 0, 5), (169, 0, 8), (170, 0, 8), (171, 0, 8), (172, 0, 2), (173, 0, 5), (174, 0, 5), (175, 0, 8), (176, 0, 8), (177, 0, 8)], [], 1)
set_option maxRecDepth 100000 in
theorem S_333 : aSpec wd ct_333 := bChk_ok wx_ok btX2_copyFrom (lk := []) (nds := []) (fk := []) (rk := (1, [])) (sp := 0) (fuel := 3000) (by decide +kernel) (fun _ h => nomatch h) odX2_copyFrom
set_option maxRecDepth 100000 in
theorem btX11_keepForUndo : bTab oX11_keepForUndo tX11_keepForUndo := ⟨ofX11_keepForUndo, by decide +kernel⟩
def ct_334 : aCt := (mX11_keepForUndo, [.inr (.inl [0])], ([], []), [(none, [], [], [])], [(0, 12, 14), (106, 0, 2), (107, 0, 5), (108, 0, 5), (109, 0, 8), (110, 0, 8), (111, 0, 8), (112, 0, 2), (113, 0, 5), (114, 0, 5), (115, 0, 8), (116, 0, 8), (117, 0, 8), (118, 0, 2), (119, 0, 5), (120, 0, 5), (121, 0, 8), (122, 0, 8), (123, 0, 8), (124, 0, 2), (125, 0, 5), (126, 0, 5), (127, 0, 8), (128, 0, 8), (129, 0, 8), (130, 0, 2), (131, 0, 5), (132, 0, 5), (133, 0, 8), (134, 0, 8), (135, 0, 8), (136, 0, 2), (137, 0, 5), (138, 0, 5), (139, 0, 8), (140, 0, 8), (141, 0, 8), (142, 0, 2), (143, 0, 5), (144, 0, 5), (145, 0, 8), (146, 0, 8), (147, 0, 8), (148, 0, 2), (149, 0, 5), (150, 0, 5), (151, 0, 8), (152, 0, 8), (153, 0, 8), (154, 0, 2), (155, 0, 5), (156, 0, 5), (157, 0, 8), (158, 0, 8), (159, 0, 8), (160, 0, 2), (161, 0, 5), (162, 0, 5), (163, 0, 8), (164, 0, 8), (165, 0, 8), (166, 0, 2), (167, 0, 5), (168, 0, 5), (169, 0, 8), (170, 0, 8), (171, 0, 8), (172, 0, 2), (173, 0, 5), (174, 0, 5), (175, 0, 8), (176, 0, 8), (177, 0, 8)], [], 2)
set_option maxRecDepth 100000 in
theorem S_334 : aSpec wd ct_334 := bChk_ok wx_ok btX11_keepForUndo (lk := [(359, 0, 2, ct_333)]) (nds := []) (fk := []) (rk := (1, [])) (sp := 0) (fuel := 3000) (by decide +kernel) (List.forall_mem_cons.mpr ⟨⟨ml_11_359, S_333⟩, fun _ h => nomatch h⟩) odX11_keepForUndo
def ct_335 : aCt := (mX11_granted, [.inr (.inl [0]), .inl [(-2147483648, -3, 1), (-1, 2147483647, 1)]], ([], []), [(some (.inl [(-2147483648, -3, 1), (-1, 2147483647, 1)]), [], [((0, 2), [(0, 0, 1)])], [])], [(0, 2, 3)], [], 0)
set_option maxRecDepth 100000 in
theorem S_335 : aSpec wd ct_335 := bChk_ok wx_ok btX11_granted (lk := []) (nds := []) (fk := []) (rk := (1, [])) (sp := 0) (fuel := 3000) (by decide +kernel) (fun _ h => nomatch h) odX11_granted
set_option maxRecDepth 100000 in
theorem btX11_send : bTab oX11_send tX11_send := ⟨ofX11_send, by decide +kernel⟩
def ct_336 : aCt := (mX11_send, [.inr (.inl [0]), .inl aTop, .inl aTop], ([], [((0, 3), 2), ((92, 0), 2), ((94, 0), 2)]), [(some (.inl [(-2147483648, -3, 1), (-1, 2147483647, 1)]), [none, some [(0, 4, 1)], some [(0, 7, 1)]], [((0, 2), [(0, 0, 1)]), ((2, 6), [(1, 5, 1)]), ((2, 7), [(1, 8, 1)]), ((94, 4), [(0, 6, 1)])], []), (some (.inl [(-1, -1, 1)]), [none, some aTop, none], [((0, 2), [(1, 1, 1), (5, 5, 1)])], [])], [(0, 2, 3), (0, 12, 14), (87, 0, 5), (88, 0, 5), (89, 0, 8), (90, 0, 8), (92, 2, 4), (94, 4, 7), (95, 0, 7), (106, 0, 2), (107, 0, 5), (108, 0, 5), (109, 0, 8), (110, 0, 8), (111, 0, 8), (112, 0, 2), (113, 0, 5), (114, 0, 5), (115, 0, 8), (116, 0, 8), (117, 0, 8), (118, 0, 2), (119, 0, 5), (120, 0, 5), (121, 0, 8), (122, 0, 8), (123, 0, 8), (124, 0, 2), (125, 0, 5), (126, 0, 5), (127, 0, 8), (128, 0, 8), (129, 0, 8), (130, 0, 2), (131, 0, 5), (132, 0, 5), (133, 0, 8), (134, 0, 8), (135, 0, 8), (136, 0, 2), (137, 0, 5), (138, 0, 5), (139, 0, 8), (140, 0, 8), (141, 0, 8), (142, 0, 2), (143, 0, 5), (144, 0, 5), (145, 0, 8), (146, 0, 8), (147, 0, 8), (148, 0, 2), (149, 0, 5), (150, 0, 5), (151, 0, 8), (152, 0, 8), (153, 0, 8), (154, 0, 2), (155, 0, 5), (156, 0, 5), (157, 0, 8), (158, 0, 8), (159, 0, 8), (160, 0, 2), (161, 0, 5), (162, 0, 5), (163, 0, 8), (164, 0, 8), (165, 0, 8), (166, 0, 2), (167, 0, 5), (168, 0, 5), (169, 0, 8), (170, 0, 8), (171, 0, 8), (172, 0, 2), (173, 0, 5), (174, 0, 5), (175, 0, 8), (176, 0, 8), (177, 0, 8)], [], 5)
set_option maxRecDepth 100000 in
theorem S_336 : aSpec wd ct_336 := bChk_ok wx_ok btX11_send (lk := [(341, 0, 1, ct_334), (98, 0, 2, ct_332), (98, 0, 2, ct_74), (283, 0, 3, ct_190), (283, 0, 3, ct_189), (283, 0, 3, ct_188), (283, 0, 3, ct_187), (283, 0, 3, ct_186), (112, 0, 2, ct_335), (121, 0, 2, ct_70), (147, 0, 2, ct_76)]) (nds := []) (fk := []) (rk := (1, [])) (sp := 0) (fuel := 3000) (by decide +kernel) (List.forall_mem_cons.mpr ⟨⟨ml_11_341, S_334⟩, List.forall_mem_cons.mpr ⟨⟨ml_11_98, S_332⟩, List.forall_mem_cons.mpr ⟨⟨ml_11_98, S_74⟩, List.forall_mem_cons.mpr ⟨⟨ml_11_283, S_190⟩, List.forall_mem_cons.mpr ⟨⟨ml_11_283, S_189⟩, List.forall_mem_cons.mpr ⟨⟨ml_11_283, S_188⟩, List.forall_mem_cons.mpr ⟨⟨ml_11_283, S_187⟩, List.forall_mem_cons.mpr ⟨⟨ml_11_283, S_186⟩, List.forall_mem_cons.mpr ⟨⟨ml_11_112, S_335⟩, List.forall_mem_cons.mpr ⟨⟨ml_11_121, S_70⟩, List.forall_mem_cons.mpr ⟨⟨ml_11_147, S_76⟩, fun _ h => nomatch h⟩⟩⟩⟩⟩⟩⟩⟩⟩⟩⟩) odX11_send
def ct_337 : aCt := (mX11_isWithin, [.inl aTop, .inl [(-1, 3, 1)]], ([], []), [(some (.inl [(0, 0, 1)]), [some aTop, none], [], []), (some (.inl [(1, 1, 1)]), [some [(0, 3, 1)], some [(0, 3, 1)]], [], [])], [], [], 0)
set_option maxRecDepth 100000 in
theorem S_337 : aSpec wd ct_337 := bChk_ok wx_ok btX11_isWithin (lk := []) (nds := []) (fk := []) (rk := (1, [])) (sp := 0) (fuel := 3000) (by decide +kernel) (fun _ h => nomatch h) odX11_isWithin
def ct_338 : aCt := (mX11_withNote, [.inl aTop, .inl [(-1000, 1000, 1)], .inl [(0, 999, 1)], .inl [(0, 3, 1)]], ([], []), [(some (.inl aTop), [], [], [])], [], [], 0)
set_option maxRecDepth 100000 in
theorem S_338 : aSpec wd ct_338 := bChk_ok wx_ok btX11_withNote (lk := []) (nds := []) (fk := []) (rk := (1, [])) (sp := 0) (fuel := 3000) (by decide +kernel) (fun _ h => nomatch h) odX11_withNote
set_option maxRecDepth 100000 in
theorem btX11_hasRefused : bTab oX11_hasRefused tX11_hasRefused := ⟨ofX11_hasRefused, by decide +kernel⟩
def ct_339 : aCt := (mX11_hasRefused, [.inr (.inl [0]), .inl [(5, 5, 1)]], ([], []), [(some (.inl [(0, 0, 1)]), [], [((0, 2), [(5, 5, 1)])], [])], [(0, 2, 3)], [], 0)
set_option maxRecDepth 100000 in
theorem S_339 : aSpec wd ct_339 := bChk_ok wx_ok btX11_hasRefused (lk := []) (nds := []) (fk := []) (rk := (1, [])) (sp := 0) (fuel := 3000) (by decide +kernel) (fun _ h => nomatch h) odX11_hasRefused
set_option maxRecDepth 100000 in
theorem btX11_hasGranted : bTab oX11_hasGranted tX11_hasGranted := ⟨ofX11_hasGranted, by decide +kernel⟩
def ct_340 : aCt := (mX11_hasGranted, [.inr (.inl [0])], ([], []), [(some (.inl [(1, 1, 1)]), [], [((0, 2), [(0, 0, 1)])], [])], [(0, 2, 3)], [], 0)
set_option maxRecDepth 100000 in
theorem S_340 : aSpec wd ct_340 := bChk_ok wx_ok btX11_hasGranted (lk := []) (nds := []) (fk := []) (rk := (1, [])) (sp := 0) (fuel := 3000) (by decide +kernel) (fun _ h => nomatch h) odX11_hasGranted
def ct_341 : aCt := (mX11_hasRefused, [.inr (.inl [0]), .inl [(2, 2, 1)]], ([], []), [(some (.inl [(0, 0, 1)]), [], [((0, 2), [(2, 2, 1)])], [])], [(0, 2, 3)], [], 0)
set_option maxRecDepth 100000 in
theorem S_341 : aSpec wd ct_341 := bChk_ok wx_ok btX11_hasRefused (lk := []) (nds := []) (fk := []) (rk := (1, [])) (sp := 0) (fuel := 3000) (by decide +kernel) (fun _ h => nomatch h) odX11_hasRefused
def ct_342 : aCt := (mX11_hasRefused, [.inr (.inl [0]), .inl [(1, 1, 1)]], ([], []), [(some (.inl [(0, 0, 1)]), [], [((0, 2), [(1, 1, 1)])], [])], [(0, 2, 3)], [], 0)
set_option maxRecDepth 100000 in
theorem S_342 : aSpec wd ct_342 := bChk_ok wx_ok btX11_hasRefused (lk := []) (nds := []) (fk := []) (rk := (1, [])) (sp := 0) (fuel := 3000) (by decide +kernel) (fun _ h => nomatch h) odX11_hasRefused
set_option maxRecDepth 100000 in
theorem btX11_tune : bTab oX11_tune tX11_tune := ⟨ofX11_tune, by decide +kernel⟩
def ct_343 : aCt := (mX11_tune, [.inr (.inl [0]), .inl aTop, .inl aTop, .inl aTop], ([], [((0, 3), 2)]), [(some (.inl [(0, 0, 1)]), [], [((0, 2), [(1, 2, 1), (5, 5, 1)])], []), (some (.inl [(1, 1, 1)]), [none, some [(0, 7, 1)], some [(0, 999, 1)], some [(0, 3, 1)]], [((0, 2), [(0, 0, 1)]), ((2, 7), [(1, 8, 1)])], [])], [(0, 2, 3), (0, 12, 14), (91, 0, 8), (106, 0, 2), (107, 0, 5), (108, 0, 5), (109, 0, 8), (110, 0, 8), (111, 0, 8), (112, 0, 2), (113, 0, 5), (114, 0, 5), (115, 0, 8), (116, 0, 8), (117, 0, 8), (118, 0, 2), (119, 0, 5), (120, 0, 5), (121, 0, 8), (122, 0, 8), (123, 0, 8), (124, 0, 2), (125, 0, 5), (126, 0, 5), (127, 0, 8), (128, 0, 8), (129, 0, 8), (130, 0, 2), (131, 0, 5), (132, 0, 5), (133, 0, 8), (134, 0, 8), (135, 0, 8), (136, 0, 2), (137, 0, 5), (138, 0, 5), (139, 0, 8), (140, 0, 8), (141, 0, 8), (142, 0, 2), (143, 0, 5), (144, 0, 5), (145, 0, 8), (146, 0, 8), (147, 0, 8), (148, 0, 2), (149, 0, 5), (150, 0, 5), (151, 0, 8), (152, 0, 8), (153, 0, 8), (154, 0, 2), (155, 0, 5), (156, 0, 5), (157, 0, 8), (158, 0, 8), (159, 0, 8), (160, 0, 2), (161, 0, 5), (162, 0, 5), (163, 0, 8), (164, 0, 8), (165, 0, 8), (166, 0, 2), (167, 0, 5), (168, 0, 5), (169, 0, 8), (170, 0, 8), (171, 0, 8), (172, 0, 2), (173, 0, 5), (174, 0, 5), (175, 0, 8), (176, 0, 8), (177, 0, 8)], [], 3)
set_option maxRecDepth 100000 in
theorem S_343 : aSpec wd ct_343 := bChk_ok wx_ok btX11_tune (lk := [(341, 0, 1, ct_334), (356, 0, 1, ct_340), (347, 0, 2, ct_339), (347, 0, 2, ct_341), (347, 0, 2, ct_342), (198, 0, 2, ct_88), (242, 0, 2, ct_113), (227, 1, 2, ct_337), (353, 1, 4, ct_338), (191, 0, 3, ct_89)]) (nds := []) (fk := []) (rk := (1, [])) (sp := 0) (fuel := 3000) (by decide +kernel) (List.forall_mem_cons.mpr ⟨⟨ml_11_341, S_334⟩, List.forall_mem_cons.mpr ⟨⟨ml_11_356, S_340⟩, List.forall_mem_cons.mpr ⟨⟨ml_11_347, S_339⟩, List.forall_mem_cons.mpr ⟨⟨ml_11_347, S_341⟩, List.forall_mem_cons.mpr ⟨⟨ml_11_347, S_342⟩, List.forall_mem_cons.mpr ⟨⟨ml_11_198, S_88⟩, List.forall_mem_cons.mpr ⟨⟨ml_11_242, S_113⟩, List.forall_mem_cons.mpr ⟨⟨ml_11_227, S_337⟩, List.forall_mem_cons.mpr ⟨⟨ml_11_353, S_338⟩, List.forall_mem_cons.mpr ⟨⟨ml_11_191, S_89⟩, fun _ h => nomatch h⟩⟩⟩⟩⟩⟩⟩⟩⟩⟩) odX11_tune
def ct_344 : aCt := (mX11_refused, [.inr (.inl [0]), .inl [(3, 3, 1)]], ([], []), [(some (.inl [(-1, -1, 1)]), [], [((0, 2), [(3, 3, 1)])], [])], [(0, 2, 3)], [], 0)
set_option maxRecDepth 100000 in
theorem S_344 : aSpec wd ct_344 := bChk_ok wx_ok btX11_refused (lk := []) (nds := []) (fk := []) (rk := (1, [])) (sp := 0) (fuel := 3000) (by decide +kernel) (fun _ h => nomatch h) odX11_refused
def ct_345 : aCt := (mX11_granted, [.inr (.inl [0]), .inl [(99, 9999, 1)]], ([], []), [(some (.inl [(99, 9999, 1)]), [], [((0, 2), [(0, 0, 1)])], [])], [(0, 2, 3)], [], 0)
set_option maxRecDepth 100000 in
theorem S_345 : aSpec wd ct_345 := bChk_ok wx_ok btX11_granted (lk := []) (nds := []) (fk := []) (rk := (1, [])) (sp := 0) (fuel := 3000) (by decide +kernel) (fun _ h => nomatch h) odX11_granted
def ct_346 : aCt := (mX11_granted, [.inr (.inl [0]), .inl [(98, 9999, 1)]], ([], []), [(some (.inl [(98, 9999, 1)]), [], [((0, 2), [(0, 0, 1)])], [])], [(0, 2, 3)], [], 0)
set_option maxRecDepth 100000 in
theorem S_346 : aSpec wd ct_346 := bChk_ok wx_ok btX11_granted (lk := []) (nds := []) (fk := []) (rk := (1, [])) (sp := 0) (fuel := 3000) (by decide +kernel) (fun _ h => nomatch h) odX11_granted
def ct_347 : aCt := (mX11_granted, [.inr (.inl [0]), .inl [(97, 9999, 1)]], ([], []), [(some (.inl [(97, 9999, 1)]), [], [((0, 2), [(0, 0, 1)])], [])], [(0, 2, 3)], [], 0)
set_option maxRecDepth 100000 in
theorem S_347 : aSpec wd ct_347 := bChk_ok wx_ok btX11_granted (lk := []) (nds := []) (fk := []) (rk := (1, [])) (sp := 0) (fuel := 3000) (by decide +kernel) (fun _ h => nomatch h) odX11_granted
def ct_348 : aCt := (mX11_granted, [.inr (.inl [0]), .inl [(96, 9999, 1)]], ([], []), [(some (.inl [(96, 9999, 1)]), [], [((0, 2), [(0, 0, 1)])], [])], [(0, 2, 3)], [], 0)
set_option maxRecDepth 100000 in
theorem S_348 : aSpec wd ct_348 := bChk_ok wx_ok btX11_granted (lk := []) (nds := []) (fk := []) (rk := (1, [])) (sp := 0) (fuel := 3000) (by decide +kernel) (fun _ h => nomatch h) odX11_granted
def ct_349 : aCt := (mX11_granted, [.inr (.inl [0]), .inl [(95, 9999, 1)]], ([], []), [(some (.inl [(95, 9999, 1)]), [], [((0, 2), [(0, 0, 1)])], [])], [(0, 2, 3)], [], 0)
set_option maxRecDepth 100000 in
theorem S_349 : aSpec wd ct_349 := bChk_ok wx_ok btX11_granted (lk := []) (nds := []) (fk := []) (rk := (1, [])) (sp := 0) (fuel := 3000) (by decide +kernel) (fun _ h => nomatch h) odX11_granted
def ct_350 : aCt := (mX11_granted, [.inr (.inl [0]), .inl [(94, 9999, 1)]], ([], []), [(some (.inl [(94, 9999, 1)]), [], [((0, 2), [(0, 0, 1)])], [])], [(0, 2, 3)], [], 0)
set_option maxRecDepth 100000 in
theorem S_350 : aSpec wd ct_350 := bChk_ok wx_ok btX11_granted (lk := []) (nds := []) (fk := []) (rk := (1, [])) (sp := 0) (fuel := 3000) (by decide +kernel) (fun _ h => nomatch h) odX11_granted
def ct_351 : aCt := (mX11_granted, [.inr (.inl [0]), .inl [(93, 9999, 1)]], ([], []), [(some (.inl [(93, 9999, 1)]), [], [((0, 2), [(0, 0, 1)])], [])], [(0, 2, 3)], [], 0)
set_option maxRecDepth 100000 in
theorem S_351 : aSpec wd ct_351 := bChk_ok wx_ok btX11_granted (lk := []) (nds := []) (fk := []) (rk := (1, [])) (sp := 0) (fuel := 3000) (by decide +kernel) (fun _ h => nomatch h) odX11_granted
def ct_352 : aCt := (mX11_granted, [.inr (.inl [0]), .inl [(92, 9999, 1)]], ([], []), [(some (.inl [(92, 9999, 1)]), [], [((0, 2), [(0, 0, 1)])], [])], [(0, 2, 3)], [], 0)
set_option maxRecDepth 100000 in
theorem S_352 : aSpec wd ct_352 := bChk_ok wx_ok btX11_granted (lk := []) (nds := []) (fk := []) (rk := (1, [])) (sp := 0) (fuel := 3000) (by decide +kernel) (fun _ h => nomatch h) odX11_granted
def ct_353 : aCt := (mX11_granted, [.inr (.inl [0]), .inl [(91, 9999, 1)]], ([], []), [(some (.inl [(91, 9999, 1)]), [], [((0, 2), [(0, 0, 1)])], [])], [(0, 2, 3)], [], 0)
set_option maxRecDepth 100000 in
theorem S_353 : aSpec wd ct_353 := bChk_ok wx_ok btX11_granted (lk := []) (nds := []) (fk := []) (rk := (1, [])) (sp := 0) (fuel := 3000) (by decide +kernel) (fun _ h => nomatch h) odX11_granted
def ct_354 : aCt := (mX11_granted, [.inr (.inl [0]), .inl [(90, 9999, 1)]], ([], []), [(some (.inl [(90, 9999, 1)]), [], [((0, 2), [(0, 0, 1)])], [])], [(0, 2, 3)], [], 0)
set_option maxRecDepth 100000 in
theorem S_354 : aSpec wd ct_354 := bChk_ok wx_ok btX11_granted (lk := []) (nds := []) (fk := []) (rk := (1, [])) (sp := 0) (fuel := 3000) (by decide +kernel) (fun _ h => nomatch h) odX11_granted
def ct_355 : aCt := (mX11_granted, [.inr (.inl [0]), .inl [(89, 9999, 1)]], ([], []), [(some (.inl [(89, 9999, 1)]), [], [((0, 2), [(0, 0, 1)])], [])], [(0, 2, 3)], [], 0)
set_option maxRecDepth 100000 in
theorem S_355 : aSpec wd ct_355 := bChk_ok wx_ok btX11_granted (lk := []) (nds := []) (fk := []) (rk := (1, [])) (sp := 0) (fuel := 3000) (by decide +kernel) (fun _ h => nomatch h) odX11_granted
def ct_356 : aCt := (mX11_granted, [.inr (.inl [0]), .inl [(88, 9999, 1)]], ([], []), [(some (.inl [(88, 9999, 1)]), [], [((0, 2), [(0, 0, 1)])], [])], [(0, 2, 3)], [], 0)
set_option maxRecDepth 100000 in
theorem S_356 : aSpec wd ct_356 := bChk_ok wx_ok btX11_granted (lk := []) (nds := []) (fk := []) (rk := (1, [])) (sp := 0) (fuel := 3000) (by decide +kernel) (fun _ h => nomatch h) odX11_granted
def ct_357 : aCt := (mX11_granted, [.inr (.inl [0]), .inl [(87, 9999, 1)]], ([], []), [(some (.inl [(87, 9999, 1)]), [], [((0, 2), [(0, 0, 1)])], [])], [(0, 2, 3)], [], 0)
set_option maxRecDepth 100000 in
theorem S_357 : aSpec wd ct_357 := bChk_ok wx_ok btX11_granted (lk := []) (nds := []) (fk := []) (rk := (1, [])) (sp := 0) (fuel := 3000) (by decide +kernel) (fun _ h => nomatch h) odX11_granted
def ct_358 : aCt := (mX11_granted, [.inr (.inl [0]), .inl [(86, 9999, 1)]], ([], []), [(some (.inl [(86, 9999, 1)]), [], [((0, 2), [(0, 0, 1)])], [])], [(0, 2, 3)], [], 0)
set_option maxRecDepth 100000 in
theorem S_358 : aSpec wd ct_358 := bChk_ok wx_ok btX11_granted (lk := []) (nds := []) (fk := []) (rk := (1, [])) (sp := 0) (fuel := 3000) (by decide +kernel) (fun _ h => nomatch h) odX11_granted
def ct_359 : aCt := (mX11_granted, [.inr (.inl [0]), .inl [(85, 9999, 1)]], ([], []), [(some (.inl [(85, 9999, 1)]), [], [((0, 2), [(0, 0, 1)])], [])], [(0, 2, 3)], [], 0)
set_option maxRecDepth 100000 in
theorem S_359 : aSpec wd ct_359 := bChk_ok wx_ok btX11_granted (lk := []) (nds := []) (fk := []) (rk := (1, [])) (sp := 0) (fuel := 3000) (by decide +kernel) (fun _ h => nomatch h) odX11_granted
def ct_360 : aCt := (mX11_granted, [.inr (.inl [0]), .inl [(84, 9999, 1)]], ([], []), [(some (.inl [(84, 9999, 1)]), [], [((0, 2), [(0, 0, 1)])], [])], [(0, 2, 3)], [], 0)
set_option maxRecDepth 100000 in
theorem S_360 : aSpec wd ct_360 := bChk_ok wx_ok btX11_granted (lk := []) (nds := []) (fk := []) (rk := (1, [])) (sp := 0) (fuel := 3000) (by decide +kernel) (fun _ h => nomatch h) odX11_granted
def ct_361 : aCt := (mX11_granted, [.inr (.inl [0]), .inl [(83, 9999, 1)]], ([], []), [(some (.inl [(83, 9999, 1)]), [], [((0, 2), [(0, 0, 1)])], [])], [(0, 2, 3)], [], 0)
set_option maxRecDepth 100000 in
theorem S_361 : aSpec wd ct_361 := bChk_ok wx_ok btX11_granted (lk := []) (nds := []) (fk := []) (rk := (1, [])) (sp := 0) (fuel := 3000) (by decide +kernel) (fun _ h => nomatch h) odX11_granted
def ct_362 : aCt := (mX11_granted, [.inr (.inl [0]), .inl [(82, 9999, 1)]], ([], []), [(some (.inl [(82, 9999, 1)]), [], [((0, 2), [(0, 0, 1)])], [])], [(0, 2, 3)], [], 0)
set_option maxRecDepth 100000 in
theorem S_362 : aSpec wd ct_362 := bChk_ok wx_ok btX11_granted (lk := []) (nds := []) (fk := []) (rk := (1, [])) (sp := 0) (fuel := 3000) (by decide +kernel) (fun _ h => nomatch h) odX11_granted
def ct_363 : aCt := (mX11_granted, [.inr (.inl [0]), .inl [(81, 9999, 1)]], ([], []), [(some (.inl [(81, 9999, 1)]), [], [((0, 2), [(0, 0, 1)])], [])], [(0, 2, 3)], [], 0)
set_option maxRecDepth 100000 in
theorem S_363 : aSpec wd ct_363 := bChk_ok wx_ok btX11_granted (lk := []) (nds := []) (fk := []) (rk := (1, [])) (sp := 0) (fuel := 3000) (by decide +kernel) (fun _ h => nomatch h) odX11_granted
def ct_364 : aCt := (mX11_granted, [.inr (.inl [0]), .inl [(80, 9999, 1)]], ([], []), [(some (.inl [(80, 9999, 1)]), [], [((0, 2), [(0, 0, 1)])], [])], [(0, 2, 3)], [], 0)
set_option maxRecDepth 100000 in
theorem S_364 : aSpec wd ct_364 := bChk_ok wx_ok btX11_granted (lk := []) (nds := []) (fk := []) (rk := (1, [])) (sp := 0) (fuel := 3000) (by decide +kernel) (fun _ h => nomatch h) odX11_granted
def ct_365 : aCt := (mX11_granted, [.inr (.inl [0]), .inl [(79, 9999, 1)]], ([], []), [(some (.inl [(79, 9999, 1)]), [], [((0, 2), [(0, 0, 1)])], [])], [(0, 2, 3)], [], 0)
set_option maxRecDepth 100000 in
theorem S_365 : aSpec wd ct_365 := bChk_ok wx_ok btX11_granted (lk := []) (nds := []) (fk := []) (rk := (1, [])) (sp := 0) (fuel := 3000) (by decide +kernel) (fun _ h => nomatch h) odX11_granted
def ct_366 : aCt := (mX11_granted, [.inr (.inl [0]), .inl [(78, 9999, 1)]], ([], []), [(some (.inl [(78, 9999, 1)]), [], [((0, 2), [(0, 0, 1)])], [])], [(0, 2, 3)], [], 0)
set_option maxRecDepth 100000 in
theorem S_366 : aSpec wd ct_366 := bChk_ok wx_ok btX11_granted (lk := []) (nds := []) (fk := []) (rk := (1, [])) (sp := 0) (fuel := 3000) (by decide +kernel) (fun _ h => nomatch h) odX11_granted
def ct_367 : aCt := (mX11_granted, [.inr (.inl [0]), .inl [(77, 9999, 1)]], ([], []), [(some (.inl [(77, 9999, 1)]), [], [((0, 2), [(0, 0, 1)])], [])], [(0, 2, 3)], [], 0)
set_option maxRecDepth 100000 in
theorem S_367 : aSpec wd ct_367 := bChk_ok wx_ok btX11_granted (lk := []) (nds := []) (fk := []) (rk := (1, [])) (sp := 0) (fuel := 3000) (by decide +kernel) (fun _ h => nomatch h) odX11_granted
def ct_368 : aCt := (mX11_granted, [.inr (.inl [0]), .inl [(76, 9999, 1)]], ([], []), [(some (.inl [(76, 9999, 1)]), [], [((0, 2), [(0, 0, 1)])], [])], [(0, 2, 3)], [], 0)
set_option maxRecDepth 100000 in
theorem S_368 : aSpec wd ct_368 := bChk_ok wx_ok btX11_granted (lk := []) (nds := []) (fk := []) (rk := (1, [])) (sp := 0) (fuel := 3000) (by decide +kernel) (fun _ h => nomatch h) odX11_granted
def ct_369 : aCt := (mX11_granted, [.inr (.inl [0]), .inl [(75, 9999, 1)]], ([], []), [(some (.inl [(75, 9999, 1)]), [], [((0, 2), [(0, 0, 1)])], [])], [(0, 2, 3)], [], 0)
set_option maxRecDepth 100000 in
theorem S_369 : aSpec wd ct_369 := bChk_ok wx_ok btX11_granted (lk := []) (nds := []) (fk := []) (rk := (1, [])) (sp := 0) (fuel := 3000) (by decide +kernel) (fun _ h => nomatch h) odX11_granted
def ct_370 : aCt := (mX11_granted, [.inr (.inl [0]), .inl [(74, 9999, 1)]], ([], []), [(some (.inl [(74, 9999, 1)]), [], [((0, 2), [(0, 0, 1)])], [])], [(0, 2, 3)], [], 0)
set_option maxRecDepth 100000 in
theorem S_370 : aSpec wd ct_370 := bChk_ok wx_ok btX11_granted (lk := []) (nds := []) (fk := []) (rk := (1, [])) (sp := 0) (fuel := 3000) (by decide +kernel) (fun _ h => nomatch h) odX11_granted
def ct_371 : aCt := (mX11_granted, [.inr (.inl [0]), .inl [(73, 9999, 1)]], ([], []), [(some (.inl [(73, 9999, 1)]), [], [((0, 2), [(0, 0, 1)])], [])], [(0, 2, 3)], [], 0)
set_option maxRecDepth 100000 in
theorem S_371 : aSpec wd ct_371 := bChk_ok wx_ok btX11_granted (lk := []) (nds := []) (fk := []) (rk := (1, [])) (sp := 0) (fuel := 3000) (by decide +kernel) (fun _ h => nomatch h) odX11_granted
def ct_372 : aCt := (mX11_granted, [.inr (.inl [0]), .inl [(72, 9999, 1)]], ([], []), [(some (.inl [(72, 9999, 1)]), [], [((0, 2), [(0, 0, 1)])], [])], [(0, 2, 3)], [], 0)
set_option maxRecDepth 100000 in
theorem S_372 : aSpec wd ct_372 := bChk_ok wx_ok btX11_granted (lk := []) (nds := []) (fk := []) (rk := (1, [])) (sp := 0) (fuel := 3000) (by decide +kernel) (fun _ h => nomatch h) odX11_granted
def ct_373 : aCt := (mX11_granted, [.inr (.inl [0]), .inl [(71, 9999, 1)]], ([], []), [(some (.inl [(71, 9999, 1)]), [], [((0, 2), [(0, 0, 1)])], [])], [(0, 2, 3)], [], 0)
set_option maxRecDepth 100000 in
theorem S_373 : aSpec wd ct_373 := bChk_ok wx_ok btX11_granted (lk := []) (nds := []) (fk := []) (rk := (1, [])) (sp := 0) (fuel := 3000) (by decide +kernel) (fun _ h => nomatch h) odX11_granted
def ct_374 : aCt := (mX11_granted, [.inr (.inl [0]), .inl [(70, 9999, 1)]], ([], []), [(some (.inl [(70, 9999, 1)]), [], [((0, 2), [(0, 0, 1)])], [])], [(0, 2, 3)], [], 0)
set_option maxRecDepth 100000 in
theorem S_374 : aSpec wd ct_374 := bChk_ok wx_ok btX11_granted (lk := []) (nds := []) (fk := []) (rk := (1, [])) (sp := 0) (fuel := 3000) (by decide +kernel) (fun _ h => nomatch h) odX11_granted
def ct_375 : aCt := (mX11_granted, [.inr (.inl [0]), .inl [(69, 9999, 1)]], ([], []), [(some (.inl [(69, 9999, 1)]), [], [((0, 2), [(0, 0, 1)])], [])], [(0, 2, 3)], [], 0)
set_option maxRecDepth 100000 in
theorem S_375 : aSpec wd ct_375 := bChk_ok wx_ok btX11_granted (lk := []) (nds := []) (fk := []) (rk := (1, [])) (sp := 0) (fuel := 3000) (by decide +kernel) (fun _ h => nomatch h) odX11_granted
def ct_376 : aCt := (mX11_granted, [.inr (.inl [0]), .inl [(68, 9999, 1)]], ([], []), [(some (.inl [(68, 9999, 1)]), [], [((0, 2), [(0, 0, 1)])], [])], [(0, 2, 3)], [], 0)
set_option maxRecDepth 100000 in
theorem S_376 : aSpec wd ct_376 := bChk_ok wx_ok btX11_granted (lk := []) (nds := []) (fk := []) (rk := (1, [])) (sp := 0) (fuel := 3000) (by decide +kernel) (fun _ h => nomatch h) odX11_granted
def ct_377 : aCt := (mX11_granted, [.inr (.inl [0]), .inl [(67, 9999, 1)]], ([], []), [(some (.inl [(67, 9999, 1)]), [], [((0, 2), [(0, 0, 1)])], [])], [(0, 2, 3)], [], 0)
set_option maxRecDepth 100000 in
theorem S_377 : aSpec wd ct_377 := bChk_ok wx_ok btX11_granted (lk := []) (nds := []) (fk := []) (rk := (1, [])) (sp := 0) (fuel := 3000) (by decide +kernel) (fun _ h => nomatch h) odX11_granted
def ct_378 : aCt := (mX11_granted, [.inr (.inl [0]), .inl [(66, 9999, 1)]], ([], []), [(some (.inl [(66, 9999, 1)]), [], [((0, 2), [(0, 0, 1)])], [])], [(0, 2, 3)], [], 0)
set_option maxRecDepth 100000 in
theorem S_378 : aSpec wd ct_378 := bChk_ok wx_ok btX11_granted (lk := []) (nds := []) (fk := []) (rk := (1, [])) (sp := 0) (fuel := 3000) (by decide +kernel) (fun _ h => nomatch h) odX11_granted
def ct_379 : aCt := (mX11_granted, [.inr (.inl [0]), .inl [(65, 9999, 1)]], ([], []), [(some (.inl [(65, 9999, 1)]), [], [((0, 2), [(0, 0, 1)])], [])], [(0, 2, 3)], [], 0)
set_option maxRecDepth 100000 in
theorem S_379 : aSpec wd ct_379 := bChk_ok wx_ok btX11_granted (lk := []) (nds := []) (fk := []) (rk := (1, [])) (sp := 0) (fuel := 3000) (by decide +kernel) (fun _ h => nomatch h) odX11_granted
def ct_380 : aCt := (mX11_granted, [.inr (.inl [0]), .inl [(64, 9999, 1)]], ([], []), [(some (.inl [(64, 9999, 1)]), [], [((0, 2), [(0, 0, 1)])], [])], [(0, 2, 3)], [], 0)
set_option maxRecDepth 100000 in
theorem S_380 : aSpec wd ct_380 := bChk_ok wx_ok btX11_granted (lk := []) (nds := []) (fk := []) (rk := (1, [])) (sp := 0) (fuel := 3000) (by decide +kernel) (fun _ h => nomatch h) odX11_granted
def ct_381 : aCt := (mX11_granted, [.inr (.inl [0]), .inl [(63, 9999, 1)]], ([], []), [(some (.inl [(63, 9999, 1)]), [], [((0, 2), [(0, 0, 1)])], [])], [(0, 2, 3)], [], 0)
set_option maxRecDepth 100000 in
theorem S_381 : aSpec wd ct_381 := bChk_ok wx_ok btX11_granted (lk := []) (nds := []) (fk := []) (rk := (1, [])) (sp := 0) (fuel := 3000) (by decide +kernel) (fun _ h => nomatch h) odX11_granted
def ct_382 : aCt := (mX11_granted, [.inr (.inl [0]), .inl [(62, 9999, 1)]], ([], []), [(some (.inl [(62, 9999, 1)]), [], [((0, 2), [(0, 0, 1)])], [])], [(0, 2, 3)], [], 0)
set_option maxRecDepth 100000 in
theorem S_382 : aSpec wd ct_382 := bChk_ok wx_ok btX11_granted (lk := []) (nds := []) (fk := []) (rk := (1, [])) (sp := 0) (fuel := 3000) (by decide +kernel) (fun _ h => nomatch h) odX11_granted
def ct_383 : aCt := (mX11_granted, [.inr (.inl [0]), .inl [(61, 9999, 1)]], ([], []), [(some (.inl [(61, 9999, 1)]), [], [((0, 2), [(0, 0, 1)])], [])], [(0, 2, 3)], [], 0)
set_option maxRecDepth 100000 in
theorem S_383 : aSpec wd ct_383 := bChk_ok wx_ok btX11_granted (lk := []) (nds := []) (fk := []) (rk := (1, [])) (sp := 0) (fuel := 3000) (by decide +kernel) (fun _ h => nomatch h) odX11_granted
def ct_384 : aCt := (mX11_granted, [.inr (.inl [0]), .inl [(60, 9999, 1)]], ([], []), [(some (.inl [(60, 9999, 1)]), [], [((0, 2), [(0, 0, 1)])], [])], [(0, 2, 3)], [], 0)
set_option maxRecDepth 100000 in
theorem S_384 : aSpec wd ct_384 := bChk_ok wx_ok btX11_granted (lk := []) (nds := []) (fk := []) (rk := (1, [])) (sp := 0) (fuel := 3000) (by decide +kernel) (fun _ h => nomatch h) odX11_granted
def ct_385 : aCt := (mX11_granted, [.inr (.inl [0]), .inl [(59, 9999, 1)]], ([], []), [(some (.inl [(59, 9999, 1)]), [], [((0, 2), [(0, 0, 1)])], [])], [(0, 2, 3)], [], 0)
set_option maxRecDepth 100000 in
theorem S_385 : aSpec wd ct_385 := bChk_ok wx_ok btX11_granted (lk := []) (nds := []) (fk := []) (rk := (1, [])) (sp := 0) (fuel := 3000) (by decide +kernel) (fun _ h => nomatch h) odX11_granted
def ct_386 : aCt := (mX11_granted, [.inr (.inl [0]), .inl [(58, 9999, 1)]], ([], []), [(some (.inl [(58, 9999, 1)]), [], [((0, 2), [(0, 0, 1)])], [])], [(0, 2, 3)], [], 0)
set_option maxRecDepth 100000 in
theorem S_386 : aSpec wd ct_386 := bChk_ok wx_ok btX11_granted (lk := []) (nds := []) (fk := []) (rk := (1, [])) (sp := 0) (fuel := 3000) (by decide +kernel) (fun _ h => nomatch h) odX11_granted
def ct_387 : aCt := (mX11_granted, [.inr (.inl [0]), .inl [(57, 9999, 1)]], ([], []), [(some (.inl [(57, 9999, 1)]), [], [((0, 2), [(0, 0, 1)])], [])], [(0, 2, 3)], [], 0)
set_option maxRecDepth 100000 in
theorem S_387 : aSpec wd ct_387 := bChk_ok wx_ok btX11_granted (lk := []) (nds := []) (fk := []) (rk := (1, [])) (sp := 0) (fuel := 3000) (by decide +kernel) (fun _ h => nomatch h) odX11_granted
def ct_388 : aCt := (mX11_granted, [.inr (.inl [0]), .inl [(56, 9999, 1)]], ([], []), [(some (.inl [(56, 9999, 1)]), [], [((0, 2), [(0, 0, 1)])], [])], [(0, 2, 3)], [], 0)
set_option maxRecDepth 100000 in
theorem S_388 : aSpec wd ct_388 := bChk_ok wx_ok btX11_granted (lk := []) (nds := []) (fk := []) (rk := (1, [])) (sp := 0) (fuel := 3000) (by decide +kernel) (fun _ h => nomatch h) odX11_granted
def ct_389 : aCt := (mX11_granted, [.inr (.inl [0]), .inl [(55, 9999, 1)]], ([], []), [(some (.inl [(55, 9999, 1)]), [], [((0, 2), [(0, 0, 1)])], [])], [(0, 2, 3)], [], 0)
set_option maxRecDepth 100000 in
theorem S_389 : aSpec wd ct_389 := bChk_ok wx_ok btX11_granted (lk := []) (nds := []) (fk := []) (rk := (1, [])) (sp := 0) (fuel := 3000) (by decide +kernel) (fun _ h => nomatch h) odX11_granted
def ct_390 : aCt := (mX11_granted, [.inr (.inl [0]), .inl [(54, 9999, 1)]], ([], []), [(some (.inl [(54, 9999, 1)]), [], [((0, 2), [(0, 0, 1)])], [])], [(0, 2, 3)], [], 0)
set_option maxRecDepth 100000 in
theorem S_390 : aSpec wd ct_390 := bChk_ok wx_ok btX11_granted (lk := []) (nds := []) (fk := []) (rk := (1, [])) (sp := 0) (fuel := 3000) (by decide +kernel) (fun _ h => nomatch h) odX11_granted
def ct_391 : aCt := (mX11_granted, [.inr (.inl [0]), .inl [(53, 9999, 1)]], ([], []), [(some (.inl [(53, 9999, 1)]), [], [((0, 2), [(0, 0, 1)])], [])], [(0, 2, 3)], [], 0)
set_option maxRecDepth 100000 in
theorem S_391 : aSpec wd ct_391 := bChk_ok wx_ok btX11_granted (lk := []) (nds := []) (fk := []) (rk := (1, [])) (sp := 0) (fuel := 3000) (by decide +kernel) (fun _ h => nomatch h) odX11_granted
def ct_392 : aCt := (mX11_granted, [.inr (.inl [0]), .inl [(52, 9999, 1)]], ([], []), [(some (.inl [(52, 9999, 1)]), [], [((0, 2), [(0, 0, 1)])], [])], [(0, 2, 3)], [], 0)
set_option maxRecDepth 100000 in
theorem S_392 : aSpec wd ct_392 := bChk_ok wx_ok btX11_granted (lk := []) (nds := []) (fk := []) (rk := (1, [])) (sp := 0) (fuel := 3000) (by decide +kernel) (fun _ h => nomatch h) odX11_granted
def ct_393 : aCt := (mX11_granted, [.inr (.inl [0]), .inl [(51, 9999, 1)]], ([], []), [(some (.inl [(51, 9999, 1)]), [], [((0, 2), [(0, 0, 1)])], [])], [(0, 2, 3)], [], 0)
set_option maxRecDepth 100000 in
theorem S_393 : aSpec wd ct_393 := bChk_ok wx_ok btX11_granted (lk := []) (nds := []) (fk := []) (rk := (1, [])) (sp := 0) (fuel := 3000) (by decide +kernel) (fun _ h => nomatch h) odX11_granted
def ct_394 : aCt := (mX11_granted, [.inr (.inl [0]), .inl [(50, 9999, 1)]], ([], []), [(some (.inl [(50, 9999, 1)]), [], [((0, 2), [(0, 0, 1)])], [])], [(0, 2, 3)], [], 0)
set_option maxRecDepth 100000 in
theorem S_394 : aSpec wd ct_394 := bChk_ok wx_ok btX11_granted (lk := []) (nds := []) (fk := []) (rk := (1, [])) (sp := 0) (fuel := 3000) (by decide +kernel) (fun _ h => nomatch h) odX11_granted
def ct_395 : aCt := (mX11_granted, [.inr (.inl [0]), .inl [(49, 9999, 1)]], ([], []), [(some (.inl [(49, 9999, 1)]), [], [((0, 2), [(0, 0, 1)])], [])], [(0, 2, 3)], [], 0)
set_option maxRecDepth 100000 in
theorem S_395 : aSpec wd ct_395 := bChk_ok wx_ok btX11_granted (lk := []) (nds := []) (fk := []) (rk := (1, [])) (sp := 0) (fuel := 3000) (by decide +kernel) (fun _ h => nomatch h) odX11_granted
def ct_396 : aCt := (mX11_granted, [.inr (.inl [0]), .inl [(48, 9999, 1)]], ([], []), [(some (.inl [(48, 9999, 1)]), [], [((0, 2), [(0, 0, 1)])], [])], [(0, 2, 3)], [], 0)
set_option maxRecDepth 100000 in
theorem S_396 : aSpec wd ct_396 := bChk_ok wx_ok btX11_granted (lk := []) (nds := []) (fk := []) (rk := (1, [])) (sp := 0) (fuel := 3000) (by decide +kernel) (fun _ h => nomatch h) odX11_granted
def ct_397 : aCt := (mX11_granted, [.inr (.inl [0]), .inl [(47, 9999, 1)]], ([], []), [(some (.inl [(47, 9999, 1)]), [], [((0, 2), [(0, 0, 1)])], [])], [(0, 2, 3)], [], 0)
set_option maxRecDepth 100000 in
theorem S_397 : aSpec wd ct_397 := bChk_ok wx_ok btX11_granted (lk := []) (nds := []) (fk := []) (rk := (1, [])) (sp := 0) (fuel := 3000) (by decide +kernel) (fun _ h => nomatch h) odX11_granted
def ct_398 : aCt := (mX11_granted, [.inr (.inl [0]), .inl [(46, 9999, 1)]], ([], []), [(some (.inl [(46, 9999, 1)]), [], [((0, 2), [(0, 0, 1)])], [])], [(0, 2, 3)], [], 0)
set_option maxRecDepth 100000 in
theorem S_398 : aSpec wd ct_398 := bChk_ok wx_ok btX11_granted (lk := []) (nds := []) (fk := []) (rk := (1, [])) (sp := 0) (fuel := 3000) (by decide +kernel) (fun _ h => nomatch h) odX11_granted
def ct_399 : aCt := (mX11_granted, [.inr (.inl [0]), .inl [(45, 9999, 1)]], ([], []), [(some (.inl [(45, 9999, 1)]), [], [((0, 2), [(0, 0, 1)])], [])], [(0, 2, 3)], [], 0)
set_option maxRecDepth 100000 in
theorem S_399 : aSpec wd ct_399 := bChk_ok wx_ok btX11_granted (lk := []) (nds := []) (fk := []) (rk := (1, [])) (sp := 0) (fuel := 3000) (by decide +kernel) (fun _ h => nomatch h) odX11_granted
def ct_400 : aCt := (mX11_granted, [.inr (.inl [0]), .inl [(44, 9999, 1)]], ([], []), [(some (.inl [(44, 9999, 1)]), [], [((0, 2), [(0, 0, 1)])], [])], [(0, 2, 3)], [], 0)
set_option maxRecDepth 100000 in
theorem S_400 : aSpec wd ct_400 := bChk_ok wx_ok btX11_granted (lk := []) (nds := []) (fk := []) (rk := (1, [])) (sp := 0) (fuel := 3000) (by decide +kernel) (fun _ h => nomatch h) odX11_granted
def ct_401 : aCt := (mX11_granted, [.inr (.inl [0]), .inl [(43, 9999, 1)]], ([], []), [(some (.inl [(43, 9999, 1)]), [], [((0, 2), [(0, 0, 1)])], [])], [(0, 2, 3)], [], 0)
set_option maxRecDepth 100000 in
theorem S_401 : aSpec wd ct_401 := bChk_ok wx_ok btX11_granted (lk := []) (nds := []) (fk := []) (rk := (1, [])) (sp := 0) (fuel := 3000) (by decide +kernel) (fun _ h => nomatch h) odX11_granted
def ct_402 : aCt := (mX11_granted, [.inr (.inl [0]), .inl [(42, 9999, 1)]], ([], []), [(some (.inl [(42, 9999, 1)]), [], [((0, 2), [(0, 0, 1)])], [])], [(0, 2, 3)], [], 0)
set_option maxRecDepth 100000 in
theorem S_402 : aSpec wd ct_402 := bChk_ok wx_ok btX11_granted (lk := []) (nds := []) (fk := []) (rk := (1, [])) (sp := 0) (fuel := 3000) (by decide +kernel) (fun _ h => nomatch h) odX11_granted
def ct_403 : aCt := (mX11_granted, [.inr (.inl [0]), .inl [(41, 9999, 1)]], ([], []), [(some (.inl [(41, 9999, 1)]), [], [((0, 2), [(0, 0, 1)])], [])], [(0, 2, 3)], [], 0)
set_option maxRecDepth 100000 in
theorem S_403 : aSpec wd ct_403 := bChk_ok wx_ok btX11_granted (lk := []) (nds := []) (fk := []) (rk := (1, [])) (sp := 0) (fuel := 3000) (by decide +kernel) (fun _ h => nomatch h) odX11_granted
def ct_404 : aCt := (mX11_granted, [.inr (.inl [0]), .inl [(40, 9999, 1)]], ([], []), [(some (.inl [(40, 9999, 1)]), [], [((0, 2), [(0, 0, 1)])], [])], [(0, 2, 3)], [], 0)
set_option maxRecDepth 100000 in
theorem S_404 : aSpec wd ct_404 := bChk_ok wx_ok btX11_granted (lk := []) (nds := []) (fk := []) (rk := (1, [])) (sp := 0) (fuel := 3000) (by decide +kernel) (fun _ h => nomatch h) odX11_granted
def ct_405 : aCt := (mX11_granted, [.inr (.inl [0]), .inl [(39, 9999, 1)]], ([], []), [(some (.inl [(39, 9999, 1)]), [], [((0, 2), [(0, 0, 1)])], [])], [(0, 2, 3)], [], 0)
set_option maxRecDepth 100000 in
theorem S_405 : aSpec wd ct_405 := bChk_ok wx_ok btX11_granted (lk := []) (nds := []) (fk := []) (rk := (1, [])) (sp := 0) (fuel := 3000) (by decide +kernel) (fun _ h => nomatch h) odX11_granted
def ct_406 : aCt := (mX11_granted, [.inr (.inl [0]), .inl [(38, 9999, 1)]], ([], []), [(some (.inl [(38, 9999, 1)]), [], [((0, 2), [(0, 0, 1)])], [])], [(0, 2, 3)], [], 0)
set_option maxRecDepth 100000 in
theorem S_406 : aSpec wd ct_406 := bChk_ok wx_ok btX11_granted (lk := []) (nds := []) (fk := []) (rk := (1, [])) (sp := 0) (fuel := 3000) (by decide +kernel) (fun _ h => nomatch h) odX11_granted
def ct_407 : aCt := (mX11_granted, [.inr (.inl [0]), .inl [(37, 9999, 1)]], ([], []), [(some (.inl [(37, 9999, 1)]), [], [((0, 2), [(0, 0, 1)])], [])], [(0, 2, 3)], [], 0)
set_option maxRecDepth 100000 in
theorem S_407 : aSpec wd ct_407 := bChk_ok wx_ok btX11_granted (lk := []) (nds := []) (fk := []) (rk := (1, [])) (sp := 0) (fuel := 3000) (by decide +kernel) (fun _ h => nomatch h) odX11_granted
def ct_408 : aCt := (mX11_granted, [.inr (.inl [0]), .inl [(36, 9999, 1)]], ([], []), [(some (.inl [(36, 9999, 1)]), [], [((0, 2), [(0, 0, 1)])], [])], [(0, 2, 3)], [], 0)
set_option maxRecDepth 100000 in
theorem S_408 : aSpec wd ct_408 := bChk_ok wx_ok btX11_granted (lk := []) (nds := []) (fk := []) (rk := (1, [])) (sp := 0) (fuel := 3000) (by decide +kernel) (fun _ h => nomatch h) odX11_granted
def ct_409 : aCt := (mX11_granted, [.inr (.inl [0]), .inl [(35, 9999, 1)]], ([], []), [(some (.inl [(35, 9999, 1)]), [], [((0, 2), [(0, 0, 1)])], [])], [(0, 2, 3)], [], 0)
set_option maxRecDepth 100000 in
theorem S_409 : aSpec wd ct_409 := bChk_ok wx_ok btX11_granted (lk := []) (nds := []) (fk := []) (rk := (1, [])) (sp := 0) (fuel := 3000) (by decide +kernel) (fun _ h => nomatch h) odX11_granted
def ct_410 : aCt := (mX11_granted, [.inr (.inl [0]), .inl [(34, 9999, 1)]], ([], []), [(some (.inl [(34, 9999, 1)]), [], [((0, 2), [(0, 0, 1)])], [])], [(0, 2, 3)], [], 0)
set_option maxRecDepth 100000 in
theorem S_410 : aSpec wd ct_410 := bChk_ok wx_ok btX11_granted (lk := []) (nds := []) (fk := []) (rk := (1, [])) (sp := 0) (fuel := 3000) (by decide +kernel) (fun _ h => nomatch h) odX11_granted
def ct_411 : aCt := (mX11_granted, [.inr (.inl [0]), .inl [(33, 9999, 1)]], ([], []), [(some (.inl [(33, 9999, 1)]), [], [((0, 2), [(0, 0, 1)])], [])], [(0, 2, 3)], [], 0)
set_option maxRecDepth 100000 in
theorem S_411 : aSpec wd ct_411 := bChk_ok wx_ok btX11_granted (lk := []) (nds := []) (fk := []) (rk := (1, [])) (sp := 0) (fuel := 3000) (by decide +kernel) (fun _ h => nomatch h) odX11_granted
def ct_412 : aCt := (mX11_granted, [.inr (.inl [0]), .inl [(32, 9999, 1)]], ([], []), [(some (.inl [(32, 9999, 1)]), [], [((0, 2), [(0, 0, 1)])], [])], [(0, 2, 3)], [], 0)
set_option maxRecDepth 100000 in
theorem S_412 : aSpec wd ct_412 := bChk_ok wx_ok btX11_granted (lk := []) (nds := []) (fk := []) (rk := (1, [])) (sp := 0) (fuel := 3000) (by decide +kernel) (fun _ h => nomatch h) odX11_granted
def ct_413 : aCt := (mX11_granted, [.inr (.inl [0]), .inl [(31, 9999, 1)]], ([], []), [(some (.inl [(31, 9999, 1)]), [], [((0, 2), [(0, 0, 1)])], [])], [(0, 2, 3)], [], 0)
set_option maxRecDepth 100000 in
theorem S_413 : aSpec wd ct_413 := bChk_ok wx_ok btX11_granted (lk := []) (nds := []) (fk := []) (rk := (1, [])) (sp := 0) (fuel := 3000) (by decide +kernel) (fun _ h => nomatch h) odX11_granted
def ct_414 : aCt := (mX11_granted, [.inr (.inl [0]), .inl [(30, 9999, 1)]], ([], []), [(some (.inl [(30, 9999, 1)]), [], [((0, 2), [(0, 0, 1)])], [])], [(0, 2, 3)], [], 0)
set_option maxRecDepth 100000 in
theorem S_414 : aSpec wd ct_414 := bChk_ok wx_ok btX11_granted (lk := []) (nds := []) (fk := []) (rk := (1, [])) (sp := 0) (fuel := 3000) (by decide +kernel) (fun _ h => nomatch h) odX11_granted
def ct_415 : aCt := (mX11_granted, [.inr (.inl [0]), .inl [(29, 9999, 1)]], ([], []), [(some (.inl [(29, 9999, 1)]), [], [((0, 2), [(0, 0, 1)])], [])], [(0, 2, 3)], [], 0)
set_option maxRecDepth 100000 in
theorem S_415 : aSpec wd ct_415 := bChk_ok wx_ok btX11_granted (lk := []) (nds := []) (fk := []) (rk := (1, [])) (sp := 0) (fuel := 3000) (by decide +kernel) (fun _ h => nomatch h) odX11_granted
def ct_416 : aCt := (mX11_granted, [.inr (.inl [0]), .inl [(28, 9999, 1)]], ([], []), [(some (.inl [(28, 9999, 1)]), [], [((0, 2), [(0, 0, 1)])], [])], [(0, 2, 3)], [], 0)
set_option maxRecDepth 100000 in
theorem S_416 : aSpec wd ct_416 := bChk_ok wx_ok btX11_granted (lk := []) (nds := []) (fk := []) (rk := (1, [])) (sp := 0) (fuel := 3000) (by decide +kernel) (fun _ h => nomatch h) odX11_granted
def ct_417 : aCt := (mX11_granted, [.inr (.inl [0]), .inl [(27, 9999, 1)]], ([], []), [(some (.inl [(27, 9999, 1)]), [], [((0, 2), [(0, 0, 1)])], [])], [(0, 2, 3)], [], 0)
set_option maxRecDepth 100000 in
theorem S_417 : aSpec wd ct_417 := bChk_ok wx_ok btX11_granted (lk := []) (nds := []) (fk := []) (rk := (1, [])) (sp := 0) (fuel := 3000) (by decide +kernel) (fun _ h => nomatch h) odX11_granted
def ct_418 : aCt := (mX11_granted, [.inr (.inl [0]), .inl [(26, 9999, 1)]], ([], []), [(some (.inl [(26, 9999, 1)]), [], [((0, 2), [(0, 0, 1)])], [])], [(0, 2, 3)], [], 0)
set_option maxRecDepth 100000 in
theorem S_418 : aSpec wd ct_418 := bChk_ok wx_ok btX11_granted (lk := []) (nds := []) (fk := []) (rk := (1, [])) (sp := 0) (fuel := 3000) (by decide +kernel) (fun _ h => nomatch h) odX11_granted
def ct_419 : aCt := (mX11_granted, [.inr (.inl [0]), .inl [(25, 9999, 1)]], ([], []), [(some (.inl [(25, 9999, 1)]), [], [((0, 2), [(0, 0, 1)])], [])], [(0, 2, 3)], [], 0)
set_option maxRecDepth 100000 in
theorem S_419 : aSpec wd ct_419 := bChk_ok wx_ok btX11_granted (lk := []) (nds := []) (fk := []) (rk := (1, [])) (sp := 0) (fuel := 3000) (by decide +kernel) (fun _ h => nomatch h) odX11_granted
def ct_420 : aCt := (mX11_granted, [.inr (.inl [0]), .inl [(24, 9999, 1)]], ([], []), [(some (.inl [(24, 9999, 1)]), [], [((0, 2), [(0, 0, 1)])], [])], [(0, 2, 3)], [], 0)
set_option maxRecDepth 100000 in
theorem S_420 : aSpec wd ct_420 := bChk_ok wx_ok btX11_granted (lk := []) (nds := []) (fk := []) (rk := (1, [])) (sp := 0) (fuel := 3000) (by decide +kernel) (fun _ h => nomatch h) odX11_granted
def ct_421 : aCt := (mX11_granted, [.inr (.inl [0]), .inl [(23, 9999, 1)]], ([], []), [(some (.inl [(23, 9999, 1)]), [], [((0, 2), [(0, 0, 1)])], [])], [(0, 2, 3)], [], 0)
set_option maxRecDepth 100000 in
theorem S_421 : aSpec wd ct_421 := bChk_ok wx_ok btX11_granted (lk := []) (nds := []) (fk := []) (rk := (1, [])) (sp := 0) (fuel := 3000) (by decide +kernel) (fun _ h => nomatch h) odX11_granted
def ct_422 : aCt := (mX11_granted, [.inr (.inl [0]), .inl [(22, 9999, 1)]], ([], []), [(some (.inl [(22, 9999, 1)]), [], [((0, 2), [(0, 0, 1)])], [])], [(0, 2, 3)], [], 0)
set_option maxRecDepth 100000 in
theorem S_422 : aSpec wd ct_422 := bChk_ok wx_ok btX11_granted (lk := []) (nds := []) (fk := []) (rk := (1, [])) (sp := 0) (fuel := 3000) (by decide +kernel) (fun _ h => nomatch h) odX11_granted
def ct_423 : aCt := (mX11_granted, [.inr (.inl [0]), .inl [(21, 9999, 1)]], ([], []), [(some (.inl [(21, 9999, 1)]), [], [((0, 2), [(0, 0, 1)])], [])], [(0, 2, 3)], [], 0)
set_option maxRecDepth 100000 in
theorem S_423 : aSpec wd ct_423 := bChk_ok wx_ok btX11_granted (lk := []) (nds := []) (fk := []) (rk := (1, [])) (sp := 0) (fuel := 3000) (by decide +kernel) (fun _ h => nomatch h) odX11_granted
def ct_424 : aCt := (mX11_granted, [.inr (.inl [0]), .inl [(20, 9999, 1)]], ([], []), [(some (.inl [(20, 9999, 1)]), [], [((0, 2), [(0, 0, 1)])], [])], [(0, 2, 3)], [], 0)
set_option maxRecDepth 100000 in
theorem S_424 : aSpec wd ct_424 := bChk_ok wx_ok btX11_granted (lk := []) (nds := []) (fk := []) (rk := (1, [])) (sp := 0) (fuel := 3000) (by decide +kernel) (fun _ h => nomatch h) odX11_granted
def ct_425 : aCt := (mX11_granted, [.inr (.inl [0]), .inl [(19, 9999, 1)]], ([], []), [(some (.inl [(19, 9999, 1)]), [], [((0, 2), [(0, 0, 1)])], [])], [(0, 2, 3)], [], 0)
set_option maxRecDepth 100000 in
theorem S_425 : aSpec wd ct_425 := bChk_ok wx_ok btX11_granted (lk := []) (nds := []) (fk := []) (rk := (1, [])) (sp := 0) (fuel := 3000) (by decide +kernel) (fun _ h => nomatch h) odX11_granted
def ct_426 : aCt := (mX11_granted, [.inr (.inl [0]), .inl [(18, 9999, 1)]], ([], []), [(some (.inl [(18, 9999, 1)]), [], [((0, 2), [(0, 0, 1)])], [])], [(0, 2, 3)], [], 0)
set_option maxRecDepth 100000 in
theorem S_426 : aSpec wd ct_426 := bChk_ok wx_ok btX11_granted (lk := []) (nds := []) (fk := []) (rk := (1, [])) (sp := 0) (fuel := 3000) (by decide +kernel) (fun _ h => nomatch h) odX11_granted
def ct_427 : aCt := (mX11_granted, [.inr (.inl [0]), .inl [(17, 9999, 1)]], ([], []), [(some (.inl [(17, 9999, 1)]), [], [((0, 2), [(0, 0, 1)])], [])], [(0, 2, 3)], [], 0)
set_option maxRecDepth 100000 in
theorem S_427 : aSpec wd ct_427 := bChk_ok wx_ok btX11_granted (lk := []) (nds := []) (fk := []) (rk := (1, [])) (sp := 0) (fuel := 3000) (by decide +kernel) (fun _ h => nomatch h) odX11_granted
def ct_428 : aCt := (mX11_granted, [.inr (.inl [0]), .inl [(16, 9999, 1)]], ([], []), [(some (.inl [(16, 9999, 1)]), [], [((0, 2), [(0, 0, 1)])], [])], [(0, 2, 3)], [], 0)
set_option maxRecDepth 100000 in
theorem S_428 : aSpec wd ct_428 := bChk_ok wx_ok btX11_granted (lk := []) (nds := []) (fk := []) (rk := (1, [])) (sp := 0) (fuel := 3000) (by decide +kernel) (fun _ h => nomatch h) odX11_granted
def ct_429 : aCt := (mX11_granted, [.inr (.inl [0]), .inl [(15, 9999, 1)]], ([], []), [(some (.inl [(15, 9999, 1)]), [], [((0, 2), [(0, 0, 1)])], [])], [(0, 2, 3)], [], 0)
set_option maxRecDepth 100000 in
theorem S_429 : aSpec wd ct_429 := bChk_ok wx_ok btX11_granted (lk := []) (nds := []) (fk := []) (rk := (1, [])) (sp := 0) (fuel := 3000) (by decide +kernel) (fun _ h => nomatch h) odX11_granted
def ct_430 : aCt := (mX11_granted, [.inr (.inl [0]), .inl [(14, 9999, 1)]], ([], []), [(some (.inl [(14, 9999, 1)]), [], [((0, 2), [(0, 0, 1)])], [])], [(0, 2, 3)], [], 0)
set_option maxRecDepth 100000 in
theorem S_430 : aSpec wd ct_430 := bChk_ok wx_ok btX11_granted (lk := []) (nds := []) (fk := []) (rk := (1, [])) (sp := 0) (fuel := 3000) (by decide +kernel) (fun _ h => nomatch h) odX11_granted
def ct_431 : aCt := (mX11_granted, [.inr (.inl [0]), .inl [(13, 9999, 1)]], ([], []), [(some (.inl [(13, 9999, 1)]), [], [((0, 2), [(0, 0, 1)])], [])], [(0, 2, 3)], [], 0)
set_option maxRecDepth 100000 in
theorem S_431 : aSpec wd ct_431 := bChk_ok wx_ok btX11_granted (lk := []) (nds := []) (fk := []) (rk := (1, [])) (sp := 0) (fuel := 3000) (by decide +kernel) (fun _ h => nomatch h) odX11_granted
def ct_432 : aCt := (mX11_granted, [.inr (.inl [0]), .inl [(12, 9999, 1)]], ([], []), [(some (.inl [(12, 9999, 1)]), [], [((0, 2), [(0, 0, 1)])], [])], [(0, 2, 3)], [], 0)
set_option maxRecDepth 100000 in
theorem S_432 : aSpec wd ct_432 := bChk_ok wx_ok btX11_granted (lk := []) (nds := []) (fk := []) (rk := (1, [])) (sp := 0) (fuel := 3000) (by decide +kernel) (fun _ h => nomatch h) odX11_granted
def ct_433 : aCt := (mX11_granted, [.inr (.inl [0]), .inl [(11, 9999, 1)]], ([], []), [(some (.inl [(11, 9999, 1)]), [], [((0, 2), [(0, 0, 1)])], [])], [(0, 2, 3)], [], 0)
set_option maxRecDepth 100000 in
theorem S_433 : aSpec wd ct_433 := bChk_ok wx_ok btX11_granted (lk := []) (nds := []) (fk := []) (rk := (1, [])) (sp := 0) (fuel := 3000) (by decide +kernel) (fun _ h => nomatch h) odX11_granted
def ct_434 : aCt := (mX11_granted, [.inr (.inl [0]), .inl [(10, 9999, 1)]], ([], []), [(some (.inl [(10, 9999, 1)]), [], [((0, 2), [(0, 0, 1)])], [])], [(0, 2, 3)], [], 0)
set_option maxRecDepth 100000 in
theorem S_434 : aSpec wd ct_434 := bChk_ok wx_ok btX11_granted (lk := []) (nds := []) (fk := []) (rk := (1, [])) (sp := 0) (fuel := 3000) (by decide +kernel) (fun _ h => nomatch h) odX11_granted
def ct_435 : aCt := (mX11_granted, [.inr (.inl [0]), .inl [(9, 9999, 1)]], ([], []), [(some (.inl [(9, 9999, 1)]), [], [((0, 2), [(0, 0, 1)])], [])], [(0, 2, 3)], [], 0)
set_option maxRecDepth 100000 in
theorem S_435 : aSpec wd ct_435 := bChk_ok wx_ok btX11_granted (lk := []) (nds := []) (fk := []) (rk := (1, [])) (sp := 0) (fuel := 3000) (by decide +kernel) (fun _ h => nomatch h) odX11_granted
def ct_436 : aCt := (mX11_granted, [.inr (.inl [0]), .inl [(8, 9999, 1)]], ([], []), [(some (.inl [(8, 9999, 1)]), [], [((0, 2), [(0, 0, 1)])], [])], [(0, 2, 3)], [], 0)
set_option maxRecDepth 100000 in
theorem S_436 : aSpec wd ct_436 := bChk_ok wx_ok btX11_granted (lk := []) (nds := []) (fk := []) (rk := (1, [])) (sp := 0) (fuel := 3000) (by decide +kernel) (fun _ h => nomatch h) odX11_granted
def ct_437 : aCt := (mX11_granted, [.inr (.inl [0]), .inl [(7, 9999, 1)]], ([], []), [(some (.inl [(7, 9999, 1)]), [], [((0, 2), [(0, 0, 1)])], [])], [(0, 2, 3)], [], 0)
set_option maxRecDepth 100000 in
theorem S_437 : aSpec wd ct_437 := bChk_ok wx_ok btX11_granted (lk := []) (nds := []) (fk := []) (rk := (1, [])) (sp := 0) (fuel := 3000) (by decide +kernel) (fun _ h => nomatch h) odX11_granted
def ct_438 : aCt := (mX11_granted, [.inr (.inl [0]), .inl [(6, 9999, 1)]], ([], []), [(some (.inl [(6, 9999, 1)]), [], [((0, 2), [(0, 0, 1)])], [])], [(0, 2, 3)], [], 0)
set_option maxRecDepth 100000 in
theorem S_438 : aSpec wd ct_438 := bChk_ok wx_ok btX11_granted (lk := []) (nds := []) (fk := []) (rk := (1, [])) (sp := 0) (fuel := 3000) (by decide +kernel) (fun _ h => nomatch h) odX11_granted
def ct_439 : aCt := (mX11_granted, [.inr (.inl [0]), .inl [(5, 9999, 1)]], ([], []), [(some (.inl [(5, 9999, 1)]), [], [((0, 2), [(0, 0, 1)])], [])], [(0, 2, 3)], [], 0)
set_option maxRecDepth 100000 in
theorem S_439 : aSpec wd ct_439 := bChk_ok wx_ok btX11_granted (lk := []) (nds := []) (fk := []) (rk := (1, [])) (sp := 0) (fuel := 3000) (by decide +kernel) (fun _ h => nomatch h) odX11_granted
def ct_440 : aCt := (mX11_granted, [.inr (.inl [0]), .inl [(4, 9999, 1)]], ([], []), [(some (.inl [(4, 9999, 1)]), [], [((0, 2), [(0, 0, 1)])], [])], [(0, 2, 3)], [], 0)
set_option maxRecDepth 100000 in
theorem S_440 : aSpec wd ct_440 := bChk_ok wx_ok btX11_granted (lk := []) (nds := []) (fk := []) (rk := (1, [])) (sp := 0) (fuel := 3000) (by decide +kernel) (fun _ h => nomatch h) odX11_granted
def ct_441 : aCt := (mX11_granted, [.inr (.inl [0]), .inl [(3, 9999, 1)]], ([], []), [(some (.inl [(3, 9999, 1)]), [], [((0, 2), [(0, 0, 1)])], [])], [(0, 2, 3)], [], 0)
set_option maxRecDepth 100000 in
theorem S_441 : aSpec wd ct_441 := bChk_ok wx_ok btX11_granted (lk := []) (nds := []) (fk := []) (rk := (1, [])) (sp := 0) (fuel := 3000) (by decide +kernel) (fun _ h => nomatch h) odX11_granted
def ct_442 : aCt := (mX11_granted, [.inr (.inl [0]), .inl [(2, 9999, 1)]], ([], []), [(some (.inl [(2, 9999, 1)]), [], [((0, 2), [(0, 0, 1)])], [])], [(0, 2, 3)], [], 0)
set_option maxRecDepth 100000 in
theorem S_442 : aSpec wd ct_442 := bChk_ok wx_ok btX11_granted (lk := []) (nds := []) (fk := []) (rk := (1, [])) (sp := 0) (fuel := 3000) (by decide +kernel) (fun _ h => nomatch h) odX11_granted
def ct_443 : aCt := (mX11_granted, [.inr (.inl [0]), .inl [(1, 9999, 1)]], ([], []), [(some (.inl [(1, 9999, 1)]), [], [((0, 2), [(0, 0, 1)])], [])], [(0, 2, 3)], [], 0)
set_option maxRecDepth 100000 in
theorem S_443 : aSpec wd ct_443 := bChk_ok wx_ok btX11_granted (lk := []) (nds := []) (fk := []) (rk := (1, [])) (sp := 0) (fuel := 3000) (by decide +kernel) (fun _ h => nomatch h) odX11_granted
set_option maxRecDepth 100000 in
theorem btX11_years : bTab oX11_years tX11_years := ⟨ofX11_years, by decide +kernel⟩
def ct_444 : aCt := (mX11_years, [.inr (.inl [0]), .inl aTop], ([], [((0, 3), 2)]), [(some (.inl [(1, 9999, 1)]), [none, some [(1, 99, 1)]], [((0, 2), [(0, 0, 1)]), ((2, 4), [(1, 7, 1)])], []), (some (.inl [(-1, -1, 1)]), [], [((0, 2), [(1, 3, 1)])], [])], [(0, 2, 3), (0, 12, 14), (86, 0, 1), (106, 0, 2), (107, 0, 5), (108, 0, 5), (109, 0, 8), (110, 0, 8), (111, 0, 8), (112, 0, 2), (113, 0, 5), (114, 0, 5), (115, 0, 8), (116, 0, 8), (117, 0, 8), (118, 0, 2), (119, 0, 5), (120, 0, 5), (121, 0, 8), (122, 0, 8), (123, 0, 8), (124, 0, 2), (125, 0, 5), (126, 0, 5), (127, 0, 8), (128, 0, 8), (129, 0, 8), (130, 0, 2), (131, 0, 5), (132, 0, 5), (133, 0, 8), (134, 0, 8), (135, 0, 8), (136, 0, 2), (137, 0, 5), (138, 0, 5), (139, 0, 8), (140, 0, 8), (141, 0, 8), (142, 0, 2), (143, 0, 5), (144, 0, 5), (145, 0, 8), (146, 0, 8), (147, 0, 8), (148, 0, 2), (149, 0, 5), (150, 0, 5), (151, 0, 8), (152, 0, 8), (153, 0, 8), (154, 0, 2), (155, 0, 5), (156, 0, 5), (157, 0, 8), (158, 0, 8), (159, 0, 8), (160, 0, 2), (161, 0, 5), (162, 0, 5), (163, 0, 8), (164, 0, 8), (165, 0, 8), (166, 0, 2), (167, 0, 5), (168, 0, 5), (169, 0, 8), (170, 0, 8), (171, 0, 8), (172, 0, 2), (173, 0, 5), (174, 0, 5), (175, 0, 8), (176, 0, 8), (177, 0, 8)], [], 3)
set_option maxRecDepth 100000 in
theorem S_444 : aSpec wd ct_444 := bChk_ok wx_ok btX11_years (lk := [(222, 0, 1, ct_105), (341, 0, 1, ct_334), (98, 0, 2, ct_6), (98, 0, 2, ct_344), (98, 0, 2, ct_74), (112, 0, 2, ct_345), (112, 0, 2, ct_346), (112, 0, 2, ct_347), (112, 0, 2, ct_348), (112, 0, 2, ct_349), (112, 0, 2, ct_350), (112, 0, 2, ct_351), (112, 0, 2, ct_352), (112, 0, 2, ct_353), (112, 0, 2, ct_354), (112, 0, 2, ct_355), (112, 0, 2, ct_356), (112, 0, 2, ct_357), (112, 0, 2, ct_358), (112, 0, 2, ct_359), (112, 0, 2, ct_360), (112, 0, 2, ct_361), (112, 0, 2, ct_362), (112, 0, 2, ct_363), (112, 0, 2, ct_364), (112, 0, 2, ct_365), (112, 0, 2, ct_366), (112, 0, 2, ct_367), (112, 0, 2, ct_368), (112, 0, 2, ct_369), (112, 0, 2, ct_370), (112, 0, 2, ct_371), (112, 0, 2, ct_372), (112, 0, 2, ct_373), (112, 0, 2, ct_374), (112, 0, 2, ct_375), (112, 0, 2, ct_376), (112, 0, 2, ct_377), (112, 0, 2, ct_378), (112, 0, 2, ct_379), (112, 0, 2, ct_380), (112, 0, 2, ct_381), (112, 0, 2, ct_382), (112, 0, 2, ct_383), (112, 0, 2, ct_384), (112, 0, 2, ct_385), (112, 0, 2, ct_386), (112, 0, 2, ct_387), (112, 0, 2, ct_388), (112, 0, 2, ct_389), (112, 0, 2, ct_390), (112, 0, 2, ct_391), (112, 0, 2, ct_392), (112, 0, 2, ct_393), (112, 0, 2, ct_394), (112, 0, 2, ct_395), (112, 0, 2, ct_396), (112, 0, 2, ct_397), (112, 0, 2, ct_398), (112, 0, 2, ct_399), (112, 0, 2, ct_400), (112, 0, 2, ct_401), (112, 0, 2, ct_402), (112, 0, 2, ct_403), (112, 0, 2, ct_404), (112, 0, 2, ct_405), (112, 0, 2, ct_406), (112, 0, 2, ct_407), (112, 0, 2, ct_408), (112, 0, 2, ct_409), (112, 0, 2, ct_410), (112, 0, 2, ct_411), (112, 0, 2, ct_412), (112, 0, 2, ct_413), (112, 0, 2, ct_414), (112, 0, 2, ct_415), (112, 0, 2, ct_416), (112, 0, 2, ct_417), (112, 0, 2, ct_418), (112, 0, 2, ct_419), (112, 0, 2, ct_420), (112, 0, 2, ct_421), (112, 0, 2, ct_422), (112, 0, 2, ct_423), (112, 0, 2, ct_424), (112, 0, 2, ct_425), (112, 0, 2, ct_426), (112, 0, 2, ct_427), (112, 0, 2, ct_428), (112, 0, 2, ct_429), (112, 0, 2, ct_430), (112, 0, 2, ct_431), (112, 0, 2, ct_432), (112, 0, 2, ct_433), (112, 0, 2, ct_434), (112, 0, 2, ct_435), (112, 0, 2, ct_436), (112, 0, 2, ct_437), (112, 0, 2, ct_438), (112, 0, 2, ct_439), (112, 0, 2, ct_440), (112, 0, 2, ct_441), (112, 0, 2, ct_442), (112, 0, 2, ct_443)]) (nds := []) (fk := [38]) (rk := (1, [])) (sp := 0) (fuel := 3000) (by decide +kernel) (List.forall_mem_cons.mpr ⟨⟨ml_11_222, S_105⟩, List.forall_mem_cons.mpr ⟨⟨ml_11_341, S_334⟩, List.forall_mem_cons.mpr ⟨⟨ml_11_98, S_6⟩, List.forall_mem_cons.mpr ⟨⟨ml_11_98, S_344⟩, List.forall_mem_cons.mpr ⟨⟨ml_11_98, S_74⟩, List.forall_mem_cons.mpr ⟨⟨ml_11_112, S_345⟩, List.forall_mem_cons.mpr ⟨⟨ml_11_112, S_346⟩, List.forall_mem_cons.mpr ⟨⟨ml_11_112, S_347⟩, List.forall_mem_cons.mpr ⟨⟨ml_11_112, S_348⟩, List.forall_mem_cons.mpr ⟨⟨ml_11_112, S_349⟩, List.forall_mem_cons.mpr ⟨⟨ml_11_112, S_350⟩, List.forall_mem_cons.mpr ⟨⟨ml_11_112, S_351⟩, List.forall_mem_cons.mpr ⟨⟨ml_11_112, S_352⟩, List.forall_mem_cons.mpr ⟨⟨ml_11_112, S_353⟩, List.forall_mem_cons.mpr ⟨⟨ml_11_112, S_354⟩, List.forall_mem_cons.mpr ⟨⟨ml_11_112, S_355⟩, List.forall_mem_cons.mpr ⟨⟨ml_11_112, S_356⟩, List.forall_mem_cons.mpr ⟨⟨ml_11_112, S_357⟩, List.forall_mem_cons.mpr ⟨⟨ml_11_112, S_358⟩, List.forall_mem_cons.mpr ⟨⟨ml_11_112, S_359⟩, List.forall_mem_cons.mpr ⟨⟨ml_11_112, S_360⟩, List.forall_mem_cons.mpr ⟨⟨ml_11_112, S_361⟩, List.forall_mem_cons.mpr ⟨⟨ml_11_112, S_362⟩, List.forall_mem_cons.mpr ⟨⟨ml_11_112, S_363⟩, List.forall_mem_cons.mpr ⟨⟨ml_11_112, S_364⟩, List.forall_mem_cons.mpr ⟨⟨ml_11_112, S_365⟩, List.forall_mem_cons.mpr ⟨⟨ml_11_112, S_366⟩, List.forall_mem_cons.mpr ⟨⟨ml_11_112, S_367⟩, List.forall_mem_cons.mpr ⟨⟨ml_11_112, S_368⟩, List.forall_mem_cons.mpr ⟨⟨ml_11_112, S_369⟩, List.forall_mem_cons.mpr ⟨⟨ml_11_112, S_370⟩, List.forall_mem_cons.mpr ⟨⟨ml_11_112, S_371⟩, List.forall_mem_cons.mpr ⟨⟨ml_11_112, S_372⟩, List.forall_mem_cons.mpr ⟨⟨ml_11_112, S_373⟩, List.forall_mem_cons.mpr ⟨⟨ml_11_112, S_374⟩, List.forall_mem_cons.mpr ⟨⟨ml_11_112, S_375⟩, List.forall_mem_cons.mpr ⟨⟨ml_11_112, S_376⟩, List.forall_mem_cons.mpr ⟨⟨ml_11_112, S_377⟩, List.forall_mem_cons.mpr ⟨⟨ml_11_112, S_378⟩, List.forall_mem_cons.mpr ⟨⟨ml_11_112, S_379⟩, List.forall_mem_cons.mpr ⟨⟨ml_11_112, S_380⟩, List.forall_mem_cons.mpr ⟨⟨ml_11_112, S_381⟩, List.forall_mem_cons.mpr ⟨⟨ml_11_112, S_382⟩, List.forall_mem_cons.mpr ⟨⟨ml_11_112, S_383⟩, List.forall_mem_cons.mpr ⟨⟨ml_11_112, S_384⟩, List.forall_mem_cons.mpr ⟨⟨ml_11_112, S_385⟩, List.forall_mem_cons.mpr ⟨⟨ml_11_112, S_386⟩, List.forall_mem_cons.mpr ⟨⟨ml_11_112, S_387⟩, List.forall_mem_cons.mpr ⟨⟨ml_11_112, S_388⟩, List.forall_mem_cons.mpr ⟨⟨ml_11_112, S_389⟩, List.forall_mem_cons.mpr ⟨⟨ml_11_112, S_390⟩, List.forall_mem_cons.mpr ⟨⟨ml_11_112, S_391⟩, List.forall_mem_cons.mpr ⟨⟨ml_11_112, S_392⟩, List.forall_mem_cons.mpr ⟨⟨ml_11_112, S_393⟩, List.forall_mem_cons.mpr ⟨⟨ml_11_112, S_394⟩, List.forall_mem_cons.mpr ⟨⟨ml_11_112, S_395⟩, List.forall_mem_cons.mpr ⟨⟨ml_11_112, S_396⟩, List.forall_mem_cons.mpr ⟨⟨ml_11_112, S_397⟩, List.forall_mem_cons.mpr ⟨⟨ml_11_112, S_398⟩, List.forall_mem_cons.mpr ⟨⟨ml_11_112, S_399⟩, List.forall_mem_cons.mpr ⟨⟨ml_11_112, S_400⟩, List.forall_mem_cons.mpr ⟨⟨ml_11_112, S_401⟩, List.forall_mem_cons.mpr ⟨⟨ml_11_112, S_402⟩, List.forall_mem_cons.mpr ⟨⟨ml_11_112, S_403⟩, List.forall_mem_cons.mpr ⟨⟨ml_11_112, S_404⟩, List.forall_mem_cons.mpr ⟨⟨ml_11_112, S_405⟩, List.forall_mem_cons.mpr ⟨⟨ml_11_112, S_406⟩, List.forall_mem_cons.mpr ⟨⟨ml_11_112, S_407⟩, List.forall_mem_cons.mpr ⟨⟨ml_11_112, S_408⟩, List.forall_mem_cons.mpr ⟨⟨ml_11_112, S_409⟩, List.forall_mem_cons.mpr ⟨⟨ml_11_112, S_410⟩, List.forall_mem_cons.mpr ⟨⟨ml_11_112, S_411⟩, List.forall_mem_cons.mpr ⟨⟨ml_11_112, S_412⟩, List.forall_mem_cons.mpr ⟨⟨ml_11_112, S_413⟩, List.forall_mem_cons.mpr ⟨⟨ml_11_112, S_414⟩, List.forall_mem_cons.mpr ⟨⟨ml_11_112, S_415⟩, List.forall_mem_cons.mpr ⟨⟨ml_11_112, S_416⟩, List.forall_mem_cons.mpr ⟨⟨ml_11_112, S_417⟩, List.forall_mem_cons.mpr ⟨⟨ml_11_112, S_418⟩, List.forall_mem_cons.mpr ⟨⟨ml_11_112, S_419⟩, List.forall_mem_cons.mpr ⟨⟨ml_11_112, S_420⟩, List.forall_mem_cons.mpr ⟨⟨ml_11_112, S_421⟩, List.forall_mem_cons.mpr ⟨⟨ml_11_112, S_422⟩, List.forall_mem_cons.mpr ⟨⟨ml_11_112, S_423⟩, List.forall_mem_cons.mpr ⟨⟨ml_11_112, S_424⟩, List.forall_mem_cons.mpr ⟨⟨ml_11_112, S_425⟩, List.forall_mem_cons.mpr ⟨⟨ml_11_112, S_426⟩, List.forall_mem_cons.mpr ⟨⟨ml_11_112, S_427⟩, List.forall_mem_cons.mpr ⟨⟨ml_11_112, S_428⟩, List.forall_mem_cons.mpr ⟨⟨ml_11_112, S_429⟩, List.forall_mem_cons.mpr ⟨⟨ml_11_112, S_430⟩, List.forall_mem_cons.mpr ⟨⟨ml_11_112, S_431⟩, List.forall_mem_cons.mpr ⟨⟨ml_11_112, S_432⟩, List.forall_mem_cons.mpr ⟨⟨ml_11_112, S_433⟩, List.forall_mem_cons.mpr ⟨⟨ml_11_112, S_434⟩, List.forall_mem_cons.mpr ⟨⟨ml_11_112, S_435⟩, List.forall_mem_cons.mpr ⟨⟨ml_11_112, S_436⟩, List.forall_mem_cons.mpr ⟨⟨ml_11_112, S_437⟩, List.forall_mem_cons.mpr ⟨⟨ml_11_112, S_438⟩, List.forall_mem_cons.mpr ⟨⟨ml_11_112, S_439⟩, List.forall_mem_cons.mpr ⟨⟨ml_11_112, S_440⟩, List.forall_mem_cons.mpr ⟨⟨ml_11_112, S_441⟩, List.forall_mem_cons.mpr ⟨⟨ml_11_112, S_442⟩, List.forall_mem_cons.mpr ⟨⟨ml_11_112, S_443⟩, fun _ h => nomatch h⟩⟩⟩⟩⟩⟩⟩⟩⟩⟩⟩⟩⟩⟩⟩⟩⟩⟩⟩⟩⟩⟩⟩⟩⟩⟩⟩⟩⟩⟩⟩⟩⟩⟩⟩⟩⟩⟩⟩⟩⟩⟩⟩⟩⟩⟩⟩⟩⟩⟩⟩⟩⟩⟩⟩⟩⟩⟩⟩⟩⟩⟩⟩⟩⟩⟩⟩⟩⟩⟩⟩⟩⟩⟩⟩⟩⟩⟩⟩⟩⟩⟩⟩⟩⟩⟩⟩⟩⟩⟩⟩⟩⟩⟩⟩⟩⟩⟩⟩⟩⟩⟩⟩⟩) odX11_years
