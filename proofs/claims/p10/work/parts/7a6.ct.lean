section Pk0
set_option maxRecDepth 100000 in
theorem btX7_slipped : bTab oX7_slipped tX7_slipped := ⟨ofX7_slipped, by decide +kernel⟩
def ct_327 : aCt := (mX7_slipped, [.inr (.inl [92]), .inl aTop, .inl [(-1000, 1000, 1)]], ([], [((92, 0), 2)]), [(some (.inl aTop), [], [], [])], [(92, 1, 2)], [], 1)
set_option maxRecDepth 100000 in
theorem S_327 : aSpec wd ct_327 := bChk_ok wx_ok btX7_slipped (nds := []) (fk := []) (rk := (1, [])) (sp := 0) (fuel := 3000) (by decide +kernel) (lk_c ml_7_85 S_325 (lk_c ml_7_92 S_326 lk_n)) odX7_slipped
def ct_328 : aCt := (mX7_fallIn, [.inr (.inl [92]), .inl [(0, 10048, 1)]], ([], [((92, 0), 2)]), [(some (.inl [(0, 3, 1)]), [], [], []), (some (.inl [(0, 0, 1)]), [], [], [])], [], [], 0)
set_option maxRecDepth 100000 in
theorem S_328 : aSpec wd ct_328 := bChk_ok wx_ok btX7_fallIn (nds := []) (fk := []) (rk := (1, [])) (sp := 0) (fuel := 3000) (by decide +kernel) lk_n odX7_fallIn
def lcn_278 : Nat × aAg := ((nat_lit 3), .inl [((.ofNat (nat_lit 0)), (.ofNat (nat_lit 10048)), (nat_lit 1))])
def ct_329 : aCt := (mX7_hearerOf, [.inr (.inl [92]), .inl aTop, .inl [(-1000, 1000, 1)], .inl [(0, 10048, 1)]], ([((2, 4), [(1, 7, 1)])], [((92, 0), 2)]), [(some (.inl [(-2, -2, 1), (0, 6, 1)]), [], [], []), (some (.inl [(-2, -2, 1)]), [], [], [])], [(92, 2, 4)], [], 2)
set_option maxRecDepth 100000 in
theorem S_329 : aSpec wd ct_329 := bChk_ok wx_ok btX7_hearerOf (nds := [((nat_lit 32), [lcn_86, lcn_76, lcn_54, lcn_278, lcn_88, lcn_94, lcn_95], [], [sl_105, sl_96], [((92, 0), 2)], (7, [(5, -1)]))]) (fk := []) (rk := (8, [])) (sp := 4294967296) (fuel := 3000) (by decide +kernel) (lk_c ml_7_50 S_328 (lk_c ml_7_54 S_91 (lk_c ml_7_54 S_92 (lk_c ml_7_60 S_94 lk_n)))) odX7_hearerOf
def lcn_279 : Nat × aAg := ((nat_lit 1), .inl [((.ofNat (nat_lit 0)), (.ofNat (nat_lit 10048)), (nat_lit 1))])
set_option maxRecDepth 100000 in
theorem btX11_heardWithSlips : bTab oX11_heardWithSlips tX11_heardWithSlips := ⟨ofX11_heardWithSlips, by decide +kernel⟩
def ct_330 : aCt := (mX11_heardWithSlips, [.inr (.inl [0]), .inl [(0, 10048, 1)]], ([((2, 4), [(1, 7, 1)])], [((0, 3), 2), ((92, 0), 2)]), [(some (.inl aTop), [], [], [])], [(92, 1, 4)], [], 3)
set_option maxRecDepth 100000 in
theorem S_330 : aSpec wd ct_330 := bChk_ok wx_ok btX11_heardWithSlips (nds := [((nat_lit 4), [lcn_103, lcn_279, lcn_51, lcn_104], [], [sl_105], [((0, 3), 2), ((92, 0), 2)], (8, [(2, -1)]))]) (fk := []) (rk := (9, [])) (sp := 16) (fuel := 3000) (by decide +kernel) (lk_c ml_11_198 S_88 (lk_c ml_11_399 S_327 (lk_c ml_11_277 S_329 lk_n))) odX11_heardWithSlips
def lcn_280 : Nat × aAg := ((nat_lit 1), .inl [((.ofNat (nat_lit 0)), (.ofNat (nat_lit 65536)), (nat_lit 1))])
def lcn_281 : Nat × aAg := ((nat_lit 2), .inl [((.ofNat (nat_lit 0)), (.ofNat (nat_lit 50)), (nat_lit 1))])
def lcn_282 : Nat × aAg := ((nat_lit 4), .inl [((.ofNat (nat_lit 0)), (.ofNat (nat_lit 63)), (nat_lit 1))])
set_option maxRecDepth 100000 in
theorem btX11_decade : bTab oX11_decade tX11_decade := ⟨ofX11_decade, by decide +kernel⟩
def ct_331 : aCt := (mX11_decade, [.inr (.inl [0]), .inl aTop, .inl aTop], ([], [((0, 3), 2), ((92, 0), 2)]), [(some (.inl aTop), [], [((0, 2), [(0, 0, 1)]), ((2, 4), [(1, 7, 1)])], []), (some (.inl [(-1, -1, 1)]), [], [((0, 2), [(1, 2, 1)])], [])], [(0, 2, 3), (92, 1, 4)], [], 4)
set_option maxRecDepth 100000 in
theorem S_331 : aSpec wd ct_331 := bChk_ok wx_ok btX11_decade (nds := [((nat_lit 51), [lcn_103, lcn_280, lcn_281, lcn_181, lcn_282], [], [sl_105], [((0, 3), 2), ((92, 0), 2)], (63, [(3, -1)]))]) (fk := []) (rk := (64, [])) (sp := 2251799813685248) (fuel := 3000) (by decide +kernel) (lk_c ml_11_222 S_105 (lk_c ml_11_98 S_6 (lk_c ml_11_98 S_74 (lk_c ml_11_338 S_330 (lk_c ml_11_227 S_323 (lk_c ml_11_227 S_324 (lk_c ml_11_112 S_71 lk_n))))))) odX11_decade
def ct_332 : aCt := (mX11_refused, [.inr (.inl [0]), .inl [(5, 5, 1)]], ([], []), [(some (.inl [(-1, -1, 1)]), [], [((0, 2), [(5, 5, 1)])], [])], [(0, 2, 3)], [], 0)
set_option maxRecDepth 100000 in
theorem S_332 : aSpec wd ct_332 := bChk_ok wx_ok btX11_refused (nds := []) (fk := []) (rk := (1, [])) (sp := 0) (fuel := 3000) (by decide +kernel) lk_n odX11_refused
set_option maxRecDepth 100000 in
theorem btX2_copyFrom : bTab oX2_copyFrom tX2_copyFrom := ⟨ofX2_copyFrom, by decide +kernel⟩
def ct_333 : aCt := (mX2_copyFrom, [.inr (.inl [106, 112, 118, 124, 130, 136, 142, 148, 154, 160, 166, 172]), .inr (.inl [86])], ([], []), [(none, [], [], [])], [(106, 0, 2), (107, 0, 5), (108, 0, 5), (109, 0, 8), (110, 0, 8), (111, 0, 8), (112, 0, 2), (113, 0, 5), (114, 0, 5), (115, 0, 8), (116, 0, 8), (117, 0, 8), (118, 0, 2), (119, 0, 5), (120, 0, 5), (121, 0, 8), (122, 0, 8), (123, 0, 8), (124, 0, 2), (125, 0, 5), (126, 0, 5), (127, 0, 8), (128, 0, 8), (129, 0, 8), (130, 0, 2), (131, 0, 5), (132, 0, 5), (133, 0, 8), (134, 0, 8), (135, 0, 8), (136, 0, 2), (137, 0, 5), (138, 0, 5), (139, 0, 8), (140, 0, 8), (141, 0, 8), (142, 0, 2), (143, 0, 5), (144, 0, 5), (145, 0, 8), (146, 0, 8), (147, 0, 8), (148, 0, 2), (149, 0, 5), (150, 0, 5), (151, 0, 8), (152, 0, 8), (153, 0, 8), (154, 0, 2), (155, 0, 5), (156, 0, 5), (157, 0, 8), (158, 0, 8), (159, 0, 8), (160, 0, 2), (161, 0, 5), (162, 0, 5), (163, 0, 8), (164, 0, 8), (165, 0, 8), (166, 0, 2), (167, 0, 5), (168, 0, 5), (169, 0, 8), (170, 0, 8), (171, 0, 8), (172, 0, 2), (173, 0, 5), (174, 0, 5), (175, 0, 8), (176, 0, 8), (177, 0, 8)], [], 1)
set_option maxRecDepth 100000 in
theorem S_333 : aSpec wd ct_333 := bChk_ok wx_ok btX2_copyFrom (nds := []) (fk := []) (rk := (1, [])) (sp := 0) (fuel := 3000) (by decide +kernel) lk_n odX2_copyFrom
set_option maxRecDepth 100000 in
theorem btX11_keepForUndo : bTab oX11_keepForUndo tX11_keepForUndo := ⟨ofX11_keepForUndo, by decide +kernel⟩
def ct_334 : aCt := (mX11_keepForUndo, [.inr (.inl [0])], ([], []), [(none, [], [], [])], [(0, 12, 14), (106, 0, 2), (107, 0, 5), (108, 0, 5), (109, 0, 8), (110, 0, 8), (111, 0, 8), (112, 0, 2), (113, 0, 5), (114, 0, 5), (115, 0, 8), (116, 0, 8), (117, 0, 8), (118, 0, 2), (119, 0, 5), (120, 0, 5), (121, 0, 8), (122, 0, 8), (123, 0, 8), (124, 0, 2), (125, 0, 5), (126, 0, 5), (127, 0, 8), (128, 0, 8), (129, 0, 8), (130, 0, 2), (131, 0, 5), (132, 0, 5), (133, 0, 8), (134, 0, 8), (135, 0, 8), (136, 0, 2), (137, 0, 5), (138, 0, 5), (139, 0, 8), (140, 0, 8), (141, 0, 8), (142, 0, 2), (143, 0, 5), (144, 0, 5), (145, 0, 8), (146, 0, 8), (147, 0, 8), (148, 0, 2), (149, 0, 5), (150, 0, 5), (151, 0, 8), (152, 0, 8), (153, 0, 8), (154, 0, 2), (155, 0, 5), (156, 0, 5), (157, 0, 8), (158, 0, 8), (159, 0, 8), (160, 0, 2), (161, 0, 5), (162, 0, 5), (163, 0, 8), (164, 0, 8), (165, 0, 8), (166, 0, 2), (167, 0, 5), (168, 0, 5), (169, 0, 8), (170, 0, 8), (171, 0, 8), (172, 0, 2), (173, 0, 5), (174, 0, 5), (175, 0, 8), (176, 0, 8), (177, 0, 8)], [], 2)
set_option maxRecDepth 100000 in
theorem S_334 : aSpec wd ct_334 := bChk_ok wx_ok btX11_keepForUndo (nds := []) (fk := []) (rk := (1, [])) (sp := 0) (fuel := 3000) (by decide +kernel) (lk_c ml_11_359 S_333 lk_n) odX11_keepForUndo
def ct_335 : aCt := (mX11_granted, [.inr (.inl [0]), .inl [(-2147483648, -3, 1), (-1, 2147483647, 1)]], ([], []), [(some (.inl [(-2147483648, -3, 1), (-1, 2147483647, 1)]), [], [((0, 2), [(0, 0, 1)])], [])], [(0, 2, 3)], [], 0)
set_option maxRecDepth 100000 in
theorem S_335 : aSpec wd ct_335 := bChk_ok wx_ok btX11_granted (nds := []) (fk := []) (rk := (1, [])) (sp := 0) (fuel := 3000) (by decide +kernel) lk_n odX11_granted
set_option maxRecDepth 100000 in
theorem btX11_send : bTab oX11_send tX11_send := ⟨ofX11_send, by decide +kernel⟩
def ct_336 : aCt := (mX11_send, [.inr (.inl [0]), .inl aTop, .inl aTop], ([], [((0, 3), 2), ((92, 0), 2), ((94, 0), 2)]), [(some (.inl [(-2147483648, -3, 1), (-1, 2147483647, 1)]), [none, some [(0, 4, 1)], some [(0, 7, 1)]], [((0, 2), [(0, 0, 1)]), ((2, 6), [(1, 5, 1)]), ((2, 7), [(1, 8, 1)]), ((94, 4), [(0, 6, 1)])], []), (some (.inl [(-1, -1, 1)]), [none, some aTop, none], [((0, 2), [(1, 1, 1), (5, 5, 1)])], [])], [(0, 2, 3), (0, 12, 14), (87, 0, 5), (88, 0, 5), (89, 0, 8), (90, 0, 8), (92, 2, 4), (94, 4, 7), (95, 0, 7), (106, 0, 2), (107, 0, 5), (108, 0, 5), (109, 0, 8), (110, 0, 8), (111, 0, 8), (112, 0, 2), (113, 0, 5), (114, 0, 5), (115, 0, 8), (116, 0, 8), (117, 0, 8), (118, 0, 2), (119, 0, 5), (120, 0, 5), (121, 0, 8), (122, 0, 8), (123, 0, 8), (124, 0, 2), (125, 0, 5), (126, 0, 5), (127, 0, 8), (128, 0, 8), (129, 0, 8), (130, 0, 2), (131, 0, 5), (132, 0, 5), (133, 0, 8), (134, 0, 8), (135, 0, 8), (136, 0, 2), (137, 0, 5), (138, 0, 5), (139, 0, 8), (140, 0, 8), (141, 0, 8), (142, 0, 2), (143, 0, 5), (144, 0, 5), (145, 0, 8), (146, 0, 8), (147, 0, 8), (148, 0, 2), (149, 0, 5), (150, 0, 5), (151, 0, 8), (152, 0, 8), (153, 0, 8), (154, 0, 2), (155, 0, 5), (156, 0, 5), (157, 0, 8), (158, 0, 8), (159, 0, 8), (160, 0, 2), (161, 0, 5), (162, 0, 5), (163, 0, 8), (164, 0, 8), (165, 0, 8), (166, 0, 2), (167, 0, 5), (168, 0, 5), (169, 0, 8), (170, 0, 8), (171, 0, 8), (172, 0, 2), (173, 0, 5), (174, 0, 5), (175, 0, 8), (176, 0, 8), (177, 0, 8)], [], 5)
set_option maxRecDepth 100000 in
theorem S_336 : aSpec wd ct_336 := bChk_ok wx_ok btX11_send (nds := []) (fk := []) (rk := (1, [])) (sp := 0) (fuel := 3000) (by decide +kernel) (lk_c ml_11_341 S_334 (lk_c ml_11_98 S_332 (lk_c ml_11_98 S_74 (lk_c ml_11_283 S_190 (lk_c ml_11_283 S_189 (lk_c ml_11_283 S_188 (lk_c ml_11_283 S_187 (lk_c ml_11_283 S_186 (lk_c ml_11_112 S_335 (lk_c ml_11_121 S_70 (lk_c ml_11_147 S_76 lk_n))))))))))) odX11_send
def ct_337 : aCt := (mX11_isWithin, [.inl aTop, .inl [(-1, 3, 1)]], ([], []), [(some (.inl [(0, 0, 1)]), [some aTop, none], [], []), (some (.inl [(1, 1, 1)]), [some [(0, 3, 1)], some [(0, 3, 1)]], [], [])], [], [], 0)
set_option maxRecDepth 100000 in
theorem S_337 : aSpec wd ct_337 := bChk_ok wx_ok btX11_isWithin (nds := []) (fk := []) (rk := (1, [])) (sp := 0) (fuel := 3000) (by decide +kernel) lk_n odX11_isWithin
def ct_338 : aCt := (mX11_withNote, [.inl aTop, .inl [(-1000, 1000, 1)], .inl [(0, 999, 1)], .inl [(0, 3, 1)]], ([], []), [(some (.inl aTop), [], [], [])], [], [], 0)
set_option maxRecDepth 100000 in
theorem S_338 : aSpec wd ct_338 := bChk_ok wx_ok btX11_withNote (nds := []) (fk := []) (rk := (1, [])) (sp := 0) (fuel := 3000) (by decide +kernel) lk_n odX11_withNote
set_option maxRecDepth 100000 in
theorem btX11_hasRefused : bTab oX11_hasRefused tX11_hasRefused := ⟨ofX11_hasRefused, by decide +kernel⟩
def ct_339 : aCt := (mX11_hasRefused, [.inr (.inl [0]), .inl [(5, 5, 1)]], ([], []), [(some (.inl [(0, 0, 1)]), [], [((0, 2), [(5, 5, 1)])], [])], [(0, 2, 3)], [], 0)
set_option maxRecDepth 100000 in
theorem S_339 : aSpec wd ct_339 := bChk_ok wx_ok btX11_hasRefused (nds := []) (fk := []) (rk := (1, [])) (sp := 0) (fuel := 3000) (by decide +kernel) lk_n odX11_hasRefused
set_option maxRecDepth 100000 in
theorem btX11_hasGranted : bTab oX11_hasGranted tX11_hasGranted := ⟨ofX11_hasGranted, by decide +kernel⟩
def ct_340 : aCt := (mX11_hasGranted, [.inr (.inl [0])], ([], []), [(some (.inl [(1, 1, 1)]), [], [((0, 2), [(0, 0, 1)])], [])], [(0, 2, 3)], [], 0)
set_option maxRecDepth 100000 in
theorem S_340 : aSpec wd ct_340 := bChk_ok wx_ok btX11_hasGranted (nds := []) (fk := []) (rk := (1, [])) (sp := 0) (fuel := 3000) (by decide +kernel) lk_n odX11_hasGranted
def ct_341 : aCt := (mX11_hasRefused, [.inr (.inl [0]), .inl [(2, 2, 1)]], ([], []), [(some (.inl [(0, 0, 1)]), [], [((0, 2), [(2, 2, 1)])], [])], [(0, 2, 3)], [], 0)
set_option maxRecDepth 100000 in
theorem S_341 : aSpec wd ct_341 := bChk_ok wx_ok btX11_hasRefused (nds := []) (fk := []) (rk := (1, [])) (sp := 0) (fuel := 3000) (by decide +kernel) lk_n odX11_hasRefused
def ct_342 : aCt := (mX11_hasRefused, [.inr (.inl [0]), .inl [(1, 1, 1)]], ([], []), [(some (.inl [(0, 0, 1)]), [], [((0, 2), [(1, 1, 1)])], [])], [(0, 2, 3)], [], 0)
set_option maxRecDepth 100000 in
theorem S_342 : aSpec wd ct_342 := bChk_ok wx_ok btX11_hasRefused (nds := []) (fk := []) (rk := (1, [])) (sp := 0) (fuel := 3000) (by decide +kernel) lk_n odX11_hasRefused
set_option maxRecDepth 100000 in
theorem btX11_tune : bTab oX11_tune tX11_tune := ⟨ofX11_tune, by decide +kernel⟩
def ct_343 : aCt := (mX11_tune, [.inr (.inl [0]), .inl aTop, .inl aTop, .inl aTop], ([], [((0, 3), 2)]), [(some (.inl [(0, 0, 1)]), [], [((0, 2), [(1, 2, 1), (5, 5, 1)])], []), (some (.inl [(1, 1, 1)]), [none, some [(0, 7, 1)], some [(0, 999, 1)], some [(0, 3, 1)]], [((0, 2), [(0, 0, 1)]), ((2, 7), [(1, 8, 1)])], [])], [(0, 2, 3), (0, 12, 14), (91, 0, 8), (106, 0, 2), (107, 0, 5), (108, 0, 5), (109, 0, 8), (110, 0, 8), (111, 0, 8), (112, 0, 2), (113, 0, 5), (114, 0, 5), (115, 0, 8), (116, 0, 8), (117, 0, 8), (118, 0, 2), (119, 0, 5), (120, 0, 5), (121, 0, 8), (122, 0, 8), (123, 0, 8), (124, 0, 2), (125, 0, 5), (126, 0, 5), (127, 0, 8), (128, 0, 8), (129, 0, 8), (130, 0, 2), (131, 0, 5), (132, 0, 5), (133, 0, 8), (134, 0, 8), (135, 0, 8), (136, 0, 2), (137, 0, 5), (138, 0, 5), (139, 0, 8), (140, 0, 8), (141, 0, 8), (142, 0, 2), (143, 0, 5), (144, 0, 5), (145, 0, 8), (146, 0, 8), (147, 0, 8), (148, 0, 2), (149, 0, 5), (150, 0, 5), (151, 0, 8), (152, 0, 8), (153, 0, 8), (154, 0, 2), (155, 0, 5), (156, 0, 5), (157, 0, 8), (158, 0, 8), (159, 0, 8), (160, 0, 2), (161, 0, 5), (162, 0, 5), (163, 0, 8), (164, 0, 8), (165, 0, 8), (166, 0, 2), (167, 0, 5), (168, 0, 5), (169, 0, 8), (170, 0, 8), (171, 0, 8), (172, 0, 2), (173, 0, 5), (174, 0, 5), (175, 0, 8), (176, 0, 8), (177, 0, 8)], [], 3)
set_option maxRecDepth 100000 in
theorem S_343 : aSpec wd ct_343 := bChk_ok wx_ok btX11_tune (nds := []) (fk := []) (rk := (1, [])) (sp := 0) (fuel := 3000) (by decide +kernel) (lk_c ml_11_341 S_334 (lk_c ml_11_356 S_340 (lk_c ml_11_347 S_339 (lk_c ml_11_347 S_341 (lk_c ml_11_347 S_342 (lk_c ml_11_198 S_88 (lk_c ml_11_242 S_113 (lk_c ml_11_227 S_337 (lk_c ml_11_353 S_338 (lk_c ml_11_191 S_89 lk_n)))))))))) odX11_tune
def ct_344 : aCt := (mX11_refused, [.inr (.inl [0]), .inl [(3, 3, 1)]], ([], []), [(some (.inl [(-1, -1, 1)]), [], [((0, 2), [(3, 3, 1)])], [])], [(0, 2, 3)], [], 0)
set_option maxRecDepth 100000 in
theorem S_344 : aSpec wd ct_344 := bChk_ok wx_ok btX11_refused (nds := []) (fk := []) (rk := (1, [])) (sp := 0) (fuel := 3000) (by decide +kernel) lk_n odX11_refused
def ct_345 : aCt := (mX11_granted, [.inr (.inl [0]), .inl [(99, 9999, 1)]], ([], []), [(some (.inl [(99, 9999, 1)]), [], [((0, 2), [(0, 0, 1)])], [])], [(0, 2, 3)], [], 0)
set_option maxRecDepth 100000 in
theorem S_345 : aSpec wd ct_345 := bChk_ok wx_ok btX11_granted (nds := []) (fk := []) (rk := (1, [])) (sp := 0) (fuel := 3000) (by decide +kernel) lk_n odX11_granted
def ct_346 : aCt := (mX11_granted, [.inr (.inl [0]), .inl [(98, 9999, 1)]], ([], []), [(some (.inl [(98, 9999, 1)]), [], [((0, 2), [(0, 0, 1)])], [])], [(0, 2, 3)], [], 0)
set_option maxRecDepth 100000 in
theorem S_346 : aSpec wd ct_346 := bChk_ok wx_ok btX11_granted (nds := []) (fk := []) (rk := (1, [])) (sp := 0) (fuel := 3000) (by decide +kernel) lk_n odX11_granted
def ct_347 : aCt := (mX11_granted, [.inr (.inl [0]), .inl [(97, 9999, 1)]], ([], []), [(some (.inl [(97, 9999, 1)]), [], [((0, 2), [(0, 0, 1)])], [])], [(0, 2, 3)], [], 0)
set_option maxRecDepth 100000 in
theorem S_347 : aSpec wd ct_347 := bChk_ok wx_ok btX11_granted (nds := []) (fk := []) (rk := (1, [])) (sp := 0) (fuel := 3000) (by decide +kernel) lk_n odX11_granted
def ct_348 : aCt := (mX11_granted, [.inr (.inl [0]), .inl [(96, 9999, 1)]], ([], []), [(some (.inl [(96, 9999, 1)]), [], [((0, 2), [(0, 0, 1)])], [])], [(0, 2, 3)], [], 0)
set_option maxRecDepth 100000 in
theorem S_348 : aSpec wd ct_348 := bChk_ok wx_ok btX11_granted (nds := []) (fk := []) (rk := (1, [])) (sp := 0) (fuel := 3000) (by decide +kernel) lk_n odX11_granted
def ct_349 : aCt := (mX11_granted, [.inr (.inl [0]), .inl [(95, 9999, 1)]], ([], []), [(some (.inl [(95, 9999, 1)]), [], [((0, 2), [(0, 0, 1)])], [])], [(0, 2, 3)], [], 0)
set_option maxRecDepth 100000 in
theorem S_349 : aSpec wd ct_349 := bChk_ok wx_ok btX11_granted (nds := []) (fk := []) (rk := (1, [])) (sp := 0) (fuel := 3000) (by decide +kernel) lk_n odX11_granted
def ct_350 : aCt := (mX11_granted, [.inr (.inl [0]), .inl [(94, 9999, 1)]], ([], []), [(some (.inl [(94, 9999, 1)]), [], [((0, 2), [(0, 0, 1)])], [])], [(0, 2, 3)], [], 0)
set_option maxRecDepth 100000 in
theorem S_350 : aSpec wd ct_350 := bChk_ok wx_ok btX11_granted (nds := []) (fk := []) (rk := (1, [])) (sp := 0) (fuel := 3000) (by decide +kernel) lk_n odX11_granted
def ct_351 : aCt := (mX11_granted, [.inr (.inl [0]), .inl [(93, 9999, 1)]], ([], []), [(some (.inl [(93, 9999, 1)]), [], [((0, 2), [(0, 0, 1)])], [])], [(0, 2, 3)], [], 0)
set_option maxRecDepth 100000 in
theorem S_351 : aSpec wd ct_351 := bChk_ok wx_ok btX11_granted (nds := []) (fk := []) (rk := (1, [])) (sp := 0) (fuel := 3000) (by decide +kernel) lk_n odX11_granted
def ct_352 : aCt := (mX11_granted, [.inr (.inl [0]), .inl [(92, 9999, 1)]], ([], []), [(some (.inl [(92, 9999, 1)]), [], [((0, 2), [(0, 0, 1)])], [])], [(0, 2, 3)], [], 0)
set_option maxRecDepth 100000 in
theorem S_352 : aSpec wd ct_352 := bChk_ok wx_ok btX11_granted (nds := []) (fk := []) (rk := (1, [])) (sp := 0) (fuel := 3000) (by decide +kernel) lk_n odX11_granted
def ct_353 : aCt := (mX11_granted, [.inr (.inl [0]), .inl [(91, 9999, 1)]], ([], []), [(some (.inl [(91, 9999, 1)]), [], [((0, 2), [(0, 0, 1)])], [])], [(0, 2, 3)], [], 0)
set_option maxRecDepth 100000 in
theorem S_353 : aSpec wd ct_353 := bChk_ok wx_ok btX11_granted (nds := []) (fk := []) (rk := (1, [])) (sp := 0) (fuel := 3000) (by decide +kernel) lk_n odX11_granted
def ct_354 : aCt := (mX11_granted, [.inr (.inl [0]), .inl [(90, 9999, 1)]], ([], []), [(some (.inl [(90, 9999, 1)]), [], [((0, 2), [(0, 0, 1)])], [])], [(0, 2, 3)], [], 0)
set_option maxRecDepth 100000 in
theorem S_354 : aSpec wd ct_354 := bChk_ok wx_ok btX11_granted (nds := []) (fk := []) (rk := (1, [])) (sp := 0) (fuel := 3000) (by decide +kernel) lk_n odX11_granted
def ct_355 : aCt := (mX11_granted, [.inr (.inl [0]), .inl [(89, 9999, 1)]], ([], []), [(some (.inl [(89, 9999, 1)]), [], [((0, 2), [(0, 0, 1)])], [])], [(0, 2, 3)], [], 0)
set_option maxRecDepth 100000 in
theorem S_355 : aSpec wd ct_355 := bChk_ok wx_ok btX11_granted (nds := []) (fk := []) (rk := (1, [])) (sp := 0) (fuel := 3000) (by decide +kernel) lk_n odX11_granted
def ct_356 : aCt := (mX11_granted, [.inr (.inl [0]), .inl [(88, 9999, 1)]], ([], []), [(some (.inl [(88, 9999, 1)]), [], [((0, 2), [(0, 0, 1)])], [])], [(0, 2, 3)], [], 0)
set_option maxRecDepth 100000 in
theorem S_356 : aSpec wd ct_356 := bChk_ok wx_ok btX11_granted (nds := []) (fk := []) (rk := (1, [])) (sp := 0) (fuel := 3000) (by decide +kernel) lk_n odX11_granted
def ct_357 : aCt := (mX11_granted, [.inr (.inl [0]), .inl [(87, 9999, 1)]], ([], []), [(some (.inl [(87, 9999, 1)]), [], [((0, 2), [(0, 0, 1)])], [])], [(0, 2, 3)], [], 0)
set_option maxRecDepth 100000 in
theorem S_357 : aSpec wd ct_357 := bChk_ok wx_ok btX11_granted (nds := []) (fk := []) (rk := (1, [])) (sp := 0) (fuel := 3000) (by decide +kernel) lk_n odX11_granted
def ct_358 : aCt := (mX11_granted, [.inr (.inl [0]), .inl [(86, 9999, 1)]], ([], []), [(some (.inl [(86, 9999, 1)]), [], [((0, 2), [(0, 0, 1)])], [])], [(0, 2, 3)], [], 0)
set_option maxRecDepth 100000 in
theorem S_358 : aSpec wd ct_358 := bChk_ok wx_ok btX11_granted (nds := []) (fk := []) (rk := (1, [])) (sp := 0) (fuel := 3000) (by decide +kernel) lk_n odX11_granted
def ct_359 : aCt := (mX11_granted, [.inr (.inl [0]), .inl [(85, 9999, 1)]], ([], []), [(some (.inl [(85, 9999, 1)]), [], [((0, 2), [(0, 0, 1)])], [])], [(0, 2, 3)], [], 0)
set_option maxRecDepth 100000 in
theorem S_359 : aSpec wd ct_359 := bChk_ok wx_ok btX11_granted (nds := []) (fk := []) (rk := (1, [])) (sp := 0) (fuel := 3000) (by decide +kernel) lk_n odX11_granted
def ct_360 : aCt := (mX11_granted, [.inr (.inl [0]), .inl [(84, 9999, 1)]], ([], []), [(some (.inl [(84, 9999, 1)]), [], [((0, 2), [(0, 0, 1)])], [])], [(0, 2, 3)], [], 0)
set_option maxRecDepth 100000 in
theorem S_360 : aSpec wd ct_360 := bChk_ok wx_ok btX11_granted (nds := []) (fk := []) (rk := (1, [])) (sp := 0) (fuel := 3000) (by decide +kernel) lk_n odX11_granted
def ct_361 : aCt := (mX11_granted, [.inr (.inl [0]), .inl [(83, 9999, 1)]], ([], []), [(some (.inl [(83, 9999, 1)]), [], [((0, 2), [(0, 0, 1)])], [])], [(0, 2, 3)], [], 0)
set_option maxRecDepth 100000 in
theorem S_361 : aSpec wd ct_361 := bChk_ok wx_ok btX11_granted (nds := []) (fk := []) (rk := (1, [])) (sp := 0) (fuel := 3000) (by decide +kernel) lk_n odX11_granted
def ct_362 : aCt := (mX11_granted, [.inr (.inl [0]), .inl [(82, 9999, 1)]], ([], []), [(some (.inl [(82, 9999, 1)]), [], [((0, 2), [(0, 0, 1)])], [])], [(0, 2, 3)], [], 0)
set_option maxRecDepth 100000 in
theorem S_362 : aSpec wd ct_362 := bChk_ok wx_ok btX11_granted (nds := []) (fk := []) (rk := (1, [])) (sp := 0) (fuel := 3000) (by decide +kernel) lk_n odX11_granted
def ct_363 : aCt := (mX11_granted, [.inr (.inl [0]), .inl [(81, 9999, 1)]], ([], []), [(some (.inl [(81, 9999, 1)]), [], [((0, 2), [(0, 0, 1)])], [])], [(0, 2, 3)], [], 0)
set_option maxRecDepth 100000 in
theorem S_363 : aSpec wd ct_363 := bChk_ok wx_ok btX11_granted (nds := []) (fk := []) (rk := (1, [])) (sp := 0) (fuel := 3000) (by decide +kernel) lk_n odX11_granted
def ct_364 : aCt := (mX11_granted, [.inr (.inl [0]), .inl [(80, 9999, 1)]], ([], []), [(some (.inl [(80, 9999, 1)]), [], [((0, 2), [(0, 0, 1)])], [])], [(0, 2, 3)], [], 0)
set_option maxRecDepth 100000 in
theorem S_364 : aSpec wd ct_364 := bChk_ok wx_ok btX11_granted (nds := []) (fk := []) (rk := (1, [])) (sp := 0) (fuel := 3000) (by decide +kernel) lk_n odX11_granted
def ct_365 : aCt := (mX11_granted, [.inr (.inl [0]), .inl [(79, 9999, 1)]], ([], []), [(some (.inl [(79, 9999, 1)]), [], [((0, 2), [(0, 0, 1)])], [])], [(0, 2, 3)], [], 0)
set_option maxRecDepth 100000 in
theorem S_365 : aSpec wd ct_365 := bChk_ok wx_ok btX11_granted (nds := []) (fk := []) (rk := (1, [])) (sp := 0) (fuel := 3000) (by decide +kernel) lk_n odX11_granted
def ct_366 : aCt := (mX11_granted, [.inr (.inl [0]), .inl [(78, 9999, 1)]], ([], []), [(some (.inl [(78, 9999, 1)]), [], [((0, 2), [(0, 0, 1)])], [])], [(0, 2, 3)], [], 0)
set_option maxRecDepth 100000 in
theorem S_366 : aSpec wd ct_366 := bChk_ok wx_ok btX11_granted (nds := []) (fk := []) (rk := (1, [])) (sp := 0) (fuel := 3000) (by decide +kernel) lk_n odX11_granted
def ct_367 : aCt := (mX11_granted, [.inr (.inl [0]), .inl [(77, 9999, 1)]], ([], []), [(some (.inl [(77, 9999, 1)]), [], [((0, 2), [(0, 0, 1)])], [])], [(0, 2, 3)], [], 0)
set_option maxRecDepth 100000 in
theorem S_367 : aSpec wd ct_367 := bChk_ok wx_ok btX11_granted (nds := []) (fk := []) (rk := (1, [])) (sp := 0) (fuel := 3000) (by decide +kernel) lk_n odX11_granted
def ct_368 : aCt := (mX11_granted, [.inr (.inl [0]), .inl [(76, 9999, 1)]], ([], []), [(some (.inl [(76, 9999, 1)]), [], [((0, 2), [(0, 0, 1)])], [])], [(0, 2, 3)], [], 0)
set_option maxRecDepth 100000 in
theorem S_368 : aSpec wd ct_368 := bChk_ok wx_ok btX11_granted (nds := []) (fk := []) (rk := (1, [])) (sp := 0) (fuel := 3000) (by decide +kernel) lk_n odX11_granted
def ct_369 : aCt := (mX11_granted, [.inr (.inl [0]), .inl [(75, 9999, 1)]], ([], []), [(some (.inl [(75, 9999, 1)]), [], [((0, 2), [(0, 0, 1)])], [])], [(0, 2, 3)], [], 0)
set_option maxRecDepth 100000 in
theorem S_369 : aSpec wd ct_369 := bChk_ok wx_ok btX11_granted (nds := []) (fk := []) (rk := (1, [])) (sp := 0) (fuel := 3000) (by decide +kernel) lk_n odX11_granted
def ct_370 : aCt := (mX11_granted, [.inr (.inl [0]), .inl [(74, 9999, 1)]], ([], []), [(some (.inl [(74, 9999, 1)]), [], [((0, 2), [(0, 0, 1)])], [])], [(0, 2, 3)], [], 0)
set_option maxRecDepth 100000 in
theorem S_370 : aSpec wd ct_370 := bChk_ok wx_ok btX11_granted (nds := []) (fk := []) (rk := (1, [])) (sp := 0) (fuel := 3000) (by decide +kernel) lk_n odX11_granted
def ct_371 : aCt := (mX11_granted, [.inr (.inl [0]), .inl [(73, 9999, 1)]], ([], []), [(some (.inl [(73, 9999, 1)]), [], [((0, 2), [(0, 0, 1)])], [])], [(0, 2, 3)], [], 0)
set_option maxRecDepth 100000 in
theorem S_371 : aSpec wd ct_371 := bChk_ok wx_ok btX11_granted (nds := []) (fk := []) (rk := (1, [])) (sp := 0) (fuel := 3000) (by decide +kernel) lk_n odX11_granted
def ct_372 : aCt := (mX11_granted, [.inr (.inl [0]), .inl [(72, 9999, 1)]], ([], []), [(some (.inl [(72, 9999, 1)]), [], [((0, 2), [(0, 0, 1)])], [])], [(0, 2, 3)], [], 0)
set_option maxRecDepth 100000 in
theorem S_372 : aSpec wd ct_372 := bChk_ok wx_ok btX11_granted (nds := []) (fk := []) (rk := (1, [])) (sp := 0) (fuel := 3000) (by decide +kernel) lk_n odX11_granted
def ct_373 : aCt := (mX11_granted, [.inr (.inl [0]), .inl [(71, 9999, 1)]], ([], []), [(some (.inl [(71, 9999, 1)]), [], [((0, 2), [(0, 0, 1)])], [])], [(0, 2, 3)], [], 0)
set_option maxRecDepth 100000 in
theorem S_373 : aSpec wd ct_373 := bChk_ok wx_ok btX11_granted (nds := []) (fk := []) (rk := (1, [])) (sp := 0) (fuel := 3000) (by decide +kernel) lk_n odX11_granted
def ct_374 : aCt := (mX11_granted, [.inr (.inl [0]), .inl [(70, 9999, 1)]], ([], []), [(some (.inl [(70, 9999, 1)]), [], [((0, 2), [(0, 0, 1)])], [])], [(0, 2, 3)], [], 0)
set_option maxRecDepth 100000 in
theorem S_374 : aSpec wd ct_374 := bChk_ok wx_ok btX11_granted (nds := []) (fk := []) (rk := (1, [])) (sp := 0) (fuel := 3000) (by decide +kernel) lk_n odX11_granted
def ct_375 : aCt := (mX11_granted, [.inr (.inl [0]), .inl [(69, 9999, 1)]], ([], []), [(some (.inl [(69, 9999, 1)]), [], [((0, 2), [(0, 0, 1)])], [])], [(0, 2, 3)], [], 0)
set_option maxRecDepth 100000 in
theorem S_375 : aSpec wd ct_375 := bChk_ok wx_ok btX11_granted (nds := []) (fk := []) (rk := (1, [])) (sp := 0) (fuel := 3000) (by decide +kernel) lk_n odX11_granted
def ct_376 : aCt := (mX11_granted, [.inr (.inl [0]), .inl [(68, 9999, 1)]], ([], []), [(some (.inl [(68, 9999, 1)]), [], [((0, 2), [(0, 0, 1)])], [])], [(0, 2, 3)], [], 0)
set_option maxRecDepth 100000 in
theorem S_376 : aSpec wd ct_376 := bChk_ok wx_ok btX11_granted (nds := []) (fk := []) (rk := (1, [])) (sp := 0) (fuel := 3000) (by decide +kernel) lk_n odX11_granted
def ct_377 : aCt := (mX11_granted, [.inr (.inl [0]), .inl [(67, 9999, 1)]], ([], []), [(some (.inl [(67, 9999, 1)]), [], [((0, 2), [(0, 0, 1)])], [])], [(0, 2, 3)], [], 0)
set_option maxRecDepth 100000 in
theorem S_377 : aSpec wd ct_377 := bChk_ok wx_ok btX11_granted (nds := []) (fk := []) (rk := (1, [])) (sp := 0) (fuel := 3000) (by decide +kernel) lk_n odX11_granted
def ct_378 : aCt := (mX11_granted, [.inr (.inl [0]), .inl [(66, 9999, 1)]], ([], []), [(some (.inl [(66, 9999, 1)]), [], [((0, 2), [(0, 0, 1)])], [])], [(0, 2, 3)], [], 0)
set_option maxRecDepth 100000 in
theorem S_378 : aSpec wd ct_378 := bChk_ok wx_ok btX11_granted (nds := []) (fk := []) (rk := (1, [])) (sp := 0) (fuel := 3000) (by decide +kernel) lk_n odX11_granted
def ct_379 : aCt := (mX11_granted, [.inr (.inl [0]), .inl [(65, 9999, 1)]], ([], []), [(some (.inl [(65, 9999, 1)]), [], [((0, 2), [(0, 0, 1)])], [])], [(0, 2, 3)], [], 0)
set_option maxRecDepth 100000 in
theorem S_379 : aSpec wd ct_379 := bChk_ok wx_ok btX11_granted (nds := []) (fk := []) (rk := (1, [])) (sp := 0) (fuel := 3000) (by decide +kernel) lk_n odX11_granted
def ct_380 : aCt := (mX11_granted, [.inr (.inl [0]), .inl [(64, 9999, 1)]], ([], []), [(some (.inl [(64, 9999, 1)]), [], [((0, 2), [(0, 0, 1)])], [])], [(0, 2, 3)], [], 0)
set_option maxRecDepth 100000 in
theorem S_380 : aSpec wd ct_380 := bChk_ok wx_ok btX11_granted (nds := []) (fk := []) (rk := (1, [])) (sp := 0) (fuel := 3000) (by decide +kernel) lk_n odX11_granted
def ct_381 : aCt := (mX11_granted, [.inr (.inl [0]), .inl [(63, 9999, 1)]], ([], []), [(some (.inl [(63, 9999, 1)]), [], [((0, 2), [(0, 0, 1)])], [])], [(0, 2, 3)], [], 0)
set_option maxRecDepth 100000 in
theorem S_381 : aSpec wd ct_381 := bChk_ok wx_ok btX11_granted (nds := []) (fk := []) (rk := (1, [])) (sp := 0) (fuel := 3000) (by decide +kernel) lk_n odX11_granted
def ct_382 : aCt := (mX11_granted, [.inr (.inl [0]), .inl [(62, 9999, 1)]], ([], []), [(some (.inl [(62, 9999, 1)]), [], [((0, 2), [(0, 0, 1)])], [])], [(0, 2, 3)], [], 0)
set_option maxRecDepth 100000 in
theorem S_382 : aSpec wd ct_382 := bChk_ok wx_ok btX11_granted (nds := []) (fk := []) (rk := (1, [])) (sp := 0) (fuel := 3000) (by decide +kernel) lk_n odX11_granted
def ct_383 : aCt := (mX11_granted, [.inr (.inl [0]), .inl [(61, 9999, 1)]], ([], []), [(some (.inl [(61, 9999, 1)]), [], [((0, 2), [(0, 0, 1)])], [])], [(0, 2, 3)], [], 0)
set_option maxRecDepth 100000 in
theorem S_383 : aSpec wd ct_383 := bChk_ok wx_ok btX11_granted (nds := []) (fk := []) (rk := (1, [])) (sp := 0) (fuel := 3000) (by decide +kernel) lk_n odX11_granted
def ct_384 : aCt := (mX11_granted, [.inr (.inl [0]), .inl [(60, 9999, 1)]], ([], []), [(some (.inl [(60, 9999, 1)]), [], [((0, 2), [(0, 0, 1)])], [])], [(0, 2, 3)], [], 0)
set_option maxRecDepth 100000 in
theorem S_384 : aSpec wd ct_384 := bChk_ok wx_ok btX11_granted (nds := []) (fk := []) (rk := (1, [])) (sp := 0) (fuel := 3000) (by decide +kernel) lk_n odX11_granted
def ct_385 : aCt := (mX11_granted, [.inr (.inl [0]), .inl [(59, 9999, 1)]], ([], []), [(some (.inl [(59, 9999, 1)]), [], [((0, 2), [(0, 0, 1)])], [])], [(0, 2, 3)], [], 0)
set_option maxRecDepth 100000 in
theorem S_385 : aSpec wd ct_385 := bChk_ok wx_ok btX11_granted (nds := []) (fk := []) (rk := (1, [])) (sp := 0) (fuel := 3000) (by decide +kernel) lk_n odX11_granted
def ct_386 : aCt := (mX11_granted, [.inr (.inl [0]), .inl [(58, 9999, 1)]], ([], []), [(some (.inl [(58, 9999, 1)]), [], [((0, 2), [(0, 0, 1)])], [])], [(0, 2, 3)], [], 0)
set_option maxRecDepth 100000 in
theorem S_386 : aSpec wd ct_386 := bChk_ok wx_ok btX11_granted (nds := []) (fk := []) (rk := (1, [])) (sp := 0) (fuel := 3000) (by decide +kernel) lk_n odX11_granted
def ct_387 : aCt := (mX11_granted, [.inr (.inl [0]), .inl [(57, 9999, 1)]], ([], []), [(some (.inl [(57, 9999, 1)]), [], [((0, 2), [(0, 0, 1)])], [])], [(0, 2, 3)], [], 0)
set_option maxRecDepth 100000 in
theorem S_387 : aSpec wd ct_387 := bChk_ok wx_ok btX11_granted (nds := []) (fk := []) (rk := (1, [])) (sp := 0) (fuel := 3000) (by decide +kernel) lk_n odX11_granted
def ct_388 : aCt := (mX11_granted, [.inr (.inl [0]), .inl [(56, 9999, 1)]], ([], []), [(some (.inl [(56, 9999, 1)]), [], [((0, 2), [(0, 0, 1)])], [])], [(0, 2, 3)], [], 0)
set_option maxRecDepth 100000 in
theorem S_388 : aSpec wd ct_388 := bChk_ok wx_ok btX11_granted (nds := []) (fk := []) (rk := (1, [])) (sp := 0) (fuel := 3000) (by decide +kernel) lk_n odX11_granted
def ct_389 : aCt := (mX11_granted, [.inr (.inl [0]), .inl [(55, 9999, 1)]], ([], []), [(some (.inl [(55, 9999, 1)]), [], [((0, 2), [(0, 0, 1)])], [])], [(0, 2, 3)], [], 0)
set_option maxRecDepth 100000 in
theorem S_389 : aSpec wd ct_389 := bChk_ok wx_ok btX11_granted (nds := []) (fk := []) (rk := (1, [])) (sp := 0) (fuel := 3000) (by decide +kernel) lk_n odX11_granted
def ct_390 : aCt := (mX11_granted, [.inr (.inl [0]), .inl [(54, 9999, 1)]], ([], []), [(some (.inl [(54, 9999, 1)]), [], [((0, 2), [(0, 0, 1)])], [])], [(0, 2, 3)], [], 0)
set_option maxRecDepth 100000 in
theorem S_390 : aSpec wd ct_390 := bChk_ok wx_ok btX11_granted (nds := []) (fk := []) (rk := (1, [])) (sp := 0) (fuel := 3000) (by decide +kernel) lk_n odX11_granted
def ct_391 : aCt := (mX11_granted, [.inr (.inl [0]), .inl [(53, 9999, 1)]], ([], []), [(some (.inl [(53, 9999, 1)]), [], [((0, 2), [(0, 0, 1)])], [])], [(0, 2, 3)], [], 0)
set_option maxRecDepth 100000 in
theorem S_391 : aSpec wd ct_391 := bChk_ok wx_ok btX11_granted (nds := []) (fk := []) (rk := (1, [])) (sp := 0) (fuel := 3000) (by decide +kernel) lk_n odX11_granted
def ct_392 : aCt := (mX11_granted, [.inr (.inl [0]), .inl [(52, 9999, 1)]], ([], []), [(some (.inl [(52, 9999, 1)]), [], [((0, 2), [(0, 0, 1)])], [])], [(0, 2, 3)], [], 0)
set_option maxRecDepth 100000 in
theorem S_392 : aSpec wd ct_392 := bChk_ok wx_ok btX11_granted (nds := []) (fk := []) (rk := (1, [])) (sp := 0) (fuel := 3000) (by decide +kernel) lk_n odX11_granted
def ct_393 : aCt := (mX11_granted, [.inr (.inl [0]), .inl [(51, 9999, 1)]], ([], []), [(some (.inl [(51, 9999, 1)]), [], [((0, 2), [(0, 0, 1)])], [])], [(0, 2, 3)], [], 0)
set_option maxRecDepth 100000 in
theorem S_393 : aSpec wd ct_393 := bChk_ok wx_ok btX11_granted (nds := []) (fk := []) (rk := (1, [])) (sp := 0) (fuel := 3000) (by decide +kernel) lk_n odX11_granted
def ct_394 : aCt := (mX11_granted, [.inr (.inl [0]), .inl [(50, 9999, 1)]], ([], []), [(some (.inl [(50, 9999, 1)]), [], [((0, 2), [(0, 0, 1)])], [])], [(0, 2, 3)], [], 0)
set_option maxRecDepth 100000 in
theorem S_394 : aSpec wd ct_394 := bChk_ok wx_ok btX11_granted (nds := []) (fk := []) (rk := (1, [])) (sp := 0) (fuel := 3000) (by decide +kernel) lk_n odX11_granted
def ct_395 : aCt := (mX11_granted, [.inr (.inl [0]), .inl [(49, 9999, 1)]], ([], []), [(some (.inl [(49, 9999, 1)]), [], [((0, 2), [(0, 0, 1)])], [])], [(0, 2, 3)], [], 0)
set_option maxRecDepth 100000 in
theorem S_395 : aSpec wd ct_395 := bChk_ok wx_ok btX11_granted (nds := []) (fk := []) (rk := (1, [])) (sp := 0) (fuel := 3000) (by decide +kernel) lk_n odX11_granted
def ct_396 : aCt := (mX11_granted, [.inr (.inl [0]), .inl [(48, 9999, 1)]], ([], []), [(some (.inl [(48, 9999, 1)]), [], [((0, 2), [(0, 0, 1)])], [])], [(0, 2, 3)], [], 0)
set_option maxRecDepth 100000 in
theorem S_396 : aSpec wd ct_396 := bChk_ok wx_ok btX11_granted (nds := []) (fk := []) (rk := (1, [])) (sp := 0) (fuel := 3000) (by decide +kernel) lk_n odX11_granted
def ct_397 : aCt := (mX11_granted, [.inr (.inl [0]), .inl [(47, 9999, 1)]], ([], []), [(some (.inl [(47, 9999, 1)]), [], [((0, 2), [(0, 0, 1)])], [])], [(0, 2, 3)], [], 0)
set_option maxRecDepth 100000 in
theorem S_397 : aSpec wd ct_397 := bChk_ok wx_ok btX11_granted (nds := []) (fk := []) (rk := (1, [])) (sp := 0) (fuel := 3000) (by decide +kernel) lk_n odX11_granted
def ct_398 : aCt := (mX11_granted, [.inr (.inl [0]), .inl [(46, 9999, 1)]], ([], []), [(some (.inl [(46, 9999, 1)]), [], [((0, 2), [(0, 0, 1)])], [])], [(0, 2, 3)], [], 0)
set_option maxRecDepth 100000 in
theorem S_398 : aSpec wd ct_398 := bChk_ok wx_ok btX11_granted (nds := []) (fk := []) (rk := (1, [])) (sp := 0) (fuel := 3000) (by decide +kernel) lk_n odX11_granted
def ct_399 : aCt := (mX11_granted, [.inr (.inl [0]), .inl [(45, 9999, 1)]], ([], []), [(some (.inl [(45, 9999, 1)]), [], [((0, 2), [(0, 0, 1)])], [])], [(0, 2, 3)], [], 0)
set_option maxRecDepth 100000 in
theorem S_399 : aSpec wd ct_399 := bChk_ok wx_ok btX11_granted (nds := []) (fk := []) (rk := (1, [])) (sp := 0) (fuel := 3000) (by decide +kernel) lk_n odX11_granted
def ct_400 : aCt := (mX11_granted, [.inr (.inl [0]), .inl [(44, 9999, 1)]], ([], []), [(some (.inl [(44, 9999, 1)]), [], [((0, 2), [(0, 0, 1)])], [])], [(0, 2, 3)], [], 0)
set_option maxRecDepth 100000 in
theorem S_400 : aSpec wd ct_400 := bChk_ok wx_ok btX11_granted (nds := []) (fk := []) (rk := (1, [])) (sp := 0) (fuel := 3000) (by decide +kernel) lk_n odX11_granted
def ct_401 : aCt := (mX11_granted, [.inr (.inl [0]), .inl [(43, 9999, 1)]], ([], []), [(some (.inl [(43, 9999, 1)]), [], [((0, 2), [(0, 0, 1)])], [])], [(0, 2, 3)], [], 0)
set_option maxRecDepth 100000 in
theorem S_401 : aSpec wd ct_401 := bChk_ok wx_ok btX11_granted (nds := []) (fk := []) (rk := (1, [])) (sp := 0) (fuel := 3000) (by decide +kernel) lk_n odX11_granted
def ct_402 : aCt := (mX11_granted, [.inr (.inl [0]), .inl [(42, 9999, 1)]], ([], []), [(some (.inl [(42, 9999, 1)]), [], [((0, 2), [(0, 0, 1)])], [])], [(0, 2, 3)], [], 0)
set_option maxRecDepth 100000 in
theorem S_402 : aSpec wd ct_402 := bChk_ok wx_ok btX11_granted (nds := []) (fk := []) (rk := (1, [])) (sp := 0) (fuel := 3000) (by decide +kernel) lk_n odX11_granted
def ct_403 : aCt := (mX11_granted, [.inr (.inl [0]), .inl [(41, 9999, 1)]], ([], []), [(some (.inl [(41, 9999, 1)]), [], [((0, 2), [(0, 0, 1)])], [])], [(0, 2, 3)], [], 0)
set_option maxRecDepth 100000 in
theorem S_403 : aSpec wd ct_403 := bChk_ok wx_ok btX11_granted (nds := []) (fk := []) (rk := (1, [])) (sp := 0) (fuel := 3000) (by decide +kernel) lk_n odX11_granted
def ct_404 : aCt := (mX11_granted, [.inr (.inl [0]), .inl [(40, 9999, 1)]], ([], []), [(some (.inl [(40, 9999, 1)]), [], [((0, 2), [(0, 0, 1)])], [])], [(0, 2, 3)], [], 0)
set_option maxRecDepth 100000 in
theorem S_404 : aSpec wd ct_404 := bChk_ok wx_ok btX11_granted (nds := []) (fk := []) (rk := (1, [])) (sp := 0) (fuel := 3000) (by decide +kernel) lk_n odX11_granted
def ct_405 : aCt := (mX11_granted, [.inr (.inl [0]), .inl [(39, 9999, 1)]], ([], []), [(some (.inl [(39, 9999, 1)]), [], [((0, 2), [(0, 0, 1)])], [])], [(0, 2, 3)], [], 0)
set_option maxRecDepth 100000 in
theorem S_405 : aSpec wd ct_405 := bChk_ok wx_ok btX11_granted (nds := []) (fk := []) (rk := (1, [])) (sp := 0) (fuel := 3000) (by decide +kernel) lk_n odX11_granted
def ct_406 : aCt := (mX11_granted, [.inr (.inl [0]), .inl [(38, 9999, 1)]], ([], []), [(some (.inl [(38, 9999, 1)]), [], [((0, 2), [(0, 0, 1)])], [])], [(0, 2, 3)], [], 0)
set_option maxRecDepth 100000 in
theorem S_406 : aSpec wd ct_406 := bChk_ok wx_ok btX11_granted (nds := []) (fk := []) (rk := (1, [])) (sp := 0) (fuel := 3000) (by decide +kernel) lk_n odX11_granted
def ct_407 : aCt := (mX11_granted, [.inr (.inl [0]), .inl [(37, 9999, 1)]], ([], []), [(some (.inl [(37, 9999, 1)]), [], [((0, 2), [(0, 0, 1)])], [])], [(0, 2, 3)], [], 0)
set_option maxRecDepth 100000 in
theorem S_407 : aSpec wd ct_407 := bChk_ok wx_ok btX11_granted (nds := []) (fk := []) (rk := (1, [])) (sp := 0) (fuel := 3000) (by decide +kernel) lk_n odX11_granted
def ct_408 : aCt := (mX11_granted, [.inr (.inl [0]), .inl [(36, 9999, 1)]], ([], []), [(some (.inl [(36, 9999, 1)]), [], [((0, 2), [(0, 0, 1)])], [])], [(0, 2, 3)], [], 0)
set_option maxRecDepth 100000 in
theorem S_408 : aSpec wd ct_408 := bChk_ok wx_ok btX11_granted (nds := []) (fk := []) (rk := (1, [])) (sp := 0) (fuel := 3000) (by decide +kernel) lk_n odX11_granted
def ct_409 : aCt := (mX11_granted, [.inr (.inl [0]), .inl [(35, 9999, 1)]], ([], []), [(some (.inl [(35, 9999, 1)]), [], [((0, 2), [(0, 0, 1)])], [])], [(0, 2, 3)], [], 0)
set_option maxRecDepth 100000 in
theorem S_409 : aSpec wd ct_409 := bChk_ok wx_ok btX11_granted (nds := []) (fk := []) (rk := (1, [])) (sp := 0) (fuel := 3000) (by decide +kernel) lk_n odX11_granted
def ct_410 : aCt := (mX11_granted, [.inr (.inl [0]), .inl [(34, 9999, 1)]], ([], []), [(some (.inl [(34, 9999, 1)]), [], [((0, 2), [(0, 0, 1)])], [])], [(0, 2, 3)], [], 0)
set_option maxRecDepth 100000 in
theorem S_410 : aSpec wd ct_410 := bChk_ok wx_ok btX11_granted (nds := []) (fk := []) (rk := (1, [])) (sp := 0) (fuel := 3000) (by decide +kernel) lk_n odX11_granted
def ct_411 : aCt := (mX11_granted, [.inr (.inl [0]), .inl [(33, 9999, 1)]], ([], []), [(some (.inl [(33, 9999, 1)]), [], [((0, 2), [(0, 0, 1)])], [])], [(0, 2, 3)], [], 0)
set_option maxRecDepth 100000 in
theorem S_411 : aSpec wd ct_411 := bChk_ok wx_ok btX11_granted (nds := []) (fk := []) (rk := (1, [])) (sp := 0) (fuel := 3000) (by decide +kernel) lk_n odX11_granted
def ct_412 : aCt := (mX11_granted, [.inr (.inl [0]), .inl [(32, 9999, 1)]], ([], []), [(some (.inl [(32, 9999, 1)]), [], [((0, 2), [(0, 0, 1)])], [])], [(0, 2, 3)], [], 0)
set_option maxRecDepth 100000 in
theorem S_412 : aSpec wd ct_412 := bChk_ok wx_ok btX11_granted (nds := []) (fk := []) (rk := (1, [])) (sp := 0) (fuel := 3000) (by decide +kernel) lk_n odX11_granted
def ct_413 : aCt := (mX11_granted, [.inr (.inl [0]), .inl [(31, 9999, 1)]], ([], []), [(some (.inl [(31, 9999, 1)]), [], [((0, 2), [(0, 0, 1)])], [])], [(0, 2, 3)], [], 0)
set_option maxRecDepth 100000 in
theorem S_413 : aSpec wd ct_413 := bChk_ok wx_ok btX11_granted (nds := []) (fk := []) (rk := (1, [])) (sp := 0) (fuel := 3000) (by decide +kernel) lk_n odX11_granted
def ct_414 : aCt := (mX11_granted, [.inr (.inl [0]), .inl [(30, 9999, 1)]], ([], []), [(some (.inl [(30, 9999, 1)]), [], [((0, 2), [(0, 0, 1)])], [])], [(0, 2, 3)], [], 0)
set_option maxRecDepth 100000 in
theorem S_414 : aSpec wd ct_414 := bChk_ok wx_ok btX11_granted (nds := []) (fk := []) (rk := (1, [])) (sp := 0) (fuel := 3000) (by decide +kernel) lk_n odX11_granted
def ct_415 : aCt := (mX11_granted, [.inr (.inl [0]), .inl [(29, 9999, 1)]], ([], []), [(some (.inl [(29, 9999, 1)]), [], [((0, 2), [(0, 0, 1)])], [])], [(0, 2, 3)], [], 0)
set_option maxRecDepth 100000 in
theorem S_415 : aSpec wd ct_415 := bChk_ok wx_ok btX11_granted (nds := []) (fk := []) (rk := (1, [])) (sp := 0) (fuel := 3000) (by decide +kernel) lk_n odX11_granted
def ct_416 : aCt := (mX11_granted, [.inr (.inl [0]), .inl [(28, 9999, 1)]], ([], []), [(some (.inl [(28, 9999, 1)]), [], [((0, 2), [(0, 0, 1)])], [])], [(0, 2, 3)], [], 0)
set_option maxRecDepth 100000 in
theorem S_416 : aSpec wd ct_416 := bChk_ok wx_ok btX11_granted (nds := []) (fk := []) (rk := (1, [])) (sp := 0) (fuel := 3000) (by decide +kernel) lk_n odX11_granted
def ct_417 : aCt := (mX11_granted, [.inr (.inl [0]), .inl [(27, 9999, 1)]], ([], []), [(some (.inl [(27, 9999, 1)]), [], [((0, 2), [(0, 0, 1)])], [])], [(0, 2, 3)], [], 0)
set_option maxRecDepth 100000 in
theorem S_417 : aSpec wd ct_417 := bChk_ok wx_ok btX11_granted (nds := []) (fk := []) (rk := (1, [])) (sp := 0) (fuel := 3000) (by decide +kernel) lk_n odX11_granted
def ct_418 : aCt := (mX11_granted, [.inr (.inl [0]), .inl [(26, 9999, 1)]], ([], []), [(some (.inl [(26, 9999, 1)]), [], [((0, 2), [(0, 0, 1)])], [])], [(0, 2, 3)], [], 0)
set_option maxRecDepth 100000 in
theorem S_418 : aSpec wd ct_418 := bChk_ok wx_ok btX11_granted (nds := []) (fk := []) (rk := (1, [])) (sp := 0) (fuel := 3000) (by decide +kernel) lk_n odX11_granted
def ct_419 : aCt := (mX11_granted, [.inr (.inl [0]), .inl [(25, 9999, 1)]], ([], []), [(some (.inl [(25, 9999, 1)]), [], [((0, 2), [(0, 0, 1)])], [])], [(0, 2, 3)], [], 0)
set_option maxRecDepth 100000 in
theorem S_419 : aSpec wd ct_419 := bChk_ok wx_ok btX11_granted (nds := []) (fk := []) (rk := (1, [])) (sp := 0) (fuel := 3000) (by decide +kernel) lk_n odX11_granted
def ct_420 : aCt := (mX11_granted, [.inr (.inl [0]), .inl [(24, 9999, 1)]], ([], []), [(some (.inl [(24, 9999, 1)]), [], [((0, 2), [(0, 0, 1)])], [])], [(0, 2, 3)], [], 0)
set_option maxRecDepth 100000 in
theorem S_420 : aSpec wd ct_420 := bChk_ok wx_ok btX11_granted (nds := []) (fk := []) (rk := (1, [])) (sp := 0) (fuel := 3000) (by decide +kernel) lk_n odX11_granted
def ct_421 : aCt := (mX11_granted, [.inr (.inl [0]), .inl [(23, 9999, 1)]], ([], []), [(some (.inl [(23, 9999, 1)]), [], [((0, 2), [(0, 0, 1)])], [])], [(0, 2, 3)], [], 0)
set_option maxRecDepth 100000 in
theorem S_421 : aSpec wd ct_421 := bChk_ok wx_ok btX11_granted (nds := []) (fk := []) (rk := (1, [])) (sp := 0) (fuel := 3000) (by decide +kernel) lk_n odX11_granted
def ct_422 : aCt := (mX11_granted, [.inr (.inl [0]), .inl [(22, 9999, 1)]], ([], []), [(some (.inl [(22, 9999, 1)]), [], [((0, 2), [(0, 0, 1)])], [])], [(0, 2, 3)], [], 0)
set_option maxRecDepth 100000 in
theorem S_422 : aSpec wd ct_422 := bChk_ok wx_ok btX11_granted (nds := []) (fk := []) (rk := (1, [])) (sp := 0) (fuel := 3000) (by decide +kernel) lk_n odX11_granted
def ct_423 : aCt := (mX11_granted, [.inr (.inl [0]), .inl [(21, 9999, 1)]], ([], []), [(some (.inl [(21, 9999, 1)]), [], [((0, 2), [(0, 0, 1)])], [])], [(0, 2, 3)], [], 0)
set_option maxRecDepth 100000 in
theorem S_423 : aSpec wd ct_423 := bChk_ok wx_ok btX11_granted (nds := []) (fk := []) (rk := (1, [])) (sp := 0) (fuel := 3000) (by decide +kernel) lk_n odX11_granted
def ct_424 : aCt := (mX11_granted, [.inr (.inl [0]), .inl [(20, 9999, 1)]], ([], []), [(some (.inl [(20, 9999, 1)]), [], [((0, 2), [(0, 0, 1)])], [])], [(0, 2, 3)], [], 0)
set_option maxRecDepth 100000 in
theorem S_424 : aSpec wd ct_424 := bChk_ok wx_ok btX11_granted (nds := []) (fk := []) (rk := (1, [])) (sp := 0) (fuel := 3000) (by decide +kernel) lk_n odX11_granted
def ct_425 : aCt := (mX11_granted, [.inr (.inl [0]), .inl [(19, 9999, 1)]], ([], []), [(some (.inl [(19, 9999, 1)]), [], [((0, 2), [(0, 0, 1)])], [])], [(0, 2, 3)], [], 0)
set_option maxRecDepth 100000 in
theorem S_425 : aSpec wd ct_425 := bChk_ok wx_ok btX11_granted (nds := []) (fk := []) (rk := (1, [])) (sp := 0) (fuel := 3000) (by decide +kernel) lk_n odX11_granted
def ct_426 : aCt := (mX11_granted, [.inr (.inl [0]), .inl [(18, 9999, 1)]], ([], []), [(some (.inl [(18, 9999, 1)]), [], [((0, 2), [(0, 0, 1)])], [])], [(0, 2, 3)], [], 0)
set_option maxRecDepth 100000 in
theorem S_426 : aSpec wd ct_426 := bChk_ok wx_ok btX11_granted (nds := []) (fk := []) (rk := (1, [])) (sp := 0) (fuel := 3000) (by decide +kernel) lk_n odX11_granted
def ct_427 : aCt := (mX11_granted, [.inr (.inl [0]), .inl [(17, 9999, 1)]], ([], []), [(some (.inl [(17, 9999, 1)]), [], [((0, 2), [(0, 0, 1)])], [])], [(0, 2, 3)], [], 0)
set_option maxRecDepth 100000 in
theorem S_427 : aSpec wd ct_427 := bChk_ok wx_ok btX11_granted (nds := []) (fk := []) (rk := (1, [])) (sp := 0) (fuel := 3000) (by decide +kernel) lk_n odX11_granted
def ct_428 : aCt := (mX11_granted, [.inr (.inl [0]), .inl [(16, 9999, 1)]], ([], []), [(some (.inl [(16, 9999, 1)]), [], [((0, 2), [(0, 0, 1)])], [])], [(0, 2, 3)], [], 0)
set_option maxRecDepth 100000 in
theorem S_428 : aSpec wd ct_428 := bChk_ok wx_ok btX11_granted (nds := []) (fk := []) (rk := (1, [])) (sp := 0) (fuel := 3000) (by decide +kernel) lk_n odX11_granted
def ct_429 : aCt := (mX11_granted, [.inr (.inl [0]), .inl [(15, 9999, 1)]], ([], []), [(some (.inl [(15, 9999, 1)]), [], [((0, 2), [(0, 0, 1)])], [])], [(0, 2, 3)], [], 0)
set_option maxRecDepth 100000 in
theorem S_429 : aSpec wd ct_429 := bChk_ok wx_ok btX11_granted (nds := []) (fk := []) (rk := (1, [])) (sp := 0) (fuel := 3000) (by decide +kernel) lk_n odX11_granted
def ct_430 : aCt := (mX11_granted, [.inr (.inl [0]), .inl [(14, 9999, 1)]], ([], []), [(some (.inl [(14, 9999, 1)]), [], [((0, 2), [(0, 0, 1)])], [])], [(0, 2, 3)], [], 0)
set_option maxRecDepth 100000 in
theorem S_430 : aSpec wd ct_430 := bChk_ok wx_ok btX11_granted (nds := []) (fk := []) (rk := (1, [])) (sp := 0) (fuel := 3000) (by decide +kernel) lk_n odX11_granted
def ct_431 : aCt := (mX11_granted, [.inr (.inl [0]), .inl [(13, 9999, 1)]], ([], []), [(some (.inl [(13, 9999, 1)]), [], [((0, 2), [(0, 0, 1)])], [])], [(0, 2, 3)], [], 0)
set_option maxRecDepth 100000 in
theorem S_431 : aSpec wd ct_431 := bChk_ok wx_ok btX11_granted (nds := []) (fk := []) (rk := (1, [])) (sp := 0) (fuel := 3000) (by decide +kernel) lk_n odX11_granted
def ct_432 : aCt := (mX11_granted, [.inr (.inl [0]), .inl [(12, 9999, 1)]], ([], []), [(some (.inl [(12, 9999, 1)]), [], [((0, 2), [(0, 0, 1)])], [])], [(0, 2, 3)], [], 0)
set_option maxRecDepth 100000 in
theorem S_432 : aSpec wd ct_432 := bChk_ok wx_ok btX11_granted (nds := []) (fk := []) (rk := (1, [])) (sp := 0) (fuel := 3000) (by decide +kernel) lk_n odX11_granted
def ct_433 : aCt := (mX11_granted, [.inr (.inl [0]), .inl [(11, 9999, 1)]], ([], []), [(some (.inl [(11, 9999, 1)]), [], [((0, 2), [(0, 0, 1)])], [])], [(0, 2, 3)], [], 0)
set_option maxRecDepth 100000 in
theorem S_433 : aSpec wd ct_433 := bChk_ok wx_ok btX11_granted (nds := []) (fk := []) (rk := (1, [])) (sp := 0) (fuel := 3000) (by decide +kernel) lk_n odX11_granted
def ct_434 : aCt := (mX11_granted, [.inr (.inl [0]), .inl [(10, 9999, 1)]], ([], []), [(some (.inl [(10, 9999, 1)]), [], [((0, 2), [(0, 0, 1)])], [])], [(0, 2, 3)], [], 0)
set_option maxRecDepth 100000 in
theorem S_434 : aSpec wd ct_434 := bChk_ok wx_ok btX11_granted (nds := []) (fk := []) (rk := (1, [])) (sp := 0) (fuel := 3000) (by decide +kernel) lk_n odX11_granted
def ct_435 : aCt := (mX11_granted, [.inr (.inl [0]), .inl [(9, 9999, 1)]], ([], []), [(some (.inl [(9, 9999, 1)]), [], [((0, 2), [(0, 0, 1)])], [])], [(0, 2, 3)], [], 0)
set_option maxRecDepth 100000 in
theorem S_435 : aSpec wd ct_435 := bChk_ok wx_ok btX11_granted (nds := []) (fk := []) (rk := (1, [])) (sp := 0) (fuel := 3000) (by decide +kernel) lk_n odX11_granted
def ct_436 : aCt := (mX11_granted, [.inr (.inl [0]), .inl [(8, 9999, 1)]], ([], []), [(some (.inl [(8, 9999, 1)]), [], [((0, 2), [(0, 0, 1)])], [])], [(0, 2, 3)], [], 0)
set_option maxRecDepth 100000 in
theorem S_436 : aSpec wd ct_436 := bChk_ok wx_ok btX11_granted (nds := []) (fk := []) (rk := (1, [])) (sp := 0) (fuel := 3000) (by decide +kernel) lk_n odX11_granted
def ct_437 : aCt := (mX11_granted, [.inr (.inl [0]), .inl [(7, 9999, 1)]], ([], []), [(some (.inl [(7, 9999, 1)]), [], [((0, 2), [(0, 0, 1)])], [])], [(0, 2, 3)], [], 0)
set_option maxRecDepth 100000 in
theorem S_437 : aSpec wd ct_437 := bChk_ok wx_ok btX11_granted (nds := []) (fk := []) (rk := (1, [])) (sp := 0) (fuel := 3000) (by decide +kernel) lk_n odX11_granted
def ct_438 : aCt := (mX11_granted, [.inr (.inl [0]), .inl [(6, 9999, 1)]], ([], []), [(some (.inl [(6, 9999, 1)]), [], [((0, 2), [(0, 0, 1)])], [])], [(0, 2, 3)], [], 0)
set_option maxRecDepth 100000 in
theorem S_438 : aSpec wd ct_438 := bChk_ok wx_ok btX11_granted (nds := []) (fk := []) (rk := (1, [])) (sp := 0) (fuel := 3000) (by decide +kernel) lk_n odX11_granted
def ct_439 : aCt := (mX11_granted, [.inr (.inl [0]), .inl [(5, 9999, 1)]], ([], []), [(some (.inl [(5, 9999, 1)]), [], [((0, 2), [(0, 0, 1)])], [])], [(0, 2, 3)], [], 0)
set_option maxRecDepth 100000 in
theorem S_439 : aSpec wd ct_439 := bChk_ok wx_ok btX11_granted (nds := []) (fk := []) (rk := (1, [])) (sp := 0) (fuel := 3000) (by decide +kernel) lk_n odX11_granted
def ct_440 : aCt := (mX11_granted, [.inr (.inl [0]), .inl [(4, 9999, 1)]], ([], []), [(some (.inl [(4, 9999, 1)]), [], [((0, 2), [(0, 0, 1)])], [])], [(0, 2, 3)], [], 0)
set_option maxRecDepth 100000 in
theorem S_440 : aSpec wd ct_440 := bChk_ok wx_ok btX11_granted (nds := []) (fk := []) (rk := (1, [])) (sp := 0) (fuel := 3000) (by decide +kernel) lk_n odX11_granted
def ct_441 : aCt := (mX11_granted, [.inr (.inl [0]), .inl [(3, 9999, 1)]], ([], []), [(some (.inl [(3, 9999, 1)]), [], [((0, 2), [(0, 0, 1)])], [])], [(0, 2, 3)], [], 0)
set_option maxRecDepth 100000 in
theorem S_441 : aSpec wd ct_441 := bChk_ok wx_ok btX11_granted (nds := []) (fk := []) (rk := (1, [])) (sp := 0) (fuel := 3000) (by decide +kernel) lk_n odX11_granted
def ct_442 : aCt := (mX11_granted, [.inr (.inl [0]), .inl [(2, 9999, 1)]], ([], []), [(some (.inl [(2, 9999, 1)]), [], [((0, 2), [(0, 0, 1)])], [])], [(0, 2, 3)], [], 0)
set_option maxRecDepth 100000 in
theorem S_442 : aSpec wd ct_442 := bChk_ok wx_ok btX11_granted (nds := []) (fk := []) (rk := (1, [])) (sp := 0) (fuel := 3000) (by decide +kernel) lk_n odX11_granted
def ct_443 : aCt := (mX11_granted, [.inr (.inl [0]), .inl [(1, 9999, 1)]], ([], []), [(some (.inl [(1, 9999, 1)]), [], [((0, 2), [(0, 0, 1)])], [])], [(0, 2, 3)], [], 0)
set_option maxRecDepth 100000 in
theorem S_443 : aSpec wd ct_443 := bChk_ok wx_ok btX11_granted (nds := []) (fk := []) (rk := (1, [])) (sp := 0) (fuel := 3000) (by decide +kernel) lk_n odX11_granted
set_option maxRecDepth 100000 in
theorem btX11_years : bTab oX11_years tX11_years := ⟨ofX11_years, by decide +kernel⟩
def ct_444 : aCt := (mX11_years, [.inr (.inl [0]), .inl aTop], ([], [((0, 3), 2)]), [(some (.inl [(1, 9999, 1)]), [none, some [(1, 99, 1)]], [((0, 2), [(0, 0, 1)]), ((2, 4), [(1, 7, 1)])], []), (some (.inl [(-1, -1, 1)]), [], [((0, 2), [(1, 3, 1)])], [])], [(0, 2, 3), (0, 12, 14), (86, 0, 1), (106, 0, 2), (107, 0, 5), (108, 0, 5), (109, 0, 8), (110, 0, 8), (111, 0, 8), (112, 0, 2), (113, 0, 5), (114, 0, 5), (115, 0, 8), (116, 0, 8), (117, 0, 8), (118, 0, 2), (119, 0, 5), (120, 0, 5), (121, 0, 8), (122, 0, 8), (123, 0, 8), (124, 0, 2), (125, 0, 5), (126, 0, 5), (127, 0, 8), (128, 0, 8), (129, 0, 8), (130, 0, 2), (131, 0, 5), (132, 0, 5), (133, 0, 8), (134, 0, 8), (135, 0, 8), (136, 0, 2), (137, 0, 5), (138, 0, 5), (139, 0, 8), (140, 0, 8), (141, 0, 8), (142, 0, 2), (143, 0, 5), (144, 0, 5), (145, 0, 8), (146, 0, 8), (147, 0, 8), (148, 0, 2), (149, 0, 5), (150, 0, 5), (151, 0, 8), (152, 0, 8), (153, 0, 8), (154, 0, 2), (155, 0, 5), (156, 0, 5), (157, 0, 8), (158, 0, 8), (159, 0, 8), (160, 0, 2), (161, 0, 5), (162, 0, 5), (163, 0, 8), (164, 0, 8), (165, 0, 8), (166, 0, 2), (167, 0, 5), (168, 0, 5), (169, 0, 8), (170, 0, 8), (171, 0, 8), (172, 0, 2), (173, 0, 5), (174, 0, 5), (175, 0, 8), (176, 0, 8), (177, 0, 8)], [], 3)
set_option maxRecDepth 100000 in
theorem S_444 : aSpec wd ct_444 := bChk_ok wx_ok btX11_years (nds := []) (fk := [38]) (rk := (1, [])) (sp := 0) (fuel := 3000) (by decide +kernel) (lk_c ml_11_222 S_105 (lk_c ml_11_341 S_334 (lk_c ml_11_98 S_6 (lk_c ml_11_98 S_344 (lk_c ml_11_98 S_74 (lk_c ml_11_112 S_345 (lk_c ml_11_112 S_346 (lk_c ml_11_112 S_347 (lk_c ml_11_112 S_348 (lk_c ml_11_112 S_349 (lk_c ml_11_112 S_350 (lk_c ml_11_112 S_351 (lk_c ml_11_112 S_352 (lk_c ml_11_112 S_353 (lk_c ml_11_112 S_354 (lk_c ml_11_112 S_355 (lk_c ml_11_112 S_356 (lk_c ml_11_112 S_357 (lk_c ml_11_112 S_358 (lk_c ml_11_112 S_359 (lk_c ml_11_112 S_360 (lk_c ml_11_112 S_361 (lk_c ml_11_112 S_362 (lk_c ml_11_112 S_363 (lk_c ml_11_112 S_364 (lk_c ml_11_112 S_365 (lk_c ml_11_112 S_366 (lk_c ml_11_112 S_367 (lk_c ml_11_112 S_368 (lk_c ml_11_112 S_369 (lk_c ml_11_112 S_370 (lk_c ml_11_112 S_371 (lk_c ml_11_112 S_372 (lk_c ml_11_112 S_373 (lk_c ml_11_112 S_374 (lk_c ml_11_112 S_375 (lk_c ml_11_112 S_376 (lk_c ml_11_112 S_377 (lk_c ml_11_112 S_378 (lk_c ml_11_112 S_379 (lk_c ml_11_112 S_380 (lk_c ml_11_112 S_381 (lk_c ml_11_112 S_382 (lk_c ml_11_112 S_383 (lk_c ml_11_112 S_384 (lk_c ml_11_112 S_385 (lk_c ml_11_112 S_386 (lk_c ml_11_112 S_387 (lk_c ml_11_112 S_388 (lk_c ml_11_112 S_389 (lk_c ml_11_112 S_390 (lk_c ml_11_112 S_391 (lk_c ml_11_112 S_392 (lk_c ml_11_112 S_393 (lk_c ml_11_112 S_394 (lk_c ml_11_112 S_395 (lk_c ml_11_112 S_396 (lk_c ml_11_112 S_397 (lk_c ml_11_112 S_398 (lk_c ml_11_112 S_399 (lk_c ml_11_112 S_400 (lk_c ml_11_112 S_401 (lk_c ml_11_112 S_402 (lk_c ml_11_112 S_403 (lk_c ml_11_112 S_404 (lk_c ml_11_112 S_405 (lk_c ml_11_112 S_406 (lk_c ml_11_112 S_407 (lk_c ml_11_112 S_408 (lk_c ml_11_112 S_409 (lk_c ml_11_112 S_410 (lk_c ml_11_112 S_411 (lk_c ml_11_112 S_412 (lk_c ml_11_112 S_413 (lk_c ml_11_112 S_414 (lk_c ml_11_112 S_415 (lk_c ml_11_112 S_416 (lk_c ml_11_112 S_417 (lk_c ml_11_112 S_418 (lk_c ml_11_112 S_419 (lk_c ml_11_112 S_420 (lk_c ml_11_112 S_421 (lk_c ml_11_112 S_422 (lk_c ml_11_112 S_423 (lk_c ml_11_112 S_424 (lk_c ml_11_112 S_425 (lk_c ml_11_112 S_426 (lk_c ml_11_112 S_427 (lk_c ml_11_112 S_428 (lk_c ml_11_112 S_429 (lk_c ml_11_112 S_430 (lk_c ml_11_112 S_431 (lk_c ml_11_112 S_432 (lk_c ml_11_112 S_433 (lk_c ml_11_112 S_434 (lk_c ml_11_112 S_435 (lk_c ml_11_112 S_436 (lk_c ml_11_112 S_437 (lk_c ml_11_112 S_438 (lk_c ml_11_112 S_439 (lk_c ml_11_112 S_440 (lk_c ml_11_112 S_441 (lk_c ml_11_112 S_442 (lk_c ml_11_112 S_443 lk_n)))))))))))))))))))))))))))))))))))))))))))))))))))))))))))))))))))))))))))))))))))))))))))))))))))))))) odX11_years
end Pk0
section Pk1
set_option maxRecDepth 100000 in
theorem btX11_close : bTab oX11_close tX11_close := ⟨ofX11_close, by decide +kernel⟩
def ct_445 : aCt := (mX11_close, [.inr (.inl [0]), .inl aTop, .inl [(0, 1, 1)]], ([], [((0, 3), 2)]), [(some (.inl [(0, 0, 1)]), [], [((0, 2), [(1, 1, 1), (5, 5, 1)])], []), (some (.inl [(1, 1, 1)]), [none, some [(0, 11, 1)], some [(0, 1, 1)]], [((0, 2), [(0, 0, 1)]), ((2, 5), [(1, 12, 1)])], [])], [(0, 2, 3), (0, 12, 14), (86, 1, 2), (106, 0, 2), (107, 0, 5), (108, 0, 5), (109, 0, 8), (110, 0, 8), (111, 0, 8), (112, 0, 2), (113, 0, 5), (114, 0, 5), (115, 0, 8), (116, 0, 8), (117, 0, 8), (118, 0, 2), (119, 0, 5), (120, 0, 5), (121, 0, 8), (122, 0, 8), (123, 0, 8), (124, 0, 2), (125, 0, 5), (126, 0, 5), (127, 0, 8), (128, 0, 8), (129, 0, 8), (130, 0, 2), (131, 0, 5), (132, 0, 5), (133, 0, 8), (134, 0, 8), (135, 0, 8), (136, 0, 2), (137, 0, 5), (138, 0, 5), (139, 0, 8), (140, 0, 8), (141, 0, 8), (142, 0, 2), (143, 0, 5), (144, 0, 5), (145, 0, 8), (146, 0, 8), (147, 0, 8), (148, 0, 2), (149, 0, 5), (150, 0, 5), (151, 0, 8), (152, 0, 8), (153, 0, 8), (154, 0, 2), (155, 0, 5), (156, 0, 5), (157, 0, 8), (158, 0, 8), (159, 0, 8), (160, 0, 2), (161, 0, 5), (162, 0, 5), (163, 0, 8), (164, 0, 8), (165, 0, 8), (166, 0, 2), (167, 0, 5), (168, 0, 5), (169, 0, 8), (170, 0, 8), (171, 0, 8), (172, 0, 2), (173, 0, 5), (174, 0, 5), (175, 0, 8), (176, 0, 8), (177, 0, 8)], [], 3)
set_option maxRecDepth 100000 in
theorem S_445 : aSpec wd ct_445 := bChk_ok wx_ok btX11_close (nds := []) (fk := []) (rk := (1, [])) (sp := 0) (fuel := 3000) (by decide +kernel) (lk_c ml_11_341 S_334 (lk_c ml_11_356 S_340 (lk_c ml_11_347 S_339 (lk_c ml_11_347 S_342 (lk_c ml_11_210 S_103 (lk_c ml_11_230 S_108 lk_n)))))) odX11_close
def ct_446 : aCt := (mX11_hasRefused, [.inr (.inl [0]), .inl [(6, 6, 1)]], ([], []), [(some (.inl [(0, 0, 1)]), [], [((0, 2), [(6, 6, 1)])], [])], [(0, 2, 3)], [], 0)
set_option maxRecDepth 100000 in
theorem S_446 : aSpec wd ct_446 := bChk_ok wx_ok btX11_hasRefused (nds := []) (fk := []) (rk := (1, [])) (sp := 0) (fuel := 3000) (by decide +kernel) lk_n odX11_hasRefused
def ct_447 : aCt := (mX2_copyFrom, [.inr (.inl [86]), .inr (.inl [106, 112, 118, 124, 130, 136, 142, 148, 154, 160, 166, 172])], ([], []), [(none, [], [], [])], [(86, 0, 2), (87, 0, 5), (88, 0, 5), (89, 0, 8), (90, 0, 8), (91, 0, 8)], [], 1)
set_option maxRecDepth 100000 in
theorem S_447 : aSpec wd ct_447 := bChk_ok wx_ok btX2_copyFrom (nds := []) (fk := []) (rk := (1, [])) (sp := 0) (fuel := 3000) (by decide +kernel) lk_n odX2_copyFrom
set_option maxRecDepth 100000 in
theorem btX11_undo : bTab oX11_undo tX11_undo := ⟨ofX11_undo, by decide +kernel⟩
def ct_448 : aCt := (mX11_undo, [.inr (.inl [0])], ([], []), [(some (.inl [(0, 0, 1)]), [], [((0, 2), [(6, 6, 1)])], []), (some (.inl [(1, 1, 1)]), [], [((0, 2), [(0, 0, 1)])], [])], [(0, 2, 3), (0, 12, 14), (86, 0, 2), (87, 0, 5), (88, 0, 5), (89, 0, 8), (90, 0, 8), (91, 0, 8)], [], 2)
set_option maxRecDepth 100000 in
theorem S_448 : aSpec wd ct_448 := bChk_ok wx_ok btX11_undo (nds := []) (fk := []) (rk := (1, [])) (sp := 0) (fuel := 3000) (by decide +kernel) (lk_c ml_11_356 S_340 (lk_c ml_11_347 S_446 (lk_c ml_11_359 S_447 lk_n))) odX11_undo
def ct_449 : aCt := (mX2_copyFrom, [.inr (.inl [178, 184, 190]), .inr (.inl [86])], ([], []), [(none, [], [], [])], [(178, 0, 2), (179, 0, 5), (180, 0, 5), (181, 0, 8), (182, 0, 8), (183, 0, 8), (184, 0, 2), (185, 0, 5), (186, 0, 5), (187, 0, 8), (188, 0, 8), (189, 0, 8), (190, 0, 2), (191, 0, 5), (192, 0, 5), (193, 0, 8), (194, 0, 8), (195, 0, 8)], [], 1)
set_option maxRecDepth 100000 in
theorem S_449 : aSpec wd ct_449 := bChk_ok wx_ok btX2_copyFrom (nds := []) (fk := []) (rk := (1, [])) (sp := 0) (fuel := 3000) (by decide +kernel) lk_n odX2_copyFrom
def ct_450 : aCt := (mX11_granted, [.inr (.inl [0]), .inl [(0, 2, 1)]], ([], []), [(some (.inl [(0, 2, 1)]), [], [((0, 2), [(0, 0, 1)])], [])], [(0, 2, 3)], [], 0)
set_option maxRecDepth 100000 in
theorem S_450 : aSpec wd ct_450 := bChk_ok wx_ok btX11_granted (nds := []) (fk := []) (rk := (1, [])) (sp := 0) (fuel := 3000) (by decide +kernel) lk_n odX11_granted
set_option maxRecDepth 100000 in
theorem btX11_image : bTab oX11_image tX11_image := ⟨ofX11_image, by decide +kernel⟩
def ct_451 : aCt := (mX11_image, [.inr (.inl [0])], ([], [((0, 3), 2)]), [(some (.inl [(0, 2, 1)]), [], [((0, 2), [(0, 0, 1)]), ((0, 15), [(1, 3, 1)]), ((2, 4), [(1, 7, 1)])], []), (some (.inl [(-1, -1, 1)]), [], [((0, 2), [(1, 1, 1), (3, 3, 1)])], [])], [(0, 2, 3), (0, 15, 16), (178, 0, 2), (179, 0, 5), (180, 0, 5), (181, 0, 8), (182, 0, 8), (183, 0, 8), (184, 0, 2), (185, 0, 5), (186, 0, 5), (187, 0, 8), (188, 0, 8), (189, 0, 8), (190, 0, 2), (191, 0, 5), (192, 0, 5), (193, 0, 8), (194, 0, 8), (195, 0, 8)], [], 2)
set_option maxRecDepth 100000 in
theorem S_451 : aSpec wd ct_451 := bChk_ok wx_ok btX11_image (nds := []) (fk := []) (rk := (1, [])) (sp := 0) (fuel := 3000) (by decide +kernel) (lk_c ml_11_222 S_105 (lk_c ml_11_98 S_344 (lk_c ml_11_98 S_74 (lk_c ml_11_359 S_449 (lk_c ml_11_112 S_450 lk_n))))) odX11_image
def ct_452 : aCt := (mX2_copyFrom, [.inr (.inl [86]), .inr (.inl [178, 184, 190])], ([], []), [(none, [], [], [])], [(86, 0, 2), (87, 0, 5), (88, 0, 5), (89, 0, 8), (90, 0, 8), (91, 0, 8)], [], 1)
set_option maxRecDepth 100000 in
theorem S_452 : aSpec wd ct_452 := bChk_ok wx_ok btX2_copyFrom (nds := []) (fk := []) (rk := (1, [])) (sp := 0) (fuel := 3000) (by decide +kernel) lk_n odX2_copyFrom
set_option maxRecDepth 100000 in
theorem btX11_back : bTab oX11_back tX11_back := ⟨ofX11_back, by decide +kernel⟩
def ct_453 : aCt := (mX11_back, [.inr (.inl [0]), .inl aTop], ([], []), [(some (.inl [(0, 0, 1)]), [none, some aTop], [((0, 2), [(1, 1, 1)])], []), (some (.inl [(1, 1, 1)]), [none, some [(0, 2, 1)]], [((0, 2), [(0, 0, 1)]), ((0, 15), [(1, 3, 1)])], [])], [(0, 2, 3), (0, 13, 14), (86, 0, 2), (87, 0, 5), (88, 0, 5), (89, 0, 8), (90, 0, 8), (91, 0, 8)], [], 2)
set_option maxRecDepth 100000 in
theorem S_453 : aSpec wd ct_453 := bChk_ok wx_ok btX11_back (nds := []) (fk := []) (rk := (1, [])) (sp := 0) (fuel := 3000) (by decide +kernel) (lk_c ml_11_356 S_340 (lk_c ml_11_347 S_342 (lk_c ml_11_359 S_452 lk_n))) odX11_back
set_option maxRecDepth 100000 in
theorem btX11_size : bTab oX11_size tX11_size := ⟨ofX11_size, by decide +kernel⟩
def ct_454 : aCt := (mX11_size, [.inr (.inl [0]), .inl aTop], ([], [((0, 3), 2)]), [(some (.inl aTop), [none, some [(0, 12, 1)]], [], []), (some (.inl [(-1, -1, 1)]), [none, some [(-2147483648, -1, 1), (13, 2147483647, 1)]], [], [])], [], [], 0)
set_option maxRecDepth 100000 in
theorem S_454 : aSpec wd ct_454 := bChk_ok wx_ok btX11_size (nds := []) (fk := []) (rk := (1, [])) (sp := 0) (fuel := 3000) (by decide +kernel) lk_n odX11_size
set_option maxRecDepth 100000 in
theorem btX11_trouble : bTab oX11_trouble tX11_trouble := ⟨ofX11_trouble, by decide +kernel⟩
def ct_455 : aCt := (mX11_trouble, [.inr (.inl [0])], ([], []), [(some (.inl [(0, 6, 1)]), [], [], [])], [], [], 0)
set_option maxRecDepth 100000 in
theorem S_455 : aSpec wd ct_455 := bChk_ok wx_ok btX11_trouble (nds := []) (fk := []) (rk := (1, [])) (sp := 0) (fuel := 3000) (by decide +kernel) lk_n odX11_trouble
def ct_456 : aCt := (mX11_feed, [.inr (.inl [0]), .inl aTop, .inl aTop, .inl aTop, .inl aTop, .inl aTop], ([], []), [(some (.inl [(20, 1000, 1)]), [], [((0, 1), [(20, 1000, 1)])], []), (some (.inl [(-1, -1, 1)]), [], [((0, 1), [(981, 1000, 1)])], [])], [(0, 1, 2), (1, 0, 1000)], [], 1)
set_option maxRecDepth 100000 in
theorem S_456 : aSpec wd ct_456 := bChk_ok wx_ok btX11_feed (nds := []) (fk := []) (rk := (1, [])) (sp := 0) (fuel := 3000) (by decide +kernel) (lk_c ml_11_94 S_0 (lk_c ml_11_94 S_1 (lk_c ml_11_94 S_2 (lk_c ml_11_94 S_3 (lk_c ml_11_94 S_4 lk_n))))) odX11_feed
def ct_457 : aCt := (mX4_clear, [.inr (.inl [2])], ([], []), [(none, [], [((2, 4), [(0, 0, 1)]), ((2, 5), [(0, 0, 1)]), ((2, 6), [(0, 0, 1)]), ((2, 7), [(0, 0, 1)]), ((2, 8), [(0, 0, 1)])], [])], [(2, 0, 9)], [], 0)
set_option maxRecDepth 100000 in
theorem S_457 : aSpec wd ct_457 := bChk_ok wx_ok btX4_clear (nds := []) (fk := []) (rk := (1, [])) (sp := 0) (fuel := 3000) (by decide +kernel) lk_n odX4_clear
def ct_458 : aCt := (mX5_songOfToken, [.inr (.inl [82])], ([], [((82, 6), 2)]), [(some (.inl aTop), [], [], []), (some (.inl [(-2, -2, 1)]), [], [], [])], [], [], 0)
set_option maxRecDepth 100000 in
theorem S_458 : aSpec wd ct_458 := bChk_ok wx_ok btX5_songOfToken (nds := [((nat_lit 31), [lcn_0, lcn_50, lcn_51, lcn_8], [], [], [((82, 6), 2)], (1000, [(2, -1)]))]) (fk := []) (rk := (1001, [])) (sp := 2147483648) (fuel := 3000) (by decide +kernel) lk_n odX5_songOfToken
def sl_283 : (Nat × Nat) × aI := (((nat_lit 2), (nat_lit 4)), [((.ofNat (nat_lit 0)), (.ofNat (nat_lit 6)), (nat_lit 1))])
def ct_459 : aCt := (mX4_hasSong, [.inr (.inl [2]), .inl [(-2147483648, -3, 1), (-1, 2147483647, 1)], .inl [(-1000, 1000, 1)]], ([((2, 4), [(0, 6, 1)])], []), [(some (.inl [(0, 0, 1)]), [], [], []), (some (.inl [(1, 1, 1)]), [], [((2, 4), [(1, 6, 1)])], [])], [], [], 0)
set_option maxRecDepth 100000 in
theorem S_459 : aSpec wd ct_459 := bChk_ok wx_ok btX4_hasSong (nds := [((nat_lit 2), [lcn_97, lcn_53, lcn_54, lcn_55], [], [sl_283], [], (6, [(2, -1)]))]) (fk := []) (rk := (7, [])) (sp := 4) (fuel := 3000) (by decide +kernel) lk_n odX4_hasSong
def ct_460 : aCt := (mX5_readIsland, [.inr (.inl [82])], ([((2, 4), [(0, 6, 1)]), ((82, 11), [(0, 0, 1)])], [((82, 6), 2)]), [(some (.inl [(0, 0, 1)]), [], [((2, 4), [(0, 6, 1)]), ((82, 11), [(1, 1, 1), (3, 3, 1), (7, 7, 1)])], []), (some (.inl [(1, 1, 1)]), [], [((2, 4), [(1, 7, 1)]), ((82, 10), [(1, 20, 1)]), ((82, 11), [(0, 0, 1)])], [])], [(2, 4, 5), (3, 0, 7), (4, 0, 7), (82, 2, 5), (82, 10, 13), (84, 0, 20), (85, 0, 20)], [], 3)
set_option maxRecDepth 100000 in
theorem S_460 : aSpec wd ct_460 := bChk_ok wx_ok btX5_readIsland (nds := []) (fk := []) (rk := (1, [])) (sp := 0) (fuel := 3000) (by decide +kernel) (lk_c ml_5_161 S_458 (lk_c ml_5_70 S_10 (lk_c ml_5_76 S_12 (lk_c ml_5_76 S_18 (lk_c ml_5_76 S_15 (lk_c ml_5_158 S_16 (lk_c ml_5_164 S_459 lk_n))))))) odX5_readIsland
def ct_461 : aCt := (mX5_readHead, [.inr (.inl [82])], ([((82, 11), [(0, 0, 1)])], [((82, 6), 2)]), [(some (.inl [(0, 0, 1)]), [], [((82, 11), [(1, 1, 1), (4, 4, 1)])], []), (some (.inl [(1, 1, 1)]), [], [((82, 5), [(0, 100, 1)]), ((82, 11), [(0, 0, 1)])], [])], [(2, 0, 4), (82, 2, 6), (82, 11, 13)], [], 3)
set_option maxRecDepth 100000 in
theorem S_461 : aSpec wd ct_461 := bChk_ok wx_ok btX5_readHead (nds := []) (fk := []) (rk := (1, [])) (sp := 0) (fuel := 3000) (by decide +kernel) (lk_c ml_5_142 S_26 (lk_c ml_5_142 S_27 (lk_c ml_5_142 S_28 (lk_c ml_5_142 S_25 (lk_c ml_5_138 S_23 lk_n))))) odX5_readHead
def ct_462 : aCt := (mX5_readBox, [.inr (.inl [82]), .inr (.inl [26, 27, 28, 29, 30, 31, 32, 33])], ([((2, 7), [(0, 7, 1)]), ((82, 11), [(0, 0, 1)])], [((82, 6), 2)]), [(some (.inl [(0, 0, 1)]), [], [((2, 7), [(0, 7, 1)]), ((82, 11), [(1, 4, 1)])], []), (some (.inl [(1, 1, 1)]), [], [((2, 7), [(1, 8, 1)]), ((82, 5), [(0, 9999, 1)]), ((82, 10), [(1, 20, 1)]), ((82, 11), [(0, 0, 1)])], [])], [(2, 7, 8), (26, 0, 4), (27, 0, 4), (28, 0, 4), (29, 0, 4), (30, 0, 4), (31, 0, 4), (32, 0, 4), (33, 0, 4), (82, 2, 6), (82, 10, 13), (84, 0, 20), (85, 0, 20)], [], 3)
set_option maxRecDepth 100000 in
theorem S_462 : aSpec wd ct_462 := bChk_ok wx_ok btX5_readBox (nds := []) (fk := []) (rk := (1, [])) (sp := 0) (fuel := 3000) (by decide +kernel) (lk_c ml_5_173 S_34 (lk_c ml_5_173 S_33 (lk_c ml_5_142 S_35 (lk_c ml_5_142 S_36 (lk_c ml_5_158 S_30 (lk_c ml_5_138 S_23 lk_n)))))) odX5_readBox
def ct_463 : aCt := (mX5_readWhale, [.inr (.inl [82]), .inr (.inl [25])], ([((2, 6), [(4, 4, 1)]), ((82, 11), [(0, 0, 1)])], [((82, 6), 2)]), [(some (.inl [(0, 0, 1)]), [], [((2, 6), [(4, 4, 1)]), ((82, 11), [(1, 4, 1)])], []), (some (.inl [(1, 1, 1)]), [], [((2, 6), [(5, 5, 1)]), ((82, 5), [(0, 99, 1)]), ((82, 10), [(1, 20, 1)]), ((82, 11), [(0, 0, 1)])], [])], [(2, 6, 7), (25, 0, 4), (82, 2, 6), (82, 10, 13), (84, 0, 20), (85, 0, 20)], [], 3)
set_option maxRecDepth 100000 in
theorem S_463 : aSpec wd ct_463 := bChk_ok wx_ok btX5_readWhale (nds := []) (fk := []) (rk := (1, [])) (sp := 0) (fuel := 3000) (by decide +kernel) (lk_c ml_5_70 S_10 (lk_c ml_5_195 S_39 (lk_c ml_5_173 S_33 (lk_c ml_5_76 S_12 (lk_c ml_5_142 S_40 (lk_c ml_5_142 S_41 (lk_c ml_5_158 S_38 (lk_c ml_5_138 S_23 lk_n)))))))) odX5_readWhale
def ct_464 : aCt := (mX5_readWhale, [.inr (.inl [82]), .inr (.inl [24])], ([((2, 6), [(3, 3, 1)]), ((82, 11), [(0, 0, 1)])], [((82, 6), 2)]), [(some (.inl [(0, 0, 1)]), [], [((2, 6), [(3, 3, 1)]), ((82, 11), [(1, 4, 1)])], []), (some (.inl [(1, 1, 1)]), [], [((2, 6), [(4, 4, 1)]), ((82, 5), [(0, 99, 1)]), ((82, 10), [(1, 20, 1)]), ((82, 11), [(0, 0, 1)])], [])], [(2, 6, 7), (24, 0, 4), (82, 2, 6), (82, 10, 13), (84, 0, 20), (85, 0, 20)], [], 3)
set_option maxRecDepth 100000 in
theorem S_464 : aSpec wd ct_464 := bChk_ok wx_ok btX5_readWhale (nds := []) (fk := []) (rk := (1, [])) (sp := 0) (fuel := 3000) (by decide +kernel) (lk_c ml_5_70 S_10 (lk_c ml_5_195 S_39 (lk_c ml_5_173 S_33 (lk_c ml_5_76 S_12 (lk_c ml_5_142 S_40 (lk_c ml_5_142 S_41 (lk_c ml_5_158 S_43 (lk_c ml_5_138 S_23 lk_n)))))))) odX5_readWhale
def ct_465 : aCt := (mX5_readWhale, [.inr (.inl [82]), .inr (.inl [23])], ([((2, 6), [(2, 2, 1)]), ((82, 11), [(0, 0, 1)])], [((82, 6), 2)]), [(some (.inl [(0, 0, 1)]), [], [((2, 6), [(2, 2, 1)]), ((82, 11), [(1, 4, 1)])], []), (some (.inl [(1, 1, 1)]), [], [((2, 6), [(3, 3, 1)]), ((82, 5), [(0, 99, 1)]), ((82, 10), [(1, 20, 1)]), ((82, 11), [(0, 0, 1)])], [])], [(2, 6, 7), (23, 0, 4), (82, 2, 6), (82, 10, 13), (84, 0, 20), (85, 0, 20)], [], 3)
set_option maxRecDepth 100000 in
theorem S_465 : aSpec wd ct_465 := bChk_ok wx_ok btX5_readWhale (nds := []) (fk := []) (rk := (1, [])) (sp := 0) (fuel := 3000) (by decide +kernel) (lk_c ml_5_70 S_10 (lk_c ml_5_195 S_39 (lk_c ml_5_173 S_33 (lk_c ml_5_76 S_12 (lk_c ml_5_142 S_40 (lk_c ml_5_142 S_41 (lk_c ml_5_158 S_45 (lk_c ml_5_138 S_23 lk_n)))))))) odX5_readWhale
def ct_466 : aCt := (mX5_readWhale, [.inr (.inl [82]), .inr (.inl [22])], ([((2, 6), [(1, 1, 1)]), ((82, 11), [(0, 0, 1)])], [((82, 6), 2)]), [(some (.inl [(0, 0, 1)]), [], [((2, 6), [(1, 1, 1)]), ((82, 11), [(1, 4, 1)])], []), (some (.inl [(1, 1, 1)]), [], [((2, 6), [(2, 2, 1)]), ((82, 5), [(0, 99, 1)]), ((82, 10), [(1, 20, 1)]), ((82, 11), [(0, 0, 1)])], [])], [(2, 6, 7), (22, 0, 4), (82, 2, 6), (82, 10, 13), (84, 0, 20), (85, 0, 20)], [], 3)
set_option maxRecDepth 100000 in
theorem S_466 : aSpec wd ct_466 := bChk_ok wx_ok btX5_readWhale (nds := []) (fk := []) (rk := (1, [])) (sp := 0) (fuel := 3000) (by decide +kernel) (lk_c ml_5_70 S_10 (lk_c ml_5_195 S_39 (lk_c ml_5_173 S_33 (lk_c ml_5_76 S_12 (lk_c ml_5_142 S_40 (lk_c ml_5_142 S_41 (lk_c ml_5_158 S_47 (lk_c ml_5_138 S_23 lk_n)))))))) odX5_readWhale
def ct_467 : aCt := (mX5_readWhale, [.inr (.inl [82]), .inr (.inl [21])], ([((2, 6), [(0, 0, 1)]), ((82, 11), [(0, 0, 1)])], [((82, 6), 2)]), [(some (.inl [(0, 0, 1)]), [], [((2, 6), [(0, 0, 1)]), ((82, 11), [(1, 4, 1)])], []), (some (.inl [(1, 1, 1)]), [], [((2, 6), [(1, 1, 1)]), ((82, 5), [(0, 99, 1)]), ((82, 10), [(1, 20, 1)]), ((82, 11), [(0, 0, 1)])], [])], [(2, 6, 7), (21, 0, 4), (82, 2, 6), (82, 10, 13), (84, 0, 20), (85, 0, 20)], [], 3)
set_option maxRecDepth 100000 in
theorem S_467 : aSpec wd ct_467 := bChk_ok wx_ok btX5_readWhale (nds := []) (fk := []) (rk := (1, [])) (sp := 0) (fuel := 3000) (by decide +kernel) (lk_c ml_5_70 S_10 (lk_c ml_5_195 S_39 (lk_c ml_5_173 S_33 (lk_c ml_5_76 S_12 (lk_c ml_5_142 S_40 (lk_c ml_5_142 S_41 (lk_c ml_5_158 S_49 (lk_c ml_5_138 S_23 lk_n)))))))) odX5_readWhale
def sl_284 : (Nat × Nat) × aI := (((nat_lit 2), (nat_lit 5)), [((.ofNat (nat_lit 0)), (.ofNat (nat_lit 11)), (nat_lit 1))])
def ct_468 : aCt := (mX4_wayBetween, [.inr (.inl [2]), .inl [(0, 6, 1)], .inl [(0, 6, 1)]], ([((2, 5), [(0, 11, 1)])], []), [(some (.inl [(0, 10, 1)]), [], [((2, 5), [(1, 11, 1)])], []), (some (.inl [(-2, -2, 1)]), [], [], [])], [], [], 0)
set_option maxRecDepth 100000 in
theorem S_468 : aSpec wd ct_468 := bChk_ok wx_ok btX4_wayBetween (nds := [((nat_lit 2), [lcn_97, lcn_68, lcn_69, lcn_70], [], [sl_284], [], (11, [(2, -1)]))]) (fk := []) (rk := (12, [])) (sp := 4) (fuel := 3000) (by decide +kernel) lk_n odX4_wayBetween
def ct_469 : aCt := (mX5_readWay, [.inr (.inl [82]), .inr (.inl [9, 10, 11, 12, 13, 14, 15, 16, 17, 18, 19, 20])], ([((2, 5), [(0, 11, 1)]), ((82, 11), [(0, 0, 1)])], [((82, 6), 2)]), [(some (.inl [(0, 0, 1)]), [], [((2, 5), [(0, 11, 1)]), ((82, 11), [(1, 4, 1)])], []), (some (.inl [(1, 1, 1)]), [], [((2, 5), [(1, 12, 1)]), ((82, 5), [(1, 15, 1)]), ((82, 10), [(1, 20, 1)]), ((82, 11), [(0, 0, 1)])], [])], [(2, 5, 6), (9, 0, 4), (10, 0, 4), (11, 0, 4), (12, 0, 4), (13, 0, 4), (14, 0, 4), (15, 0, 4), (16, 0, 4), (17, 0, 4), (18, 0, 4), (19, 0, 4), (20, 0, 4), (82, 2, 6), (82, 11, 13)], [], 3)
set_option maxRecDepth 100000 in
theorem S_469 : aSpec wd ct_469 := bChk_ok wx_ok btX5_readWay (nds := []) (fk := []) (rk := (1, [])) (sp := 0) (fuel := 3000) (by decide +kernel) (lk_c ml_5_173 S_34 (lk_c ml_5_173 S_51 (lk_c ml_5_76 S_15 (lk_c ml_5_142 S_35 (lk_c ml_5_142 S_53 (lk_c ml_5_184 S_468 (lk_c ml_5_138 S_23 lk_n))))))) odX5_readWay
def sl_285 : (Nat × Nat) × aI := (((nat_lit 2), (nat_lit 8)), [((.ofNat (nat_lit 0)), (.ofNat (nat_lit 7)), (nat_lit 1))])
def ct_470 : aCt := (mX4_lastSpoutOf, [.inr (.inl [2]), .inl [(0, 4, 1)]], ([((2, 8), [(0, 7, 1)])], []), [(some (.inl [(0, 6, 1)]), [], [], []), (some (.inl [(-2, -2, 1)]), [], [], [])], [], [], 0)
set_option maxRecDepth 100000 in
theorem S_470 : aSpec wd ct_470 := bChk_ok wx_ok btX4_lastSpoutOf (nds := [((nat_lit 7), [lcn_97, lcn_73, lcn_74], [], [sl_285], [], (1, [(1, 1)]))]) (fk := []) (rk := (8, [])) (sp := 128) (fuel := 3000) (by decide +kernel) lk_n odX4_lastSpoutOf
def ct_471 : aCt := (mX5_readSpout, [.inr (.inl [82]), .inr (.inl [34, 35, 36, 37, 38, 39, 40, 41])], ([((2, 8), [(0, 7, 1)]), ((82, 11), [(0, 0, 1)])], [((82, 6), 2)]), [(some (.inl [(0, 0, 1)]), [], [((2, 8), [(0, 7, 1)]), ((82, 11), [(1, 2, 1), (4, 4, 1)])], []), (some (.inl [(1, 1, 1)]), [], [((2, 8), [(1, 8, 1)]), ((82, 5), [(-2147483648, 9999, 1)]), ((82, 10), [(1, 20, 1)]), ((82, 11), [(0, 0, 1)])], [])], [(2, 8, 9), (34, 0, 3), (35, 0, 3), (36, 0, 3), (37, 0, 3), (38, 0, 3), (39, 0, 3), (40, 0, 3), (41, 0, 3), (82, 2, 6), (82, 11, 13)], [], 3)
set_option maxRecDepth 100000 in
theorem S_471 : aSpec wd ct_471 := bChk_ok wx_ok btX5_readSpout (nds := []) (fk := []) (rk := (1, [])) (sp := 0) (fuel := 3000) (by decide +kernel) (lk_c ml_5_173 S_56 (lk_c ml_5_173 S_55 (lk_c ml_5_142 S_58 (lk_c ml_5_240 S_470 (lk_c ml_5_138 S_23 (lk_c ml_5_142 S_59 lk_n)))))) odX5_readSpout
def ct_472 : aCt := (mX5_readLine, [.inr (.inl [82])], ([((82, 11), [(0, 0, 1)])], [((82, 6), 2)]), [(some (.inl [(0, 0, 1)]), [], [((82, 11), [(1, 7, 1)])], []), (some (.inl [(1, 1, 1)]), [], [((82, 11), [(0, 0, 1)])], [])], [(2, 0, 9), (3, 0, 7), (4, 0, 7), (9, 0, 4), (10, 0, 4), (11, 0, 4), (12, 0, 4), (13, 0, 4), (14, 0, 4), (15, 0, 4), (16, 0, 4), (17, 0, 4), (18, 0, 4), (19, 0, 4), (20, 0, 4), (21, 0, 4), (22, 0, 4), (23, 0, 4), (24, 0, 4), (25, 0, 4), (26, 0, 4), (27, 0, 4), (28, 0, 4), (29, 0, 4), (30, 0, 4), (31, 0, 4), (32, 0, 4), (33, 0, 4), (34, 0, 3), (35, 0, 3), (36, 0, 3), (37, 0, 3), (38, 0, 3), (39, 0, 3), (40, 0, 3), (41, 0, 3), (82, 2, 6), (82, 10, 13), (84, 0, 20), (85, 0, 20)], [], 4)
set_option maxRecDepth 100000 in
theorem S_472 : aSpec wd ct_472 := bChk_ok wx_ok btX5_readLine (nds := []) (fk := [172]) (rk := (1, [])) (sp := 0) (fuel := 3000) (by decide +kernel) (lk_c ml_5_90 S_460 (lk_c ml_5_87 S_461 (lk_c ml_5_70 S_10 (lk_c ml_5_80 S_11 (lk_c ml_5_111 S_463 (lk_c ml_5_111 S_464 (lk_c ml_5_111 S_465 (lk_c ml_5_111 S_466 (lk_c ml_5_111 S_467 (lk_c ml_5_76 S_21 (lk_c ml_5_76 S_22 (lk_c ml_5_76 S_15 (lk_c ml_5_76 S_12 (lk_c ml_5_122 S_462 (lk_c ml_5_133 S_471 (lk_c ml_5_100 S_469 lk_n)))))))))))))))) odX5_readLine
def lcn_286 : Nat × aAg := ((nat_lit 2), .inr (.inl [(nat_lit 2)]))
def ct_473 : aCt := (mX5_readPost, [.inr (.inl [82]), .inl [(0, 1000, 1)], .inr (.inl [2])], ([], []), [(some (.inl [(0, 0, 1)]), [], [((82, 11), [(1, 7, 1)])], [((82, 6), 2)]), (some (.inl [(1, 1, 1)]), [], [((2, 4), [(1, 7, 1)]), ((82, 11), [(0, 0, 1)])], [((82, 6), 2)])], [(2, 0, 9), (3, 0, 7), (4, 0, 7), (9, 0, 4), (10, 0, 4), (11, 0, 4), (12, 0, 4), (13, 0, 4), (14, 0, 4), (15, 0, 4), (16, 0, 4), (17, 0, 4), (18, 0, 4), (19, 0, 4), (20, 0, 4), (21, 0, 4), (22, 0, 4), (23, 0, 4), (24, 0, 4), (25, 0, 4), (26, 0, 4), (27, 0, 4), (28, 0, 4), (29, 0, 4), (30, 0, 4), (31, 0, 4), (32, 0, 4), (33, 0, 4), (34, 0, 3), (35, 0, 3), (36, 0, 3), (37, 0, 3), (38, 0, 3), (39, 0, 3), (40, 0, 3), (41, 0, 3), (82, 1, 6), (82, 10, 13), (84, 0, 20), (85, 0, 20)], [(82, 6, 7)], 5)
set_option maxRecDepth 100000 in
theorem S_473 : aSpec wd ct_473 := bChk_ok wx_ok btX5_readPost (nds := [((nat_lit 47), [lcn_0, lcn_77, lcn_286, lcn_79], [], [sl_60], [((82, 6), 2)], (1023, [(1, -1)]))]) (fk := []) (rk := (1024, [])) (sp := 140737488355328) (fuel := 3000) (by decide +kernel) (lk_c ml_5_66 S_472 (lk_c ml_5_55 S_457 (lk_c ml_5_70 S_10 (lk_c ml_5_76 S_22 (lk_c ml_5_76 S_12 lk_n))))) odX5_readPost
def lcn_287 : Nat × aAg := ((nat_lit 1), .inr (.inl [(nat_lit 2)]))
def ct_474 : aCt := (mX2_begin, [.inr (.inl [86]), .inr (.inl [2])], ([], []), [(none, [], [], [])], [(86, 0, 2), (87, 0, 5), (88, 0, 5), (89, 0, 8), (90, 0, 8), (91, 0, 8)], [], 0)
set_option maxRecDepth 100000 in
theorem S_474 : aSpec wd ct_474 := bChk_ok wx_ok btX2_begin (nds := [((nat_lit 12), [lcn_80, lcn_287, lcn_82], [], [sl_83, sl_84], [], (14, [(0, -1)])), ((nat_lit 50), [lcn_80, lcn_287, lcn_85], [], [sl_83, sl_84], [], (8, [(0, -1)]))]) (fk := []) (rk := (15, [])) (sp := 1125899906846720) (fuel := 3000) (by decide +kernel) lk_n odX2_begin
def ct_475 : aCt := (mX11_takeDraft, [.inr (.inl [0])], ([], [((0, 3), 42), ((0, 4), 2), ((92, 0), 42), ((94, 0), 42), ((96, 0), 42)]), [(none, [], [((0, 15), [(0, 0, 1)])], [((0, 3), 2), ((0, 4), 42), ((92, 0), 2), ((94, 0), 2), ((96, 0), 2)])], [(0, 13, 14), (0, 15, 16), (86, 0, 2), (87, 0, 5), (88, 0, 5), (89, 0, 8), (90, 0, 8), (91, 0, 8)], [(0, 3, 4), (0, 4, 5), (92, 0, 1), (94, 0, 1), (96, 0, 1)], 1)
set_option maxRecDepth 100000 in
theorem S_475 : aSpec wd ct_475 := bChk_ok wx_ok btX11_takeDraft (nds := []) (fk := []) (rk := (1, [])) (sp := 0) (fuel := 3000) (by decide +kernel) (lk_c ml_11_391 S_474 lk_n) odX11_takeDraft
def ct_476 : aCt := (mX11_post, [.inr (.inl [0]), .inl aTop], ([], [((0, 3), 42), ((0, 4), 2), ((92, 0), 42), ((94, 0), 42), ((96, 0), 42)]), [(some (.inl [(1, 7, 1)]), [none, some [(0, 1000, 1)]], [((0, 1), [(0, 0, 1)]), ((0, 2), [(0, 0, 1)]), ((0, 15), [(0, 0, 1)]), ((2, 4), [(1, 7, 1)]), ((82, 11), [(0, 0, 1)])], [((0, 3), 2), ((0, 4), 42), ((82, 6), 2), ((92, 0), 2), ((94, 0), 2), ((96, 0), 2)]), (some (.inl [(-1, -1, 1)]), [none, some [(0, 1000, 1)]], [((0, 1), [(0, 0, 1)]), ((0, 2), [(4, 4, 1)]), ((82, 11), [(1, 7, 1)])], [((0, 3), 42), ((0, 4), 2), ((82, 6), 2), ((92, 0), 42), ((94, 0), 42), ((96, 0), 42)]), (some (.inl [(-1, -1, 1)]), [none, some [(-2147483648, -1, 1), (1, 2147483647, 1)]], [((0, 2), [(2, 2, 1)])], [((0, 3), 42), ((0, 4), 2), ((92, 0), 42), ((94, 0), 42), ((96, 0), 42)])], [(0, 1, 3), (0, 13, 14), (0, 15, 16), (2, 0, 9), (3, 0, 7), (4, 0, 7), (9, 0, 4), (10, 0, 4), (11, 0, 4), (12, 0, 4), (13, 0, 4), (14, 0, 4), (15, 0, 4), (16, 0, 4), (17, 0, 4), (18, 0, 4), (19, 0, 4), (20, 0, 4), (21, 0, 4), (22, 0, 4), (23, 0, 4), (24, 0, 4), (25, 0, 4), (26, 0, 4), (27, 0, 4), (28, 0, 4), (29, 0, 4), (30, 0, 4), (31, 0, 4), (32, 0, 4), (33, 0, 4), (34, 0, 3), (35, 0, 3), (36, 0, 3), (37, 0, 3), (38, 0, 3), (39, 0, 3), (40, 0, 3), (41, 0, 3), (82, 1, 6), (82, 10, 13), (84, 0, 20), (85, 0, 20), (86, 0, 2), (87, 0, 5), (88, 0, 5), (89, 0, 8), (90, 0, 8), (91, 0, 8)], [(0, 3, 4), (0, 4, 5), (82, 6, 7), (92, 0, 1), (94, 0, 1), (96, 0, 1)], 6)
set_option maxRecDepth 100000 in
theorem S_476 : aSpec wd ct_476 := bChk_ok wx_ok btX11_post (nds := []) (fk := []) (rk := (1, [])) (sp := 0) (fuel := 3000) (by decide +kernel) (lk_c ml_11_106 S_475 (lk_c ml_11_98 S_6 (lk_c ml_11_98 S_66 (lk_c ml_11_112 S_65 (lk_c ml_11_102 S_473 lk_n))))) odX11_post
def ct_477 : aCt := (mX11_fault, [.inr (.inl [0])], ([], []), [(some (.inl aTop), [], [], [])], [], [], 0)
set_option maxRecDepth 100000 in
theorem S_477 : aSpec wd ct_477 := bChk_ok wx_ok btX11_fault (nds := []) (fk := []) (rk := (1, [])) (sp := 0) (fuel := 3000) (by decide +kernel) lk_n odX11_fault
def ct_478 : aCt := (mX11_where, [.inr (.inl [0])], ([], []), [(some (.inl aTop), [], [((0, 2), [(4, 4, 1)])], []), (some (.inl [(-1, -1, 1)]), [], [((0, 2), [(0, 3, 1), (5, 6, 1)])], [])], [], [], 0)
set_option maxRecDepth 100000 in
theorem S_478 : aSpec wd ct_478 := bChk_ok wx_ok btX11_where (nds := []) (fk := []) (rk := (1, [])) (sp := 0) (fuel := 3000) (by decide +kernel) lk_n odX11_where
def ct_479 : aCt := (mX11_isWhale, [.inr (.inl [0]), .inl aTop], ([], [((0, 3), 42)]), [(some (.inl [(0, 0, 1)]), [none, some [(0, 2147483647, 1)]], [((42, 6), [(0, 0, 1)])], []), (some (.inl [(0, 0, 1)]), [none, some [(1, 2147483647, 1)]], [((42, 6), [(1, 1, 1)])], []), (some (.inl [(0, 0, 1)]), [none, some [(2, 2147483647, 1)]], [((42, 6), [(2, 2, 1)])], []), (some (.inl [(0, 0, 1)]), [none, some [(3, 2147483647, 1)]], [((42, 6), [(3, 3, 1)])], []), (some (.inl [(0, 0, 1)]), [none, some [(4, 2147483647, 1)]], [((42, 6), [(4, 4, 1)])], []), (some (.inl [(0, 0, 1)]), [none, some [(5, 2147483647, 1)]], [((42, 6), [(5, 5, 1)])], []), (some (.inl [(0, 0, 1)]), [none, some [(-2147483648, -1, 1)]], [], []), (some (.inl [(1, 1, 1)]), [none, some [(0, 0, 1)]], [((42, 6), [(1, 1, 1)])], []), (some (.inl [(1, 1, 1)]), [none, some [(0, 1, 1)]], [((42, 6), [(2, 2, 1)])], []), (some (.inl [(1, 1, 1)]), [none, some [(0, 2, 1)]], [((42, 6), [(3, 3, 1)])], []), (some (.inl [(1, 1, 1)]), [none, some [(0, 3, 1)]], [((42, 6), [(4, 4, 1)])], []), (some (.inl [(1, 1, 1)]), [none, some [(0, 4, 1)]], [((42, 6), [(5, 5, 1)])], [])], [], [], 0)
set_option maxRecDepth 100000 in
theorem S_479 : aSpec wd ct_479 := bChk_ok wx_ok btX11_isWhale (nds := []) (fk := [12]) (rk := (1, [])) (sp := 0) (fuel := 3000) (by decide +kernel) lk_n odX11_isWhale
def ct_480 : aCt := (mX11_whale, [.inr (.inl [0]), .inl aTop, .inl aTop], ([], [((0, 3), 42)]), [(some (.inl aTop), [none, some [(0, 4, 1)], some [(0, 4, 1)]], [((0, 2), [(0, 0, 1)]), ((42, 6), [(1, 5, 1)])], []), (some (.inl [(-1, -1, 1)]), [none, some aTop, none], [((0, 2), [(1, 1, 1)])], [])], [(0, 2, 3)], [], 1)
set_option maxRecDepth 100000 in
theorem S_480 : aSpec wd ct_480 := bChk_ok wx_ok btX11_whale (nds := []) (fk := []) (rk := (1, [])) (sp := 0) (fuel := 3000) (by decide +kernel) (lk_c ml_11_98 S_74 (lk_c ml_11_112 S_73 (lk_c ml_11_112 S_72 (lk_c ml_11_121 S_479 (lk_c ml_11_112 S_71 lk_n))))) odX11_whale
def ct_481 : aCt := (mX11_isBox, [.inr (.inl [0]), .inl aTop], ([], [((0, 3), 42)]), [(some (.inl [(0, 0, 1)]), [none, some aTop], [], []), (some (.inl [(1, 1, 1)]), [none, some [(0, 7, 1)]], [((42, 7), [(1, 8, 1)])], [])], [], [], 0)
set_option maxRecDepth 100000 in
theorem S_481 : aSpec wd ct_481 := bChk_ok wx_ok btX11_isBox (nds := []) (fk := []) (rk := (1, [])) (sp := 0) (fuel := 3000) (by decide +kernel) lk_n odX11_isBox
def ct_482 : aCt := (mX11_box, [.inr (.inl [0]), .inl aTop, .inl aTop], ([], [((0, 3), 42)]), [(some (.inl aTop), [none, some [(0, 7, 1)], some [(0, 5, 1)]], [((0, 2), [(0, 0, 1)]), ((42, 7), [(1, 8, 1)])], []), (some (.inl [(-1, -1, 1)]), [], [((0, 2), [(1, 1, 1)])], [])], [(0, 2, 3)], [], 1)
set_option maxRecDepth 100000 in
theorem S_482 : aSpec wd ct_482 := bChk_ok wx_ok btX11_box (nds := []) (fk := []) (rk := (1, [])) (sp := 0) (fuel := 3000) (by decide +kernel) (lk_c ml_11_98 S_74 (lk_c ml_11_112 S_72 (lk_c ml_11_147 S_481 (lk_c ml_11_112 S_71 lk_n)))) odX11_box
def ct_483 : aCt := (mX11_isIsland, [.inr (.inl [0]), .inl aTop], ([], [((0, 3), 42)]), [(some (.inl [(0, 0, 1)]), [none, some aTop], [], []), (some (.inl [(1, 1, 1)]), [none, some [(0, 6, 1)]], [((42, 4), [(1, 7, 1)])], [])], [], [], 0)
set_option maxRecDepth 100000 in
theorem S_483 : aSpec wd ct_483 := bChk_ok wx_ok btX11_isIsland (nds := []) (fk := []) (rk := (1, [])) (sp := 0) (fuel := 3000) (by decide +kernel) lk_n odX11_isIsland
def ct_484 : aCt := (mX11_length, [.inr (.inl [0]), .inl aTop], ([], [((0, 3), 42)]), [(some (.inl [(-1000, 1000, 1)]), [none, some [(0, 6, 1)]], [((0, 2), [(0, 0, 1)]), ((42, 4), [(1, 7, 1)])], []), (some (.inl [(-1, -1, 1)]), [], [((0, 2), [(1, 1, 1)])], [])], [(0, 2, 3)], [], 1)
set_option maxRecDepth 100000 in
theorem S_484 : aSpec wd ct_484 := bChk_ok wx_ok btX11_length (nds := []) (fk := []) (rk := (1, [])) (sp := 0) (fuel := 3000) (by decide +kernel) (lk_c ml_11_98 S_74 (lk_c ml_11_112 S_79 (lk_c ml_11_174 S_483 lk_n))) odX11_length
def ct_485 : aCt := (mX7_fallIn, [.inr (.inl [92]), .inl [(0, 9999, 1)]], ([], [((92, 0), 42)]), [(some (.inl [(0, 3, 1)]), [], [], []), (some (.inl [(0, 0, 1)]), [], [], [])], [], [], 0)
set_option maxRecDepth 100000 in
theorem S_485 : aSpec wd ct_485 := bChk_ok wx_ok btX7_fallIn (nds := []) (fk := []) (rk := (1, [])) (sp := 0) (fuel := 3000) (by decide +kernel) lk_n odX7_fallIn
def sl_288 : (Nat × Nat) × aI := (((nat_lit 42), (nat_lit 0)), [((.ofNat (nat_lit 1)), (.ofNat (nat_lit 4)), (nat_lit 1))])
def ct_486 : aCt := (mX7_raised, [.inr (.inl [92]), .inl aTop, .inl [(-1000, 1000, 1)], .inl [(0, 4, 1)]], ([], [((92, 0), 42)]), [(some (.inl aTop), [], [], [])], [], [], 1)
set_option maxRecDepth 100000 in
theorem S_486 : aSpec wd ct_486 := bChk_ok wx_ok btX7_raised (nds := [((nat_lit 22), [lcn_86, lcn_76, lcn_54, lcn_87, lcn_88, lcn_89], [], [sl_288], [((92, 0), 42)], (1000, [(4, -1)]))]) (fk := []) (rk := (1001, [])) (sp := 4194304) (fuel := 3000) (by decide +kernel) (lk_c ml_7_40 S_82 lk_n) odX7_raised
def ct_487 : aCt := (mX7_raised, [.inr (.inl [92]), .inl aTop, .inl [(-1000, 1000, 1)], .inl [(-3, 4, 1)]], ([], [((92, 0), 42)]), [(some (.inl aTop), [], [], [])], [], [], 1)
set_option maxRecDepth 100000 in
theorem S_487 : aSpec wd ct_487 := bChk_ok wx_ok btX7_raised (nds := [((nat_lit 22), [lcn_86, lcn_76, lcn_54, lcn_91, lcn_88, lcn_89], [], [sl_288], [((92, 0), 42)], (1000, [(4, -1)]))]) (fk := []) (rk := (1001, [])) (sp := 4194304) (fuel := 3000) (by decide +kernel) (lk_c ml_7_40 S_82 lk_n) odX7_raised
def ct_488 : aCt := (mX7_songIn, [.inr (.inl [92]), .inl [(0, 6, 1)], .inl [(0, 9999, 1)]], ([], [((92, 0), 42)]), [(some (.inl aTop), [], [], [])], [], [], 2)
set_option maxRecDepth 100000 in
theorem S_488 : aSpec wd ct_488 := bChk_ok wx_ok btX7_songIn (nds := []) (fk := []) (rk := (1, [])) (sp := 0) (fuel := 3000) (by decide +kernel) (lk_c ml_7_50 S_485 (lk_c ml_7_54 S_486 (lk_c ml_7_54 S_487 lk_n))) odX7_songIn
def ct_489 : aCt := (mX11_note, [.inr (.inl [0]), .inl aTop, .inl aTop], ([], [((0, 3), 42), ((92, 0), 42)]), [(some (.inl [(0, 3, 1)]), [none, some [(0, 6, 1)], some [(0, 999, 1)]], [((0, 2), [(0, 0, 1)]), ((42, 4), [(1, 7, 1)])], []), (some (.inl [(-1, -1, 1)]), [], [((0, 2), [(1, 1, 1)])], [])], [(0, 2, 3)], [], 3)
set_option maxRecDepth 100000 in
theorem S_489 : aSpec wd ct_489 := bChk_ok wx_ok btX11_note (nds := []) (fk := []) (rk := (1, [])) (sp := 0) (fuel := 3000) (by decide +kernel) (lk_c ml_11_98 S_74 (lk_c ml_11_112 S_73 (lk_c ml_11_183 S_488 (lk_c ml_11_174 S_483 (lk_c ml_11_187 S_86 lk_n))))) odX11_note
def ct_490 : aCt := (mX4_boxLength, [.inr (.inl [42]), .inl [(0, 7, 1)]], ([], []), [(some (.inl [(-1000, 1000, 1)]), [], [], [])], [], [], 0)
set_option maxRecDepth 100000 in
theorem S_490 : aSpec wd ct_490 := bChk_ok wx_ok btX4_boxLength (nds := []) (fk := []) (rk := (1, [])) (sp := 0) (fuel := 3000) (by decide +kernel) lk_n odX4_boxLength
def ct_491 : aCt := (mX11_isNoteOfBox, [.inr (.inl [0]), .inl aTop, .inl aTop], ([], [((0, 3), 42)]), [(some (.inl [(0, 0, 1)]), [], [], []), (some (.inl [(1, 1, 1)]), [none, some [(0, 7, 1)], some [(0, 999, 1)]], [((42, 7), [(1, 8, 1)])], [])], [], [], 1)
set_option maxRecDepth 100000 in
theorem S_491 : aSpec wd ct_491 := bChk_ok wx_ok btX11_isNoteOfBox (nds := []) (fk := []) (rk := (1, [])) (sp := 0) (fuel := 3000) (by decide +kernel) (lk_c ml_11_198 S_490 (lk_c ml_11_147 S_481 lk_n)) odX11_isNoteOfBox
def ct_492 : aCt := (mX11_sung, [.inr (.inl [0]), .inl aTop, .inl aTop], ([], [((0, 3), 42)]), [(some (.inl [(0, 3, 1)]), [none, some [(0, 7, 1)], some [(0, 999, 1)]], [((0, 2), [(0, 0, 1)]), ((42, 7), [(1, 8, 1)])], []), (some (.inl [(-1, -1, 1)]), [], [((0, 2), [(1, 1, 1)])], [])], [(0, 2, 3)], [], 2)
set_option maxRecDepth 100000 in
theorem S_492 : aSpec wd ct_492 := bChk_ok wx_ok btX11_sung (nds := []) (fk := []) (rk := (1, [])) (sp := 0) (fuel := 3000) (by decide +kernel) (lk_c ml_11_98 S_74 (lk_c ml_11_112 S_73 (lk_c ml_11_198 S_490 (lk_c ml_11_187 S_86 (lk_c ml_11_191 S_491 lk_n))))) odX11_sung
def ct_493 : aCt := (mX7_raised, [.inr (.inl [92]), .inl aTop, .inl [(-1000, 1000, 1)], .inl [(0, 0, 1)]], ([], [((92, 0), 42)]), [(some (.inl aTop), [], [], [])], [], [], 0)
set_option maxRecDepth 100000 in
theorem S_493 : aSpec wd ct_493 := bChk_ok wx_ok btX7_raised (nds := []) (fk := []) (rk := (1, [])) (sp := 0) (fuel := 3000) (by decide +kernel) lk_n odX7_raised
def ct_494 : aCt := (mX7_raised, [.inr (.inl [92]), .inl aTop, .inl [(-1000, 1000, 1)], .inl [(0, 3, 1)]], ([], [((92, 0), 42)]), [(some (.inl aTop), [], [], [])], [], [], 1)
set_option maxRecDepth 100000 in
theorem S_494 : aSpec wd ct_494 := bChk_ok wx_ok btX7_raised (nds := [((nat_lit 22), [lcn_86, lcn_76, lcn_54, lcn_92, lcn_88, lcn_89], [], [sl_288], [((92, 0), 42)], (1000, [(4, -1)]))]) (fk := []) (rk := (1001, [])) (sp := 4194304) (fuel := 3000) (by decide +kernel) (lk_c ml_7_40 S_82 lk_n) odX7_raised
def ct_495 : aCt := (mX7_hearerOf, [.inr (.inl [92]), .inl aTop, .inl [(-1000, 1000, 1)], .inl [(0, 9999, 1)]], ([], [((92, 0), 42)]), [(some (.inl [(-2, -2, 1), (0, 6, 1)]), [], [], []), (some (.inl [(-2, -2, 1)]), [], [], [])], [(92, 2, 4)], [], 2)
set_option maxRecDepth 100000 in
theorem S_495 : aSpec wd ct_495 := bChk_ok wx_ok btX7_hearerOf (nds := [((nat_lit 32), [lcn_86, lcn_76, lcn_54, lcn_93, lcn_88, lcn_94, lcn_95], [], [sl_96], [((92, 0), 42)], (7, [(5, -1)]))]) (fk := []) (rk := (8, [])) (sp := 4294967296) (fuel := 3000) (by decide +kernel) (lk_c ml_7_50 S_485 (lk_c ml_7_54 S_493 (lk_c ml_7_54 S_494 (lk_c ml_7_60 S_94 lk_n)))) odX7_hearerOf
def ct_496 : aCt := (mX11_hearerIn, [.inr (.inl [0]), .inl [(0, 7, 1)], .inl [(0, 9999, 1)]], ([], [((0, 3), 42), ((92, 0), 42)]), [(some (.inl [(-2, -2, 1), (0, 6, 1)]), [], [], []), (some (.inl [(-2, -2, 1)]), [], [], [])], [(92, 2, 4)], [], 3)
set_option maxRecDepth 100000 in
theorem S_496 : aSpec wd ct_496 := bChk_ok wx_ok btX11_hearerIn (nds := []) (fk := []) (rk := (1, [])) (sp := 0) (fuel := 3000) (by decide +kernel) (lk_c ml_11_198 S_490 (lk_c ml_11_277 S_495 lk_n)) odX11_hearerIn
def ct_497 : aCt := (mX11_heard, [.inr (.inl [0]), .inl aTop], ([], [((0, 3), 42), ((92, 0), 42)]), [(some (.inl [(-2, -2, 1), (0, 6, 1)]), [none, some [(0, 7, 1)]], [((0, 2), [(0, 0, 1)]), ((42, 7), [(1, 8, 1)])], []), (some (.inl [(-1, -1, 1)]), [], [((0, 2), [(1, 1, 1)])], []), (some (.inl [(-2, -2, 1)]), [none, some [(0, 7, 1)]], [((0, 2), [(0, 0, 1)]), ((42, 7), [(1, 8, 1)])], [])], [(0, 2, 3), (92, 2, 4)], [], 4)
set_option maxRecDepth 100000 in
theorem S_497 : aSpec wd ct_497 := bChk_ok wx_ok btX11_heard (nds := []) (fk := []) (rk := (1, [])) (sp := 0) (fuel := 3000) (by decide +kernel) (lk_c ml_11_112 S_97 (lk_c ml_11_98 S_74 (lk_c ml_11_112 S_98 (lk_c ml_11_201 S_496 (lk_c ml_11_147 S_481 lk_n))))) odX11_heard
def ct_498 : aCt := (mX11_isIsland, [.inr (.inl [0]), .inl aTop], ([((42, 4), [(1, 7, 1)])], [((0, 3), 42)]), [(some (.inl [(0, 0, 1)]), [none, some [(-2147483648, -1, 1), (1, 2147483647, 1)]], [], []), (some (.inl [(1, 1, 1)]), [none, some [(0, 6, 1)]], [], [])], [], [], 0)
set_option maxRecDepth 100000 in
theorem S_498 : aSpec wd ct_498 := bChk_ok wx_ok btX11_isIsland (nds := []) (fk := []) (rk := (1, [])) (sp := 0) (fuel := 3000) (by decide +kernel) lk_n odX11_isIsland
def ct_499 : aCt := (mX11_areTwoIslands, [.inr (.inl [0]), .inl aTop, .inl aTop], ([], [((0, 3), 42)]), [(some (.inl [(0, 0, 1)]), [], [], []), (some (.inl [(1, 1, 1)]), [none, some [(0, 6, 1)], some [(0, 6, 1)]], [((42, 4), [(1, 7, 1)])], [])], [], [], 1)
set_option maxRecDepth 100000 in
theorem S_499 : aSpec wd ct_499 := bChk_ok wx_ok btX11_areTwoIslands (nds := []) (fk := []) (rk := (1, [])) (sp := 0) (fuel := 3000) (by decide +kernel) (lk_c ml_11_174 S_498 (lk_c ml_11_174 S_483 lk_n)) odX11_areTwoIslands
def ct_500 : aCt := (mX4_wayBetween, [.inr (.inl [42]), .inl [(0, 6, 1)], .inl [(0, 6, 1)]], ([], []), [(some (.inl [(0, 11, 1)]), [], [((42, 5), [(1, 12, 1)])], []), (some (.inl [(-2, -2, 1)]), [], [], [])], [], [], 0)
set_option maxRecDepth 100000 in
theorem S_500 : aSpec wd ct_500 := bChk_ok wx_ok btX4_wayBetween (nds := [((nat_lit 2), [lcn_52, lcn_68, lcn_69, lcn_98], [], [], [], (12, [(2, -1)]))]) (fk := []) (rk := (13, [])) (sp := 4) (fuel := 3000) (by decide +kernel) lk_n odX4_wayBetween
def ct_501 : aCt := (mX11_way, [.inr (.inl [0]), .inl aTop, .inl aTop], ([], [((0, 3), 42)]), [(some (.inl aTop), [none, some [(0, 6, 1)], some [(0, 6, 1)]], [((0, 2), [(0, 0, 1)]), ((42, 4), [(1, 7, 1)]), ((42, 5), [(1, 12, 1)])], []), (some (.inl [(-1, -1, 1)]), [], [((0, 2), [(1, 1, 1)])], []), (some (.inl [(-2, -2, 1)]), [none, some [(0, 6, 1)], some [(0, 6, 1)]], [((0, 2), [(0, 0, 1)]), ((42, 4), [(1, 7, 1)])], [])], [(0, 2, 3)], [], 2)
set_option maxRecDepth 100000 in
theorem S_501 : aSpec wd ct_501 := bChk_ok wx_ok btX11_way (nds := []) (fk := []) (rk := (1, [])) (sp := 0) (fuel := 3000) (by decide +kernel) (lk_c ml_11_112 S_97 (lk_c ml_11_98 S_74 (lk_c ml_11_210 S_103 (lk_c ml_11_207 S_500 (lk_c ml_11_112 S_71 (lk_c ml_11_204 S_499 lk_n)))))) odX11_way
def ct_502 : aCt := (mX11_hasPost, [.inr (.inl [0])], ([], [((0, 3), 42)]), [(some (.inl [(0, 0, 1)]), [], [((42, 4), [(0, 0, 1)])], []), (some (.inl [(1, 1, 1)]), [], [((42, 4), [(1, 7, 1)])], [])], [], [], 0)
set_option maxRecDepth 100000 in
theorem S_502 : aSpec wd ct_502 := bChk_ok wx_ok btX11_hasPost (nds := []) (fk := []) (rk := (1, [])) (sp := 0) (fuel := 3000) (by decide +kernel) lk_n odX11_hasPost
def ct_503 : aCt := (mX11_season, [.inr (.inl [0]), .inl aTop], ([], [((0, 3), 42)]), [(some (.inl [(0, 3, 1)]), [none, some [(0, 99999, 1)]], [((0, 2), [(0, 0, 1)]), ((42, 4), [(1, 7, 1)])], []), (some (.inl [(-1, -1, 1)]), [], [((0, 2), [(1, 2, 1)])], [])], [(0, 2, 3)], [], 1)
set_option maxRecDepth 100000 in
theorem S_503 : aSpec wd ct_503 := bChk_ok wx_ok btX11_season (nds := []) (fk := []) (rk := (1, [])) (sp := 0) (fuel := 3000) (by decide +kernel) (lk_c ml_11_222 S_502 (lk_c ml_11_98 S_6 (lk_c ml_11_98 S_74 (lk_c ml_11_112 S_73 (lk_c ml_11_227 S_106 lk_n))))) odX11_season
def ct_504 : aCt := (mX11_isWay, [.inr (.inl [0]), .inl aTop], ([], [((0, 3), 42)]), [(some (.inl [(0, 0, 1)]), [none, some aTop], [], []), (some (.inl [(1, 1, 1)]), [none, some [(0, 11, 1)]], [((42, 5), [(1, 12, 1)])], [])], [], [], 0)
set_option maxRecDepth 100000 in
theorem S_504 : aSpec wd ct_504 := bChk_ok wx_ok btX11_isWay (nds := []) (fk := []) (rk := (1, [])) (sp := 0) (fuel := 3000) (by decide +kernel) lk_n odX11_isWay
def ct_505 : aCt := (mX11_sets, [.inr (.inl [0]), .inl aTop, .inl aTop, .inl aTop], ([], [((0, 3), 42)]), [(some (.inl [(0, 9999, 1), (90, 10260, 90)]), [none, some [(0, 4, 1)], some [(0, 11, 1)], some [(0, 9999, 1)]], [((0, 2), [(0, 0, 1)]), ((42, 5), [(1, 12, 1)]), ((42, 6), [(1, 5, 1)])], []), (some (.inl [(-1, -1, 1)]), [none, some aTop, none, none], [((0, 2), [(1, 2, 1)])], []), (some (.inl [(-2, -2, 1)]), [none, some [(0, 4, 1)], some [(0, 11, 1)], some [(0, 9999, 1)]], [((0, 2), [(0, 0, 1)]), ((42, 5), [(1, 12, 1)]), ((42, 6), [(1, 5, 1)])], [])], [(0, 2, 3)], [], 1)
set_option maxRecDepth 100000 in
theorem S_505 : aSpec wd ct_505 := bChk_ok wx_ok btX11_sets (nds := []) (fk := []) (rk := (1, [])) (sp := 0) (fuel := 3000) (by decide +kernel) (lk_c ml_11_112 S_97 (lk_c ml_11_98 S_6 (lk_c ml_11_98 S_74 (lk_c ml_11_210 S_103 (lk_c ml_11_112 S_111 (lk_c ml_11_121 S_479 (lk_c ml_11_230 S_504 (lk_c ml_11_227 S_109 (lk_c ml_11_236 S_110 lk_n))))))))) odX11_sets
def ct_506 : aCt := (mX11_sentPart, [.inr (.inl [0]), .inl [(0, 7, 1)], .inl [(0, 2, 1)]], ([], [((0, 3), 42)]), [(some (.inl aTop), [none, none, some [(2, 2, 1)]], [], []), (some (.inl [(0, 0, 1)]), [none, none, some [(1, 1, 1)]], [], []), (some (.inl [(1, 1, 1)]), [none, none, some [(0, 1, 1)]], [], [])], [], [], 0)
set_option maxRecDepth 100000 in
theorem S_506 : aSpec wd ct_506 := bChk_ok wx_ok btX11_sentPart (nds := []) (fk := []) (rk := (1, [])) (sp := 0) (fuel := 3000) (by decide +kernel) lk_n odX11_sentPart
def sl_289 : (Nat × Nat) × aI := (((nat_lit 42), (nat_lit 4)), [((.ofNat (nat_lit 1)), (.ofNat (nat_lit 7)), (nat_lit 1))])
def ct_507 : aCt := (mX11_sent, [.inr (.inl [0]), .inl aTop], ([], [((0, 3), 42)]), [(some (.inl aTop), [], [((0, 2), [(0, 0, 1)]), ((42, 4), [(1, 7, 1)])], []), (some (.inl [(-1, -1, 1)]), [], [((0, 2), [(1, 1, 1)])], [])], [(0, 2, 3)], [], 1)
set_option maxRecDepth 100000 in
theorem S_507 : aSpec wd ct_507 := bChk_ok wx_ok btX11_sent (nds := [((nat_lit 26), [lcn_103, lcn_100, lcn_51, lcn_104], [], [sl_289], [((0, 3), 42)], (8, [(2, -1)]))]) (fk := []) (rk := (9, [])) (sp := 67108864) (fuel := 3000) (by decide +kernel) (lk_c ml_11_222 S_502 (lk_c ml_11_98 S_74 (lk_c ml_11_242 S_113 (lk_c ml_11_245 S_506 (lk_c ml_11_112 S_71 lk_n))))) odX11_sent
def ct_508 : aCt := (mX7_apartness, [.inr (.inl [92]), .inl [(0, 6, 1)], .inl [(0, 6, 1)]], ([], [((92, 0), 42)]), [(some (.inl [(0, 63, 1)]), [], [], []), (some (.inl [(-2, -2, 1)]), [], [], [])], [], [], 2)
set_option maxRecDepth 100000 in
theorem S_508 : aSpec wd ct_508 := bChk_ok wx_ok btX7_apartness (nds := []) (fk := []) (rk := (1, [])) (sp := 0) (fuel := 3000) (by decide +kernel) (lk_c ml_7_60 S_94 lk_n) odX7_apartness
def ct_509 : aCt := (mX11_apart, [.inr (.inl [0]), .inl aTop, .inl aTop], ([], [((0, 3), 42), ((92, 0), 42)]), [(some (.inl [(0, 63, 1)]), [none, some [(0, 6, 1)], some [(0, 6, 1)]], [((0, 2), [(0, 0, 1)]), ((42, 4), [(1, 7, 1)])], []), (some (.inl [(-1, -1, 1)]), [], [((0, 2), [(1, 1, 1)])], []), (some (.inl [(-2, -2, 1)]), [none, some [(0, 6, 1)], some [(0, 6, 1)]], [((0, 2), [(0, 0, 1)]), ((42, 4), [(1, 7, 1)])], [])], [(0, 2, 3)], [], 3)
set_option maxRecDepth 100000 in
theorem S_509 : aSpec wd ct_509 := bChk_ok wx_ok btX11_apart (nds := []) (fk := []) (rk := (1, [])) (sp := 0) (fuel := 3000) (by decide +kernel) (lk_c ml_11_112 S_97 (lk_c ml_11_98 S_74 (lk_c ml_11_248 S_508 (lk_c ml_11_112 S_117 (lk_c ml_11_174 S_498 (lk_c ml_11_174 S_483 lk_n)))))) odX11_apart
def ct_510 : aCt := (mX7_apartness, [.inr (.inl [92]), .inl [(1, 6, 1)], .inl [(0, 5, 1)]], ([], [((92, 0), 42)]), [(some (.inl [(0, 63, 1)]), [], [], []), (some (.inl [(-2, -2, 1)]), [], [], [])], [], [], 2)
set_option maxRecDepth 100000 in
theorem S_510 : aSpec wd ct_510 := bChk_ok wx_ok btX7_apartness (nds := []) (fk := []) (rk := (1, [])) (sp := 0) (fuel := 3000) (by decide +kernel) (lk_c ml_7_60 S_94 lk_n) odX7_apartness
def ct_511 : aCt := (mX7_bearable, [.inr (.inl [92])], ([((42, 4), [(1, 7, 1)])], [((92, 0), 42)]), [(some (.inl aTop), [], [], [])], [], [], 3)
set_option maxRecDepth 100000 in
theorem S_511 : aSpec wd ct_511 := bChk_ok wx_ok btX7_bearable (nds := [((nat_lit 5), [lcn_86, lcn_76, lcn_106], [], [sl_289], [((92, 0), 42)], (63, [(1, -8)])), ((nat_lit 18), [lcn_86, lcn_76, lcn_69, lcn_55], [], [sl_289], [((92, 0), 42)], (62, [(1, -8), (2, -1)]))]) (fk := []) (rk := (64, [])) (sp := 262176) (fuel := 3000) (by decide +kernel) (lk_c ml_7_67 S_510 lk_n) odX7_bearable
def ct_512 : aCt := (mX11_bear, [.inr (.inl [0])], ([], [((0, 3), 42), ((92, 0), 42)]), [(some (.inl aTop), [], [((0, 2), [(0, 0, 1)]), ((42, 4), [(1, 7, 1)])], []), (some (.inl [(-1, -1, 1)]), [], [((0, 2), [(1, 1, 1)]), ((42, 4), [(0, 0, 1)])], [])], [(0, 2, 3)], [], 4)
set_option maxRecDepth 100000 in
theorem S_512 : aSpec wd ct_512 := bChk_ok wx_ok btX11_bear (nds := []) (fk := []) (rk := (1, [])) (sp := 0) (fuel := 3000) (by decide +kernel) (lk_c ml_11_251 S_511 (lk_c ml_11_222 S_502 (lk_c ml_11_98 S_74 (lk_c ml_11_112 S_71 lk_n)))) odX11_bear
def ct_513 : aCt := (mX7_mixedPairs, [.inr (.inl [92])], ([((42, 4), [(1, 7, 1)])], [((92, 0), 42)]), [(some (.inl aTop), [], [], [])], [], [], 3)
set_option maxRecDepth 100000 in
theorem S_513 : aSpec wd ct_513 := bChk_ok wx_ok btX7_mixedPairs (nds := [((nat_lit 4), [lcn_86, lcn_76, lcn_106], [], [sl_289], [((92, 0), 42)], (63, [(1, -8)])), ((nat_lit 17), [lcn_86, lcn_76, lcn_69, lcn_55], [], [sl_289], [((92, 0), 42)], (62, [(1, -8), (2, -1)]))]) (fk := []) (rk := (64, [])) (sp := 131088) (fuel := 3000) (by decide +kernel) (lk_c ml_7_67 S_510 lk_n) odX7_mixedPairs
def ct_514 : aCt := (mX11_mixed, [.inr (.inl [0])], ([], [((0, 3), 42), ((92, 0), 42)]), [(some (.inl aTop), [], [((0, 2), [(0, 0, 1)]), ((42, 4), [(1, 7, 1)])], []), (some (.inl [(-1, -1, 1)]), [], [((0, 2), [(1, 1, 1)]), ((42, 4), [(0, 0, 1)])], [])], [(0, 2, 3)], [], 4)
set_option maxRecDepth 100000 in
theorem S_514 : aSpec wd ct_514 := bChk_ok wx_ok btX11_mixed (nds := []) (fk := []) (rk := (1, [])) (sp := 0) (fuel := 3000) (by decide +kernel) (lk_c ml_11_255 S_513 (lk_c ml_11_222 S_502 (lk_c ml_11_98 S_74 (lk_c ml_11_112 S_71 lk_n)))) odX11_mixed
end Pk1
section Pk2
def ct_515 : aCt := (mX11_refusalOfNewSong, [.inr (.inl [0]), .inl aTop, .inl aTop], ([], [((0, 3), 42)]), [(some (.inl [(2, 2, 1)]), [none, some aTop, none], [((42, 4), [(1, 7, 1)])], []), (some (.inl [(0, 0, 1)]), [none, some [(2, 5, 1)], some [(1, 5, 1)]], [((42, 4), [(1, 7, 1)])], []), (some (.inl [(1, 1, 1)]), [], [((42, 4), [(0, 0, 1)])], [])], [], [], 1)
set_option maxRecDepth 100000 in
theorem S_515 : aSpec wd ct_515 := bChk_ok wx_ok btX11_refusalOfNewSong (nds := []) (fk := []) (rk := (1, [])) (sp := 0) (fuel := 3000) (by decide +kernel) (lk_c ml_11_222 S_502 lk_n) odX11_refusalOfNewSong
def ct_516 : aCt := (mX7_songIn, [.inr (.inl [92]), .inl [(0, 0, 1)], .inl [(0, 9999, 1)]], ([], [((92, 0), 42)]), [(some (.inl aTop), [], [], [])], [], [], 2)
set_option maxRecDepth 100000 in
theorem S_516 : aSpec wd ct_516 := bChk_ok wx_ok btX7_songIn (nds := []) (fk := []) (rk := (1, [])) (sp := 0) (fuel := 3000) (by decide +kernel) (lk_c ml_7_50 S_485 (lk_c ml_7_54 S_486 (lk_c ml_7_54 S_487 lk_n))) odX7_songIn
def ct_517 : aCt := (mX7_songIn, [.inr (.inl [92]), .inl [(1, 1, 1)], .inl [(0, 9999, 1)]], ([], [((92, 0), 42)]), [(some (.inl aTop), [], [], [])], [], [], 2)
set_option maxRecDepth 100000 in
theorem S_517 : aSpec wd ct_517 := bChk_ok wx_ok btX7_songIn (nds := []) (fk := []) (rk := (1, [])) (sp := 0) (fuel := 3000) (by decide +kernel) (lk_c ml_7_50 S_485 (lk_c ml_7_54 S_486 (lk_c ml_7_54 S_487 lk_n))) odX7_songIn
def ct_518 : aCt := (mX7_songIn, [.inr (.inl [92]), .inl [(2, 2, 1)], .inl [(0, 9999, 1)]], ([], [((92, 0), 42)]), [(some (.inl aTop), [], [], [])], [], [], 2)
set_option maxRecDepth 100000 in
theorem S_518 : aSpec wd ct_518 := bChk_ok wx_ok btX7_songIn (nds := []) (fk := []) (rk := (1, [])) (sp := 0) (fuel := 3000) (by decide +kernel) (lk_c ml_7_50 S_485 (lk_c ml_7_54 S_486 (lk_c ml_7_54 S_487 lk_n))) odX7_songIn
def ct_519 : aCt := (mX7_songIn, [.inr (.inl [92]), .inl [(3, 3, 1)], .inl [(0, 9999, 1)]], ([], [((92, 0), 42)]), [(some (.inl aTop), [], [], [])], [], [], 2)
set_option maxRecDepth 100000 in
theorem S_519 : aSpec wd ct_519 := bChk_ok wx_ok btX7_songIn (nds := []) (fk := []) (rk := (1, [])) (sp := 0) (fuel := 3000) (by decide +kernel) (lk_c ml_7_50 S_485 (lk_c ml_7_54 S_486 (lk_c ml_7_54 S_487 lk_n))) odX7_songIn
def ct_520 : aCt := (mX7_songIn, [.inr (.inl [92]), .inl [(4, 4, 1)], .inl [(0, 9999, 1)]], ([], [((92, 0), 42)]), [(some (.inl aTop), [], [], [])], [], [], 2)
set_option maxRecDepth 100000 in
theorem S_520 : aSpec wd ct_520 := bChk_ok wx_ok btX7_songIn (nds := []) (fk := []) (rk := (1, [])) (sp := 0) (fuel := 3000) (by decide +kernel) (lk_c ml_7_50 S_485 (lk_c ml_7_54 S_486 (lk_c ml_7_54 S_487 lk_n))) odX7_songIn
def ct_521 : aCt := (mX7_songIn, [.inr (.inl [92]), .inl [(5, 5, 1)], .inl [(0, 9999, 1)]], ([], [((92, 0), 42)]), [(some (.inl aTop), [], [], [])], [], [], 2)
set_option maxRecDepth 100000 in
theorem S_521 : aSpec wd ct_521 := bChk_ok wx_ok btX7_songIn (nds := []) (fk := []) (rk := (1, [])) (sp := 0) (fuel := 3000) (by decide +kernel) (lk_c ml_7_50 S_485 (lk_c ml_7_54 S_486 (lk_c ml_7_54 S_487 lk_n))) odX7_songIn
def ct_522 : aCt := (mX7_songIn, [.inr (.inl [92]), .inl [(6, 6, 1)], .inl [(0, 9999, 1)]], ([], [((92, 0), 42)]), [(some (.inl aTop), [], [], [])], [], [], 2)
set_option maxRecDepth 100000 in
theorem S_522 : aSpec wd ct_522 := bChk_ok wx_ok btX7_songIn (nds := []) (fk := []) (rk := (1, [])) (sp := 0) (fuel := 3000) (by decide +kernel) (lk_c ml_7_50 S_485 (lk_c ml_7_54 S_486 (lk_c ml_7_54 S_487 lk_n))) odX7_songIn
def sl_290 : (Nat × Nat) × aI := (((nat_lit 42), (nat_lit 4)), [((.ofNat (nat_lit 2)), (.ofNat (nat_lit 7)), (nat_lit 1))])
def sl_291 : (Nat × Nat) × aI := (((nat_lit 42), (nat_lit 4)), [((.ofNat (nat_lit 3)), (.ofNat (nat_lit 7)), (nat_lit 1))])
def sl_292 : (Nat × Nat) × aI := (((nat_lit 42), (nat_lit 4)), [((.ofNat (nat_lit 4)), (.ofNat (nat_lit 7)), (nat_lit 1))])
def sl_293 : (Nat × Nat) × aI := (((nat_lit 42), (nat_lit 4)), [((.ofNat (nat_lit 5)), (.ofNat (nat_lit 7)), (nat_lit 1))])
def sl_294 : (Nat × Nat) × aI := (((nat_lit 42), (nat_lit 4)), [((.ofNat (nat_lit 6)), (.ofNat (nat_lit 7)), (nat_lit 1))])
def sl_295 : (Nat × Nat) × aI := (((nat_lit 42), (nat_lit 4)), [((.ofNat (nat_lit 7)), (.ofNat (nat_lit 7)), (nat_lit 1))])
def ct_523 : aCt := (mX7_keepSongsOf, [.inr (.inl [92]), .inl [(2, 5, 1)], .inl [(0, 9999, 1)]], ([((42, 4), [(1, 7, 1)])], [((92, 0), 42)]), [(some (.inl [(0, 7, 1)]), [], [], [])], [(93, 0, 7)], [], 3)
set_option maxRecDepth 100000 in
theorem S_523 : aSpec wd ct_523 := bChk_ok wx_ok btX7_keepSongsOf (nds := [((nat_lit 5), [lcn_86, lcn_107, lcn_108, lcn_9, lcn_109], [], [sl_289], [((92, 0), 42)], (7, [])), ((nat_lit 5), [lcn_86, lcn_107, lcn_108, lcn_110, lcn_111], [], [sl_289], [((92, 0), 42)], (6, [])), ((nat_lit 5), [lcn_86, lcn_107, lcn_108, lcn_112, lcn_113], [], [sl_290], [((92, 0), 42)], (5, [])), ((nat_lit 5), [lcn_86, lcn_107, lcn_108, lcn_115, lcn_116], [], [sl_291], [((92, 0), 42)], (4, [])), ((nat_lit 5), [lcn_86, lcn_107, lcn_108, lcn_118, lcn_119], [], [sl_292], [((92, 0), 42)], (3, [])), ((nat_lit 5), [lcn_86, lcn_107, lcn_108, lcn_121, lcn_122], [], [sl_293], [((92, 0), 42)], (2, [])), ((nat_lit 5), [lcn_86, lcn_107, lcn_108, lcn_55, lcn_124], [], [sl_294], [((92, 0), 42)], (1, [])), ((nat_lit 5), [lcn_86, lcn_107, lcn_108, lcn_126, lcn_127], [], [sl_295], [((92, 0), 42)], (0, []))]) (fk := []) (rk := (8, [])) (sp := 32) (fuel := 3000) (by decide +kernel) (lk_c ml_7_81 S_516 (lk_c ml_7_81 S_517 (lk_c ml_7_81 S_518 (lk_c ml_7_81 S_519 (lk_c ml_7_81 S_520 (lk_c ml_7_81 S_521 (lk_c ml_7_81 S_522 lk_n))))))) odX7_keepSongsOf
def ct_524 : aCt := (mX7_isOfNotes, [.inr (.inl [92]), .inl [(0, 1023, 1)], .inl [(2, 5, 1)]], ([], [((92, 0), 42)]), [(some (.inl [(0, 0, 1)]), [], [], []), (some (.inl [(1, 1, 1)]), [], [], [])], [], [], 1)
set_option maxRecDepth 100000 in
theorem S_524 : aSpec wd ct_524 := bChk_ok wx_ok btX7_isOfNotes (nds := [((nat_lit 2), [lcn_86, lcn_129, lcn_130, lcn_121], [], [], [((92, 0), 42)], (5, [(2, -1)]))]) (fk := []) (rk := (6, [])) (sp := 4) (fuel := 3000) (by decide +kernel) (lk_c ml_7_40 S_133 lk_n) odX7_isOfNotes
def ct_525 : aCt := (mX7_findNew, [.inr (.inl [92]), .inl [(2, 5, 1)], .inl [(1, 5, 1)], .inl [(0, 9999, 1)], .inl [(1, 1, 1)]], ([((42, 4), [(1, 7, 1)])], [((92, 0), 42)]), [(some (.inl [(0, 1, 1)]), [], [], []), (some (.inl [(1, 1, 1)]), [], [], [])], [(92, 4, 5), (93, 0, 8)], [], 4)
set_option maxRecDepth 100000 in
theorem S_525 : aSpec wd ct_525 := bChk_ok wx_ok btX7_findNew (nds := [((nat_lit 24), [lcn_86, lcn_107, lcn_139, lcn_93, lcn_111, lcn_140, lcn_141, lcn_142, lcn_143], [], [sl_289], [((92, 0), 42)], (9224, [(3, -1025), (5, -1)])), ((nat_lit 24), [lcn_86, lcn_107, lcn_139, lcn_93, lcn_111, lcn_144, lcn_145, lcn_142, lcn_143], [], [sl_289], [((92, 0), 42)], (8199, [(3, -1025), (5, -1)])), ((nat_lit 24), [lcn_86, lcn_107, lcn_139, lcn_93, lcn_111, lcn_146, lcn_147, lcn_142, lcn_143], [], [sl_289], [((92, 0), 42)], (7174, [(3, -1025), (5, -1)])), ((nat_lit 24), [lcn_86, lcn_107, lcn_139, lcn_93, lcn_111, lcn_148, lcn_149, lcn_142, lcn_143], [], [sl_289], [((92, 0), 42)], (6149, [(3, -1025), (5, -1)])), ((nat_lit 24), [lcn_86, lcn_107, lcn_139, lcn_93, lcn_111, lcn_150, lcn_151, lcn_142, lcn_143], [], [sl_289], [((92, 0), 42)], (5124, [(3, -1025), (5, -1)])), ((nat_lit 24), [lcn_86, lcn_107, lcn_139, lcn_93, lcn_111, lcn_152, lcn_153, lcn_142, lcn_143], [], [sl_289], [((92, 0), 42)], (4099, [(3, -1025), (5, -1)])), ((nat_lit 24), [lcn_86, lcn_107, lcn_139, lcn_93, lcn_111, lcn_154, lcn_155, lcn_142, lcn_143], [], [sl_289], [((92, 0), 42)], (3074, [(3, -1025), (5, -1)])), ((nat_lit 24), [lcn_86, lcn_107, lcn_139, lcn_93, lcn_111, lcn_156, lcn_157, lcn_142, lcn_143], [], [sl_289], [((92, 0), 42)], (2049, [(3, -1025), (5, -1)]))]) (fk := [6]) (rk := (2050, [])) (sp := 16777216) (fuel := 3000) (by decide +kernel) (lk_c ml_7_77 S_136 (lk_c ml_7_77 S_138 (lk_c ml_7_77 S_140 (lk_c ml_7_77 S_142 (lk_c ml_7_77 S_144 (lk_c ml_7_77 S_146 (lk_c ml_7_77 S_148 (lk_c ml_7_77 S_150 (lk_c ml_7_73 S_524 (lk_c ml_7_77 S_137 (lk_c ml_7_77 S_139 (lk_c ml_7_77 S_141 (lk_c ml_7_77 S_143 (lk_c ml_7_77 S_145 (lk_c ml_7_77 S_147 (lk_c ml_7_77 S_149 (lk_c ml_7_77 S_151 (lk_c ml_7_70 S_523 lk_n)))))))))))))))))) odX7_findNew
def ct_526 : aCt := (mX11_fresh, [.inr (.inl [0]), .inl aTop, .inl aTop], ([], [((0, 3), 42), ((92, 0), 42)]), [(some (.inl aTop), [none, some [(2, 5, 1)], some [(1, 5, 1)]], [((0, 2), [(0, 0, 1)]), ((42, 4), [(1, 7, 1)])], []), (some (.inl [(-1, -1, 1)]), [], [((0, 2), [(1, 2, 1)])], [])], [(0, 2, 3), (92, 4, 5), (93, 0, 8)], [], 5)
set_option maxRecDepth 100000 in
theorem S_526 : aSpec wd ct_526 := bChk_ok wx_ok btX11_fresh (nds := []) (fk := []) (rk := (1, [])) (sp := 0) (fuel := 3000) (by decide +kernel) (lk_c ml_11_98 S_74 (lk_c ml_11_98 S_6 (lk_c ml_11_261 S_525 (lk_c ml_11_112 S_71 (lk_c ml_11_258 S_515 lk_n))))) odX11_fresh
def ct_527 : aCt := (mX7_findNew, [.inr (.inl [92]), .inl [(2, 5, 1)], .inl [(1, 5, 1)], .inl [(0, 9999, 1)], .inl [(1024, 1024, 1)]], ([((42, 4), [(1, 7, 1)])], [((92, 0), 42)]), [(some (.inl [(0, 1029, 1)]), [], [], [])], [(92, 4, 5), (93, 0, 1031)], [], 4)
set_option maxRecDepth 100000 in
theorem S_527 : aSpec wd ct_527 := bChk_ok wx_ok btX7_findNew (nds := [((nat_lit 24), [lcn_86, lcn_107, lcn_139, lcn_93, lcn_168, lcn_140, lcn_169, lcn_142, lcn_143], [], [sl_289], [((92, 0), 42)], (1057799, [(3, -1025), (5, -1)])), ((nat_lit 24), [lcn_86, lcn_107, lcn_139, lcn_93, lcn_168, lcn_144, lcn_170, lcn_142, lcn_143], [], [sl_289], [((92, 0), 42)], (1056774, [(3, -1025), (5, -1)])), ((nat_lit 24), [lcn_86, lcn_107, lcn_139, lcn_93, lcn_168, lcn_146, lcn_171, lcn_142, lcn_143], [], [sl_289], [((92, 0), 42)], (1056774, [(3, -1025), (5, -1)])), ((nat_lit 24), [lcn_86, lcn_107, lcn_139, lcn_93, lcn_168, lcn_148, lcn_172, lcn_142, lcn_143], [], [sl_289], [((92, 0), 42)], (1056774, [(3, -1025), (5, -1)])), ((nat_lit 24), [lcn_86, lcn_107, lcn_139, lcn_93, lcn_168, lcn_150, lcn_173, lcn_142, lcn_143], [], [sl_289], [((92, 0), 42)], (1056774, [(3, -1025), (5, -1)])), ((nat_lit 24), [lcn_86, lcn_107, lcn_139, lcn_93, lcn_168, lcn_152, lcn_174, lcn_142, lcn_143], [], [sl_289], [((92, 0), 42)], (1056774, [(3, -1025), (5, -1)])), ((nat_lit 24), [lcn_86, lcn_107, lcn_139, lcn_93, lcn_168, lcn_154, lcn_175, lcn_142, lcn_143], [], [sl_289], [((92, 0), 42)], (1056774, [(3, -1025), (5, -1)])), ((nat_lit 24), [lcn_86, lcn_107, lcn_139, lcn_93, lcn_168, lcn_156, lcn_176, lcn_142, lcn_143], [], [sl_289], [((92, 0), 42)], (1050624, [(3, -1025), (5, -1)]))]) (fk := [6]) (rk := (1055750, [])) (sp := 16777216) (fuel := 3000) (by decide +kernel) (lk_c ml_7_77 S_136 (lk_c ml_7_77 S_138 (lk_c ml_7_77 S_140 (lk_c ml_7_77 S_142 (lk_c ml_7_77 S_144 (lk_c ml_7_77 S_146 (lk_c ml_7_77 S_148 (lk_c ml_7_77 S_150 (lk_c ml_7_73 S_524 (lk_c ml_7_77 S_154 (lk_c ml_7_77 S_155 (lk_c ml_7_77 S_156 (lk_c ml_7_77 S_157 (lk_c ml_7_77 S_158 (lk_c ml_7_77 S_159 (lk_c ml_7_77 S_160 (lk_c ml_7_77 S_161 (lk_c ml_7_70 S_523 lk_n)))))))))))))))))) odX7_findNew
def ct_528 : aCt := (mX11_byTurns, [.inr (.inl [0]), .inl aTop, .inl aTop], ([], [((0, 3), 42), ((92, 0), 42)]), [(some (.inl [(0, 1029, 1)]), [none, some [(2, 5, 1)], some [(1, 5, 1)]], [((0, 2), [(0, 0, 1)]), ((42, 4), [(1, 7, 1)])], []), (some (.inl [(-1, -1, 1)]), [], [((0, 2), [(1, 2, 1)])], [])], [(0, 2, 3), (92, 4, 5), (93, 0, 1031)], [], 5)
set_option maxRecDepth 100000 in
theorem S_528 : aSpec wd ct_528 := bChk_ok wx_ok btX11_byTurns (nds := []) (fk := []) (rk := (1, [])) (sp := 0) (fuel := 3000) (by decide +kernel) (lk_c ml_11_98 S_74 (lk_c ml_11_98 S_6 (lk_c ml_11_112 S_163 (lk_c ml_11_261 S_527 (lk_c ml_11_258 S_515 lk_n))))) odX11_byTurns
def ct_529 : aCt := (mX11_near, [.inr (.inl [0]), .inl aTop], ([], [((0, 3), 42), ((92, 0), 42)]), [(some (.inl aTop), [none, some [(0, 7, 1)]], [((0, 2), [(0, 0, 1)]), ((42, 7), [(1, 8, 1)])], []), (some (.inl [(-1, -1, 1)]), [], [((0, 2), [(1, 1, 1)])], [])], [(0, 2, 3), (92, 2, 4)], [], 4)
set_option maxRecDepth 100000 in
theorem S_529 : aSpec wd ct_529 := bChk_ok wx_ok btX11_near (nds := []) (fk := []) (rk := (1, [])) (sp := 0) (fuel := 3000) (by decide +kernel) (lk_c ml_11_98 S_74 (lk_c ml_11_201 S_496 (lk_c ml_11_147 S_481 (lk_c ml_11_112 S_71 lk_n)))) odX11_near
def ct_530 : aCt := (mX11_asNear, [.inr (.inl [0]), .inl aTop], ([], [((0, 3), 42), ((92, 0), 42)]), [(some (.inl aTop), [none, some [(0, 7, 1)]], [((0, 2), [(0, 0, 1)]), ((42, 7), [(1, 8, 1)])], []), (some (.inl [(-1, -1, 1)]), [], [((0, 2), [(1, 1, 1)])], [])], [(0, 2, 3), (92, 2, 4)], [], 4)
set_option maxRecDepth 100000 in
theorem S_530 : aSpec wd ct_530 := bChk_ok wx_ok btX11_asNear (nds := []) (fk := []) (rk := (1, [])) (sp := 0) (fuel := 3000) (by decide +kernel) (lk_c ml_11_98 S_74 (lk_c ml_11_201 S_496 (lk_c ml_11_147 S_481 (lk_c ml_11_112 S_71 lk_n)))) odX11_asNear
def ct_531 : aCt := (mX7_fallIn, [.inr (.inl [92]), .inl [(0, 10098, 1)]], ([], [((92, 0), 42)]), [(some (.inl [(0, 3, 1)]), [], [], []), (some (.inl [(0, 0, 1)]), [], [], [])], [], [], 0)
set_option maxRecDepth 100000 in
theorem S_531 : aSpec wd ct_531 := bChk_ok wx_ok btX7_fallIn (nds := []) (fk := []) (rk := (1, [])) (sp := 0) (fuel := 3000) (by decide +kernel) lk_n odX7_fallIn
def ct_532 : aCt := (mX7_hearerOf, [.inr (.inl [92]), .inl aTop, .inl [(-1000, 1000, 1)], .inl [(0, 10098, 1)]], ([], [((92, 0), 42)]), [(some (.inl [(-2, -2, 1), (0, 6, 1)]), [], [], []), (some (.inl [(-2, -2, 1)]), [], [], [])], [(92, 2, 4)], [], 2)
set_option maxRecDepth 100000 in
theorem S_532 : aSpec wd ct_532 := bChk_ok wx_ok btX7_hearerOf (nds := [((nat_lit 32), [lcn_86, lcn_76, lcn_54, lcn_177, lcn_88, lcn_94, lcn_95], [], [sl_96], [((92, 0), 42)], (7, [(5, -1)]))]) (fk := []) (rk := (8, [])) (sp := 4294967296) (fuel := 3000) (by decide +kernel) (lk_c ml_7_50 S_531 (lk_c ml_7_54 S_493 (lk_c ml_7_54 S_494 (lk_c ml_7_60 S_94 lk_n)))) odX7_hearerOf
def ct_533 : aCt := (mX11_hearerIn, [.inr (.inl [0]), .inl [(0, 7, 1)], .inl [(0, 10098, 1)]], ([], [((0, 3), 42), ((92, 0), 42)]), [(some (.inl [(-2, -2, 1), (0, 6, 1)]), [], [], []), (some (.inl [(-2, -2, 1)]), [], [], [])], [(92, 2, 4)], [], 3)
set_option maxRecDepth 100000 in
theorem S_533 : aSpec wd ct_533 := bChk_ok wx_ok btX11_hearerIn (nds := []) (fk := []) (rk := (1, [])) (sp := 0) (fuel := 3000) (by decide +kernel) (lk_c ml_11_198 S_490 (lk_c ml_11_277 S_532 lk_n)) odX11_hearerIn
def ct_534 : aCt := (mX11_heardIn, [.inr (.inl [0]), .inl aTop, .inl aTop], ([], [((0, 3), 42), ((92, 0), 42)]), [(some (.inl [(-2, -2, 1), (0, 6, 1)]), [none, some [(0, 7, 1)], some [(0, 99, 1)]], [((0, 2), [(0, 0, 1)]), ((42, 7), [(1, 8, 1)])], []), (some (.inl [(-1, -1, 1)]), [], [((0, 2), [(1, 2, 1)])], []), (some (.inl [(-2, -2, 1)]), [none, some [(0, 7, 1)], some [(0, 99, 1)]], [((0, 2), [(0, 0, 1)]), ((42, 7), [(1, 8, 1)])], [])], [(0, 2, 3), (92, 2, 4)], [], 4)
set_option maxRecDepth 100000 in
theorem S_534 : aSpec wd ct_534 := bChk_ok wx_ok btX11_heardIn (nds := []) (fk := []) (rk := (1, [])) (sp := 0) (fuel := 3000) (by decide +kernel) (lk_c ml_11_112 S_97 (lk_c ml_11_98 S_6 (lk_c ml_11_98 S_74 (lk_c ml_11_112 S_98 (lk_c ml_11_201 S_533 (lk_c ml_11_147 S_481 (lk_c ml_11_227 S_167 lk_n))))))) odX11_heardIn
def ct_535 : aCt := (mX7_hearerOf, [.inr (.inl [92]), .inl aTop, .inl [(-1000, 1000, 1)], .inl [(0, 10098, 1)]], ([((42, 4), [(1, 7, 1)])], [((92, 0), 42)]), [(some (.inl [(-2, -2, 1), (0, 6, 1)]), [], [], []), (some (.inl [(-2, -2, 1)]), [], [], [])], [(92, 2, 4)], [], 2)
set_option maxRecDepth 100000 in
theorem S_535 : aSpec wd ct_535 := bChk_ok wx_ok btX7_hearerOf (nds := [((nat_lit 32), [lcn_86, lcn_76, lcn_54, lcn_177, lcn_88, lcn_94, lcn_95], [], [sl_289, sl_96], [((92, 0), 42)], (7, [(5, -1)]))]) (fk := []) (rk := (8, [])) (sp := 4294967296) (fuel := 3000) (by decide +kernel) (lk_c ml_7_50 S_531 (lk_c ml_7_54 S_493 (lk_c ml_7_54 S_494 (lk_c ml_7_60 S_94 lk_n)))) odX7_hearerOf
def ct_536 : aCt := (mX11_strange, [.inr (.inl [0]), .inl aTop], ([], [((0, 3), 42), ((92, 0), 42)]), [(some (.inl [(0, 99, 1)]), [], [((0, 2), [(0, 0, 1)]), ((42, 4), [(1, 7, 1)])], []), (some (.inl [(-1, -1, 1)]), [], [((0, 2), [(1, 1, 1)])], []), (some (.inl [(-2, -2, 1)]), [], [((0, 2), [(0, 0, 1)]), ((42, 4), [(1, 7, 1)])], [])], [(0, 2, 3), (92, 2, 4)], [], 3)
set_option maxRecDepth 100000 in
theorem S_536 : aSpec wd ct_536 := bChk_ok wx_ok btX11_strange (nds := [((nat_lit 16), [lcn_103, lcn_68, lcn_178], [], [sl_289], [((0, 3), 42), ((92, 0), 42)], (100, [(1, -1)]))]) (fk := []) (rk := (101, [])) (sp := 65536) (fuel := 3000) (by decide +kernel) (lk_c ml_11_98 S_74 (lk_c ml_11_112 S_97 (lk_c ml_11_112 S_173 (lk_c ml_11_174 S_483 (lk_c ml_11_277 S_535 lk_n))))) odX11_strange
def ct_537 : aCt := (mX6_goes, [.inr (.inl [94]), .inl [(0, 0, 1)], .inr (.inl [49, 50, 51, 52, 53, 54, 55, 56, 57, 58, 59, 60]), .inl [(0, 6, 1)], .inl [(0, 6, 1)]], ([], []), [(some (.inl [(0, 0, 1)]), [], [], []), (some (.inl [(1, 1, 1)]), [], [], [])], [(95, 0, 7)], [], 1)
set_option maxRecDepth 100000 in
theorem S_537 : aSpec wd ct_537 := bChk_ok wx_ok btX6_goes (nds := []) (fk := []) (rk := (1, [])) (sp := 0) (fuel := 3000) (by decide +kernel) (lk_c ml_6_80 S_176 lk_n) odX6_goes
def ct_538 : aCt := (mX6_goes, [.inr (.inl [94]), .inl [(1, 3, 1)], .inr (.inl [49, 50, 51, 52, 53, 54, 55, 56, 57, 58, 59, 60]), .inl [(0, 6, 1)], .inl [(0, 6, 1)]], ([], []), [(some (.inl [(0, 0, 1)]), [], [], []), (some (.inl [(1, 1, 1)]), [none, some [(1, 3, 1)], none, none, none], [], [])], [(95, 0, 7)], [], 1)
set_option maxRecDepth 100000 in
theorem S_538 : aSpec wd ct_538 := bChk_ok wx_ok btX6_goes (nds := []) (fk := []) (rk := (1, [])) (sp := 0) (fuel := 3000) (by decide +kernel) (lk_c ml_6_80 S_178 (lk_c ml_6_80 S_179 lk_n)) odX6_goes
def ct_539 : aCt := (mX6_findFirstDays, [.inr (.inl [94]), .inl [(0, 3, 1)], .inl [(0, 6, 1)], .inl [(0, 9999, 1)]], ([((42, 4), [(1, 7, 1)])], [((94, 0), 42)]), [(none, [], [], [])], [(95, 0, 7)], [], 2)
set_option maxRecDepth 100000 in
theorem S_539 : aSpec wd ct_539 := bChk_ok wx_ok btX6_findFirstDays (nds := [((nat_lit 39), [lcn_99, lcn_182, lcn_69, lcn_93, lcn_183, lcn_184, lcn_95], [], [sl_289], [((94, 0), 42)], (111, [(5, -14)])), ((nat_lit 57), [lcn_99, lcn_182, lcn_69, lcn_93, lcn_183, lcn_184, lcn_185, lcn_186], [], [sl_289], [((94, 0), 42)], (110, [(5, -14), (6, -1)]))]) (fk := []) (rk := (112, [])) (sp := 144115737831669760) (fuel := 3000) (by decide +kernel) (lk_c ml_6_38 S_175 (lk_c ml_6_64 S_103 (lk_c ml_6_70 S_537 (lk_c ml_6_70 S_538 lk_n)))) odX6_findFirstDays
def ct_540 : aCt := (mX6_firstDayAt, [.inr (.inl [94]), .inl [(0, 3, 1)], .inl [(0, 6, 1)], .inl [(0, 6, 1)], .inl [(0, 9999, 1)]], ([((42, 4), [(1, 7, 1)])], [((94, 0), 42)]), [(some (.inl aTop), [], [], []), (some (.inl [(-2, -2, 1)]), [], [], [])], [(95, 0, 7)], [], 3)
set_option maxRecDepth 100000 in
theorem S_540 : aSpec wd ct_540 := bChk_ok wx_ok btX6_firstDayAt (nds := []) (fk := []) (rk := (1, [])) (sp := 0) (fuel := 3000) (by decide +kernel) (lk_c ml_6_84 S_539 lk_n) odX6_firstDayAt
def ct_541 : aCt := (mX11_arrival, [.inr (.inl [0]), .inl aTop, .inl aTop, .inl aTop, .inl aTop], ([], [((0, 3), 42), ((94, 0), 42)]), [(some (.inl aTop), [none, some [(0, 4, 1)], some [(0, 6, 1)], some [(0, 6, 1)], some [(0, 9999, 1)]], [((0, 2), [(0, 0, 1)]), ((42, 4), [(1, 7, 1)]), ((42, 6), [(1, 5, 1)])], []), (some (.inl [(-1, -1, 1)]), [none, some aTop, none, none, none], [((0, 2), [(1, 2, 1)])], []), (some (.inl [(-2, -2, 1)]), [none, some [(0, 4, 1)], some [(0, 6, 1)], some [(0, 6, 1)], some [(0, 9999, 1)]], [((0, 2), [(0, 0, 1)]), ((42, 4), [(1, 7, 1)]), ((42, 6), [(1, 5, 1)])], [])], [(0, 2, 3), (95, 0, 7)], [], 4)
set_option maxRecDepth 100000 in
theorem S_541 : aSpec wd ct_541 := bChk_ok wx_ok btX11_arrival (nds := []) (fk := []) (rk := (1, [])) (sp := 0) (fuel := 3000) (by decide +kernel) (lk_c ml_11_112 S_97 (lk_c ml_11_98 S_6 (lk_c ml_11_98 S_74 (lk_c ml_11_280 S_540 (lk_c ml_11_174 S_498 (lk_c ml_11_121 S_479 (lk_c ml_11_174 S_483 (lk_c ml_11_227 S_109 (lk_c ml_11_112 S_71 lk_n))))))))) odX11_arrival
def ct_542 : aCt := (mX6_findFirstDays, [.inr (.inl [94]), .inl [(0, 3, 1)], .inl [(0, 6, 1)], .inl aTop], ([], [((94, 0), 42)]), [(none, [], [], [])], [(95, 0, 7)], [], 2)
set_option maxRecDepth 100000 in
theorem S_542 : aSpec wd ct_542 := bChk_ok wx_ok btX6_findFirstDays (nds := [((nat_lit 39), [lcn_99, lcn_182, lcn_69, lcn_181, lcn_132, lcn_184, lcn_95], [], [], [((94, 0), 42)], (111, [(5, -14)])), ((nat_lit 57), [lcn_99, lcn_182, lcn_69, lcn_181, lcn_183, lcn_184, lcn_185, lcn_186], [], [], [((94, 0), 42)], (110, [(5, -14), (6, -1)]))]) (fk := []) (rk := (112, [])) (sp := 144115737831669760) (fuel := 3000) (by decide +kernel) (lk_c ml_6_38 S_175 (lk_c ml_6_64 S_103 (lk_c ml_6_70 S_537 (lk_c ml_6_70 S_538 lk_n)))) odX6_findFirstDays
def ct_543 : aCt := (mX6_firstDayAt, [.inr (.inl [94]), .inl [(0, 3, 1)], .inl [(0, 6, 1)], .inl [(0, 6, 1)], .inl aTop], ([], [((94, 0), 42)]), [(some (.inl aTop), [], [], []), (some (.inl [(-2, -2, 1)]), [], [], [])], [(95, 0, 7)], [], 3)
set_option maxRecDepth 100000 in
theorem S_543 : aSpec wd ct_543 := bChk_ok wx_ok btX6_firstDayAt (nds := []) (fk := []) (rk := (1, [])) (sp := 0) (fuel := 3000) (by decide +kernel) (lk_c ml_6_84 S_542 lk_n) odX6_firstDayAt
def ct_544 : aCt := (mX6_dayOfBringing, [.inr (.inl [94]), .inl [(0, 4, 1)], .inl [(0, 7, 1)]], ([((42, 6), [(5, 5, 1)])], [((92, 0), 42), ((94, 0), 42)]), [(some (.inl aTop), [], [((94, 4), [(0, 6, 1)])], []), (some (.inl [(-2, -2, 1)]), [], [], [])], [(92, 2, 4), (94, 4, 7), (95, 0, 7)], [], 4)
set_option maxRecDepth 100000 in
theorem S_544 : aSpec wd ct_544 := bChk_ok wx_ok btX6_dayOfBringing (nds := []) (fk := []) (rk := (1, [])) (sp := 0) (fuel := 3000) (by decide +kernel) (lk_c ml_6_96 S_113 (lk_c ml_6_115 S_490 (lk_c ml_6_136 S_543 (lk_c ml_6_122 S_495 lk_n)))) odX6_dayOfBringing
def ct_545 : aCt := (mX6_dayOfBringing, [.inr (.inl [94]), .inl [(0, 3, 1)], .inl [(0, 7, 1)]], ([((42, 6), [(4, 4, 1)])], [((92, 0), 42), ((94, 0), 42)]), [(some (.inl aTop), [], [((94, 4), [(0, 6, 1)])], []), (some (.inl [(-2, -2, 1)]), [], [], [])], [(92, 2, 4), (94, 4, 7), (95, 0, 7)], [], 4)
set_option maxRecDepth 100000 in
theorem S_545 : aSpec wd ct_545 := bChk_ok wx_ok btX6_dayOfBringing (nds := []) (fk := []) (rk := (1, [])) (sp := 0) (fuel := 3000) (by decide +kernel) (lk_c ml_6_96 S_113 (lk_c ml_6_115 S_490 (lk_c ml_6_136 S_543 (lk_c ml_6_122 S_495 lk_n)))) odX6_dayOfBringing
def ct_546 : aCt := (mX6_dayOfBringing, [.inr (.inl [94]), .inl [(0, 2, 1)], .inl [(0, 7, 1)]], ([((42, 6), [(3, 3, 1)])], [((92, 0), 42), ((94, 0), 42)]), [(some (.inl aTop), [], [((94, 4), [(0, 6, 1)])], []), (some (.inl [(-2, -2, 1)]), [], [], [])], [(92, 2, 4), (94, 4, 7), (95, 0, 7)], [], 4)
set_option maxRecDepth 100000 in
theorem S_546 : aSpec wd ct_546 := bChk_ok wx_ok btX6_dayOfBringing (nds := []) (fk := []) (rk := (1, [])) (sp := 0) (fuel := 3000) (by decide +kernel) (lk_c ml_6_96 S_113 (lk_c ml_6_115 S_490 (lk_c ml_6_136 S_543 (lk_c ml_6_122 S_495 lk_n)))) odX6_dayOfBringing
def ct_547 : aCt := (mX6_dayOfBringing, [.inr (.inl [94]), .inl [(0, 1, 1)], .inl [(0, 7, 1)]], ([((42, 6), [(2, 2, 1)])], [((92, 0), 42), ((94, 0), 42)]), [(some (.inl aTop), [], [((94, 4), [(0, 6, 1)])], []), (some (.inl [(-2, -2, 1)]), [], [], [])], [(92, 2, 4), (94, 4, 7), (95, 0, 7)], [], 4)
set_option maxRecDepth 100000 in
theorem S_547 : aSpec wd ct_547 := bChk_ok wx_ok btX6_dayOfBringing (nds := []) (fk := []) (rk := (1, [])) (sp := 0) (fuel := 3000) (by decide +kernel) (lk_c ml_6_96 S_113 (lk_c ml_6_115 S_490 (lk_c ml_6_136 S_543 (lk_c ml_6_122 S_495 lk_n)))) odX6_dayOfBringing
def ct_548 : aCt := (mX6_dayOfBringing, [.inr (.inl [94]), .inl [(0, 0, 1)], .inl [(0, 7, 1)]], ([((42, 6), [(1, 1, 1)])], [((92, 0), 42), ((94, 0), 42)]), [(some (.inl aTop), [], [((94, 4), [(0, 6, 1)])], []), (some (.inl [(-2, -2, 1)]), [], [], [])], [(92, 2, 4), (94, 4, 7), (95, 0, 7)], [], 4)
set_option maxRecDepth 100000 in
theorem S_548 : aSpec wd ct_548 := bChk_ok wx_ok btX6_dayOfBringing (nds := []) (fk := []) (rk := (1, [])) (sp := 0) (fuel := 3000) (by decide +kernel) (lk_c ml_6_96 S_113 (lk_c ml_6_115 S_490 (lk_c ml_6_136 S_543 (lk_c ml_6_122 S_495 lk_n)))) odX6_dayOfBringing
def ct_549 : aCt := (mX11_brings, [.inr (.inl [0]), .inl aTop, .inl aTop], ([], [((0, 3), 42), ((92, 0), 42), ((94, 0), 42)]), [(some (.inl aTop), [none, some [(0, 4, 1)], some [(0, 7, 1)]], [((0, 2), [(0, 0, 1)]), ((42, 6), [(1, 5, 1)]), ((42, 7), [(1, 8, 1)]), ((94, 4), [(0, 6, 1)])], []), (some (.inl [(-1, -1, 1)]), [none, some aTop, none], [((0, 2), [(1, 1, 1)])], []), (some (.inl [(-2, -2, 1)]), [none, some [(0, 4, 1)], some [(0, 7, 1)]], [((0, 2), [(0, 0, 1)]), ((42, 6), [(1, 5, 1)]), ((42, 7), [(1, 8, 1)])], [])], [(0, 2, 3), (92, 2, 4), (94, 4, 7), (95, 0, 7)], [], 5)
set_option maxRecDepth 100000 in
theorem S_549 : aSpec wd ct_549 := bChk_ok wx_ok btX11_brings (nds := []) (fk := []) (rk := (1, [])) (sp := 0) (fuel := 3000) (by decide +kernel) (lk_c ml_11_112 S_97 (lk_c ml_11_98 S_74 (lk_c ml_11_283 S_548 (lk_c ml_11_283 S_547 (lk_c ml_11_283 S_546 (lk_c ml_11_283 S_545 (lk_c ml_11_283 S_544 (lk_c ml_11_121 S_479 (lk_c ml_11_147 S_481 (lk_c ml_11_112 S_71 lk_n)))))))))) odX11_brings
def ct_550 : aCt := (mX6_dayOfBringing, [.inr (.inl [94]), .inl [(0, 0, 1)], .inl [(0, 7, 1)]], ([((42, 6), [(5, 5, 1)])], [((92, 0), 42), ((94, 0), 42)]), [(some (.inl aTop), [], [((94, 4), [(0, 6, 1)])], []), (some (.inl [(-2, -2, 1)]), [], [], [])], [(92, 2, 4), (94, 4, 7), (95, 0, 7)], [], 4)
set_option maxRecDepth 100000 in
theorem S_550 : aSpec wd ct_550 := bChk_ok wx_ok btX6_dayOfBringing (nds := []) (fk := []) (rk := (1, [])) (sp := 0) (fuel := 3000) (by decide +kernel) (lk_c ml_6_96 S_113 (lk_c ml_6_115 S_490 (lk_c ml_6_136 S_543 (lk_c ml_6_122 S_495 lk_n)))) odX6_dayOfBringing
def ct_551 : aCt := (mX6_dayOfBringing, [.inr (.inl [94]), .inl [(0, 0, 1)], .inl [(0, 7, 1)]], ([((42, 6), [(4, 4, 1)])], [((92, 0), 42), ((94, 0), 42)]), [(some (.inl aTop), [], [((94, 4), [(0, 6, 1)])], []), (some (.inl [(-2, -2, 1)]), [], [], [])], [(92, 2, 4), (94, 4, 7), (95, 0, 7)], [], 4)
set_option maxRecDepth 100000 in
theorem S_551 : aSpec wd ct_551 := bChk_ok wx_ok btX6_dayOfBringing (nds := []) (fk := []) (rk := (1, [])) (sp := 0) (fuel := 3000) (by decide +kernel) (lk_c ml_6_96 S_113 (lk_c ml_6_115 S_490 (lk_c ml_6_136 S_543 (lk_c ml_6_122 S_495 lk_n)))) odX6_dayOfBringing
def ct_552 : aCt := (mX6_dayOfBringing, [.inr (.inl [94]), .inl [(0, 0, 1)], .inl [(0, 7, 1)]], ([((42, 6), [(3, 3, 1)])], [((92, 0), 42), ((94, 0), 42)]), [(some (.inl aTop), [], [((94, 4), [(0, 6, 1)])], []), (some (.inl [(-2, -2, 1)]), [], [], [])], [(92, 2, 4), (94, 4, 7), (95, 0, 7)], [], 4)
set_option maxRecDepth 100000 in
theorem S_552 : aSpec wd ct_552 := bChk_ok wx_ok btX6_dayOfBringing (nds := []) (fk := []) (rk := (1, [])) (sp := 0) (fuel := 3000) (by decide +kernel) (lk_c ml_6_96 S_113 (lk_c ml_6_115 S_490 (lk_c ml_6_136 S_543 (lk_c ml_6_122 S_495 lk_n)))) odX6_dayOfBringing
def ct_553 : aCt := (mX6_dayOfBringing, [.inr (.inl [94]), .inl [(0, 0, 1)], .inl [(0, 7, 1)]], ([((42, 6), [(2, 2, 1)])], [((92, 0), 42), ((94, 0), 42)]), [(some (.inl aTop), [], [((94, 4), [(0, 6, 1)])], []), (some (.inl [(-2, -2, 1)]), [], [], [])], [(92, 2, 4), (94, 4, 7), (95, 0, 7)], [], 4)
set_option maxRecDepth 100000 in
theorem S_553 : aSpec wd ct_553 := bChk_ok wx_ok btX6_dayOfBringing (nds := []) (fk := []) (rk := (1, [])) (sp := 0) (fuel := 3000) (by decide +kernel) (lk_c ml_6_96 S_113 (lk_c ml_6_115 S_490 (lk_c ml_6_136 S_543 (lk_c ml_6_122 S_495 lk_n)))) odX6_dayOfBringing
def ct_554 : aCt := (mX6_dayOfBringing, [.inr (.inl [94]), .inl [(1, 4, 1)], .inl [(0, 7, 1)]], ([((42, 6), [(5, 5, 1)])], [((92, 0), 42), ((94, 0), 42)]), [(some (.inl aTop), [], [((94, 4), [(0, 6, 1)])], []), (some (.inl [(-2, -2, 1)]), [], [], [])], [(92, 2, 4), (94, 4, 7), (95, 0, 7)], [], 4)
set_option maxRecDepth 100000 in
theorem S_554 : aSpec wd ct_554 := bChk_ok wx_ok btX6_dayOfBringing (nds := []) (fk := []) (rk := (1, [])) (sp := 0) (fuel := 3000) (by decide +kernel) (lk_c ml_6_96 S_113 (lk_c ml_6_115 S_490 (lk_c ml_6_136 S_543 (lk_c ml_6_122 S_495 lk_n)))) odX6_dayOfBringing
def ct_555 : aCt := (mX6_dayOfBringing, [.inr (.inl [94]), .inl [(1, 3, 1)], .inl [(0, 7, 1)]], ([((42, 6), [(4, 4, 1)])], [((92, 0), 42), ((94, 0), 42)]), [(some (.inl aTop), [], [((94, 4), [(0, 6, 1)])], []), (some (.inl [(-2, -2, 1)]), [], [], [])], [(92, 2, 4), (94, 4, 7), (95, 0, 7)], [], 4)
set_option maxRecDepth 100000 in
theorem S_555 : aSpec wd ct_555 := bChk_ok wx_ok btX6_dayOfBringing (nds := []) (fk := []) (rk := (1, [])) (sp := 0) (fuel := 3000) (by decide +kernel) (lk_c ml_6_96 S_113 (lk_c ml_6_115 S_490 (lk_c ml_6_136 S_543 (lk_c ml_6_122 S_495 lk_n)))) odX6_dayOfBringing
def ct_556 : aCt := (mX6_dayOfBringing, [.inr (.inl [94]), .inl [(1, 2, 1)], .inl [(0, 7, 1)]], ([((42, 6), [(3, 3, 1)])], [((92, 0), 42), ((94, 0), 42)]), [(some (.inl aTop), [], [((94, 4), [(0, 6, 1)])], []), (some (.inl [(-2, -2, 1)]), [], [], [])], [(92, 2, 4), (94, 4, 7), (95, 0, 7)], [], 4)
set_option maxRecDepth 100000 in
theorem S_556 : aSpec wd ct_556 := bChk_ok wx_ok btX6_dayOfBringing (nds := []) (fk := []) (rk := (1, [])) (sp := 0) (fuel := 3000) (by decide +kernel) (lk_c ml_6_96 S_113 (lk_c ml_6_115 S_490 (lk_c ml_6_136 S_543 (lk_c ml_6_122 S_495 lk_n)))) odX6_dayOfBringing
end Pk2
