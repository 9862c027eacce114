def ct_1093 : aCt := (mX12_islandBehind, [.inr (.inl [196]), .inr (.inl [1000034, 1000035, 1000036, 1000037, 1000038, 1000039, 1000040, 1000041, 1000042, 1000043, 1000044, 1000045, 1000046, 1000047, 1000048, 1000049, 1000050, 1000051, 1000052, 1000053, 1000054, 1000055, 1000056])], ([((196, 6), [(2, 2, 1)]), ((196, 8), [(0, 8, 1)]), ((196, 13), [(1, 1, 1)])], []), [(some (.inl [(0, 0, 1)]), [], [], [])], [(1000002, 0, 0)], [], 2)
set_option maxRecDepth 100000 in
theorem S_1093 : aSpec wd ct_1093 := bChk_ok wx_ok btX12_islandBehind (nds := []) (fk := []) (rk := (1, [])) (sp := 0) (fuel := 3000) (by decide +kernel) (lk_c ml_12_161 S_814 (lk_c ml_12_157 S_843 lk_n)) odX12_islandBehind
def ct_1094 : aCt := (mX12_named, [.inr (.inl [196]), .inl [(0, 0, 1)], .inl [(6, 6, 1)]], ([((196, 6), [(0, 3, 1), (59, 59, 1)]), ((196, 8), [(0, 1000, 1)]), ((196, 13), [(1, 1, 1)])], []), [(some (.inl [(0, 0, 1)]), [], [], [])], [(1000002, 0, 0)], [], 0)
set_option maxRecDepth 100000 in
theorem S_1094 : aSpec wd ct_1094 := bChk_ok wx_ok btX12_named (nds := []) (fk := []) (rk := (1, [])) (sp := 0) (fuel := 3000) (by decide +kernel) lk_n odX12_named
def ct_1095 : aCt := (mX12_islandPassed, [.inr (.inl [196])], ([((196, 6), [(0, 3, 1), (59, 59, 1)]), ((196, 8), [(0, 1000, 1)]), ((196, 13), [(1, 1, 1)])], []), [(some (.inl [(0, 0, 1)]), [], [], [])], [(1000002, 0, 0)], [], 1)
set_option maxRecDepth 100000 in
theorem S_1095 : aSpec wd ct_1095 := bChk_ok wx_ok btX12_islandPassed (nds := []) (fk := []) (rk := (1, [])) (sp := 0) (fuel := 3000) (by decide +kernel) (lk_c ml_12_153 S_1094 lk_n) odX12_islandPassed
def ct_1096 : aCt := (mX12_islandBehind, [.inr (.inl [196]), .inr (.inl [1000034, 1000035, 1000036, 1000037, 1000038, 1000039, 1000040, 1000041, 1000042, 1000043, 1000044, 1000045, 1000046, 1000047, 1000048, 1000049, 1000050, 1000051, 1000052, 1000053, 1000054, 1000055, 1000056])], ([((196, 6), [(0, 3, 1), (59, 59, 1)]), ((196, 8), [(0, 1000, 1)]), ((196, 13), [(1, 1, 1)])], []), [(some (.inl [(0, 0, 1)]), [], [], [])], [(1000002, 0, 0)], [], 2)
set_option maxRecDepth 100000 in
theorem S_1096 : aSpec wd ct_1096 := bChk_ok wx_ok btX12_islandBehind (nds := []) (fk := []) (rk := (1, [])) (sp := 0) (fuel := 3000) (by decide +kernel) (lk_c ml_12_161 S_1095 (lk_c ml_12_157 S_691 lk_n)) odX12_islandBehind
def sl_628 : (Nat × Nat) × aI := (((nat_lit 200), (nat_lit 4)), [((.ofNat (nat_lit 7)), (.ofNat (nat_lit 7)), (nat_lit 1))])
def ct_1097 : aCt := (mX12_boxLine, [.inr (.inl [196])], ([((196, 6), [(2, 2, 1)]), ((196, 8), [(0, 8, 1)]), ((196, 13), [(0, 0, 1)]), ((200, 0), [(2, 4, 1)]), ((200, 4), [(7, 7, 1)]), ((200, 7), [(0, 7, 1)]), ((200, 9), [(1, 1, 1)])], []), [(none, [], [((196, 6), [(0, 3, 1), (59, 59, 1)]), ((196, 8), [(0, 1000, 1)]), ((196, 13), [(1, 1, 1)]), ((200, 7), [(0, 7, 1)])], []), (none, [], [((196, 6), [(0, 1, 1), (3, 3, 1), (59, 59, 1)]), ((196, 8), [(0, 0, 1), (9, 1000, 1)]), ((196, 13), [(0, 0, 1)]), ((200, 7), [(1, 8, 1)])], []), (none, [], [((196, 6), [(2, 2, 1)]), ((196, 8), [(0, 8, 1)]), ((196, 13), [(0, 0, 1)]), ((200, 7), [(1, 8, 1)])], [])], [(196, 4, 11), (196, 13, 14), (198, 0, 8), (200, 7, 8), (200, 127, 159), (200, 195, 203), (200, 299, 363), (1000002, 0, 0)], [], 5)
set_option maxRecDepth 100000 in
theorem S_1097 : aSpec wd ct_1097 := bChk_ok wx_ok btX12_boxLine (nds := [((nat_lit 47), [lcn_306, lcn_453], [], [sl_347, sl_314, sl_348, sl_350, sl_628, sl_454, sl_455], [], (4, [])), ((nat_lit 47), [lcn_306, lcn_453], [], [sl_386, sl_387, sl_348, sl_350, sl_628, sl_454, sl_455], [], (4, [])), ((nat_lit 47), [lcn_306, lcn_453], [], [sl_357, sl_311, sl_389, sl_350, sl_628, sl_454, sl_455, sl_456], [], (4, [])), ((nat_lit 47), [lcn_306, lcn_457], [], [sl_347, sl_314, sl_348, sl_350, sl_628, sl_458, sl_455], [], (4, [])), ((nat_lit 47), [lcn_306, lcn_457], [], [sl_386, sl_387, sl_348, sl_350, sl_628, sl_458, sl_455], [], (4, [])), ((nat_lit 47), [lcn_306, lcn_457], [], [sl_357, sl_311, sl_389, sl_350, sl_628, sl_458, sl_455, sl_459], [], (4, [])), ((nat_lit 47), [lcn_306, lcn_460], [], [sl_347, sl_314, sl_348, sl_350, sl_628, sl_461, sl_455], [], (4, [])), ((nat_lit 47), [lcn_306, lcn_460], [], [sl_386, sl_387, sl_348, sl_350, sl_628, sl_461, sl_455], [], (4, [])), ((nat_lit 47), [lcn_306, lcn_460], [], [sl_357, sl_311, sl_389, sl_350, sl_628, sl_461, sl_455, sl_462], [], (4, [])), ((nat_lit 47), [lcn_306, lcn_463], [], [sl_347, sl_314, sl_348, sl_350, sl_628, sl_464, sl_455], [], (4, [])), ((nat_lit 47), [lcn_306, lcn_463], [], [sl_386, sl_387, sl_348, sl_350, sl_628, sl_464, sl_455], [], (4, [])), ((nat_lit 47), [lcn_306, lcn_463], [], [sl_357, sl_311, sl_389, sl_350, sl_628, sl_464, sl_455, sl_465], [], (4, [])), ((nat_lit 47), [lcn_306, lcn_466], [], [sl_347, sl_314, sl_348, sl_350, sl_628, sl_467, sl_455], [], (4, [])), ((nat_lit 47), [lcn_306, lcn_466], [], [sl_386, sl_387, sl_348, sl_350, sl_628, sl_467, sl_455], [], (4, [])), ((nat_lit 47), [lcn_306, lcn_466], [], [sl_357, sl_311, sl_389, sl_350, sl_628, sl_467, sl_455, sl_468], [], (4, [])), ((nat_lit 47), [lcn_306, lcn_469], [], [sl_347, sl_314, sl_348, sl_350, sl_628, sl_470, sl_455], [], (4, [])), ((nat_lit 47), [lcn_306, lcn_469], [], [sl_386, sl_387, sl_348, sl_350, sl_628, sl_470, sl_455], [], (4, [])), ((nat_lit 47), [lcn_306, lcn_469], [], [sl_357, sl_311, sl_389, sl_350, sl_628, sl_470, sl_455, sl_471], [], (4, [])), ((nat_lit 47), [lcn_306, lcn_472], [], [sl_347, sl_314, sl_348, sl_350, sl_628, sl_473, sl_455], [], (4, [])), ((nat_lit 47), [lcn_306, lcn_472], [], [sl_386, sl_387, sl_348, sl_350, sl_628, sl_473, sl_455], [], (4, [])), ((nat_lit 47), [lcn_306, lcn_472], [], [sl_357, sl_311, sl_389, sl_350, sl_628, sl_473, sl_455, sl_474], [], (4, [])), ((nat_lit 47), [lcn_306, lcn_475], [], [sl_347, sl_314, sl_348, sl_350, sl_628, sl_476, sl_455], [], (4, [])), ((nat_lit 47), [lcn_306, lcn_475], [], [sl_386, sl_387, sl_348, sl_350, sl_628, sl_476, sl_455], [], (4, [])), ((nat_lit 47), [lcn_306, lcn_475], [], [sl_357, sl_311, sl_389, sl_350, sl_628, sl_476, sl_455, sl_477], [], (4, [])), ((nat_lit 62), [lcn_306, lcn_453], [], [sl_347, sl_314, sl_348, sl_350, sl_628, sl_454, sl_455], [], (3, [])), ((nat_lit 62), [lcn_306, lcn_453], [], [sl_386, sl_387, sl_348, sl_350, sl_628, sl_454, sl_455], [], (3, [])), ((nat_lit 62), [lcn_306, lcn_453], [], [sl_357, sl_311, sl_389, sl_350, sl_628, sl_454, sl_455, sl_478], [], (3, [])), ((nat_lit 62), [lcn_306, lcn_457], [], [sl_347, sl_314, sl_348, sl_350, sl_628, sl_458, sl_455], [], (3, [])), ((nat_lit 62), [lcn_306, lcn_457], [], [sl_386, sl_387, sl_348, sl_350, sl_628, sl_458, sl_455], [], (3, [])), ((nat_lit 62), [lcn_306, lcn_457], [], [sl_357, sl_311, sl_389, sl_350, sl_628, sl_458, sl_455, sl_479], [], (3, [])), ((nat_lit 62), [lcn_306, lcn_460], [], [sl_347, sl_314, sl_348, sl_350, sl_628, sl_461, sl_455], [], (3, [])), ((nat_lit 62), [lcn_306, lcn_460], [], [sl_386, sl_387, sl_348, sl_350, sl_628, sl_461, sl_455], [], (3, [])), ((nat_lit 62), [lcn_306, lcn_460], [], [sl_357, sl_311, sl_389, sl_350, sl_628, sl_461, sl_455, sl_480], [], (3, [])), ((nat_lit 62), [lcn_306, lcn_463], [], [sl_347, sl_314, sl_348, sl_350, sl_628, sl_464, sl_455], [], (3, [])), ((nat_lit 62), [lcn_306, lcn_463], [], [sl_386, sl_387, sl_348, sl_350, sl_628, sl_464, sl_455], [], (3, [])), ((nat_lit 62), [lcn_306, lcn_463], [], [sl_357, sl_311, sl_389, sl_350, sl_628, sl_464, sl_455, sl_481], [], (3, [])), ((nat_lit 62), [lcn_306, lcn_466], [], [sl_347, sl_314, sl_348, sl_350, sl_628, sl_467, sl_455], [], (3, [])), ((nat_lit 62), [lcn_306, lcn_466], [], [sl_386, sl_387, sl_348, sl_350, sl_628, sl_467, sl_455], [], (3, [])), ((nat_lit 62), [lcn_306, lcn_466], [], [sl_357, sl_311, sl_389, sl_350, sl_628, sl_467, sl_455, sl_482], [], (3, [])), ((nat_lit 62), [lcn_306, lcn_469], [], [sl_347, sl_314, sl_348, sl_350, sl_628, sl_470, sl_455], [], (3, [])), ((nat_lit 62), [lcn_306, lcn_469], [], [sl_386, sl_387, sl_348, sl_350, sl_628, sl_470, sl_455], [], (3, [])), ((nat_lit 62), [lcn_306, lcn_469], [], [sl_357, sl_311, sl_389, sl_350, sl_628, sl_470, sl_455, sl_483], [], (3, [])), ((nat_lit 62), [lcn_306, lcn_472], [], [sl_347, sl_314, sl_348, sl_350, sl_628, sl_473, sl_455], [], (3, [])), ((nat_lit 62), [lcn_306, lcn_472], [], [sl_386, sl_387, sl_348, sl_350, sl_628, sl_473, sl_455], [], (3, [])), ((nat_lit 62), [lcn_306, lcn_472], [], [sl_357, sl_311, sl_389, sl_350, sl_628, sl_473, sl_455, sl_484], [], (3, [])), ((nat_lit 62), [lcn_306, lcn_475], [], [sl_347, sl_314, sl_348, sl_350, sl_628, sl_476, sl_455], [], (3, [])), ((nat_lit 62), [lcn_306, lcn_475], [], [sl_386, sl_387, sl_348, sl_350, sl_628, sl_476, sl_455], [], (3, [])), ((nat_lit 62), [lcn_306, lcn_475], [], [sl_357, sl_311, sl_389, sl_350, sl_628, sl_476, sl_455, sl_485], [], (3, [])), ((nat_lit 80), [lcn_306, lcn_453], [], [sl_347, sl_314, sl_348, sl_350, sl_628, sl_454, sl_455, sl_510], [], (2, [])), ((nat_lit 80), [lcn_306, lcn_453], [], [sl_386, sl_387, sl_348, sl_350, sl_628, sl_454, sl_455, sl_510], [], (2, [])), ((nat_lit 80), [lcn_306, lcn_453], [], [sl_357, sl_311, sl_389, sl_350, sl_628, sl_454, sl_455, sl_486], [], (2, [])), ((nat_lit 80), [lcn_306, lcn_457], [], [sl_347, sl_314, sl_348, sl_350, sl_628, sl_458, sl_455, sl_511], [], (2, [])), ((nat_lit 80), [lcn_306, lcn_457], [], [sl_386, sl_387, sl_348, sl_350, sl_628, sl_458, sl_455, sl_511], [], (2, [])), ((nat_lit 80), [lcn_306, lcn_457], [], [sl_357, sl_311, sl_389, sl_350, sl_628, sl_458, sl_455, sl_487], [], (2, [])), ((nat_lit 80), [lcn_306, lcn_460], [], [sl_347, sl_314, sl_348, sl_350, sl_628, sl_461, sl_455, sl_512], [], (2, [])), ((nat_lit 80), [lcn_306, lcn_460], [], [sl_386, sl_387, sl_348, sl_350, sl_628, sl_461, sl_455, sl_512], [], (2, [])), ((nat_lit 80), [lcn_306, lcn_460], [], [sl_357, sl_311, sl_389, sl_350, sl_628, sl_461, sl_455, sl_488], [], (2, [])), ((nat_lit 80), [lcn_306, lcn_463], [], [sl_347, sl_314, sl_348, sl_350, sl_628, sl_464, sl_455, sl_513], [], (2, [])), ((nat_lit 80), [lcn_306, lcn_463], [], [sl_386, sl_387, sl_348, sl_350, sl_628, sl_464, sl_455, sl_513], [], (2, [])), ((nat_lit 80), [lcn_306, lcn_463], [], [sl_357, sl_311, sl_389, sl_350, sl_628, sl_464, sl_455, sl_489], [], (2, [])), ((nat_lit 80), [lcn_306, lcn_466], [], [sl_347, sl_314, sl_348, sl_350, sl_628, sl_467, sl_455, sl_514], [], (2, [])), ((nat_lit 80), [lcn_306, lcn_466], [], [sl_386, sl_387, sl_348, sl_350, sl_628, sl_467, sl_455, sl_514], [], (2, [])), ((nat_lit 80), [lcn_306, lcn_466], [], [sl_357, sl_311, sl_389, sl_350, sl_628, sl_467, sl_455, sl_490], [], (2, [])), ((nat_lit 80), [lcn_306, lcn_469], [], [sl_347, sl_314, sl_348, sl_350, sl_628, sl_470, sl_455, sl_515], [], (2, [])), ((nat_lit 80), [lcn_306, lcn_469], [], [sl_386, sl_387, sl_348, sl_350, sl_628, sl_470, sl_455, sl_515], [], (2, [])), ((nat_lit 80), [lcn_306, lcn_469], [], [sl_357, sl_311, sl_389, sl_350, sl_628, sl_470, sl_455, sl_491], [], (2, [])), ((nat_lit 80), [lcn_306, lcn_472], [], [sl_347, sl_314, sl_348, sl_350, sl_628, sl_473, sl_455, sl_516], [], (2, [])), ((nat_lit 80), [lcn_306, lcn_472], [], [sl_386, sl_387, sl_348, sl_350, sl_628, sl_473, sl_455, sl_516], [], (2, [])), ((nat_lit 80), [lcn_306, lcn_472], [], [sl_357, sl_311, sl_389, sl_350, sl_628, sl_473, sl_455, sl_492], [], (2, [])), ((nat_lit 80), [lcn_306, lcn_475], [], [sl_347, sl_314, sl_348, sl_350, sl_628, sl_476, sl_455, sl_517], [], (2, [])), ((nat_lit 80), [lcn_306, lcn_475], [], [sl_386, sl_387, sl_348, sl_350, sl_628, sl_476, sl_455, sl_517], [], (2, [])), ((nat_lit 80), [lcn_306, lcn_475], [], [sl_357, sl_311, sl_389, sl_350, sl_628, sl_476, sl_455, sl_493], [], (2, [])), ((nat_lit 99), [lcn_306, lcn_453], [], [sl_347, sl_314, sl_348, sl_350, sl_628, sl_454, sl_455, sl_510, sl_518], [], (1, [])), ((nat_lit 99), [lcn_306, lcn_453], [], [sl_386, sl_387, sl_348, sl_350, sl_628, sl_454, sl_455, sl_510, sl_518], [], (1, [])), ((nat_lit 99), [lcn_306, lcn_453], [], [sl_357, sl_311, sl_389, sl_350, sl_628, sl_454, sl_455, sl_510, sl_494], [], (1, [])), ((nat_lit 99), [lcn_306, lcn_457], [], [sl_347, sl_314, sl_348, sl_350, sl_628, sl_458, sl_455, sl_511, sl_519], [], (1, [])), ((nat_lit 99), [lcn_306, lcn_457], [], [sl_386, sl_387, sl_348, sl_350, sl_628, sl_458, sl_455, sl_511, sl_519], [], (1, [])), ((nat_lit 99), [lcn_306, lcn_457], [], [sl_357, sl_311, sl_389, sl_350, sl_628, sl_458, sl_455, sl_511, sl_495], [], (1, [])), ((nat_lit 99), [lcn_306, lcn_460], [], [sl_347, sl_314, sl_348, sl_350, sl_628, sl_461, sl_455, sl_512, sl_520], [], (1, [])), ((nat_lit 99), [lcn_306, lcn_460], [], [sl_386, sl_387, sl_348, sl_350, sl_628, sl_461, sl_455, sl_512, sl_520], [], (1, [])), ((nat_lit 99), [lcn_306, lcn_460], [], [sl_357, sl_311, sl_389, sl_350, sl_628, sl_461, sl_455, sl_512, sl_496], [], (1, [])), ((nat_lit 99), [lcn_306, lcn_463], [], [sl_347, sl_314, sl_348, sl_350, sl_628, sl_464, sl_455, sl_513, sl_521], [], (1, [])), ((nat_lit 99), [lcn_306, lcn_463], [], [sl_386, sl_387, sl_348, sl_350, sl_628, sl_464, sl_455, sl_513, sl_521], [], (1, [])), ((nat_lit 99), [lcn_306, lcn_463], [], [sl_357, sl_311, sl_389, sl_350, sl_628, sl_464, sl_455, sl_513, sl_497], [], (1, [])), ((nat_lit 99), [lcn_306, lcn_466], [], [sl_347, sl_314, sl_348, sl_350, sl_628, sl_467, sl_455, sl_514, sl_522], [], (1, [])), ((nat_lit 99), [lcn_306, lcn_466], [], [sl_386, sl_387, sl_348, sl_350, sl_628, sl_467, sl_455, sl_514, sl_522], [], (1, [])), ((nat_lit 99), [lcn_306, lcn_466], [], [sl_357, sl_311, sl_389, sl_350, sl_628, sl_467, sl_455, sl_514, sl_498], [], (1, [])), ((nat_lit 99), [lcn_306, lcn_469], [], [sl_347, sl_314, sl_348, sl_350, sl_628, sl_470, sl_455, sl_515, sl_523], [], (1, [])), ((nat_lit 99), [lcn_306, lcn_469], [], [sl_386, sl_387, sl_348, sl_350, sl_628, sl_470, sl_455, sl_515, sl_523], [], (1, [])), ((nat_lit 99), [lcn_306, lcn_469], [], [sl_357, sl_311, sl_389, sl_350, sl_628, sl_470, sl_455, sl_515, sl_499], [], (1, [])), ((nat_lit 99), [lcn_306, lcn_472], [], [sl_347, sl_314, sl_348, sl_350, sl_628, sl_473, sl_455, sl_516, sl_524], [], (1, [])), ((nat_lit 99), [lcn_306, lcn_472], [], [sl_386, sl_387, sl_348, sl_350, sl_628, sl_473, sl_455, sl_516, sl_524], [], (1, [])), ((nat_lit 99), [lcn_306, lcn_472], [], [sl_357, sl_311, sl_389, sl_350, sl_628, sl_473, sl_455, sl_516, sl_500], [], (1, [])), ((nat_lit 99), [lcn_306, lcn_475], [], [sl_347, sl_314, sl_348, sl_350, sl_628, sl_476, sl_455, sl_517, sl_525], [], (1, [])), ((nat_lit 99), [lcn_306, lcn_475], [], [sl_386, sl_387, sl_348, sl_350, sl_628, sl_476, sl_455, sl_517, sl_525], [], (1, [])), ((nat_lit 99), [lcn_306, lcn_475], [], [sl_357, sl_311, sl_389, sl_350, sl_628, sl_476, sl_455, sl_517, sl_501], [], (1, [])), ((nat_lit 117), [lcn_306, lcn_453], [], [sl_347, sl_314, sl_348, sl_350, sl_628, sl_526, sl_455, sl_510, sl_518], [], (0, [])), ((nat_lit 117), [lcn_306, lcn_453], [], [sl_386, sl_387, sl_348, sl_350, sl_628, sl_526, sl_455, sl_510, sl_518], [], (0, [])), ((nat_lit 117), [lcn_306, lcn_453], [], [sl_357, sl_311, sl_389, sl_350, sl_628, sl_454, sl_455, sl_510, sl_494], [], (0, [])), ((nat_lit 117), [lcn_306, lcn_457], [], [sl_347, sl_314, sl_348, sl_350, sl_628, sl_454, sl_455, sl_511, sl_519], [], (0, [])), ((nat_lit 117), [lcn_306, lcn_457], [], [sl_386, sl_387, sl_348, sl_350, sl_628, sl_454, sl_455, sl_511, sl_519], [], (0, [])), ((nat_lit 117), [lcn_306, lcn_457], [], [sl_357, sl_311, sl_389, sl_350, sl_628, sl_458, sl_455, sl_511, sl_495], [], (0, [])), ((nat_lit 117), [lcn_306, lcn_460], [], [sl_347, sl_314, sl_348, sl_350, sl_628, sl_458, sl_455, sl_512, sl_520], [], (0, [])), ((nat_lit 117), [lcn_306, lcn_460], [], [sl_386, sl_387, sl_348, sl_350, sl_628, sl_458, sl_455, sl_512, sl_520], [], (0, [])), ((nat_lit 117), [lcn_306, lcn_460], [], [sl_357, sl_311, sl_389, sl_350, sl_628, sl_461, sl_455, sl_512, sl_496], [], (0, [])), ((nat_lit 117), [lcn_306, lcn_463], [], [sl_347, sl_314, sl_348, sl_350, sl_628, sl_461, sl_455, sl_513, sl_521], [], (0, [])), ((nat_lit 117), [lcn_306, lcn_463], [], [sl_386, sl_387, sl_348, sl_350, sl_628, sl_461, sl_455, sl_513, sl_521], [], (0, [])), ((nat_lit 117), [lcn_306, lcn_463], [], [sl_357, sl_311, sl_389, sl_350, sl_628, sl_464, sl_455, sl_513, sl_497], [], (0, [])), ((nat_lit 117), [lcn_306, lcn_466], [], [sl_347, sl_314, sl_348, sl_350, sl_628, sl_464, sl_455, sl_514, sl_522], [], (0, [])), ((nat_lit 117), [lcn_306, lcn_466], [], [sl_386, sl_387, sl_348, sl_350, sl_628, sl_464, sl_455, sl_514, sl_522], [], (0, [])), ((nat_lit 117), [lcn_306, lcn_466], [], [sl_357, sl_311, sl_389, sl_350, sl_628, sl_467, sl_455, sl_514, sl_498], [], (0, [])), ((nat_lit 117), [lcn_306, lcn_469], [], [sl_347, sl_314, sl_348, sl_350, sl_628, sl_467, sl_455, sl_515, sl_523], [], (0, [])), ((nat_lit 117), [lcn_306, lcn_469], [], [sl_386, sl_387, sl_348, sl_350, sl_628, sl_467, sl_455, sl_515, sl_523], [], (0, [])), ((nat_lit 117), [lcn_306, lcn_469], [], [sl_357, sl_311, sl_389, sl_350, sl_628, sl_470, sl_455, sl_515, sl_499], [], (0, [])), ((nat_lit 117), [lcn_306, lcn_472], [], [sl_347, sl_314, sl_348, sl_350, sl_628, sl_470, sl_455, sl_516, sl_524], [], (0, [])), ((nat_lit 117), [lcn_306, lcn_472], [], [sl_386, sl_387, sl_348, sl_350, sl_628, sl_470, sl_455, sl_516, sl_524], [], (0, [])), ((nat_lit 117), [lcn_306, lcn_472], [], [sl_357, sl_311, sl_389, sl_350, sl_628, sl_473, sl_455, sl_516, sl_500], [], (0, [])), ((nat_lit 117), [lcn_306, lcn_475], [], [sl_347, sl_314, sl_348, sl_350, sl_628, sl_473, sl_455, sl_517, sl_525], [], (0, [])), ((nat_lit 117), [lcn_306, lcn_475], [], [sl_386, sl_387, sl_348, sl_350, sl_628, sl_473, sl_455, sl_517, sl_525], [], (0, [])), ((nat_lit 117), [lcn_306, lcn_475], [], [sl_357, sl_311, sl_389, sl_350, sl_628, sl_476, sl_455, sl_517, sl_501], [], (0, []))]) (fk := [18]) (rk := (5, [])) (sp := 166154133299623528659118015977095168) (fuel := 3000) (by decide +kernel) (lk_c ml_12_223 S_830 (lk_c ml_12_223 S_845 (lk_c ml_12_223 S_846 (lk_c ml_12_223 S_847 (lk_c ml_12_223 S_848 (lk_c ml_12_223 S_849 (lk_c ml_12_223 S_850 (lk_c ml_12_223 S_851 (lk_c ml_12_246 S_815 (lk_c ml_12_246 S_1093 (lk_c ml_12_246 S_817 (lk_c ml_12_246 S_1096 (lk_c ml_12_213 S_796 (lk_c ml_12_213 S_932 (lk_c ml_12_213 S_798 (lk_c ml_12_213 S_933 (lk_c ml_12_213 S_856 (lk_c ml_12_213 S_858 lk_n)))))))))))))))))) odX12_boxLine
def ct_1098 : aCt := (mX12_islandBehind, [.inr (.inl [196]), .inr (.inl [1000034, 1000035, 1000036, 1000037, 1000038, 1000039, 1000040, 1000041, 1000042, 1000043, 1000044, 1000045, 1000046, 1000047, 1000048, 1000049, 1000050, 1000051, 1000052, 1000053, 1000054, 1000055, 1000056])], ([((196, 6), [(0, 1, 1), (3, 3, 1), (59, 59, 1)]), ((196, 8), [(0, 0, 1), (9, 1000, 1)]), ((196, 13), [(1, 1, 1)])], []), [(some (.inl [(0, 0, 1)]), [], [], [])], [(1000002, 0, 0)], [], 2)
set_option maxRecDepth 100000 in
theorem S_1098 : aSpec wd ct_1098 := bChk_ok wx_ok btX12_islandBehind (nds := []) (fk := []) (rk := (1, [])) (sp := 0) (fuel := 3000) (by decide +kernel) (lk_c ml_12_161 S_816 (lk_c ml_12_157 S_696 lk_n)) odX12_islandBehind
def ct_1099 : aCt := (mX12_boxLine, [.inr (.inl [196])], ([((196, 6), [(0, 1, 1), (3, 3, 1), (59, 59, 1)]), ((196, 8), [(0, 0, 1), (9, 1000, 1)]), ((196, 13), [(0, 0, 1)]), ((200, 0), [(2, 4, 1)]), ((200, 4), [(7, 7, 1)]), ((200, 7), [(0, 7, 1)]), ((200, 9), [(1, 1, 1)])], []), [(none, [], [((196, 13), [(1, 1, 1)])], [])], [(196, 9, 11), (196, 13, 14), (200, 127, 159), (1000002, 0, 0)], [], 3)
set_option maxRecDepth 100000 in
theorem S_1099 : aSpec wd ct_1099 := bChk_ok wx_ok btX12_boxLine (nds := [((nat_lit 47), [lcn_306, lcn_453], [], [sl_386, sl_387, sl_389, sl_350, sl_628, sl_454, sl_455, sl_456], [], (4, [])), ((nat_lit 47), [lcn_306, lcn_457], [], [sl_386, sl_387, sl_389, sl_350, sl_628, sl_458, sl_455, sl_459], [], (4, [])), ((nat_lit 47), [lcn_306, lcn_460], [], [sl_386, sl_387, sl_389, sl_350, sl_628, sl_461, sl_455, sl_462], [], (4, [])), ((nat_lit 47), [lcn_306, lcn_463], [], [sl_386, sl_387, sl_389, sl_350, sl_628, sl_464, sl_455, sl_465], [], (4, [])), ((nat_lit 47), [lcn_306, lcn_466], [], [sl_386, sl_387, sl_389, sl_350, sl_628, sl_467, sl_455, sl_468], [], (4, [])), ((nat_lit 47), [lcn_306, lcn_469], [], [sl_386, sl_387, sl_389, sl_350, sl_628, sl_470, sl_455, sl_471], [], (4, [])), ((nat_lit 47), [lcn_306, lcn_472], [], [sl_386, sl_387, sl_389, sl_350, sl_628, sl_473, sl_455, sl_474], [], (4, [])), ((nat_lit 47), [lcn_306, lcn_475], [], [sl_386, sl_387, sl_389, sl_350, sl_628, sl_476, sl_455, sl_477], [], (4, [])), ((nat_lit 62), [lcn_306, lcn_453], [], [sl_386, sl_387, sl_389, sl_350, sl_628, sl_454, sl_455, sl_456, sl_478], [], (3, [])), ((nat_lit 62), [lcn_306, lcn_457], [], [sl_386, sl_387, sl_389, sl_350, sl_628, sl_458, sl_455, sl_459, sl_479], [], (3, [])), ((nat_lit 62), [lcn_306, lcn_460], [], [sl_386, sl_387, sl_389, sl_350, sl_628, sl_461, sl_455, sl_462, sl_480], [], (3, [])), ((nat_lit 62), [lcn_306, lcn_463], [], [sl_386, sl_387, sl_389, sl_350, sl_628, sl_464, sl_455, sl_465, sl_481], [], (3, [])), ((nat_lit 62), [lcn_306, lcn_466], [], [sl_386, sl_387, sl_389, sl_350, sl_628, sl_467, sl_455, sl_468, sl_482], [], (3, [])), ((nat_lit 62), [lcn_306, lcn_469], [], [sl_386, sl_387, sl_389, sl_350, sl_628, sl_470, sl_455, sl_471, sl_483], [], (3, [])), ((nat_lit 62), [lcn_306, lcn_472], [], [sl_386, sl_387, sl_389, sl_350, sl_628, sl_473, sl_455, sl_474, sl_484], [], (3, [])), ((nat_lit 62), [lcn_306, lcn_475], [], [sl_386, sl_387, sl_389, sl_350, sl_628, sl_476, sl_455, sl_477, sl_485], [], (3, [])), ((nat_lit 80), [lcn_306, lcn_453], [], [sl_386, sl_387, sl_389, sl_350, sl_628, sl_454, sl_455, sl_456, sl_478, sl_486], [], (2, [])), ((nat_lit 80), [lcn_306, lcn_457], [], [sl_386, sl_387, sl_389, sl_350, sl_628, sl_458, sl_455, sl_459, sl_479, sl_487], [], (2, [])), ((nat_lit 80), [lcn_306, lcn_460], [], [sl_386, sl_387, sl_389, sl_350, sl_628, sl_461, sl_455, sl_462, sl_480, sl_488], [], (2, [])), ((nat_lit 80), [lcn_306, lcn_463], [], [sl_386, sl_387, sl_389, sl_350, sl_628, sl_464, sl_455, sl_465, sl_481, sl_489], [], (2, [])), ((nat_lit 80), [lcn_306, lcn_466], [], [sl_386, sl_387, sl_389, sl_350, sl_628, sl_467, sl_455, sl_468, sl_482, sl_490], [], (2, [])), ((nat_lit 80), [lcn_306, lcn_469], [], [sl_386, sl_387, sl_389, sl_350, sl_628, sl_470, sl_455, sl_471, sl_483, sl_491], [], (2, [])), ((nat_lit 80), [lcn_306, lcn_472], [], [sl_386, sl_387, sl_389, sl_350, sl_628, sl_473, sl_455, sl_474, sl_484, sl_492], [], (2, [])), ((nat_lit 80), [lcn_306, lcn_475], [], [sl_386, sl_387, sl_389, sl_350, sl_628, sl_476, sl_455, sl_477, sl_485, sl_493], [], (2, [])), ((nat_lit 99), [lcn_306, lcn_453], [], [sl_386, sl_387, sl_389, sl_350, sl_628, sl_454, sl_455, sl_456, sl_478, sl_486, sl_494], [], (1, [])), ((nat_lit 99), [lcn_306, lcn_457], [], [sl_386, sl_387, sl_389, sl_350, sl_628, sl_458, sl_455, sl_459, sl_479, sl_487, sl_495], [], (1, [])), ((nat_lit 99), [lcn_306, lcn_460], [], [sl_386, sl_387, sl_389, sl_350, sl_628, sl_461, sl_455, sl_462, sl_480, sl_488, sl_496], [], (1, [])), ((nat_lit 99), [lcn_306, lcn_463], [], [sl_386, sl_387, sl_389, sl_350, sl_628, sl_464, sl_455, sl_465, sl_481, sl_489, sl_497], [], (1, [])), ((nat_lit 99), [lcn_306, lcn_466], [], [sl_386, sl_387, sl_389, sl_350, sl_628, sl_467, sl_455, sl_468, sl_482, sl_490, sl_498], [], (1, [])), ((nat_lit 99), [lcn_306, lcn_469], [], [sl_386, sl_387, sl_389, sl_350, sl_628, sl_470, sl_455, sl_471, sl_483, sl_491, sl_499], [], (1, [])), ((nat_lit 99), [lcn_306, lcn_472], [], [sl_386, sl_387, sl_389, sl_350, sl_628, sl_473, sl_455, sl_474, sl_484, sl_492, sl_500], [], (1, [])), ((nat_lit 99), [lcn_306, lcn_475], [], [sl_386, sl_387, sl_389, sl_350, sl_628, sl_476, sl_455, sl_477, sl_485, sl_493, sl_501], [], (1, [])), ((nat_lit 117), [lcn_306, lcn_453], [], [sl_386, sl_387, sl_389, sl_350, sl_628, sl_454, sl_455, sl_456, sl_478, sl_486, sl_494], [], (0, [])), ((nat_lit 117), [lcn_306, lcn_457], [], [sl_386, sl_387, sl_389, sl_350, sl_628, sl_458, sl_455, sl_459, sl_479, sl_487, sl_495], [], (0, [])), ((nat_lit 117), [lcn_306, lcn_460], [], [sl_386, sl_387, sl_389, sl_350, sl_628, sl_461, sl_455, sl_462, sl_480, sl_488, sl_496], [], (0, [])), ((nat_lit 117), [lcn_306, lcn_463], [], [sl_386, sl_387, sl_389, sl_350, sl_628, sl_464, sl_455, sl_465, sl_481, sl_489, sl_497], [], (0, [])), ((nat_lit 117), [lcn_306, lcn_466], [], [sl_386, sl_387, sl_389, sl_350, sl_628, sl_467, sl_455, sl_468, sl_482, sl_490, sl_498], [], (0, [])), ((nat_lit 117), [lcn_306, lcn_469], [], [sl_386, sl_387, sl_389, sl_350, sl_628, sl_470, sl_455, sl_471, sl_483, sl_491, sl_499], [], (0, [])), ((nat_lit 117), [lcn_306, lcn_472], [], [sl_386, sl_387, sl_389, sl_350, sl_628, sl_473, sl_455, sl_474, sl_484, sl_492, sl_500], [], (0, [])), ((nat_lit 117), [lcn_306, lcn_475], [], [sl_386, sl_387, sl_389, sl_350, sl_628, sl_476, sl_455, sl_477, sl_485, sl_493, sl_501], [], (0, []))]) (fk := [18]) (rk := (5, [])) (sp := 166154133299623528659118015977095168) (fuel := 3000) (by decide +kernel) (lk_c ml_12_223 S_860 (lk_c ml_12_223 S_862 (lk_c ml_12_223 S_863 (lk_c ml_12_223 S_864 (lk_c ml_12_223 S_865 (lk_c ml_12_223 S_866 (lk_c ml_12_223 S_867 (lk_c ml_12_223 S_868 (lk_c ml_12_246 S_1098 (lk_c ml_12_213 S_869 (lk_c ml_12_213 S_871 lk_n))))))))))) odX12_boxLine
def ct_1100 : aCt := (mX12_boxLine, [.inr (.inl [196])], ([((196, 6), [(2, 2, 1)]), ((196, 8), [(1, 8, 1)]), ((196, 13), [(1, 1, 1)]), ((200, 0), [(2, 4, 1)]), ((200, 4), [(7, 7, 1)]), ((200, 7), [(8, 8, 1)]), ((200, 9), [(1, 1, 1)])], []), [(none, [], [], [])], [(1000002, 0, 0)], [], 0)
set_option maxRecDepth 100000 in
theorem S_1100 : aSpec wd ct_1100 := bChk_ok wx_ok btX12_boxLine (nds := []) (fk := [18]) (rk := (1, [])) (sp := 0) (fuel := 3000) (by decide +kernel) lk_n odX12_boxLine
def ct_1101 : aCt := (mX12_readLine, [.inr (.inl [196])], ([((196, 6), [(2, 2, 1)]), ((196, 8), [(0, 8, 1)]), ((196, 13), [(0, 0, 1)]), ((200, 0), [(2, 4, 1)]), ((200, 4), [(7, 7, 1)]), ((200, 9), [(1, 1, 1)])], []), [(none, [], [((196, 6), [(0, 3, 1), (59, 59, 1)]), ((196, 8), [(0, 1000, 1)]), ((196, 13), [(1, 1, 1)])], []), (none, [], [((196, 6), [(0, 1, 1), (3, 3, 1), (59, 59, 1)]), ((196, 8), [(0, 0, 1), (9, 1000, 1)]), ((196, 13), [(0, 0, 1)])], []), (none, [], [((196, 6), [(2, 2, 1)]), ((196, 8), [(0, 8, 1)]), ((196, 13), [(0, 0, 1)])], [])], [(196, 4, 11), (196, 13, 14), (198, 0, 8), (200, 5, 9), (200, 59, 183), (200, 190, 203), (200, 259, 363), (1000002, 0, 0)], [], 6)
set_option maxRecDepth 100000 in
theorem S_1101 : aSpec wd ct_1101 := bChk_ok wx_ok btX12_readLine (nds := []) (fk := []) (rk := (1, [])) (sp := 0) (fuel := 3000) (by decide +kernel) (lk_c ml_12_205 S_1100 (lk_c ml_12_205 S_1097 (lk_c ml_12_205 S_1099 (lk_c ml_12_189 S_1091 (lk_c ml_12_196 S_1092 (lk_c ml_12_208 S_749 (lk_c ml_12_202 S_750 (lk_c ml_12_199 S_751 (lk_c ml_12_202 S_827 (lk_c ml_12_208 S_891 (lk_c ml_12_199 S_808 (lk_c ml_12_202 S_829 (lk_c ml_12_208 S_895 (lk_c ml_12_199 S_811 (lk_c ml_12_117 S_X12_isWord_0 (lk_c ml_12_192 S_896 (lk_c ml_12_192 S_765 (lk_c ml_12_127 S_664 lk_n)))))))))))))))))) odX12_readLine
def ct_1102 : aCt := (mX12_readLine, [.inr (.inl [196])], ([((196, 6), [(1, 1, 1), (3, 3, 1)]), ((196, 8), [(0, 0, 1), (9, 1000, 1)]), ((196, 13), [(0, 0, 1)]), ((200, 0), [(2, 4, 1)]), ((200, 4), [(7, 7, 1)]), ((200, 9), [(1, 1, 1)])], []), [(none, [], [((196, 13), [(1, 1, 1)])], [])], [(196, 9, 11), (196, 13, 14), (1000002, 0, 0)], [], 2)
set_option maxRecDepth 100000 in
theorem S_1102 : aSpec wd ct_1102 := bChk_ok wx_ok btX12_readLine (nds := []) (fk := []) (rk := (1, [])) (sp := 0) (fuel := 3000) (by decide +kernel) (lk_c ml_12_117 S_X12_isWord_2 (lk_c ml_12_192 S_900 (lk_c ml_12_192 S_899 (lk_c ml_12_127 S_664 lk_n)))) odX12_readLine
def ct_1103 : aCt := (mX12_readLine, [.inr (.inl [196])], ([((196, 6), [(0, 0, 1), (59, 59, 1)]), ((196, 8), [(0, 0, 1)]), ((196, 13), [(0, 0, 1)]), ((200, 0), [(2, 4, 1)]), ((200, 4), [(7, 7, 1)]), ((200, 9), [(1, 1, 1)])], []), [(none, [], [((196, 13), [(1, 1, 1)])], [])], [(196, 9, 11), (196, 13, 14), (1000002, 0, 0)], [], 2)
set_option maxRecDepth 100000 in
theorem S_1103 : aSpec wd ct_1103 := bChk_ok wx_ok btX12_readLine (nds := []) (fk := []) (rk := (1, [])) (sp := 0) (fuel := 3000) (by decide +kernel) (lk_c ml_12_117 S_X12_isWord_5 (lk_c ml_12_192 S_903 (lk_c ml_12_192 S_902 (lk_c ml_12_127 S_664 lk_n)))) odX12_readLine
def lcn_629 : Nat × aAg := ((nat_lit 2), .inl [((.ofNat (nat_lit 0)), (.ofNat (nat_lit 99)), (nat_lit 1))])
def sl_630 : (Nat × Nat) × aI := (((nat_lit 196), (nat_lit 2)), [((.ofNat (nat_lit 0)), (.ofNat (nat_lit 0)), (nat_lit 1))])
def sl_631 : (Nat × Nat) × aI := (((nat_lit 196), (nat_lit 6)), [((.ofNat (nat_lit 0)), (.ofNat (nat_lit 0)), (nat_lit 1))])
def sl_632 : (Nat × Nat) × aI := (((nat_lit 196), (nat_lit 11)), [((.ofNat (nat_lit 0)), (.ofNat (nat_lit 0)), (nat_lit 1))])
def sl_633 : (Nat × Nat) × aI := (((nat_lit 199), (nat_lit 0)), [((.ofNat (nat_lit 2)), (.ofNat (nat_lit 4)), (nat_lit 1))])
def sl_634 : (Nat × Nat) × aI := (((nat_lit 199), (nat_lit 4)), [((.ofNat (nat_lit 1)), (.ofNat (nat_lit 7)), (nat_lit 1))])
def sl_635 : (Nat × Nat) × aI := (((nat_lit 199), (nat_lit 9)), [((.ofNat (nat_lit 1)), (.ofNat (nat_lit 1)), (nat_lit 1))])
def sl_636 : (Nat × Nat) × aI := (((nat_lit 200), (nat_lit 4)), [((.ofNat (nat_lit 1)), (.ofNat (nat_lit 7)), (nat_lit 1))])
def lcn_637 : Nat × aAg := ((nat_lit 2), .inl [((.ofNat (nat_lit 363)), (.ofNat (nat_lit 363)), (nat_lit 1))])
def sl_638 : (Nat × Nat) × aI := (((nat_lit 196), (nat_lit 6)), [((.ofNat (nat_lit 0)), (.ofNat (nat_lit 0)), (nat_lit 1)), ((.ofNat (nat_lit 59)), (.ofNat (nat_lit 59)), (nat_lit 1))])
def sl_639 : (Nat × Nat) × aI := (((nat_lit 196), (nat_lit 6)), [((.ofNat (nat_lit 1)), (.ofNat (nat_lit 1)), (nat_lit 1)), ((.ofNat (nat_lit 3)), (.ofNat (nat_lit 3)), (nat_lit 1))])
def sl_640 : (Nat × Nat) × aI := (((nat_lit 196), (nat_lit 6)), [((.ofNat (nat_lit 59)), (.ofNat (nat_lit 59)), (nat_lit 1))])
def sl_641 : (Nat × Nat) × aI := (((nat_lit 200), (nat_lit 0)), [((.ofNat (nat_lit 0)), (.ofNat (nat_lit 0)), (nat_lit 1))])
def lcn_642 : Nat × aAg := ((nat_lit 2), .inl [((.ofNat (nat_lit 6)), (.ofNat (nat_lit 6)), (nat_lit 1))])
def lcn_643 : Nat × aAg := ((nat_lit 2), .inl [((.ofNat (nat_lit 7)), (.ofNat (nat_lit 7)), (nat_lit 1))])
def sl_644 : (Nat × Nat) × aI := (((nat_lit 200), (nat_lit 6)), [((.ofNat (nat_lit 0)), (.ofNat (nat_lit 0)), (nat_lit 1))])
def lcn_645 : Nat × aAg := ((nat_lit 2), .inl [((.ofNat (nat_lit 8)), (.ofNat (nat_lit 8)), (nat_lit 1))])
def lcn_646 : Nat × aAg := ((nat_lit 2), .inl [((.ofNat (nat_lit 9)), (.ofNat (nat_lit 9)), (nat_lit 1))])
def sl_647 : (Nat × Nat) × aI := (((nat_lit 200), (nat_lit 8)), [((.ofNat (nat_lit 0)), (.ofNat (nat_lit 0)), (nat_lit 1))])
def sl_648 : (Nat × Nat) × aI := (((nat_lit 200), (nat_lit 9)), [((.ofNat (nat_lit 0)), (.ofNat (nat_lit 0)), (nat_lit 1))])
def lcn_649 : Nat × aAg := ((nat_lit 2), .inl [((.ofNat (nat_lit 11)), (.ofNat (nat_lit 11)), (nat_lit 1))])
def lcn_650 : Nat × aAg := ((nat_lit 2), .inl [((.ofNat (nat_lit 12)), (.ofNat (nat_lit 12)), (nat_lit 1))])
def lcn_651 : Nat × aAg := ((nat_lit 2), .inl [((.ofNat (nat_lit 13)), (.ofNat (nat_lit 13)), (nat_lit 1))])
def lcn_652 : Nat × aAg := ((nat_lit 2), .inl [((.ofNat (nat_lit 14)), (.ofNat (nat_lit 14)), (nat_lit 1))])
def lcn_653 : Nat × aAg := ((nat_lit 2), .inl [((.ofNat (nat_lit 16)), (.ofNat (nat_lit 16)), (nat_lit 1))])
def lcn_654 : Nat × aAg := ((nat_lit 2), .inl [((.ofNat (nat_lit 17)), (.ofNat (nat_lit 17)), (nat_lit 1))])
def lcn_655 : Nat × aAg := ((nat_lit 2), .inl [((.ofNat (nat_lit 18)), (.ofNat (nat_lit 18)), (nat_lit 1))])
def lcn_656 : Nat × aAg := ((nat_lit 2), .inl [((.ofNat (nat_lit 19)), (.ofNat (nat_lit 19)), (nat_lit 1))])
def lcn_657 : Nat × aAg := ((nat_lit 2), .inl [((.ofNat (nat_lit 20)), (.ofNat (nat_lit 20)), (nat_lit 1))])
def lcn_658 : Nat × aAg := ((nat_lit 2), .inl [((.ofNat (nat_lit 21)), (.ofNat (nat_lit 21)), (nat_lit 1))])
def lcn_659 : Nat × aAg := ((nat_lit 2), .inl [((.ofNat (nat_lit 22)), (.ofNat (nat_lit 22)), (nat_lit 1))])
def lcn_660 : Nat × aAg := ((nat_lit 2), .inl [((.ofNat (nat_lit 23)), (.ofNat (nat_lit 23)), (nat_lit 1))])
def lcn_661 : Nat × aAg := ((nat_lit 2), .inl [((.ofNat (nat_lit 24)), (.ofNat (nat_lit 24)), (nat_lit 1))])
def lcn_662 : Nat × aAg := ((nat_lit 2), .inl [((.ofNat (nat_lit 25)), (.ofNat (nat_lit 25)), (nat_lit 1))])
def lcn_663 : Nat × aAg := ((nat_lit 2), .inl [((.ofNat (nat_lit 26)), (.ofNat (nat_lit 26)), (nat_lit 1))])
def lcn_664 : Nat × aAg := ((nat_lit 2), .inl [((.ofNat (nat_lit 27)), (.ofNat (nat_lit 27)), (nat_lit 1))])
def lcn_665 : Nat × aAg := ((nat_lit 2), .inl [((.ofNat (nat_lit 28)), (.ofNat (nat_lit 28)), (nat_lit 1))])
def lcn_666 : Nat × aAg := ((nat_lit 2), .inl [((.ofNat (nat_lit 29)), (.ofNat (nat_lit 29)), (nat_lit 1))])
def lcn_667 : Nat × aAg := ((nat_lit 2), .inl [((.ofNat (nat_lit 30)), (.ofNat (nat_lit 30)), (nat_lit 1))])
def lcn_668 : Nat × aAg := ((nat_lit 2), .inl [((.ofNat (nat_lit 31)), (.ofNat (nat_lit 31)), (nat_lit 1))])
def lcn_669 : Nat × aAg := ((nat_lit 2), .inl [((.ofNat (nat_lit 32)), (.ofNat (nat_lit 32)), (nat_lit 1))])
def lcn_670 : Nat × aAg := ((nat_lit 2), .inl [((.ofNat (nat_lit 33)), (.ofNat (nat_lit 33)), (nat_lit 1))])
def lcn_671 : Nat × aAg := ((nat_lit 2), .inl [((.ofNat (nat_lit 34)), (.ofNat (nat_lit 34)), (nat_lit 1))])
def lcn_672 : Nat × aAg := ((nat_lit 2), .inl [((.ofNat (nat_lit 35)), (.ofNat (nat_lit 35)), (nat_lit 1))])
def lcn_673 : Nat × aAg := ((nat_lit 2), .inl [((.ofNat (nat_lit 36)), (.ofNat (nat_lit 36)), (nat_lit 1))])
def lcn_674 : Nat × aAg := ((nat_lit 2), .inl [((.ofNat (nat_lit 37)), (.ofNat (nat_lit 37)), (nat_lit 1))])
def lcn_675 : Nat × aAg := ((nat_lit 2), .inl [((.ofNat (nat_lit 38)), (.ofNat (nat_lit 38)), (nat_lit 1))])
def lcn_676 : Nat × aAg := ((nat_lit 2), .inl [((.ofNat (nat_lit 39)), (.ofNat (nat_lit 39)), (nat_lit 1))])
def lcn_677 : Nat × aAg := ((nat_lit 2), .inl [((.ofNat (nat_lit 40)), (.ofNat (nat_lit 40)), (nat_lit 1))])
def lcn_678 : Nat × aAg := ((nat_lit 2), .inl [((.ofNat (nat_lit 41)), (.ofNat (nat_lit 41)), (nat_lit 1))])
def lcn_679 : Nat × aAg := ((nat_lit 2), .inl [((.ofNat (nat_lit 42)), (.ofNat (nat_lit 42)), (nat_lit 1))])
def lcn_680 : Nat × aAg := ((nat_lit 2), .inl [((.ofNat (nat_lit 43)), (.ofNat (nat_lit 43)), (nat_lit 1))])
def lcn_681 : Nat × aAg := ((nat_lit 2), .inl [((.ofNat (nat_lit 44)), (.ofNat (nat_lit 44)), (nat_lit 1))])
def lcn_682 : Nat × aAg := ((nat_lit 2), .inl [((.ofNat (nat_lit 45)), (.ofNat (nat_lit 45)), (nat_lit 1))])
def lcn_683 : Nat × aAg := ((nat_lit 2), .inl [((.ofNat (nat_lit 46)), (.ofNat (nat_lit 46)), (nat_lit 1))])
def lcn_684 : Nat × aAg := ((nat_lit 2), .inl [((.ofNat (nat_lit 47)), (.ofNat (nat_lit 47)), (nat_lit 1))])
def lcn_685 : Nat × aAg := ((nat_lit 2), .inl [((.ofNat (nat_lit 48)), (.ofNat (nat_lit 48)), (nat_lit 1))])
def lcn_686 : Nat × aAg := ((nat_lit 2), .inl [((.ofNat (nat_lit 49)), (.ofNat (nat_lit 49)), (nat_lit 1))])
def lcn_687 : Nat × aAg := ((nat_lit 2), .inl [((.ofNat (nat_lit 51)), (.ofNat (nat_lit 51)), (nat_lit 1))])
def lcn_688 : Nat × aAg := ((nat_lit 2), .inl [((.ofNat (nat_lit 52)), (.ofNat (nat_lit 52)), (nat_lit 1))])
def lcn_689 : Nat × aAg := ((nat_lit 2), .inl [((.ofNat (nat_lit 53)), (.ofNat (nat_lit 53)), (nat_lit 1))])
def lcn_690 : Nat × aAg := ((nat_lit 2), .inl [((.ofNat (nat_lit 54)), (.ofNat (nat_lit 54)), (nat_lit 1))])
def lcn_691 : Nat × aAg := ((nat_lit 2), .inl [((.ofNat (nat_lit 55)), (.ofNat (nat_lit 55)), (nat_lit 1))])
def lcn_692 : Nat × aAg := ((nat_lit 2), .inl [((.ofNat (nat_lit 56)), (.ofNat (nat_lit 56)), (nat_lit 1))])
def lcn_693 : Nat × aAg := ((nat_lit 2), .inl [((.ofNat (nat_lit 58)), (.ofNat (nat_lit 58)), (nat_lit 1))])
def lcn_694 : Nat × aAg := ((nat_lit 2), .inl [((.ofNat (nat_lit 59)), (.ofNat (nat_lit 59)), (nat_lit 1))])
def lcn_695 : Nat × aAg := ((nat_lit 2), .inl [((.ofNat (nat_lit 60)), (.ofNat (nat_lit 60)), (nat_lit 1))])
def lcn_696 : Nat × aAg := ((nat_lit 2), .inl [((.ofNat (nat_lit 61)), (.ofNat (nat_lit 61)), (nat_lit 1))])
def lcn_697 : Nat × aAg := ((nat_lit 2), .inl [((.ofNat (nat_lit 62)), (.ofNat (nat_lit 62)), (nat_lit 1))])
def lcn_698 : Nat × aAg := ((nat_lit 2), .inl [((.ofNat (nat_lit 63)), (.ofNat (nat_lit 63)), (nat_lit 1))])
def lcn_699 : Nat × aAg := ((nat_lit 2), .inl [((.ofNat (nat_lit 64)), (.ofNat (nat_lit 64)), (nat_lit 1))])
def lcn_700 : Nat × aAg := ((nat_lit 2), .inl [((.ofNat (nat_lit 65)), (.ofNat (nat_lit 65)), (nat_lit 1))])
def lcn_701 : Nat × aAg := ((nat_lit 2), .inl [((.ofNat (nat_lit 66)), (.ofNat (nat_lit 66)), (nat_lit 1))])
def lcn_702 : Nat × aAg := ((nat_lit 2), .inl [((.ofNat (nat_lit 67)), (.ofNat (nat_lit 67)), (nat_lit 1))])
def lcn_703 : Nat × aAg := ((nat_lit 2), .inl [((.ofNat (nat_lit 68)), (.ofNat (nat_lit 68)), (nat_lit 1))])
def lcn_704 : Nat × aAg := ((nat_lit 2), .inl [((.ofNat (nat_lit 69)), (.ofNat (nat_lit 69)), (nat_lit 1))])
def lcn_705 : Nat × aAg := ((nat_lit 2), .inl [((.ofNat (nat_lit 70)), (.ofNat (nat_lit 70)), (nat_lit 1))])
def lcn_706 : Nat × aAg := ((nat_lit 2), .inl [((.ofNat (nat_lit 71)), (.ofNat (nat_lit 71)), (nat_lit 1))])
def lcn_707 : Nat × aAg := ((nat_lit 2), .inl [((.ofNat (nat_lit 72)), (.ofNat (nat_lit 72)), (nat_lit 1))])
def lcn_708 : Nat × aAg := ((nat_lit 2), .inl [((.ofNat (nat_lit 73)), (.ofNat (nat_lit 73)), (nat_lit 1))])
def lcn_709 : Nat × aAg := ((nat_lit 2), .inl [((.ofNat (nat_lit 74)), (.ofNat (nat_lit 74)), (nat_lit 1))])
def lcn_710 : Nat × aAg := ((nat_lit 2), .inl [((.ofNat (nat_lit 75)), (.ofNat (nat_lit 75)), (nat_lit 1))])
def lcn_711 : Nat × aAg := ((nat_lit 2), .inl [((.ofNat (nat_lit 76)), (.ofNat (nat_lit 76)), (nat_lit 1))])
def lcn_712 : Nat × aAg := ((nat_lit 2), .inl [((.ofNat (nat_lit 77)), (.ofNat (nat_lit 77)), (nat_lit 1))])
def lcn_713 : Nat × aAg := ((nat_lit 2), .inl [((.ofNat (nat_lit 78)), (.ofNat (nat_lit 78)), (nat_lit 1))])
def lcn_714 : Nat × aAg := ((nat_lit 2), .inl [((.ofNat (nat_lit 79)), (.ofNat (nat_lit 79)), (nat_lit 1))])
def lcn_715 : Nat × aAg := ((nat_lit 2), .inl [((.ofNat (nat_lit 80)), (.ofNat (nat_lit 80)), (nat_lit 1))])
def lcn_716 : Nat × aAg := ((nat_lit 2), .inl [((.ofNat (nat_lit 81)), (.ofNat (nat_lit 81)), (nat_lit 1))])
def lcn_717 : Nat × aAg := ((nat_lit 2), .inl [((.ofNat (nat_lit 82)), (.ofNat (nat_lit 82)), (nat_lit 1))])
def lcn_718 : Nat × aAg := ((nat_lit 2), .inl [((.ofNat (nat_lit 83)), (.ofNat (nat_lit 83)), (nat_lit 1))])
def lcn_719 : Nat × aAg := ((nat_lit 2), .inl [((.ofNat (nat_lit 84)), (.ofNat (nat_lit 84)), (nat_lit 1))])
def lcn_720 : Nat × aAg := ((nat_lit 2), .inl [((.ofNat (nat_lit 85)), (.ofNat (nat_lit 85)), (nat_lit 1))])
def lcn_721 : Nat × aAg := ((nat_lit 2), .inl [((.ofNat (nat_lit 86)), (.ofNat (nat_lit 86)), (nat_lit 1))])
def lcn_722 : Nat × aAg := ((nat_lit 2), .inl [((.ofNat (nat_lit 87)), (.ofNat (nat_lit 87)), (nat_lit 1))])
def lcn_723 : Nat × aAg := ((nat_lit 2), .inl [((.ofNat (nat_lit 88)), (.ofNat (nat_lit 88)), (nat_lit 1))])
def lcn_724 : Nat × aAg := ((nat_lit 2), .inl [((.ofNat (nat_lit 89)), (.ofNat (nat_lit 89)), (nat_lit 1))])
def lcn_725 : Nat × aAg := ((nat_lit 2), .inl [((.ofNat (nat_lit 90)), (.ofNat (nat_lit 90)), (nat_lit 1))])
def lcn_726 : Nat × aAg := ((nat_lit 2), .inl [((.ofNat (nat_lit 91)), (.ofNat (nat_lit 91)), (nat_lit 1))])
def lcn_727 : Nat × aAg := ((nat_lit 2), .inl [((.ofNat (nat_lit 92)), (.ofNat (nat_lit 92)), (nat_lit 1))])
def lcn_728 : Nat × aAg := ((nat_lit 2), .inl [((.ofNat (nat_lit 93)), (.ofNat (nat_lit 93)), (nat_lit 1))])
def lcn_729 : Nat × aAg := ((nat_lit 2), .inl [((.ofNat (nat_lit 94)), (.ofNat (nat_lit 94)), (nat_lit 1))])
def lcn_730 : Nat × aAg := ((nat_lit 2), .inl [((.ofNat (nat_lit 95)), (.ofNat (nat_lit 95)), (nat_lit 1))])
def lcn_731 : Nat × aAg := ((nat_lit 2), .inl [((.ofNat (nat_lit 96)), (.ofNat (nat_lit 96)), (nat_lit 1))])
def lcn_732 : Nat × aAg := ((nat_lit 2), .inl [((.ofNat (nat_lit 97)), (.ofNat (nat_lit 97)), (nat_lit 1))])
def lcn_733 : Nat × aAg := ((nat_lit 2), .inl [((.ofNat (nat_lit 98)), (.ofNat (nat_lit 98)), (nat_lit 1))])
def lcn_734 : Nat × aAg := ((nat_lit 2), .inl [((.ofNat (nat_lit 101)), (.ofNat (nat_lit 101)), (nat_lit 1))])
def lcn_735 : Nat × aAg := ((nat_lit 2), .inl [((.ofNat (nat_lit 102)), (.ofNat (nat_lit 102)), (nat_lit 1))])
def lcn_736 : Nat × aAg := ((nat_lit 2), .inl [((.ofNat (nat_lit 103)), (.ofNat (nat_lit 103)), (nat_lit 1))])
def lcn_737 : Nat × aAg := ((nat_lit 2), .inl [((.ofNat (nat_lit 104)), (.ofNat (nat_lit 104)), (nat_lit 1))])
def lcn_738 : Nat × aAg := ((nat_lit 2), .inl [((.ofNat (nat_lit 105)), (.ofNat (nat_lit 105)), (nat_lit 1))])
def lcn_739 : Nat × aAg := ((nat_lit 2), .inl [((.ofNat (nat_lit 106)), (.ofNat (nat_lit 106)), (nat_lit 1))])
def lcn_740 : Nat × aAg := ((nat_lit 2), .inl [((.ofNat (nat_lit 107)), (.ofNat (nat_lit 107)), (nat_lit 1))])
def lcn_741 : Nat × aAg := ((nat_lit 2), .inl [((.ofNat (nat_lit 108)), (.ofNat (nat_lit 108)), (nat_lit 1))])
def lcn_742 : Nat × aAg := ((nat_lit 2), .inl [((.ofNat (nat_lit 109)), (.ofNat (nat_lit 109)), (nat_lit 1))])
def lcn_743 : Nat × aAg := ((nat_lit 2), .inl [((.ofNat (nat_lit 110)), (.ofNat (nat_lit 110)), (nat_lit 1))])
def lcn_744 : Nat × aAg := ((nat_lit 2), .inl [((.ofNat (nat_lit 111)), (.ofNat (nat_lit 111)), (nat_lit 1))])
def lcn_745 : Nat × aAg := ((nat_lit 2), .inl [((.ofNat (nat_lit 112)), (.ofNat (nat_lit 112)), (nat_lit 1))])
def lcn_746 : Nat × aAg := ((nat_lit 2), .inl [((.ofNat (nat_lit 113)), (.ofNat (nat_lit 113)), (nat_lit 1))])
def lcn_747 : Nat × aAg := ((nat_lit 2), .inl [((.ofNat (nat_lit 114)), (.ofNat (nat_lit 114)), (nat_lit 1))])
def lcn_748 : Nat × aAg := ((nat_lit 2), .inl [((.ofNat (nat_lit 115)), (.ofNat (nat_lit 115)), (nat_lit 1))])
def lcn_749 : Nat × aAg := ((nat_lit 2), .inl [((.ofNat (nat_lit 116)), (.ofNat (nat_lit 116)), (nat_lit 1))])
def lcn_750 : Nat × aAg := ((nat_lit 2), .inl [((.ofNat (nat_lit 117)), (.ofNat (nat_lit 117)), (nat_lit 1))])
def lcn_751 : Nat × aAg := ((nat_lit 2), .inl [((.ofNat (nat_lit 118)), (.ofNat (nat_lit 118)), (nat_lit 1))])
def lcn_752 : Nat × aAg := ((nat_lit 2), .inl [((.ofNat (nat_lit 119)), (.ofNat (nat_lit 119)), (nat_lit 1))])
def lcn_753 : Nat × aAg := ((nat_lit 2), .inl [((.ofNat (nat_lit 120)), (.ofNat (nat_lit 120)), (nat_lit 1))])
def lcn_754 : Nat × aAg := ((nat_lit 2), .inl [((.ofNat (nat_lit 121)), (.ofNat (nat_lit 121)), (nat_lit 1))])
def lcn_755 : Nat × aAg := ((nat_lit 2), .inl [((.ofNat (nat_lit 123)), (.ofNat (nat_lit 123)), (nat_lit 1))])
def lcn_756 : Nat × aAg := ((nat_lit 2), .inl [((.ofNat (nat_lit 124)), (.ofNat (nat_lit 124)), (nat_lit 1))])
def lcn_757 : Nat × aAg := ((nat_lit 2), .inl [((.ofNat (nat_lit 125)), (.ofNat (nat_lit 125)), (nat_lit 1))])
def lcn_758 : Nat × aAg := ((nat_lit 2), .inl [((.ofNat (nat_lit 126)), (.ofNat (nat_lit 126)), (nat_lit 1))])
def lcn_759 : Nat × aAg := ((nat_lit 2), .inl [((.ofNat (nat_lit 127)), (.ofNat (nat_lit 127)), (nat_lit 1))])
def lcn_760 : Nat × aAg := ((nat_lit 2), .inl [((.ofNat (nat_lit 128)), (.ofNat (nat_lit 128)), (nat_lit 1))])
def lcn_761 : Nat × aAg := ((nat_lit 2), .inl [((.ofNat (nat_lit 129)), (.ofNat (nat_lit 129)), (nat_lit 1))])
def lcn_762 : Nat × aAg := ((nat_lit 2), .inl [((.ofNat (nat_lit 130)), (.ofNat (nat_lit 130)), (nat_lit 1))])
def lcn_763 : Nat × aAg := ((nat_lit 2), .inl [((.ofNat (nat_lit 131)), (.ofNat (nat_lit 131)), (nat_lit 1))])
def lcn_764 : Nat × aAg := ((nat_lit 2), .inl [((.ofNat (nat_lit 132)), (.ofNat (nat_lit 132)), (nat_lit 1))])
def lcn_765 : Nat × aAg := ((nat_lit 2), .inl [((.ofNat (nat_lit 133)), (.ofNat (nat_lit 133)), (nat_lit 1))])
def lcn_766 : Nat × aAg := ((nat_lit 2), .inl [((.ofNat (nat_lit 134)), (.ofNat (nat_lit 134)), (nat_lit 1))])
def lcn_767 : Nat × aAg := ((nat_lit 2), .inl [((.ofNat (nat_lit 135)), (.ofNat (nat_lit 135)), (nat_lit 1))])
def lcn_768 : Nat × aAg := ((nat_lit 2), .inl [((.ofNat (nat_lit 136)), (.ofNat (nat_lit 136)), (nat_lit 1))])
def lcn_769 : Nat × aAg := ((nat_lit 2), .inl [((.ofNat (nat_lit 137)), (.ofNat (nat_lit 137)), (nat_lit 1))])
def lcn_770 : Nat × aAg := ((nat_lit 2), .inl [((.ofNat (nat_lit 138)), (.ofNat (nat_lit 138)), (nat_lit 1))])
def lcn_771 : Nat × aAg := ((nat_lit 2), .inl [((.ofNat (nat_lit 139)), (.ofNat (nat_lit 139)), (nat_lit 1))])
def lcn_772 : Nat × aAg := ((nat_lit 2), .inl [((.ofNat (nat_lit 140)), (.ofNat (nat_lit 140)), (nat_lit 1))])
def lcn_773 : Nat × aAg := ((nat_lit 2), .inl [((.ofNat (nat_lit 141)), (.ofNat (nat_lit 141)), (nat_lit 1))])
def lcn_774 : Nat × aAg := ((nat_lit 2), .inl [((.ofNat (nat_lit 142)), (.ofNat (nat_lit 142)), (nat_lit 1))])
def lcn_775 : Nat × aAg := ((nat_lit 2), .inl [((.ofNat (nat_lit 143)), (.ofNat (nat_lit 143)), (nat_lit 1))])
def lcn_776 : Nat × aAg := ((nat_lit 2), .inl [((.ofNat (nat_lit 144)), (.ofNat (nat_lit 144)), (nat_lit 1))])
def lcn_777 : Nat × aAg := ((nat_lit 2), .inl [((.ofNat (nat_lit 145)), (.ofNat (nat_lit 145)), (nat_lit 1))])
def lcn_778 : Nat × aAg := ((nat_lit 2), .inl [((.ofNat (nat_lit 146)), (.ofNat (nat_lit 146)), (nat_lit 1))])
def lcn_779 : Nat × aAg := ((nat_lit 2), .inl [((.ofNat (nat_lit 147)), (.ofNat (nat_lit 147)), (nat_lit 1))])
def lcn_780 : Nat × aAg := ((nat_lit 2), .inl [((.ofNat (nat_lit 148)), (.ofNat (nat_lit 148)), (nat_lit 1))])
def lcn_781 : Nat × aAg := ((nat_lit 2), .inl [((.ofNat (nat_lit 149)), (.ofNat (nat_lit 149)), (nat_lit 1))])
def lcn_782 : Nat × aAg := ((nat_lit 2), .inl [((.ofNat (nat_lit 150)), (.ofNat (nat_lit 150)), (nat_lit 1))])
def lcn_783 : Nat × aAg := ((nat_lit 2), .inl [((.ofNat (nat_lit 151)), (.ofNat (nat_lit 151)), (nat_lit 1))])
def lcn_784 : Nat × aAg := ((nat_lit 2), .inl [((.ofNat (nat_lit 152)), (.ofNat (nat_lit 152)), (nat_lit 1))])
def lcn_785 : Nat × aAg := ((nat_lit 2), .inl [((.ofNat (nat_lit 153)), (.ofNat (nat_lit 153)), (nat_lit 1))])
def lcn_786 : Nat × aAg := ((nat_lit 2), .inl [((.ofNat (nat_lit 154)), (.ofNat (nat_lit 154)), (nat_lit 1))])
def lcn_787 : Nat × aAg := ((nat_lit 2), .inl [((.ofNat (nat_lit 155)), (.ofNat (nat_lit 155)), (nat_lit 1))])
def lcn_788 : Nat × aAg := ((nat_lit 2), .inl [((.ofNat (nat_lit 156)), (.ofNat (nat_lit 156)), (nat_lit 1))])
def lcn_789 : Nat × aAg := ((nat_lit 2), .inl [((.ofNat (nat_lit 157)), (.ofNat (nat_lit 157)), (nat_lit 1))])
def lcn_790 : Nat × aAg := ((nat_lit 2), .inl [((.ofNat (nat_lit 158)), (.ofNat (nat_lit 158)), (nat_lit 1))])
def lcn_791 : Nat × aAg := ((nat_lit 2), .inl [((.ofNat (nat_lit 159)), (.ofNat (nat_lit 159)), (nat_lit 1))])
def lcn_792 : Nat × aAg := ((nat_lit 2), .inl [((.ofNat (nat_lit 160)), (.ofNat (nat_lit 160)), (nat_lit 1))])
def lcn_793 : Nat × aAg := ((nat_lit 2), .inl [((.ofNat (nat_lit 161)), (.ofNat (nat_lit 161)), (nat_lit 1))])
def lcn_794 : Nat × aAg := ((nat_lit 2), .inl [((.ofNat (nat_lit 162)), (.ofNat (nat_lit 162)), (nat_lit 1))])
def lcn_795 : Nat × aAg := ((nat_lit 2), .inl [((.ofNat (nat_lit 163)), (.ofNat (nat_lit 163)), (nat_lit 1))])
def lcn_796 : Nat × aAg := ((nat_lit 2), .inl [((.ofNat (nat_lit 164)), (.ofNat (nat_lit 164)), (nat_lit 1))])
def lcn_797 : Nat × aAg := ((nat_lit 2), .inl [((.ofNat (nat_lit 165)), (.ofNat (nat_lit 165)), (nat_lit 1))])
def lcn_798 : Nat × aAg := ((nat_lit 2), .inl [((.ofNat (nat_lit 166)), (.ofNat (nat_lit 166)), (nat_lit 1))])
def lcn_799 : Nat × aAg := ((nat_lit 2), .inl [((.ofNat (nat_lit 167)), (.ofNat (nat_lit 167)), (nat_lit 1))])
def lcn_800 : Nat × aAg := ((nat_lit 2), .inl [((.ofNat (nat_lit 168)), (.ofNat (nat_lit 168)), (nat_lit 1))])
def lcn_801 : Nat × aAg := ((nat_lit 2), .inl [((.ofNat (nat_lit 169)), (.ofNat (nat_lit 169)), (nat_lit 1))])
def lcn_802 : Nat × aAg := ((nat_lit 2), .inl [((.ofNat (nat_lit 170)), (.ofNat (nat_lit 170)), (nat_lit 1))])
def lcn_803 : Nat × aAg := ((nat_lit 2), .inl [((.ofNat (nat_lit 171)), (.ofNat (nat_lit 171)), (nat_lit 1))])
def lcn_804 : Nat × aAg := ((nat_lit 2), .inl [((.ofNat (nat_lit 172)), (.ofNat (nat_lit 172)), (nat_lit 1))])
def lcn_805 : Nat × aAg := ((nat_lit 2), .inl [((.ofNat (nat_lit 173)), (.ofNat (nat_lit 173)), (nat_lit 1))])
def lcn_806 : Nat × aAg := ((nat_lit 2), .inl [((.ofNat (nat_lit 174)), (.ofNat (nat_lit 174)), (nat_lit 1))])
def lcn_807 : Nat × aAg := ((nat_lit 2), .inl [((.ofNat (nat_lit 175)), (.ofNat (nat_lit 175)), (nat_lit 1))])
def lcn_808 : Nat × aAg := ((nat_lit 2), .inl [((.ofNat (nat_lit 176)), (.ofNat (nat_lit 176)), (nat_lit 1))])
def lcn_809 : Nat × aAg := ((nat_lit 2), .inl [((.ofNat (nat_lit 177)), (.ofNat (nat_lit 177)), (nat_lit 1))])
def lcn_810 : Nat × aAg := ((nat_lit 2), .inl [((.ofNat (nat_lit 178)), (.ofNat (nat_lit 178)), (nat_lit 1))])
def lcn_811 : Nat × aAg := ((nat_lit 2), .inl [((.ofNat (nat_lit 179)), (.ofNat (nat_lit 179)), (nat_lit 1))])
def lcn_812 : Nat × aAg := ((nat_lit 2), .inl [((.ofNat (nat_lit 180)), (.ofNat (nat_lit 180)), (nat_lit 1))])
def lcn_813 : Nat × aAg := ((nat_lit 2), .inl [((.ofNat (nat_lit 181)), (.ofNat (nat_lit 181)), (nat_lit 1))])
def lcn_814 : Nat × aAg := ((nat_lit 2), .inl [((.ofNat (nat_lit 182)), (.ofNat (nat_lit 182)), (nat_lit 1))])
def lcn_815 : Nat × aAg := ((nat_lit 2), .inl [((.ofNat (nat_lit 183)), (.ofNat (nat_lit 183)), (nat_lit 1))])
def lcn_816 : Nat × aAg := ((nat_lit 2), .inl [((.ofNat (nat_lit 184)), (.ofNat (nat_lit 184)), (nat_lit 1))])
def lcn_817 : Nat × aAg := ((nat_lit 2), .inl [((.ofNat (nat_lit 185)), (.ofNat (nat_lit 185)), (nat_lit 1))])
def lcn_818 : Nat × aAg := ((nat_lit 2), .inl [((.ofNat (nat_lit 186)), (.ofNat (nat_lit 186)), (nat_lit 1))])
def lcn_819 : Nat × aAg := ((nat_lit 2), .inl [((.ofNat (nat_lit 187)), (.ofNat (nat_lit 187)), (nat_lit 1))])
def lcn_820 : Nat × aAg := ((nat_lit 2), .inl [((.ofNat (nat_lit 188)), (.ofNat (nat_lit 188)), (nat_lit 1))])
def lcn_821 : Nat × aAg := ((nat_lit 2), .inl [((.ofNat (nat_lit 189)), (.ofNat (nat_lit 189)), (nat_lit 1))])
def lcn_822 : Nat × aAg := ((nat_lit 2), .inl [((.ofNat (nat_lit 190)), (.ofNat (nat_lit 190)), (nat_lit 1))])
def lcn_823 : Nat × aAg := ((nat_lit 2), .inl [((.ofNat (nat_lit 191)), (.ofNat (nat_lit 191)), (nat_lit 1))])
def lcn_824 : Nat × aAg := ((nat_lit 2), .inl [((.ofNat (nat_lit 192)), (.ofNat (nat_lit 192)), (nat_lit 1))])
def lcn_825 : Nat × aAg := ((nat_lit 2), .inl [((.ofNat (nat_lit 193)), (.ofNat (nat_lit 193)), (nat_lit 1))])
def lcn_826 : Nat × aAg := ((nat_lit 2), .inl [((.ofNat (nat_lit 194)), (.ofNat (nat_lit 194)), (nat_lit 1))])
def lcn_827 : Nat × aAg := ((nat_lit 2), .inl [((.ofNat (nat_lit 195)), (.ofNat (nat_lit 195)), (nat_lit 1))])
def lcn_828 : Nat × aAg := ((nat_lit 2), .inl [((.ofNat (nat_lit 196)), (.ofNat (nat_lit 196)), (nat_lit 1))])
def lcn_829 : Nat × aAg := ((nat_lit 2), .inl [((.ofNat (nat_lit 197)), (.ofNat (nat_lit 197)), (nat_lit 1))])
def lcn_830 : Nat × aAg := ((nat_lit 2), .inl [((.ofNat (nat_lit 198)), (.ofNat (nat_lit 198)), (nat_lit 1))])
def lcn_831 : Nat × aAg := ((nat_lit 2), .inl [((.ofNat (nat_lit 199)), (.ofNat (nat_lit 199)), (nat_lit 1))])
def lcn_832 : Nat × aAg := ((nat_lit 2), .inl [((.ofNat (nat_lit 200)), (.ofNat (nat_lit 200)), (nat_lit 1))])
def lcn_833 : Nat × aAg := ((nat_lit 2), .inl [((.ofNat (nat_lit 201)), (.ofNat (nat_lit 201)), (nat_lit 1))])
def lcn_834 : Nat × aAg := ((nat_lit 2), .inl [((.ofNat (nat_lit 202)), (.ofNat (nat_lit 202)), (nat_lit 1))])
def lcn_835 : Nat × aAg := ((nat_lit 2), .inl [((.ofNat (nat_lit 203)), (.ofNat (nat_lit 203)), (nat_lit 1))])
def lcn_836 : Nat × aAg := ((nat_lit 2), .inl [((.ofNat (nat_lit 204)), (.ofNat (nat_lit 204)), (nat_lit 1))])
def lcn_837 : Nat × aAg := ((nat_lit 2), .inl [((.ofNat (nat_lit 205)), (.ofNat (nat_lit 205)), (nat_lit 1))])
def lcn_838 : Nat × aAg := ((nat_lit 2), .inl [((.ofNat (nat_lit 206)), (.ofNat (nat_lit 206)), (nat_lit 1))])
def lcn_839 : Nat × aAg := ((nat_lit 2), .inl [((.ofNat (nat_lit 207)), (.ofNat (nat_lit 207)), (nat_lit 1))])
def lcn_840 : Nat × aAg := ((nat_lit 2), .inl [((.ofNat (nat_lit 208)), (.ofNat (nat_lit 208)), (nat_lit 1))])
def lcn_841 : Nat × aAg := ((nat_lit 2), .inl [((.ofNat (nat_lit 209)), (.ofNat (nat_lit 209)), (nat_lit 1))])
def lcn_842 : Nat × aAg := ((nat_lit 2), .inl [((.ofNat (nat_lit 210)), (.ofNat (nat_lit 210)), (nat_lit 1))])
def lcn_843 : Nat × aAg := ((nat_lit 2), .inl [((.ofNat (nat_lit 211)), (.ofNat (nat_lit 211)), (nat_lit 1))])
def lcn_844 : Nat × aAg := ((nat_lit 2), .inl [((.ofNat (nat_lit 212)), (.ofNat (nat_lit 212)), (nat_lit 1))])
def lcn_845 : Nat × aAg := ((nat_lit 2), .inl [((.ofNat (nat_lit 213)), (.ofNat (nat_lit 213)), (nat_lit 1))])
def lcn_846 : Nat × aAg := ((nat_lit 2), .inl [((.ofNat (nat_lit 214)), (.ofNat (nat_lit 214)), (nat_lit 1))])
def lcn_847 : Nat × aAg := ((nat_lit 2), .inl [((.ofNat (nat_lit 215)), (.ofNat (nat_lit 215)), (nat_lit 1))])
def lcn_848 : Nat × aAg := ((nat_lit 2), .inl [((.ofNat (nat_lit 216)), (.ofNat (nat_lit 216)), (nat_lit 1))])
def lcn_849 : Nat × aAg := ((nat_lit 2), .inl [((.ofNat (nat_lit 217)), (.ofNat (nat_lit 217)), (nat_lit 1))])
def lcn_850 : Nat × aAg := ((nat_lit 2), .inl [((.ofNat (nat_lit 218)), (.ofNat (nat_lit 218)), (nat_lit 1))])
def lcn_851 : Nat × aAg := ((nat_lit 2), .inl [((.ofNat (nat_lit 219)), (.ofNat (nat_lit 219)), (nat_lit 1))])
def lcn_852 : Nat × aAg := ((nat_lit 2), .inl [((.ofNat (nat_lit 220)), (.ofNat (nat_lit 220)), (nat_lit 1))])
def lcn_853 : Nat × aAg := ((nat_lit 2), .inl [((.ofNat (nat_lit 221)), (.ofNat (nat_lit 221)), (nat_lit 1))])
def lcn_854 : Nat × aAg := ((nat_lit 2), .inl [((.ofNat (nat_lit 222)), (.ofNat (nat_lit 222)), (nat_lit 1))])
def lcn_855 : Nat × aAg := ((nat_lit 2), .inl [((.ofNat (nat_lit 223)), (.ofNat (nat_lit 223)), (nat_lit 1))])
def lcn_856 : Nat × aAg := ((nat_lit 2), .inl [((.ofNat (nat_lit 224)), (.ofNat (nat_lit 224)), (nat_lit 1))])
def lcn_857 : Nat × aAg := ((nat_lit 2), .inl [((.ofNat (nat_lit 225)), (.ofNat (nat_lit 225)), (nat_lit 1))])
def lcn_858 : Nat × aAg := ((nat_lit 2), .inl [((.ofNat (nat_lit 226)), (.ofNat (nat_lit 226)), (nat_lit 1))])
def lcn_859 : Nat × aAg := ((nat_lit 2), .inl [((.ofNat (nat_lit 227)), (.ofNat (nat_lit 227)), (nat_lit 1))])
def lcn_860 : Nat × aAg := ((nat_lit 2), .inl [((.ofNat (nat_lit 228)), (.ofNat (nat_lit 228)), (nat_lit 1))])
def lcn_861 : Nat × aAg := ((nat_lit 2), .inl [((.ofNat (nat_lit 229)), (.ofNat (nat_lit 229)), (nat_lit 1))])
def lcn_862 : Nat × aAg := ((nat_lit 2), .inl [((.ofNat (nat_lit 230)), (.ofNat (nat_lit 230)), (nat_lit 1))])
def lcn_863 : Nat × aAg := ((nat_lit 2), .inl [((.ofNat (nat_lit 231)), (.ofNat (nat_lit 231)), (nat_lit 1))])
def lcn_864 : Nat × aAg := ((nat_lit 2), .inl [((.ofNat (nat_lit 232)), (.ofNat (nat_lit 232)), (nat_lit 1))])
def lcn_865 : Nat × aAg := ((nat_lit 2), .inl [((.ofNat (nat_lit 233)), (.ofNat (nat_lit 233)), (nat_lit 1))])
def lcn_866 : Nat × aAg := ((nat_lit 2), .inl [((.ofNat (nat_lit 234)), (.ofNat (nat_lit 234)), (nat_lit 1))])
def lcn_867 : Nat × aAg := ((nat_lit 2), .inl [((.ofNat (nat_lit 235)), (.ofNat (nat_lit 235)), (nat_lit 1))])
def lcn_868 : Nat × aAg := ((nat_lit 2), .inl [((.ofNat (nat_lit 236)), (.ofNat (nat_lit 236)), (nat_lit 1))])
def lcn_869 : Nat × aAg := ((nat_lit 2), .inl [((.ofNat (nat_lit 237)), (.ofNat (nat_lit 237)), (nat_lit 1))])
def lcn_870 : Nat × aAg := ((nat_lit 2), .inl [((.ofNat (nat_lit 238)), (.ofNat (nat_lit 238)), (nat_lit 1))])
def lcn_871 : Nat × aAg := ((nat_lit 2), .inl [((.ofNat (nat_lit 239)), (.ofNat (nat_lit 239)), (nat_lit 1))])
def lcn_872 : Nat × aAg := ((nat_lit 2), .inl [((.ofNat (nat_lit 240)), (.ofNat (nat_lit 240)), (nat_lit 1))])
def lcn_873 : Nat × aAg := ((nat_lit 2), .inl [((.ofNat (nat_lit 241)), (.ofNat (nat_lit 241)), (nat_lit 1))])
def lcn_874 : Nat × aAg := ((nat_lit 2), .inl [((.ofNat (nat_lit 242)), (.ofNat (nat_lit 242)), (nat_lit 1))])
def lcn_875 : Nat × aAg := ((nat_lit 2), .inl [((.ofNat (nat_lit 243)), (.ofNat (nat_lit 243)), (nat_lit 1))])
def lcn_876 : Nat × aAg := ((nat_lit 2), .inl [((.ofNat (nat_lit 244)), (.ofNat (nat_lit 244)), (nat_lit 1))])
def lcn_877 : Nat × aAg := ((nat_lit 2), .inl [((.ofNat (nat_lit 245)), (.ofNat (nat_lit 245)), (nat_lit 1))])
def lcn_878 : Nat × aAg := ((nat_lit 2), .inl [((.ofNat (nat_lit 246)), (.ofNat (nat_lit 246)), (nat_lit 1))])
def lcn_879 : Nat × aAg := ((nat_lit 2), .inl [((.ofNat (nat_lit 247)), (.ofNat (nat_lit 247)), (nat_lit 1))])
def lcn_880 : Nat × aAg := ((nat_lit 2), .inl [((.ofNat (nat_lit 248)), (.ofNat (nat_lit 248)), (nat_lit 1))])
def lcn_881 : Nat × aAg := ((nat_lit 2), .inl [((.ofNat (nat_lit 249)), (.ofNat (nat_lit 249)), (nat_lit 1))])
def lcn_882 : Nat × aAg := ((nat_lit 2), .inl [((.ofNat (nat_lit 250)), (.ofNat (nat_lit 250)), (nat_lit 1))])
def lcn_883 : Nat × aAg := ((nat_lit 2), .inl [((.ofNat (nat_lit 251)), (.ofNat (nat_lit 251)), (nat_lit 1))])
def lcn_884 : Nat × aAg := ((nat_lit 2), .inl [((.ofNat (nat_lit 252)), (.ofNat (nat_lit 252)), (nat_lit 1))])
def lcn_885 : Nat × aAg := ((nat_lit 2), .inl [((.ofNat (nat_lit 253)), (.ofNat (nat_lit 253)), (nat_lit 1))])
def lcn_886 : Nat × aAg := ((nat_lit 2), .inl [((.ofNat (nat_lit 254)), (.ofNat (nat_lit 254)), (nat_lit 1))])
def lcn_887 : Nat × aAg := ((nat_lit 2), .inl [((.ofNat (nat_lit 255)), (.ofNat (nat_lit 255)), (nat_lit 1))])
def lcn_888 : Nat × aAg := ((nat_lit 2), .inl [((.ofNat (nat_lit 256)), (.ofNat (nat_lit 256)), (nat_lit 1))])
def lcn_889 : Nat × aAg := ((nat_lit 2), .inl [((.ofNat (nat_lit 257)), (.ofNat (nat_lit 257)), (nat_lit 1))])
def lcn_890 : Nat × aAg := ((nat_lit 2), .inl [((.ofNat (nat_lit 258)), (.ofNat (nat_lit 258)), (nat_lit 1))])
def lcn_891 : Nat × aAg := ((nat_lit 2), .inl [((.ofNat (nat_lit 259)), (.ofNat (nat_lit 259)), (nat_lit 1))])
def lcn_892 : Nat × aAg := ((nat_lit 2), .inl [((.ofNat (nat_lit 260)), (.ofNat (nat_lit 260)), (nat_lit 1))])
def lcn_893 : Nat × aAg := ((nat_lit 2), .inl [((.ofNat (nat_lit 261)), (.ofNat (nat_lit 261)), (nat_lit 1))])
def lcn_894 : Nat × aAg := ((nat_lit 2), .inl [((.ofNat (nat_lit 262)), (.ofNat (nat_lit 262)), (nat_lit 1))])
def lcn_895 : Nat × aAg := ((nat_lit 2), .inl [((.ofNat (nat_lit 263)), (.ofNat (nat_lit 263)), (nat_lit 1))])
def lcn_896 : Nat × aAg := ((nat_lit 2), .inl [((.ofNat (nat_lit 264)), (.ofNat (nat_lit 264)), (nat_lit 1))])
def lcn_897 : Nat × aAg := ((nat_lit 2), .inl [((.ofNat (nat_lit 265)), (.ofNat (nat_lit 265)), (nat_lit 1))])
def lcn_898 : Nat × aAg := ((nat_lit 2), .inl [((.ofNat (nat_lit 266)), (.ofNat (nat_lit 266)), (nat_lit 1))])
def lcn_899 : Nat × aAg := ((nat_lit 2), .inl [((.ofNat (nat_lit 267)), (.ofNat (nat_lit 267)), (nat_lit 1))])
def lcn_900 : Nat × aAg := ((nat_lit 2), .inl [((.ofNat (nat_lit 268)), (.ofNat (nat_lit 268)), (nat_lit 1))])
def lcn_901 : Nat × aAg := ((nat_lit 2), .inl [((.ofNat (nat_lit 269)), (.ofNat (nat_lit 269)), (nat_lit 1))])
def lcn_902 : Nat × aAg := ((nat_lit 2), .inl [((.ofNat (nat_lit 270)), (.ofNat (nat_lit 270)), (nat_lit 1))])
def lcn_903 : Nat × aAg := ((nat_lit 2), .inl [((.ofNat (nat_lit 271)), (.ofNat (nat_lit 271)), (nat_lit 1))])
def lcn_904 : Nat × aAg := ((nat_lit 2), .inl [((.ofNat (nat_lit 272)), (.ofNat (nat_lit 272)), (nat_lit 1))])
def lcn_905 : Nat × aAg := ((nat_lit 2), .inl [((.ofNat (nat_lit 273)), (.ofNat (nat_lit 273)), (nat_lit 1))])
def lcn_906 : Nat × aAg := ((nat_lit 2), .inl [((.ofNat (nat_lit 274)), (.ofNat (nat_lit 274)), (nat_lit 1))])
def lcn_907 : Nat × aAg := ((nat_lit 2), .inl [((.ofNat (nat_lit 275)), (.ofNat (nat_lit 275)), (nat_lit 1))])
def lcn_908 : Nat × aAg := ((nat_lit 2), .inl [((.ofNat (nat_lit 276)), (.ofNat (nat_lit 276)), (nat_lit 1))])
def lcn_909 : Nat × aAg := ((nat_lit 2), .inl [((.ofNat (nat_lit 277)), (.ofNat (nat_lit 277)), (nat_lit 1))])
def lcn_910 : Nat × aAg := ((nat_lit 2), .inl [((.ofNat (nat_lit 278)), (.ofNat (nat_lit 278)), (nat_lit 1))])
def lcn_911 : Nat × aAg := ((nat_lit 2), .inl [((.ofNat (nat_lit 279)), (.ofNat (nat_lit 279)), (nat_lit 1))])
def lcn_912 : Nat × aAg := ((nat_lit 2), .inl [((.ofNat (nat_lit 280)), (.ofNat (nat_lit 280)), (nat_lit 1))])
def lcn_913 : Nat × aAg := ((nat_lit 2), .inl [((.ofNat (nat_lit 281)), (.ofNat (nat_lit 281)), (nat_lit 1))])
def lcn_914 : Nat × aAg := ((nat_lit 2), .inl [((.ofNat (nat_lit 282)), (.ofNat (nat_lit 282)), (nat_lit 1))])
def lcn_915 : Nat × aAg := ((nat_lit 2), .inl [((.ofNat (nat_lit 283)), (.ofNat (nat_lit 283)), (nat_lit 1))])
def lcn_916 : Nat × aAg := ((nat_lit 2), .inl [((.ofNat (nat_lit 284)), (.ofNat (nat_lit 284)), (nat_lit 1))])
def lcn_917 : Nat × aAg := ((nat_lit 2), .inl [((.ofNat (nat_lit 285)), (.ofNat (nat_lit 285)), (nat_lit 1))])
def lcn_918 : Nat × aAg := ((nat_lit 2), .inl [((.ofNat (nat_lit 286)), (.ofNat (nat_lit 286)), (nat_lit 1))])
def lcn_919 : Nat × aAg := ((nat_lit 2), .inl [((.ofNat (nat_lit 287)), (.ofNat (nat_lit 287)), (nat_lit 1))])
def lcn_920 : Nat × aAg := ((nat_lit 2), .inl [((.ofNat (nat_lit 288)), (.ofNat (nat_lit 288)), (nat_lit 1))])
def lcn_921 : Nat × aAg := ((nat_lit 2), .inl [((.ofNat (nat_lit 289)), (.ofNat (nat_lit 289)), (nat_lit 1))])
def lcn_922 : Nat × aAg := ((nat_lit 2), .inl [((.ofNat (nat_lit 290)), (.ofNat (nat_lit 290)), (nat_lit 1))])
def lcn_923 : Nat × aAg := ((nat_lit 2), .inl [((.ofNat (nat_lit 291)), (.ofNat (nat_lit 291)), (nat_lit 1))])
def lcn_924 : Nat × aAg := ((nat_lit 2), .inl [((.ofNat (nat_lit 292)), (.ofNat (nat_lit 292)), (nat_lit 1))])
def lcn_925 : Nat × aAg := ((nat_lit 2), .inl [((.ofNat (nat_lit 293)), (.ofNat (nat_lit 293)), (nat_lit 1))])
def lcn_926 : Nat × aAg := ((nat_lit 2), .inl [((.ofNat (nat_lit 294)), (.ofNat (nat_lit 294)), (nat_lit 1))])
def lcn_927 : Nat × aAg := ((nat_lit 2), .inl [((.ofNat (nat_lit 295)), (.ofNat (nat_lit 295)), (nat_lit 1))])
def lcn_928 : Nat × aAg := ((nat_lit 2), .inl [((.ofNat (nat_lit 296)), (.ofNat (nat_lit 296)), (nat_lit 1))])
def lcn_929 : Nat × aAg := ((nat_lit 2), .inl [((.ofNat (nat_lit 297)), (.ofNat (nat_lit 297)), (nat_lit 1))])
def lcn_930 : Nat × aAg := ((nat_lit 2), .inl [((.ofNat (nat_lit 298)), (.ofNat (nat_lit 298)), (nat_lit 1))])
def lcn_931 : Nat × aAg := ((nat_lit 2), .inl [((.ofNat (nat_lit 299)), (.ofNat (nat_lit 299)), (nat_lit 1))])
def lcn_932 : Nat × aAg := ((nat_lit 2), .inl [((.ofNat (nat_lit 300)), (.ofNat (nat_lit 300)), (nat_lit 1))])
def lcn_933 : Nat × aAg := ((nat_lit 2), .inl [((.ofNat (nat_lit 301)), (.ofNat (nat_lit 301)), (nat_lit 1))])
def lcn_934 : Nat × aAg := ((nat_lit 2), .inl [((.ofNat (nat_lit 302)), (.ofNat (nat_lit 302)), (nat_lit 1))])
def lcn_935 : Nat × aAg := ((nat_lit 2), .inl [((.ofNat (nat_lit 303)), (.ofNat (nat_lit 303)), (nat_lit 1))])
def lcn_936 : Nat × aAg := ((nat_lit 2), .inl [((.ofNat (nat_lit 304)), (.ofNat (nat_lit 304)), (nat_lit 1))])
def lcn_937 : Nat × aAg := ((nat_lit 2), .inl [((.ofNat (nat_lit 305)), (.ofNat (nat_lit 305)), (nat_lit 1))])
def lcn_938 : Nat × aAg := ((nat_lit 2), .inl [((.ofNat (nat_lit 306)), (.ofNat (nat_lit 306)), (nat_lit 1))])
def lcn_939 : Nat × aAg := ((nat_lit 2), .inl [((.ofNat (nat_lit 307)), (.ofNat (nat_lit 307)), (nat_lit 1))])
def lcn_940 : Nat × aAg := ((nat_lit 2), .inl [((.ofNat (nat_lit 308)), (.ofNat (nat_lit 308)), (nat_lit 1))])
def lcn_941 : Nat × aAg := ((nat_lit 2), .inl [((.ofNat (nat_lit 309)), (.ofNat (nat_lit 309)), (nat_lit 1))])
def lcn_942 : Nat × aAg := ((nat_lit 2), .inl [((.ofNat (nat_lit 310)), (.ofNat (nat_lit 310)), (nat_lit 1))])
def lcn_943 : Nat × aAg := ((nat_lit 2), .inl [((.ofNat (nat_lit 311)), (.ofNat (nat_lit 311)), (nat_lit 1))])
def lcn_944 : Nat × aAg := ((nat_lit 2), .inl [((.ofNat (nat_lit 312)), (.ofNat (nat_lit 312)), (nat_lit 1))])
def lcn_945 : Nat × aAg := ((nat_lit 2), .inl [((.ofNat (nat_lit 313)), (.ofNat (nat_lit 313)), (nat_lit 1))])
def lcn_946 : Nat × aAg := ((nat_lit 2), .inl [((.ofNat (nat_lit 314)), (.ofNat (nat_lit 314)), (nat_lit 1))])
def lcn_947 : Nat × aAg := ((nat_lit 2), .inl [((.ofNat (nat_lit 315)), (.ofNat (nat_lit 315)), (nat_lit 1))])
def lcn_948 : Nat × aAg := ((nat_lit 2), .inl [((.ofNat (nat_lit 316)), (.ofNat (nat_lit 316)), (nat_lit 1))])
def lcn_949 : Nat × aAg := ((nat_lit 2), .inl [((.ofNat (nat_lit 317)), (.ofNat (nat_lit 317)), (nat_lit 1))])
def lcn_950 : Nat × aAg := ((nat_lit 2), .inl [((.ofNat (nat_lit 318)), (.ofNat (nat_lit 318)), (nat_lit 1))])
def lcn_951 : Nat × aAg := ((nat_lit 2), .inl [((.ofNat (nat_lit 319)), (.ofNat (nat_lit 319)), (nat_lit 1))])
def lcn_952 : Nat × aAg := ((nat_lit 2), .inl [((.ofNat (nat_lit 320)), (.ofNat (nat_lit 320)), (nat_lit 1))])
def lcn_953 : Nat × aAg := ((nat_lit 2), .inl [((.ofNat (nat_lit 321)), (.ofNat (nat_lit 321)), (nat_lit 1))])
def lcn_954 : Nat × aAg := ((nat_lit 2), .inl [((.ofNat (nat_lit 322)), (.ofNat (nat_lit 322)), (nat_lit 1))])
def lcn_955 : Nat × aAg := ((nat_lit 2), .inl [((.ofNat (nat_lit 323)), (.ofNat (nat_lit 323)), (nat_lit 1))])
def lcn_956 : Nat × aAg := ((nat_lit 2), .inl [((.ofNat (nat_lit 324)), (.ofNat (nat_lit 324)), (nat_lit 1))])
def lcn_957 : Nat × aAg := ((nat_lit 2), .inl [((.ofNat (nat_lit 325)), (.ofNat (nat_lit 325)), (nat_lit 1))])
def lcn_958 : Nat × aAg := ((nat_lit 2), .inl [((.ofNat (nat_lit 326)), (.ofNat (nat_lit 326)), (nat_lit 1))])
def lcn_959 : Nat × aAg := ((nat_lit 2), .inl [((.ofNat (nat_lit 327)), (.ofNat (nat_lit 327)), (nat_lit 1))])
def lcn_960 : Nat × aAg := ((nat_lit 2), .inl [((.ofNat (nat_lit 328)), (.ofNat (nat_lit 328)), (nat_lit 1))])
def lcn_961 : Nat × aAg := ((nat_lit 2), .inl [((.ofNat (nat_lit 329)), (.ofNat (nat_lit 329)), (nat_lit 1))])
def lcn_962 : Nat × aAg := ((nat_lit 2), .inl [((.ofNat (nat_lit 330)), (.ofNat (nat_lit 330)), (nat_lit 1))])
def lcn_963 : Nat × aAg := ((nat_lit 2), .inl [((.ofNat (nat_lit 331)), (.ofNat (nat_lit 331)), (nat_lit 1))])
def lcn_964 : Nat × aAg := ((nat_lit 2), .inl [((.ofNat (nat_lit 332)), (.ofNat (nat_lit 332)), (nat_lit 1))])
def lcn_965 : Nat × aAg := ((nat_lit 2), .inl [((.ofNat (nat_lit 333)), (.ofNat (nat_lit 333)), (nat_lit 1))])
def lcn_966 : Nat × aAg := ((nat_lit 2), .inl [((.ofNat (nat_lit 334)), (.ofNat (nat_lit 334)), (nat_lit 1))])
def lcn_967 : Nat × aAg := ((nat_lit 2), .inl [((.ofNat (nat_lit 335)), (.ofNat (nat_lit 335)), (nat_lit 1))])
def lcn_968 : Nat × aAg := ((nat_lit 2), .inl [((.ofNat (nat_lit 336)), (.ofNat (nat_lit 336)), (nat_lit 1))])
def lcn_969 : Nat × aAg := ((nat_lit 2), .inl [((.ofNat (nat_lit 337)), (.ofNat (nat_lit 337)), (nat_lit 1))])
def lcn_970 : Nat × aAg := ((nat_lit 2), .inl [((.ofNat (nat_lit 338)), (.ofNat (nat_lit 338)), (nat_lit 1))])
def lcn_971 : Nat × aAg := ((nat_lit 2), .inl [((.ofNat (nat_lit 339)), (.ofNat (nat_lit 339)), (nat_lit 1))])
def lcn_972 : Nat × aAg := ((nat_lit 2), .inl [((.ofNat (nat_lit 340)), (.ofNat (nat_lit 340)), (nat_lit 1))])
def lcn_973 : Nat × aAg := ((nat_lit 2), .inl [((.ofNat (nat_lit 341)), (.ofNat (nat_lit 341)), (nat_lit 1))])
def lcn_974 : Nat × aAg := ((nat_lit 2), .inl [((.ofNat (nat_lit 342)), (.ofNat (nat_lit 342)), (nat_lit 1))])
def lcn_975 : Nat × aAg := ((nat_lit 2), .inl [((.ofNat (nat_lit 343)), (.ofNat (nat_lit 343)), (nat_lit 1))])
def lcn_976 : Nat × aAg := ((nat_lit 2), .inl [((.ofNat (nat_lit 344)), (.ofNat (nat_lit 344)), (nat_lit 1))])
def lcn_977 : Nat × aAg := ((nat_lit 2), .inl [((.ofNat (nat_lit 345)), (.ofNat (nat_lit 345)), (nat_lit 1))])
def lcn_978 : Nat × aAg := ((nat_lit 2), .inl [((.ofNat (nat_lit 346)), (.ofNat (nat_lit 346)), (nat_lit 1))])
def lcn_979 : Nat × aAg := ((nat_lit 2), .inl [((.ofNat (nat_lit 347)), (.ofNat (nat_lit 347)), (nat_lit 1))])
def lcn_980 : Nat × aAg := ((nat_lit 2), .inl [((.ofNat (nat_lit 348)), (.ofNat (nat_lit 348)), (nat_lit 1))])
def lcn_981 : Nat × aAg := ((nat_lit 2), .inl [((.ofNat (nat_lit 349)), (.ofNat (nat_lit 349)), (nat_lit 1))])
def lcn_982 : Nat × aAg := ((nat_lit 2), .inl [((.ofNat (nat_lit 350)), (.ofNat (nat_lit 350)), (nat_lit 1))])
def lcn_983 : Nat × aAg := ((nat_lit 2), .inl [((.ofNat (nat_lit 351)), (.ofNat (nat_lit 351)), (nat_lit 1))])
def lcn_984 : Nat × aAg := ((nat_lit 2), .inl [((.ofNat (nat_lit 352)), (.ofNat (nat_lit 352)), (nat_lit 1))])
def lcn_985 : Nat × aAg := ((nat_lit 2), .inl [((.ofNat (nat_lit 353)), (.ofNat (nat_lit 353)), (nat_lit 1))])
def lcn_986 : Nat × aAg := ((nat_lit 2), .inl [((.ofNat (nat_lit 354)), (.ofNat (nat_lit 354)), (nat_lit 1))])
def lcn_987 : Nat × aAg := ((nat_lit 2), .inl [((.ofNat (nat_lit 355)), (.ofNat (nat_lit 355)), (nat_lit 1))])
def lcn_988 : Nat × aAg := ((nat_lit 2), .inl [((.ofNat (nat_lit 356)), (.ofNat (nat_lit 356)), (nat_lit 1))])
def lcn_989 : Nat × aAg := ((nat_lit 2), .inl [((.ofNat (nat_lit 357)), (.ofNat (nat_lit 357)), (nat_lit 1))])
def lcn_990 : Nat × aAg := ((nat_lit 2), .inl [((.ofNat (nat_lit 358)), (.ofNat (nat_lit 358)), (nat_lit 1))])
def lcn_991 : Nat × aAg := ((nat_lit 2), .inl [((.ofNat (nat_lit 359)), (.ofNat (nat_lit 359)), (nat_lit 1))])
def lcn_992 : Nat × aAg := ((nat_lit 2), .inl [((.ofNat (nat_lit 360)), (.ofNat (nat_lit 360)), (nat_lit 1))])
def lcn_993 : Nat × aAg := ((nat_lit 2), .inl [((.ofNat (nat_lit 361)), (.ofNat (nat_lit 361)), (nat_lit 1))])
def lcn_994 : Nat × aAg := ((nat_lit 2), .inl [((.ofNat (nat_lit 362)), (.ofNat (nat_lit 362)), (nat_lit 1))])
set_option maxRecDepth 100000 in
theorem btX12_post : bTab oX12_post tX12_post := ⟨ofX12_post, by decide +kernel⟩
def ct_1104 : aCt := (mX12_post, [.inr (.inl [196]), .inl aTop], ([], []), [(some (.inl [(1, 7, 1)]), [], [((196, 2), [(0, 0, 1)]), ((196, 6), [(0, 0, 1)]), ((196, 8), [(0, 0, 1), (9, 1000, 1)]), ((196, 11), [(0, 0, 1)]), ((196, 13), [(0, 0, 1)]), ((196, 14), [(1, 1, 1)]), ((196, 20), [(0, 0, 1)]), ((196, 21), [(0, 0, 1)]), ((199, 0), [(2, 4, 1)]), ((199, 4), [(1, 7, 1)]), ((200, 0), [(2, 4, 1)]), ((200, 4), [(1, 7, 1)]), ((200, 9), [(1, 1, 1)])], []), (some (.inl [(-1, -1, 1)]), [], [((196, 11), [(2, 2, 1), (4, 4, 1)])], [])], [(196, 0, 1), (196, 2, 12), (196, 13, 15), (196, 20, 22), (198, 0, 8), (199, 0, 363), (200, 0, 363), (201, 0, 76)], [], 7)
def lk_1104 : aLk := [(173, 0, 1, ct_759), (173, 0, 1, ct_762), (173, 0, 1, ct_904), (173, 0, 1, ct_752), (173, 0, 1, ct_898), (173, 0, 1, ct_756), (173, 0, 1, ct_901), (173, 0, 1, ct_940), (173, 0, 1, ct_938), (173, 0, 1, ct_939), (173, 0, 1, ct_970), (173, 0, 1, ct_968), (173, 0, 1, ct_969), (173, 0, 1, ct_1000), (173, 0, 1, ct_998), (173, 0, 1, ct_999), (173, 0, 1, ct_1030), (173, 0, 1, ct_1028), (173, 0, 1, ct_1029), (173, 0, 1, ct_1060), (173, 0, 1, ct_1058), (173, 0, 1, ct_1059), (173, 0, 1, ct_1090), (173, 0, 1, ct_1088), (173, 0, 1, ct_1089), (173, 0, 1, ct_1103), (173, 0, 1, ct_1101), (173, 0, 1, ct_1102), (121, 0, 1, ct_X12_next_0), (170, 0, 2, ct_753), (176, 1, 5, ct_X12_copy_0), (176, 1, 5, ct_X12_copy_2), (176, 1, 5, ct_X12_copy_1), (176, 1, 5, ct_X12_copy_3), (176, 1, 5, ct_X12_copy_4), (176, 1, 5, ct_X12_copy_5), (176, 1, 5, ct_X12_copy_6), (176, 1, 5, ct_X12_copy_7), (176, 1, 5, ct_X12_copy_15), (127, 0, 3, ct_664), (127, 0, 3, ct_739)]
def ctE_1104 : aCt := (mX12_post, [.inr (.inl [196]), .inl aTop], ([], []), [(some (.inl [(1, 7, 1)]), [], [((196, 2), [(0, 0, 1)]), ((196, 6), [(0, 0, 1)]), ((196, 8), [(0, 0, 1), (9, 1000, 1)]), ((196, 11), [(0, 0, 1)]), ((196, 13), [(0, 0, 1)]), ((196, 14), [(1, 1, 1)]), ((196, 20), [(0, 0, 1)]), ((196, 21), [(0, 0, 1)]), ((199, 0), [(2, 4, 1)]), ((199, 4), [(1, 7, 1)]), ((200, 0), [(2, 4, 1)]), ((200, 4), [(1, 7, 1)]), ((200, 9), [(1, 1, 1)])], []), (some (.inl [(-1, -1, 1)]), [], [((196, 2), [(0, 0, 1)]), ((196, 6), [(0, 3, 1), (59, 59, 1)]), ((196, 8), [(0, 1000, 1)]), ((196, 11), [(4, 4, 1)]), ((196, 13), [(1, 1, 1)]), ((200, 0), [(0, 0, 1), (2, 4, 1)])], [])], [(196, 3, 12), (196, 13, 15), (196, 20, 22), (198, 0, 8), (199, 0, 363), (200, 0, 363), (201, 0, 76)], [], 7)
def ct2_1104 : aCt := (ctE_1104.1, ctE_1104.2.1, ctE_1104.2.2.1, ctE_1104.2.2.2.1, [(196, 3, 12), (196, 13, 15), (196, 20, 22), (198, 0, 8), (199, 0, 363), (200, 0, 363), (201, 0, 76), (1000002, 0, 0)], ctE_1104.2.2.2.2.2.1, ctE_1104.2.2.2.2.2.2)
def nT_1104_0 : aNd := ((nat_lit 194), [lcn_306, lcn_77, lcn_629], [], [sl_630, sl_631, sl_387, sl_632, sl_348, sl_633, sl_634, sl_635, sl_350, sl_636, sl_455], [], (114, [(1, -1)]))
def nT_1104_1 : aNd := ((nat_lit 215), [lcn_306, lcn_77, lcn_82], [], [sl_630, sl_631, sl_387, sl_632, sl_348, sl_633, sl_634, sl_635, sl_350, sl_636, sl_455], [], (14, [(1, -1)]))
def nT_1104_2 : aNd := ((nat_lit 255), [lcn_306, lcn_77, lcn_85], [], [sl_630, sl_631, sl_387, sl_632, sl_348, sl_633, sl_634, sl_635, sl_350, sl_636, sl_455], [], (8, [(1, -1)]))
def nT_1104 : List aNd := [nT_1104_0, nT_1104_1, nT_1104_2]
def nA_1104_0 : aNd := ((nat_lit 97), [lcn_306, lcn_77, lcn_637], [], [sl_630, sl_638, sl_313, sl_632, sl_348, sl_350, sl_351, sl_476, sl_455, sl_446, sl_447, sl_448, sl_449, sl_450, sl_451, sl_452], [], (1, []))
def nA_1104_1 : aNd := ((nat_lit 97), [lcn_306, lcn_77, lcn_637], [], [sl_630, sl_638, sl_313, sl_632, sl_348, sl_350, sl_507, sl_455, sl_447, sl_448, sl_449, sl_450, sl_451, sl_452], [], (1, []))
def nA_1104_2 : aNd := ((nat_lit 97), [lcn_306, lcn_77, lcn_637], [], [sl_630, sl_638, sl_313, sl_632, sl_348, sl_350, sl_528, sl_455, sl_448, sl_449, sl_450, sl_451, sl_452], [], (1, []))
def nA_1104_3 : aNd := ((nat_lit 97), [lcn_306, lcn_77, lcn_637], [], [sl_630, sl_638, sl_313, sl_632, sl_348, sl_350, sl_548, sl_455, sl_449, sl_450, sl_451, sl_452], [], (1, []))
def nA_1104_4 : aNd := ((nat_lit 97), [lcn_306, lcn_77, lcn_637], [], [sl_630, sl_638, sl_313, sl_632, sl_348, sl_350, sl_568, sl_455, sl_450, sl_451, sl_452], [], (1, []))
def nA_1104_5 : aNd := ((nat_lit 97), [lcn_306, lcn_77, lcn_637], [], [sl_630, sl_638, sl_313, sl_632, sl_348, sl_350, sl_588, sl_455, sl_451, sl_452], [], (1, []))
def nA_1104_6 : aNd := ((nat_lit 97), [lcn_306, lcn_77, lcn_637], [], [sl_630, sl_638, sl_313, sl_632, sl_348, sl_350, sl_609, sl_455, sl_452], [], (1, []))
def nA_1104_7 : aNd := ((nat_lit 97), [lcn_306, lcn_77, lcn_637], [], [sl_630, sl_638, sl_313, sl_632, sl_348, sl_350, sl_628, sl_455], [], (1, []))
def nA_1104 : List aNd := [nA_1104_0, nA_1104_1, nA_1104_2, nA_1104_3, nA_1104_4, nA_1104_5, nA_1104_6, nA_1104_7]
def nB_1104_0 : aNd := ((nat_lit 97), [lcn_306, lcn_77, lcn_637], [], [sl_630, sl_347, sl_314, sl_632, sl_348, sl_350, sl_351, sl_476, sl_455, sl_446, sl_447, sl_448, sl_449, sl_450, sl_451, sl_452], [], (1, []))
def nB_1104_1 : aNd := ((nat_lit 97), [lcn_306, lcn_77, lcn_637], [], [sl_630, sl_639, sl_387, sl_632, sl_348, sl_350, sl_351, sl_476, sl_455, sl_446, sl_447, sl_448, sl_449, sl_450, sl_451, sl_452], [], (1, []))
def nB_1104_2 : aNd := ((nat_lit 97), [lcn_306, lcn_77, lcn_637], [], [sl_630, sl_347, sl_314, sl_632, sl_348, sl_350, sl_507, sl_455, sl_447, sl_448, sl_449, sl_450, sl_451, sl_452], [], (1, []))
def nB_1104_3 : aNd := ((nat_lit 97), [lcn_306, lcn_77, lcn_637], [], [sl_630, sl_639, sl_387, sl_632, sl_348, sl_350, sl_507, sl_455, sl_447, sl_448, sl_449, sl_450, sl_451, sl_452], [], (1, []))
def nB_1104_4 : aNd := ((nat_lit 97), [lcn_306, lcn_77, lcn_637], [], [sl_630, sl_347, sl_314, sl_632, sl_348, sl_350, sl_528, sl_455, sl_448, sl_449, sl_450, sl_451, sl_452], [], (1, []))
def nB_1104_5 : aNd := ((nat_lit 97), [lcn_306, lcn_77, lcn_637], [], [sl_630, sl_639, sl_387, sl_632, sl_348, sl_350, sl_528, sl_455, sl_448, sl_449, sl_450, sl_451, sl_452], [], (1, []))
def nB_1104_6 : aNd := ((nat_lit 97), [lcn_306, lcn_77, lcn_637], [], [sl_630, sl_347, sl_314, sl_632, sl_348, sl_350, sl_548, sl_455, sl_449, sl_450, sl_451, sl_452], [], (1, []))
def nB_1104_7 : aNd := ((nat_lit 97), [lcn_306, lcn_77, lcn_637], [], [sl_630, sl_639, sl_387, sl_632, sl_348, sl_350, sl_548, sl_455, sl_449, sl_450, sl_451, sl_452], [], (1, []))
def nB_1104_8 : aNd := ((nat_lit 97), [lcn_306, lcn_77, lcn_637], [], [sl_630, sl_347, sl_314, sl_632, sl_348, sl_350, sl_568, sl_455, sl_450, sl_451, sl_452], [], (1, []))
def nB_1104_9 : aNd := ((nat_lit 97), [lcn_306, lcn_77, lcn_637], [], [sl_630, sl_639, sl_387, sl_632, sl_348, sl_350, sl_568, sl_455, sl_450, sl_451, sl_452], [], (1, []))
def nB_1104_10 : aNd := ((nat_lit 97), [lcn_306, lcn_77, lcn_637], [], [sl_630, sl_347, sl_314, sl_632, sl_348, sl_350, sl_588, sl_455, sl_451, sl_452], [], (1, []))
def nB_1104_11 : aNd := ((nat_lit 97), [lcn_306, lcn_77, lcn_637], [], [sl_630, sl_639, sl_387, sl_632, sl_348, sl_350, sl_588, sl_455, sl_451, sl_452], [], (1, []))
def nB_1104_12 : aNd := ((nat_lit 97), [lcn_306, lcn_77, lcn_637], [], [sl_630, sl_347, sl_314, sl_632, sl_348, sl_350, sl_609, sl_455, sl_452], [], (1, []))
def nB_1104_13 : aNd := ((nat_lit 97), [lcn_306, lcn_77, lcn_637], [], [sl_630, sl_639, sl_387, sl_632, sl_348, sl_350, sl_609, sl_455, sl_452], [], (1, []))
def nB_1104_14 : aNd := ((nat_lit 97), [lcn_306, lcn_77, lcn_637], [], [sl_630, sl_347, sl_314, sl_632, sl_348, sl_350, sl_628, sl_455], [], (1, []))
def nB_1104_15 : aNd := ((nat_lit 97), [lcn_306, lcn_77, lcn_637], [], [sl_630, sl_639, sl_387, sl_632, sl_348, sl_350, sl_628, sl_455], [], (1, []))
def nB_1104 : List aNd := [nB_1104_0, nB_1104_1, nB_1104_2, nB_1104_3, nB_1104_4, nB_1104_5, nB_1104_6, nB_1104_7, nB_1104_8, nB_1104_9, nB_1104_10, nB_1104_11, nB_1104_12, nB_1104_13, nB_1104_14, nB_1104_15]
def nC_1104_0 : aNd := ((nat_lit 93), [lcn_306, lcn_77, lcn_637], [], [sl_630, sl_640, sl_387, sl_632, sl_348, sl_350, sl_351, sl_476, sl_455, sl_446, sl_447, sl_448, sl_449, sl_450, sl_451, sl_452], [], (1, []))
def nC_1104_1 : aNd := ((nat_lit 93), [lcn_306, lcn_77, lcn_637], [], [sl_630, sl_640, sl_387, sl_632, sl_348, sl_350, sl_507, sl_455, sl_447, sl_448, sl_449, sl_450, sl_451, sl_452], [], (1, []))
def nC_1104_2 : aNd := ((nat_lit 93), [lcn_306, lcn_77, lcn_637], [], [sl_630, sl_640, sl_387, sl_632, sl_348, sl_350, sl_528, sl_455, sl_448, sl_449, sl_450, sl_451, sl_452], [], (1, []))
def nC_1104_3 : aNd := ((nat_lit 93), [lcn_306, lcn_77, lcn_637], [], [sl_630, sl_640, sl_387, sl_632, sl_348, sl_350, sl_548, sl_455, sl_449, sl_450, sl_451, sl_452], [], (1, []))
def nC_1104_4 : aNd := ((nat_lit 93), [lcn_306, lcn_77, lcn_637], [], [sl_630, sl_640, sl_387, sl_632, sl_348, sl_350, sl_568, sl_455, sl_450, sl_451, sl_452], [], (1, []))
def nC_1104_5 : aNd := ((nat_lit 93), [lcn_306, lcn_77, lcn_637], [], [sl_630, sl_640, sl_387, sl_632, sl_348, sl_350, sl_588, sl_455, sl_451, sl_452], [], (1, []))
def nC_1104_6 : aNd := ((nat_lit 93), [lcn_306, lcn_77, lcn_637], [], [sl_630, sl_640, sl_387, sl_632, sl_348, sl_350, sl_609, sl_455, sl_452], [], (1, []))
def nC_1104_7 : aNd := ((nat_lit 93), [lcn_306, lcn_77, lcn_637], [], [sl_630, sl_640, sl_387, sl_632, sl_348, sl_350, sl_628, sl_455], [], (1, []))
def nC_1104 : List aNd := [nC_1104_0, nC_1104_1, nC_1104_2, nC_1104_3, nC_1104_4, nC_1104_5, nC_1104_6, nC_1104_7]
def nE_1104_0 : aNd := ((nat_lit 27), [lcn_306, lcn_77], [], [sl_630, sl_632], [], (365, []))
def nE_1104_1 : aNd := ((nat_lit 39), [lcn_306, lcn_77, lcn_227], [], [sl_630, sl_632, sl_348], [], (364, []))
def nE_1104_2 : aNd := ((nat_lit 39), [lcn_306, lcn_77, lcn_131], [], [sl_630, sl_632, sl_348, sl_641], [], (363, []))
def nE_1104_3 : aNd := ((nat_lit 39), [lcn_306, lcn_77, lcn_232], [], [sl_630, sl_632, sl_348, sl_641], [], (362, []))
def nE_1104_4 : aNd := ((nat_lit 39), [lcn_306, lcn_77, lcn_62], [], [sl_630, sl_632, sl_348, sl_641], [], (361, []))
def nE_1104_5 : aNd := ((nat_lit 39), [lcn_306, lcn_77, lcn_58], [], [sl_630, sl_632, sl_348, sl_641], [], (360, []))
def nE_1104_6 : aNd := ((nat_lit 39), [lcn_306, lcn_77, lcn_238], [], [sl_630, sl_632, sl_348, sl_641, sl_351], [], (359, []))
def nE_1104_7 : aNd := ((nat_lit 39), [lcn_306, lcn_77, lcn_642], [], [sl_630, sl_632, sl_348, sl_641, sl_351, sl_385], [], (358, []))
def nE_1104_8 : aNd := ((nat_lit 39), [lcn_306, lcn_77, lcn_643], [], [sl_630, sl_632, sl_348, sl_641, sl_351, sl_385, sl_644], [], (357, []))
def nE_1104_9 : aNd := ((nat_lit 39), [lcn_306, lcn_77, lcn_645], [], [sl_630, sl_632, sl_348, sl_641, sl_351, sl_385, sl_644, sl_476], [], (356, []))
def nE_1104_10 : aNd := ((nat_lit 39), [lcn_306, lcn_77, lcn_646], [], [sl_630, sl_632, sl_348, sl_641, sl_351, sl_385, sl_644, sl_476, sl_647], [], (355, []))
def nE_1104_11 : aNd := ((nat_lit 39), [lcn_306, lcn_77, lcn_506], [], [sl_630, sl_632, sl_348, sl_641, sl_351, sl_385, sl_644, sl_476, sl_647, sl_648], [], (354, []))
def nE_1104_12 : aNd := ((nat_lit 39), [lcn_306, lcn_77, lcn_649], [], [sl_630, sl_632, sl_348, sl_641, sl_351, sl_385, sl_644, sl_476, sl_647, sl_648], [], (353, []))
def nE_1104_13 : aNd := ((nat_lit 39), [lcn_306, lcn_77, lcn_650], [], [sl_630, sl_632, sl_348, sl_641, sl_351, sl_385, sl_644, sl_476, sl_647, sl_648], [], (352, []))
def nE_1104_14 : aNd := ((nat_lit 39), [lcn_306, lcn_77, lcn_651], [], [sl_630, sl_632, sl_348, sl_641, sl_351, sl_385, sl_644, sl_476, sl_647, sl_648], [], (351, []))
def nE_1104_15 : aNd := ((nat_lit 39), [lcn_306, lcn_77, lcn_652], [], [sl_630, sl_632, sl_348, sl_641, sl_351, sl_385, sl_644, sl_476, sl_647, sl_648], [], (350, []))
def nE_1104_16 : aNd := ((nat_lit 39), [lcn_306, lcn_77, lcn_72], [], [sl_630, sl_632, sl_348, sl_641, sl_351, sl_385, sl_644, sl_476, sl_647, sl_648], [], (349, []))
def nE_1104_17 : aNd := ((nat_lit 39), [lcn_306, lcn_77, lcn_653], [], [sl_630, sl_632, sl_348, sl_641, sl_351, sl_385, sl_644, sl_476, sl_647, sl_648], [], (348, []))
def nE_1104_18 : aNd := ((nat_lit 39), [lcn_306, lcn_77, lcn_654], [], [sl_630, sl_632, sl_348, sl_641, sl_351, sl_385, sl_644, sl_476, sl_647, sl_648], [], (347, []))
def nE_1104_19 : aNd := ((nat_lit 39), [lcn_306, lcn_77, lcn_655], [], [sl_630, sl_632, sl_348, sl_641, sl_351, sl_385, sl_644, sl_476, sl_647, sl_648], [], (346, []))
def nE_1104_20 : aNd := ((nat_lit 39), [lcn_306, lcn_77, lcn_656], [], [sl_630, sl_632, sl_348, sl_641, sl_351, sl_385, sl_644, sl_476, sl_647, sl_648], [], (345, []))
def nE_1104_21 : aNd := ((nat_lit 39), [lcn_306, lcn_77, lcn_657], [], [sl_630, sl_632, sl_348, sl_641, sl_351, sl_385, sl_644, sl_476, sl_647, sl_648], [], (344, []))
def nE_1104_22 : aNd := ((nat_lit 39), [lcn_306, lcn_77, lcn_658], [], [sl_630, sl_632, sl_348, sl_641, sl_351, sl_385, sl_644, sl_476, sl_647, sl_648], [], (343, []))
def nE_1104_23 : aNd := ((nat_lit 39), [lcn_306, lcn_77, lcn_659], [], [sl_630, sl_632, sl_348, sl_641, sl_351, sl_385, sl_644, sl_476, sl_647, sl_648], [], (342, []))
def nE_1104_24 : aNd := ((nat_lit 39), [lcn_306, lcn_77, lcn_660], [], [sl_630, sl_632, sl_348, sl_641, sl_351, sl_385, sl_644, sl_476, sl_647, sl_648], [], (341, []))
def nE_1104_25 : aNd := ((nat_lit 39), [lcn_306, lcn_77, lcn_661], [], [sl_630, sl_632, sl_348, sl_641, sl_351, sl_385, sl_644, sl_476, sl_647, sl_648], [], (340, []))
def nE_1104_26 : aNd := ((nat_lit 39), [lcn_306, lcn_77, lcn_662], [], [sl_630, sl_632, sl_348, sl_641, sl_351, sl_385, sl_644, sl_476, sl_647, sl_648], [], (339, []))
def nE_1104_27 : aNd := ((nat_lit 39), [lcn_306, lcn_77, lcn_663], [], [sl_630, sl_632, sl_348, sl_641, sl_351, sl_385, sl_644, sl_476, sl_647, sl_648], [], (338, []))
def nE_1104_28 : aNd := ((nat_lit 39), [lcn_306, lcn_77, lcn_664], [], [sl_630, sl_632, sl_348, sl_641, sl_351, sl_385, sl_644, sl_476, sl_647, sl_648], [], (337, []))
def nE_1104_29 : aNd := ((nat_lit 39), [lcn_306, lcn_77, lcn_665], [], [sl_630, sl_632, sl_348, sl_641, sl_351, sl_385, sl_644, sl_476, sl_647, sl_648], [], (336, []))
def nE_1104_30 : aNd := ((nat_lit 39), [lcn_306, lcn_77, lcn_666], [], [sl_630, sl_632, sl_348, sl_641, sl_351, sl_385, sl_644, sl_476, sl_647, sl_648], [], (335, []))
def nE_1104_31 : aNd := ((nat_lit 39), [lcn_306, lcn_77, lcn_667], [], [sl_630, sl_632, sl_348, sl_641, sl_351, sl_385, sl_644, sl_476, sl_647, sl_648], [], (334, []))
def nE_1104_32 : aNd := ((nat_lit 39), [lcn_306, lcn_77, lcn_668], [], [sl_630, sl_632, sl_348, sl_641, sl_351, sl_385, sl_644, sl_476, sl_647, sl_648], [], (333, []))
def nE_1104_33 : aNd := ((nat_lit 39), [lcn_306, lcn_77, lcn_669], [], [sl_630, sl_632, sl_348, sl_641, sl_351, sl_385, sl_644, sl_476, sl_647, sl_648], [], (332, []))
def nE_1104_34 : aNd := ((nat_lit 39), [lcn_306, lcn_77, lcn_670], [], [sl_630, sl_632, sl_348, sl_641, sl_351, sl_385, sl_644, sl_476, sl_647, sl_648], [], (331, []))
def nE_1104_35 : aNd := ((nat_lit 39), [lcn_306, lcn_77, lcn_671], [], [sl_630, sl_632, sl_348, sl_641, sl_351, sl_385, sl_644, sl_476, sl_647, sl_648], [], (330, []))
def nE_1104_36 : aNd := ((nat_lit 39), [lcn_306, lcn_77, lcn_672], [], [sl_630, sl_632, sl_348, sl_641, sl_351, sl_385, sl_644, sl_476, sl_647, sl_648], [], (329, []))
def nE_1104_37 : aNd := ((nat_lit 39), [lcn_306, lcn_77, lcn_673], [], [sl_630, sl_632, sl_348, sl_641, sl_351, sl_385, sl_644, sl_476, sl_647, sl_648], [], (328, []))
def nE_1104_38 : aNd := ((nat_lit 39), [lcn_306, lcn_77, lcn_674], [], [sl_630, sl_632, sl_348, sl_641, sl_351, sl_385, sl_644, sl_476, sl_647, sl_648], [], (327, []))
def nE_1104_39 : aNd := ((nat_lit 39), [lcn_306, lcn_77, lcn_675], [], [sl_630, sl_632, sl_348, sl_641, sl_351, sl_385, sl_644, sl_476, sl_647, sl_648], [], (326, []))
def nE_1104_40 : aNd := ((nat_lit 39), [lcn_306, lcn_77, lcn_676], [], [sl_630, sl_632, sl_348, sl_641, sl_351, sl_385, sl_644, sl_476, sl_647, sl_648], [], (325, []))
def nE_1104_41 : aNd := ((nat_lit 39), [lcn_306, lcn_77, lcn_677], [], [sl_630, sl_632, sl_348, sl_641, sl_351, sl_385, sl_644, sl_476, sl_647, sl_648], [], (324, []))
def nE_1104_42 : aNd := ((nat_lit 39), [lcn_306, lcn_77, lcn_678], [], [sl_630, sl_632, sl_348, sl_641, sl_351, sl_385, sl_644, sl_476, sl_647, sl_648], [], (323, []))
def nE_1104_43 : aNd := ((nat_lit 39), [lcn_306, lcn_77, lcn_679], [], [sl_630, sl_632, sl_348, sl_641, sl_351, sl_385, sl_644, sl_476, sl_647, sl_648], [], (322, []))
def nE_1104_44 : aNd := ((nat_lit 39), [lcn_306, lcn_77, lcn_680], [], [sl_630, sl_632, sl_348, sl_641, sl_351, sl_385, sl_644, sl_476, sl_647, sl_648], [], (321, []))
def nE_1104_45 : aNd := ((nat_lit 39), [lcn_306, lcn_77, lcn_681], [], [sl_630, sl_632, sl_348, sl_641, sl_351, sl_385, sl_644, sl_476, sl_647, sl_648], [], (320, []))
def nE_1104_46 : aNd := ((nat_lit 39), [lcn_306, lcn_77, lcn_682], [], [sl_630, sl_632, sl_348, sl_641, sl_351, sl_385, sl_644, sl_476, sl_647, sl_648], [], (319, []))
def nE_1104_47 : aNd := ((nat_lit 39), [lcn_306, lcn_77, lcn_683], [], [sl_630, sl_632, sl_348, sl_641, sl_351, sl_385, sl_644, sl_476, sl_647, sl_648], [], (318, []))
def nE_1104_48 : aNd := ((nat_lit 39), [lcn_306, lcn_77, lcn_684], [], [sl_630, sl_632, sl_348, sl_641, sl_351, sl_385, sl_644, sl_476, sl_647, sl_648], [], (317, []))
def nE_1104_49 : aNd := ((nat_lit 39), [lcn_306, lcn_77, lcn_685], [], [sl_630, sl_632, sl_348, sl_641, sl_351, sl_385, sl_644, sl_476, sl_647, sl_648], [], (316, []))
def nE_1104_50 : aNd := ((nat_lit 39), [lcn_306, lcn_77, lcn_686], [], [sl_630, sl_632, sl_348, sl_641, sl_351, sl_385, sl_644, sl_476, sl_647, sl_648], [], (315, []))
def nE_1104_51 : aNd := ((nat_lit 39), [lcn_306, lcn_77, lcn_63], [], [sl_630, sl_632, sl_348, sl_641, sl_351, sl_385, sl_644, sl_476, sl_647, sl_648], [], (314, []))
def nE_1104_52 : aNd := ((nat_lit 39), [lcn_306, lcn_77, lcn_687], [], [sl_630, sl_632, sl_348, sl_641, sl_351, sl_385, sl_644, sl_476, sl_647, sl_648], [], (313, []))
def nE_1104_53 : aNd := ((nat_lit 39), [lcn_306, lcn_77, lcn_688], [], [sl_630, sl_632, sl_348, sl_641, sl_351, sl_385, sl_644, sl_476, sl_647, sl_648], [], (312, []))
def nE_1104_54 : aNd := ((nat_lit 39), [lcn_306, lcn_77, lcn_689], [], [sl_630, sl_632, sl_348, sl_641, sl_351, sl_385, sl_644, sl_476, sl_647, sl_648], [], (311, []))
def nE_1104_55 : aNd := ((nat_lit 39), [lcn_306, lcn_77, lcn_690], [], [sl_630, sl_632, sl_348, sl_641, sl_351, sl_385, sl_644, sl_476, sl_647, sl_648], [], (310, []))
def nE_1104_56 : aNd := ((nat_lit 39), [lcn_306, lcn_77, lcn_691], [], [sl_630, sl_632, sl_348, sl_641, sl_351, sl_385, sl_644, sl_476, sl_647, sl_648], [], (309, []))
def nE_1104_57 : aNd := ((nat_lit 39), [lcn_306, lcn_77, lcn_692], [], [sl_630, sl_632, sl_348, sl_641, sl_351, sl_385, sl_644, sl_476, sl_647, sl_648], [], (308, []))
def nE_1104_58 : aNd := ((nat_lit 39), [lcn_306, lcn_77, lcn_6], [], [sl_630, sl_632, sl_348, sl_641, sl_351, sl_385, sl_644, sl_476, sl_647, sl_648], [], (307, []))
def nE_1104_59 : aNd := ((nat_lit 39), [lcn_306, lcn_77, lcn_693], [], [sl_630, sl_632, sl_348, sl_641, sl_351, sl_385, sl_644, sl_476, sl_647, sl_648], [], (306, []))
def nE_1104_60 : aNd := ((nat_lit 39), [lcn_306, lcn_77, lcn_694], [], [sl_630, sl_632, sl_348, sl_641, sl_351, sl_385, sl_644, sl_476, sl_647, sl_648], [], (305, []))
def nE_1104_61 : aNd := ((nat_lit 39), [lcn_306, lcn_77, lcn_695], [], [sl_630, sl_632, sl_348, sl_641, sl_351, sl_385, sl_644, sl_476, sl_647, sl_648], [], (304, []))
def nE_1104_62 : aNd := ((nat_lit 39), [lcn_306, lcn_77, lcn_696], [], [sl_630, sl_632, sl_348, sl_641, sl_351, sl_385, sl_644, sl_476, sl_647, sl_648], [], (303, []))
def nE_1104_63 : aNd := ((nat_lit 39), [lcn_306, lcn_77, lcn_697], [], [sl_630, sl_632, sl_348, sl_641, sl_351, sl_385, sl_644, sl_476, sl_647, sl_648], [], (302, []))
def nE_1104_64 : aNd := ((nat_lit 39), [lcn_306, lcn_77, lcn_698], [], [sl_630, sl_632, sl_348, sl_641, sl_351, sl_385, sl_644, sl_476, sl_647, sl_648], [], (301, []))
def nE_1104_65 : aNd := ((nat_lit 39), [lcn_306, lcn_77, lcn_699], [], [sl_630, sl_632, sl_348, sl_641, sl_351, sl_385, sl_644, sl_476, sl_647, sl_648], [], (300, []))
def nE_1104_66 : aNd := ((nat_lit 39), [lcn_306, lcn_77, lcn_700], [], [sl_630, sl_632, sl_348, sl_641, sl_351, sl_385, sl_644, sl_476, sl_647, sl_648], [], (299, []))
def nE_1104_67 : aNd := ((nat_lit 39), [lcn_306, lcn_77, lcn_701], [], [sl_630, sl_632, sl_348, sl_641, sl_351, sl_385, sl_644, sl_476, sl_647, sl_648], [], (298, []))
def nE_1104_68 : aNd := ((nat_lit 39), [lcn_306, lcn_77, lcn_702], [], [sl_630, sl_632, sl_348, sl_641, sl_351, sl_385, sl_644, sl_476, sl_647, sl_648], [], (297, []))
def nE_1104_69 : aNd := ((nat_lit 39), [lcn_306, lcn_77, lcn_703], [], [sl_630, sl_632, sl_348, sl_641, sl_351, sl_385, sl_644, sl_476, sl_647, sl_648], [], (296, []))
def nE_1104_70 : aNd := ((nat_lit 39), [lcn_306, lcn_77, lcn_704], [], [sl_630, sl_632, sl_348, sl_641, sl_351, sl_385, sl_644, sl_476, sl_647, sl_648], [], (295, []))
def nE_1104_71 : aNd := ((nat_lit 39), [lcn_306, lcn_77, lcn_705], [], [sl_630, sl_632, sl_348, sl_641, sl_351, sl_385, sl_644, sl_476, sl_647, sl_648], [], (294, []))
def nE_1104_72 : aNd := ((nat_lit 39), [lcn_306, lcn_77, lcn_706], [], [sl_630, sl_632, sl_348, sl_641, sl_351, sl_385, sl_644, sl_476, sl_647, sl_648], [], (293, []))
def nE_1104_73 : aNd := ((nat_lit 39), [lcn_306, lcn_77, lcn_707], [], [sl_630, sl_632, sl_348, sl_641, sl_351, sl_385, sl_644, sl_476, sl_647, sl_648], [], (292, []))
def nE_1104_74 : aNd := ((nat_lit 39), [lcn_306, lcn_77, lcn_708], [], [sl_630, sl_632, sl_348, sl_641, sl_351, sl_385, sl_644, sl_476, sl_647, sl_648], [], (291, []))
def nE_1104_75 : aNd := ((nat_lit 39), [lcn_306, lcn_77, lcn_709], [], [sl_630, sl_632, sl_348, sl_641, sl_351, sl_385, sl_644, sl_476, sl_647, sl_648], [], (290, []))
def nE_1104_76 : aNd := ((nat_lit 39), [lcn_306, lcn_77, lcn_710], [], [sl_630, sl_632, sl_348, sl_641, sl_351, sl_385, sl_644, sl_476, sl_647, sl_648], [], (289, []))
def nE_1104_77 : aNd := ((nat_lit 39), [lcn_306, lcn_77, lcn_711], [], [sl_630, sl_632, sl_348, sl_641, sl_351, sl_385, sl_644, sl_476, sl_647, sl_648], [], (288, []))
def nE_1104_78 : aNd := ((nat_lit 39), [lcn_306, lcn_77, lcn_712], [], [sl_630, sl_632, sl_348, sl_641, sl_351, sl_385, sl_644, sl_476, sl_647, sl_648], [], (287, []))
def nE_1104_79 : aNd := ((nat_lit 39), [lcn_306, lcn_77, lcn_713], [], [sl_630, sl_632, sl_348, sl_641, sl_351, sl_385, sl_644, sl_476, sl_647, sl_648], [], (286, []))
def nE_1104_80 : aNd := ((nat_lit 39), [lcn_306, lcn_77, lcn_714], [], [sl_630, sl_632, sl_348, sl_641, sl_351, sl_385, sl_644, sl_476, sl_647, sl_648], [], (285, []))
def nE_1104_81 : aNd := ((nat_lit 39), [lcn_306, lcn_77, lcn_715], [], [sl_630, sl_632, sl_348, sl_641, sl_351, sl_385, sl_644, sl_476, sl_647, sl_648], [], (284, []))
def nE_1104_82 : aNd := ((nat_lit 39), [lcn_306, lcn_77, lcn_716], [], [sl_630, sl_632, sl_348, sl_641, sl_351, sl_385, sl_644, sl_476, sl_647, sl_648], [], (283, []))
def nE_1104_83 : aNd := ((nat_lit 39), [lcn_306, lcn_77, lcn_717], [], [sl_630, sl_632, sl_348, sl_641, sl_351, sl_385, sl_644, sl_476, sl_647, sl_648], [], (282, []))
def nE_1104_84 : aNd := ((nat_lit 39), [lcn_306, lcn_77, lcn_718], [], [sl_630, sl_632, sl_348, sl_641, sl_351, sl_385, sl_644, sl_476, sl_647, sl_648], [], (281, []))
def nE_1104_85 : aNd := ((nat_lit 39), [lcn_306, lcn_77, lcn_719], [], [sl_630, sl_632, sl_348, sl_641, sl_351, sl_385, sl_644, sl_476, sl_647, sl_648], [], (280, []))
def nE_1104_86 : aNd := ((nat_lit 39), [lcn_306, lcn_77, lcn_720], [], [sl_630, sl_632, sl_348, sl_641, sl_351, sl_385, sl_644, sl_476, sl_647, sl_648], [], (279, []))
def nE_1104_87 : aNd := ((nat_lit 39), [lcn_306, lcn_77, lcn_721], [], [sl_630, sl_632, sl_348, sl_641, sl_351, sl_385, sl_644, sl_476, sl_647, sl_648], [], (278, []))
def nE_1104_88 : aNd := ((nat_lit 39), [lcn_306, lcn_77, lcn_722], [], [sl_630, sl_632, sl_348, sl_641, sl_351, sl_385, sl_644, sl_476, sl_647, sl_648], [], (277, []))
def nE_1104_89 : aNd := ((nat_lit 39), [lcn_306, lcn_77, lcn_723], [], [sl_630, sl_632, sl_348, sl_641, sl_351, sl_385, sl_644, sl_476, sl_647, sl_648], [], (276, []))
def nE_1104_90 : aNd := ((nat_lit 39), [lcn_306, lcn_77, lcn_724], [], [sl_630, sl_632, sl_348, sl_641, sl_351, sl_385, sl_644, sl_476, sl_647, sl_648], [], (275, []))
def nE_1104_91 : aNd := ((nat_lit 39), [lcn_306, lcn_77, lcn_725], [], [sl_630, sl_632, sl_348, sl_641, sl_351, sl_385, sl_644, sl_476, sl_647, sl_648], [], (274, []))
def nE_1104_92 : aNd := ((nat_lit 39), [lcn_306, lcn_77, lcn_726], [], [sl_630, sl_632, sl_348, sl_641, sl_351, sl_385, sl_644, sl_476, sl_647, sl_648], [], (273, []))
def nE_1104_93 : aNd := ((nat_lit 39), [lcn_306, lcn_77, lcn_727], [], [sl_630, sl_632, sl_348, sl_641, sl_351, sl_385, sl_644, sl_476, sl_647, sl_648], [], (272, []))
def nE_1104_94 : aNd := ((nat_lit 39), [lcn_306, lcn_77, lcn_728], [], [sl_630, sl_632, sl_348, sl_641, sl_351, sl_385, sl_644, sl_476, sl_647, sl_648], [], (271, []))
def nE_1104_95 : aNd := ((nat_lit 39), [lcn_306, lcn_77, lcn_729], [], [sl_630, sl_632, sl_348, sl_641, sl_351, sl_385, sl_644, sl_476, sl_647, sl_648], [], (270, []))
def nE_1104_96 : aNd := ((nat_lit 39), [lcn_306, lcn_77, lcn_730], [], [sl_630, sl_632, sl_348, sl_641, sl_351, sl_385, sl_644, sl_476, sl_647, sl_648], [], (269, []))
def nE_1104_97 : aNd := ((nat_lit 39), [lcn_306, lcn_77, lcn_731], [], [sl_630, sl_632, sl_348, sl_641, sl_351, sl_385, sl_644, sl_476, sl_647, sl_648], [], (268, []))
def nE_1104_98 : aNd := ((nat_lit 39), [lcn_306, lcn_77, lcn_732], [], [sl_630, sl_632, sl_348, sl_641, sl_351, sl_385, sl_644, sl_476, sl_647, sl_648], [], (267, []))
def nE_1104_99 : aNd := ((nat_lit 39), [lcn_306, lcn_77, lcn_733], [], [sl_630, sl_632, sl_348, sl_641, sl_351, sl_385, sl_644, sl_476, sl_647, sl_648], [], (266, []))
def nE_1104_100 : aNd := ((nat_lit 39), [lcn_306, lcn_77, lcn_66], [], [sl_630, sl_632, sl_348, sl_641, sl_351, sl_385, sl_644, sl_476, sl_647, sl_648], [], (265, []))
def nE_1104_101 : aNd := ((nat_lit 39), [lcn_306, lcn_77, lcn_64], [], [sl_630, sl_632, sl_348, sl_641, sl_351, sl_385, sl_644, sl_476, sl_647, sl_648], [], (264, []))
def nE_1104_102 : aNd := ((nat_lit 39), [lcn_306, lcn_77, lcn_734], [], [sl_630, sl_632, sl_348, sl_641, sl_351, sl_385, sl_644, sl_476, sl_647, sl_648], [], (263, []))
def nE_1104_103 : aNd := ((nat_lit 39), [lcn_306, lcn_77, lcn_735], [], [sl_630, sl_632, sl_348, sl_641, sl_351, sl_385, sl_644, sl_476, sl_647, sl_648], [], (262, []))
def nE_1104_104 : aNd := ((nat_lit 39), [lcn_306, lcn_77, lcn_736], [], [sl_630, sl_632, sl_348, sl_641, sl_351, sl_385, sl_644, sl_476, sl_647, sl_648], [], (261, []))
def nE_1104_105 : aNd := ((nat_lit 39), [lcn_306, lcn_77, lcn_737], [], [sl_630, sl_632, sl_348, sl_641, sl_351, sl_385, sl_644, sl_476, sl_647, sl_648], [], (260, []))
def nE_1104_106 : aNd := ((nat_lit 39), [lcn_306, lcn_77, lcn_738], [], [sl_630, sl_632, sl_348, sl_641, sl_351, sl_385, sl_644, sl_476, sl_647, sl_648], [], (259, []))
def nE_1104_107 : aNd := ((nat_lit 39), [lcn_306, lcn_77, lcn_739], [], [sl_630, sl_632, sl_348, sl_641, sl_351, sl_385, sl_644, sl_476, sl_647, sl_648], [], (258, []))
def nE_1104_108 : aNd := ((nat_lit 39), [lcn_306, lcn_77, lcn_740], [], [sl_630, sl_632, sl_348, sl_641, sl_351, sl_385, sl_644, sl_476, sl_647, sl_648], [], (257, []))
def nE_1104_109 : aNd := ((nat_lit 39), [lcn_306, lcn_77, lcn_741], [], [sl_630, sl_632, sl_348, sl_641, sl_351, sl_385, sl_644, sl_476, sl_647, sl_648], [], (256, []))
def nE_1104_110 : aNd := ((nat_lit 39), [lcn_306, lcn_77, lcn_742], [], [sl_630, sl_632, sl_348, sl_641, sl_351, sl_385, sl_644, sl_476, sl_647, sl_648], [], (255, []))
def nE_1104_111 : aNd := ((nat_lit 39), [lcn_306, lcn_77, lcn_743], [], [sl_630, sl_632, sl_348, sl_641, sl_351, sl_385, sl_644, sl_476, sl_647, sl_648], [], (254, []))
def nE_1104_112 : aNd := ((nat_lit 39), [lcn_306, lcn_77, lcn_744], [], [sl_630, sl_632, sl_348, sl_641, sl_351, sl_385, sl_644, sl_476, sl_647, sl_648], [], (253, []))
def nE_1104_113 : aNd := ((nat_lit 39), [lcn_306, lcn_77, lcn_745], [], [sl_630, sl_632, sl_348, sl_641, sl_351, sl_385, sl_644, sl_476, sl_647, sl_648], [], (252, []))
def nE_1104_114 : aNd := ((nat_lit 39), [lcn_306, lcn_77, lcn_746], [], [sl_630, sl_632, sl_348, sl_641, sl_351, sl_385, sl_644, sl_476, sl_647, sl_648], [], (251, []))
def nE_1104_115 : aNd := ((nat_lit 39), [lcn_306, lcn_77, lcn_747], [], [sl_630, sl_632, sl_348, sl_641, sl_351, sl_385, sl_644, sl_476, sl_647, sl_648], [], (250, []))
def nE_1104_116 : aNd := ((nat_lit 39), [lcn_306, lcn_77, lcn_748], [], [sl_630, sl_632, sl_348, sl_641, sl_351, sl_385, sl_644, sl_476, sl_647, sl_648], [], (249, []))
def nE_1104_117 : aNd := ((nat_lit 39), [lcn_306, lcn_77, lcn_749], [], [sl_630, sl_632, sl_348, sl_641, sl_351, sl_385, sl_644, sl_476, sl_647, sl_648], [], (248, []))
def nE_1104_118 : aNd := ((nat_lit 39), [lcn_306, lcn_77, lcn_750], [], [sl_630, sl_632, sl_348, sl_641, sl_351, sl_385, sl_644, sl_476, sl_647, sl_648], [], (247, []))
def nE_1104_119 : aNd := ((nat_lit 39), [lcn_306, lcn_77, lcn_751], [], [sl_630, sl_632, sl_348, sl_641, sl_351, sl_385, sl_644, sl_476, sl_647, sl_648], [], (246, []))
def nE_1104_120 : aNd := ((nat_lit 39), [lcn_306, lcn_77, lcn_752], [], [sl_630, sl_632, sl_348, sl_641, sl_351, sl_385, sl_644, sl_476, sl_647, sl_648], [], (245, []))
def nE_1104_121 : aNd := ((nat_lit 39), [lcn_306, lcn_77, lcn_753], [], [sl_630, sl_632, sl_348, sl_641, sl_351, sl_385, sl_644, sl_476, sl_647, sl_648], [], (244, []))
def nE_1104_122 : aNd := ((nat_lit 39), [lcn_306, lcn_77, lcn_754], [], [sl_630, sl_632, sl_348, sl_641, sl_351, sl_385, sl_644, sl_476, sl_647, sl_648], [], (243, []))
def nE_1104_123 : aNd := ((nat_lit 39), [lcn_306, lcn_77, lcn_2], [], [sl_630, sl_632, sl_348, sl_641, sl_351, sl_385, sl_644, sl_476, sl_647, sl_648], [], (242, []))
def nE_1104_124 : aNd := ((nat_lit 39), [lcn_306, lcn_77, lcn_755], [], [sl_630, sl_632, sl_348, sl_641, sl_351, sl_385, sl_644, sl_476, sl_647, sl_648], [], (241, []))
def nE_1104_125 : aNd := ((nat_lit 39), [lcn_306, lcn_77, lcn_756], [], [sl_630, sl_632, sl_348, sl_641, sl_351, sl_385, sl_644, sl_476, sl_647, sl_648], [], (240, []))
def nE_1104_126 : aNd := ((nat_lit 39), [lcn_306, lcn_77, lcn_757], [], [sl_630, sl_632, sl_348, sl_641, sl_351, sl_385, sl_644, sl_476, sl_647, sl_648], [], (239, []))
def nE_1104_127 : aNd := ((nat_lit 39), [lcn_306, lcn_77, lcn_758], [], [sl_630, sl_632, sl_348, sl_641, sl_351, sl_385, sl_644, sl_476, sl_647, sl_648], [], (238, []))
def nE_1104_128 : aNd := ((nat_lit 39), [lcn_306, lcn_77, lcn_759], [], [sl_630, sl_632, sl_348, sl_641, sl_351, sl_385, sl_644, sl_476, sl_647, sl_648], [], (237, []))
def nE_1104_129 : aNd := ((nat_lit 39), [lcn_306, lcn_77, lcn_760], [], [sl_630, sl_632, sl_348, sl_641, sl_351, sl_385, sl_644, sl_476, sl_647, sl_648], [], (236, []))
def nE_1104_130 : aNd := ((nat_lit 39), [lcn_306, lcn_77, lcn_761], [], [sl_630, sl_632, sl_348, sl_641, sl_351, sl_385, sl_644, sl_476, sl_647, sl_648], [], (235, []))
def nE_1104_131 : aNd := ((nat_lit 39), [lcn_306, lcn_77, lcn_762], [], [sl_630, sl_632, sl_348, sl_641, sl_351, sl_385, sl_644, sl_476, sl_647, sl_648], [], (234, []))
def nE_1104_132 : aNd := ((nat_lit 39), [lcn_306, lcn_77, lcn_763], [], [sl_630, sl_632, sl_348, sl_641, sl_351, sl_385, sl_644, sl_476, sl_647, sl_648], [], (233, []))
def nE_1104_133 : aNd := ((nat_lit 39), [lcn_306, lcn_77, lcn_764], [], [sl_630, sl_632, sl_348, sl_641, sl_351, sl_385, sl_644, sl_476, sl_647, sl_648], [], (232, []))
def nE_1104_134 : aNd := ((nat_lit 39), [lcn_306, lcn_77, lcn_765], [], [sl_630, sl_632, sl_348, sl_641, sl_351, sl_385, sl_644, sl_476, sl_647, sl_648], [], (231, []))
def nE_1104_135 : aNd := ((nat_lit 39), [lcn_306, lcn_77, lcn_766], [], [sl_630, sl_632, sl_348, sl_641, sl_351, sl_385, sl_644, sl_476, sl_647, sl_648], [], (230, []))
def nE_1104_136 : aNd := ((nat_lit 39), [lcn_306, lcn_77, lcn_767], [], [sl_630, sl_632, sl_348, sl_641, sl_351, sl_385, sl_644, sl_476, sl_647, sl_648], [], (229, []))
def nE_1104_137 : aNd := ((nat_lit 39), [lcn_306, lcn_77, lcn_768], [], [sl_630, sl_632, sl_348, sl_641, sl_351, sl_385, sl_644, sl_476, sl_647, sl_648], [], (228, []))
def nE_1104_138 : aNd := ((nat_lit 39), [lcn_306, lcn_77, lcn_769], [], [sl_630, sl_632, sl_348, sl_641, sl_351, sl_385, sl_644, sl_476, sl_647, sl_648], [], (227, []))
def nE_1104_139 : aNd := ((nat_lit 39), [lcn_306, lcn_77, lcn_770], [], [sl_630, sl_632, sl_348, sl_641, sl_351, sl_385, sl_644, sl_476, sl_647, sl_648], [], (226, []))
def nE_1104_140 : aNd := ((nat_lit 39), [lcn_306, lcn_77, lcn_771], [], [sl_630, sl_632, sl_348, sl_641, sl_351, sl_385, sl_644, sl_476, sl_647, sl_648], [], (225, []))
def nE_1104_141 : aNd := ((nat_lit 39), [lcn_306, lcn_77, lcn_772], [], [sl_630, sl_632, sl_348, sl_641, sl_351, sl_385, sl_644, sl_476, sl_647, sl_648], [], (224, []))
def nE_1104_142 : aNd := ((nat_lit 39), [lcn_306, lcn_77, lcn_773], [], [sl_630, sl_632, sl_348, sl_641, sl_351, sl_385, sl_644, sl_476, sl_647, sl_648], [], (223, []))
def nE_1104_143 : aNd := ((nat_lit 39), [lcn_306, lcn_77, lcn_774], [], [sl_630, sl_632, sl_348, sl_641, sl_351, sl_385, sl_644, sl_476, sl_647, sl_648], [], (222, []))
def nE_1104_144 : aNd := ((nat_lit 39), [lcn_306, lcn_77, lcn_775], [], [sl_630, sl_632, sl_348, sl_641, sl_351, sl_385, sl_644, sl_476, sl_647, sl_648], [], (221, []))
def nE_1104_145 : aNd := ((nat_lit 39), [lcn_306, lcn_77, lcn_776], [], [sl_630, sl_632, sl_348, sl_641, sl_351, sl_385, sl_644, sl_476, sl_647, sl_648], [], (220, []))
def nE_1104_146 : aNd := ((nat_lit 39), [lcn_306, lcn_77, lcn_777], [], [sl_630, sl_632, sl_348, sl_641, sl_351, sl_385, sl_644, sl_476, sl_647, sl_648], [], (219, []))
def nE_1104_147 : aNd := ((nat_lit 39), [lcn_306, lcn_77, lcn_778], [], [sl_630, sl_632, sl_348, sl_641, sl_351, sl_385, sl_644, sl_476, sl_647, sl_648], [], (218, []))
def nE_1104_148 : aNd := ((nat_lit 39), [lcn_306, lcn_77, lcn_779], [], [sl_630, sl_632, sl_348, sl_641, sl_351, sl_385, sl_644, sl_476, sl_647, sl_648], [], (217, []))
def nE_1104_149 : aNd := ((nat_lit 39), [lcn_306, lcn_77, lcn_780], [], [sl_630, sl_632, sl_348, sl_641, sl_351, sl_385, sl_644, sl_476, sl_647, sl_648], [], (216, []))
def nE_1104_150 : aNd := ((nat_lit 39), [lcn_306, lcn_77, lcn_781], [], [sl_630, sl_632, sl_348, sl_641, sl_351, sl_385, sl_644, sl_476, sl_647, sl_648], [], (215, []))
def nE_1104_151 : aNd := ((nat_lit 39), [lcn_306, lcn_77, lcn_782], [], [sl_630, sl_632, sl_348, sl_641, sl_351, sl_385, sl_644, sl_476, sl_647, sl_648], [], (214, []))
def nE_1104_152 : aNd := ((nat_lit 39), [lcn_306, lcn_77, lcn_783], [], [sl_630, sl_632, sl_348, sl_641, sl_351, sl_385, sl_644, sl_476, sl_647, sl_648], [], (213, []))
def nE_1104_153 : aNd := ((nat_lit 39), [lcn_306, lcn_77, lcn_784], [], [sl_630, sl_632, sl_348, sl_641, sl_351, sl_385, sl_644, sl_476, sl_647, sl_648], [], (212, []))
def nE_1104_154 : aNd := ((nat_lit 39), [lcn_306, lcn_77, lcn_785], [], [sl_630, sl_632, sl_348, sl_641, sl_351, sl_385, sl_644, sl_476, sl_647, sl_648], [], (211, []))
def nE_1104_155 : aNd := ((nat_lit 39), [lcn_306, lcn_77, lcn_786], [], [sl_630, sl_632, sl_348, sl_641, sl_351, sl_385, sl_644, sl_476, sl_647, sl_648], [], (210, []))
def nE_1104_156 : aNd := ((nat_lit 39), [lcn_306, lcn_77, lcn_787], [], [sl_630, sl_632, sl_348, sl_641, sl_351, sl_385, sl_644, sl_476, sl_647, sl_648], [], (209, []))
def nE_1104_157 : aNd := ((nat_lit 39), [lcn_306, lcn_77, lcn_788], [], [sl_630, sl_632, sl_348, sl_641, sl_351, sl_385, sl_644, sl_476, sl_647, sl_648], [], (208, []))
def nE_1104_158 : aNd := ((nat_lit 39), [lcn_306, lcn_77, lcn_789], [], [sl_630, sl_632, sl_348, sl_641, sl_351, sl_385, sl_644, sl_476, sl_647, sl_648], [], (207, []))
def nE_1104_159 : aNd := ((nat_lit 39), [lcn_306, lcn_77, lcn_790], [], [sl_630, sl_632, sl_348, sl_641, sl_351, sl_385, sl_644, sl_476, sl_647, sl_648], [], (206, []))
def nE_1104_160 : aNd := ((nat_lit 39), [lcn_306, lcn_77, lcn_791], [], [sl_630, sl_632, sl_348, sl_641, sl_351, sl_385, sl_644, sl_476, sl_647, sl_648], [], (205, []))
def nE_1104_161 : aNd := ((nat_lit 39), [lcn_306, lcn_77, lcn_792], [], [sl_630, sl_632, sl_348, sl_641, sl_351, sl_385, sl_644, sl_476, sl_647, sl_648], [], (204, []))
def nE_1104_162 : aNd := ((nat_lit 39), [lcn_306, lcn_77, lcn_793], [], [sl_630, sl_632, sl_348, sl_641, sl_351, sl_385, sl_644, sl_476, sl_647, sl_648], [], (203, []))
def nE_1104_163 : aNd := ((nat_lit 39), [lcn_306, lcn_77, lcn_794], [], [sl_630, sl_632, sl_348, sl_641, sl_351, sl_385, sl_644, sl_476, sl_647, sl_648], [], (202, []))
def nE_1104_164 : aNd := ((nat_lit 39), [lcn_306, lcn_77, lcn_795], [], [sl_630, sl_632, sl_348, sl_641, sl_351, sl_385, sl_644, sl_476, sl_647, sl_648], [], (201, []))
def nE_1104_165 : aNd := ((nat_lit 39), [lcn_306, lcn_77, lcn_796], [], [sl_630, sl_632, sl_348, sl_641, sl_351, sl_385, sl_644, sl_476, sl_647, sl_648], [], (200, []))
def nE_1104_166 : aNd := ((nat_lit 39), [lcn_306, lcn_77, lcn_797], [], [sl_630, sl_632, sl_348, sl_641, sl_351, sl_385, sl_644, sl_476, sl_647, sl_648], [], (199, []))
def nE_1104_167 : aNd := ((nat_lit 39), [lcn_306, lcn_77, lcn_798], [], [sl_630, sl_632, sl_348, sl_641, sl_351, sl_385, sl_644, sl_476, sl_647, sl_648], [], (198, []))
def nE_1104_168 : aNd := ((nat_lit 39), [lcn_306, lcn_77, lcn_799], [], [sl_630, sl_632, sl_348, sl_641, sl_351, sl_385, sl_644, sl_476, sl_647, sl_648], [], (197, []))
def nE_1104_169 : aNd := ((nat_lit 39), [lcn_306, lcn_77, lcn_800], [], [sl_630, sl_632, sl_348, sl_641, sl_351, sl_385, sl_644, sl_476, sl_647, sl_648], [], (196, []))
def nE_1104_170 : aNd := ((nat_lit 39), [lcn_306, lcn_77, lcn_801], [], [sl_630, sl_632, sl_348, sl_641, sl_351, sl_385, sl_644, sl_476, sl_647, sl_648], [], (195, []))
def nE_1104_171 : aNd := ((nat_lit 39), [lcn_306, lcn_77, lcn_802], [], [sl_630, sl_632, sl_348, sl_641, sl_351, sl_385, sl_644, sl_476, sl_647, sl_648], [], (194, []))
def nE_1104_172 : aNd := ((nat_lit 39), [lcn_306, lcn_77, lcn_803], [], [sl_630, sl_632, sl_348, sl_641, sl_351, sl_385, sl_644, sl_476, sl_647, sl_648], [], (193, []))
def nE_1104_173 : aNd := ((nat_lit 39), [lcn_306, lcn_77, lcn_804], [], [sl_630, sl_632, sl_348, sl_641, sl_351, sl_385, sl_644, sl_476, sl_647, sl_648], [], (192, []))
def nE_1104_174 : aNd := ((nat_lit 39), [lcn_306, lcn_77, lcn_805], [], [sl_630, sl_632, sl_348, sl_641, sl_351, sl_385, sl_644, sl_476, sl_647, sl_648], [], (191, []))
def nE_1104_175 : aNd := ((nat_lit 39), [lcn_306, lcn_77, lcn_806], [], [sl_630, sl_632, sl_348, sl_641, sl_351, sl_385, sl_644, sl_476, sl_647, sl_648], [], (190, []))
def nE_1104_176 : aNd := ((nat_lit 39), [lcn_306, lcn_77, lcn_807], [], [sl_630, sl_632, sl_348, sl_641, sl_351, sl_385, sl_644, sl_476, sl_647, sl_648], [], (189, []))
def nE_1104_177 : aNd := ((nat_lit 39), [lcn_306, lcn_77, lcn_808], [], [sl_630, sl_632, sl_348, sl_641, sl_351, sl_385, sl_644, sl_476, sl_647, sl_648], [], (188, []))
def nE_1104_178 : aNd := ((nat_lit 39), [lcn_306, lcn_77, lcn_809], [], [sl_630, sl_632, sl_348, sl_641, sl_351, sl_385, sl_644, sl_476, sl_647, sl_648], [], (187, []))
def nE_1104_179 : aNd := ((nat_lit 39), [lcn_306, lcn_77, lcn_810], [], [sl_630, sl_632, sl_348, sl_641, sl_351, sl_385, sl_644, sl_476, sl_647, sl_648], [], (186, []))
def nE_1104_180 : aNd := ((nat_lit 39), [lcn_306, lcn_77, lcn_811], [], [sl_630, sl_632, sl_348, sl_641, sl_351, sl_385, sl_644, sl_476, sl_647, sl_648], [], (185, []))
def nE_1104_181 : aNd := ((nat_lit 39), [lcn_306, lcn_77, lcn_812], [], [sl_630, sl_632, sl_348, sl_641, sl_351, sl_385, sl_644, sl_476, sl_647, sl_648], [], (184, []))
def nE_1104_182 : aNd := ((nat_lit 39), [lcn_306, lcn_77, lcn_813], [], [sl_630, sl_632, sl_348, sl_641, sl_351, sl_385, sl_644, sl_476, sl_647, sl_648], [], (183, []))
def nE_1104_183 : aNd := ((nat_lit 39), [lcn_306, lcn_77, lcn_814], [], [sl_630, sl_632, sl_348, sl_641, sl_351, sl_385, sl_644, sl_476, sl_647, sl_648], [], (182, []))
def nE_1104_184 : aNd := ((nat_lit 39), [lcn_306, lcn_77, lcn_815], [], [sl_630, sl_632, sl_348, sl_641, sl_351, sl_385, sl_644, sl_476, sl_647, sl_648], [], (181, []))
def nE_1104_185 : aNd := ((nat_lit 39), [lcn_306, lcn_77, lcn_816], [], [sl_630, sl_632, sl_348, sl_641, sl_351, sl_385, sl_644, sl_476, sl_647, sl_648, sl_446], [], (180, []))
def nE_1104_186 : aNd := ((nat_lit 39), [lcn_306, lcn_77, lcn_817], [], [sl_630, sl_632, sl_348, sl_641, sl_351, sl_385, sl_644, sl_476, sl_647, sl_648, sl_446, sl_447], [], (179, []))
def nE_1104_187 : aNd := ((nat_lit 39), [lcn_306, lcn_77, lcn_818], [], [sl_630, sl_632, sl_348, sl_641, sl_351, sl_385, sl_644, sl_476, sl_647, sl_648, sl_446, sl_447, sl_448], [], (178, []))
def nE_1104_188 : aNd := ((nat_lit 39), [lcn_306, lcn_77, lcn_819], [], [sl_630, sl_632, sl_348, sl_641, sl_351, sl_385, sl_644, sl_476, sl_647, sl_648, sl_446, sl_447, sl_448, sl_449], [], (177, []))
def nE_1104_189 : aNd := ((nat_lit 39), [lcn_306, lcn_77, lcn_820], [], [sl_630, sl_632, sl_348, sl_641, sl_351, sl_385, sl_644, sl_476, sl_647, sl_648, sl_446, sl_447, sl_448, sl_449, sl_450], [], (176, []))
def nE_1104_190 : aNd := ((nat_lit 39), [lcn_306, lcn_77, lcn_821], [], [sl_630, sl_632, sl_348, sl_641, sl_351, sl_385, sl_644, sl_476, sl_647, sl_648, sl_446, sl_447, sl_448, sl_449, sl_450, sl_451], [], (175, []))
def nE_1104_191 : aNd := ((nat_lit 39), [lcn_306, lcn_77, lcn_822], [], [sl_630, sl_632, sl_348, sl_641, sl_351, sl_385, sl_644, sl_476, sl_647, sl_648, sl_446, sl_447, sl_448, sl_449, sl_450, sl_451, sl_452], [], (174, []))
def nE_1104_192 : aNd := ((nat_lit 39), [lcn_306, lcn_77, lcn_823], [], [sl_630, sl_632, sl_348, sl_641, sl_351, sl_385, sl_644, sl_476, sl_647, sl_648, sl_446, sl_447, sl_448, sl_449, sl_450, sl_451, sl_452], [], (173, []))
def nE_1104_193 : aNd := ((nat_lit 39), [lcn_306, lcn_77, lcn_824], [], [sl_630, sl_632, sl_348, sl_641, sl_351, sl_385, sl_644, sl_476, sl_647, sl_648, sl_446, sl_447, sl_448, sl_449, sl_450, sl_451, sl_452], [], (172, []))
def nE_1104_194 : aNd := ((nat_lit 39), [lcn_306, lcn_77, lcn_825], [], [sl_630, sl_632, sl_348, sl_641, sl_351, sl_385, sl_644, sl_476, sl_647, sl_648, sl_446, sl_447, sl_448, sl_449, sl_450, sl_451, sl_452], [], (171, []))
def nE_1104_195 : aNd := ((nat_lit 39), [lcn_306, lcn_77, lcn_826], [], [sl_630, sl_632, sl_348, sl_641, sl_351, sl_385, sl_644, sl_476, sl_647, sl_648, sl_446, sl_447, sl_448, sl_449, sl_450, sl_451, sl_452], [], (170, []))
def nE_1104_196 : aNd := ((nat_lit 39), [lcn_306, lcn_77, lcn_827], [], [sl_630, sl_632, sl_348, sl_641, sl_351, sl_385, sl_644, sl_476, sl_647, sl_648, sl_446, sl_447, sl_448, sl_449, sl_450, sl_451, sl_452], [], (169, []))
def nE_1104_197 : aNd := ((nat_lit 39), [lcn_306, lcn_77, lcn_828], [], [sl_630, sl_632, sl_348, sl_641, sl_351, sl_385, sl_644, sl_476, sl_647, sl_648, sl_446, sl_447, sl_448, sl_449, sl_450, sl_451, sl_452], [], (168, []))
def nE_1104_198 : aNd := ((nat_lit 39), [lcn_306, lcn_77, lcn_829], [], [sl_630, sl_632, sl_348, sl_641, sl_351, sl_385, sl_644, sl_476, sl_647, sl_648, sl_446, sl_447, sl_448, sl_449, sl_450, sl_451, sl_452], [], (167, []))
def nE_1104_199 : aNd := ((nat_lit 39), [lcn_306, lcn_77, lcn_830], [], [sl_630, sl_632, sl_348, sl_641, sl_351, sl_385, sl_644, sl_476, sl_647, sl_648, sl_446, sl_447, sl_448, sl_449, sl_450, sl_451, sl_452], [], (166, []))
def nE_1104_200 : aNd := ((nat_lit 39), [lcn_306, lcn_77, lcn_831], [], [sl_630, sl_632, sl_348, sl_641, sl_351, sl_385, sl_644, sl_476, sl_647, sl_648, sl_446, sl_447, sl_448, sl_449, sl_450, sl_451, sl_452], [], (165, []))
def nE_1104_201 : aNd := ((nat_lit 39), [lcn_306, lcn_77, lcn_832], [], [sl_630, sl_632, sl_348, sl_641, sl_351, sl_385, sl_644, sl_476, sl_647, sl_648, sl_446, sl_447, sl_448, sl_449, sl_450, sl_451, sl_452], [], (164, []))
def nE_1104_202 : aNd := ((nat_lit 39), [lcn_306, lcn_77, lcn_833], [], [sl_630, sl_632, sl_348, sl_641, sl_351, sl_385, sl_644, sl_476, sl_647, sl_648, sl_446, sl_447, sl_448, sl_449, sl_450, sl_451, sl_452], [], (163, []))
def nE_1104_203 : aNd := ((nat_lit 39), [lcn_306, lcn_77, lcn_834], [], [sl_630, sl_632, sl_348, sl_641, sl_351, sl_385, sl_644, sl_476, sl_647, sl_648, sl_446, sl_447, sl_448, sl_449, sl_450, sl_451, sl_452], [], (162, []))
def nE_1104_204 : aNd := ((nat_lit 39), [lcn_306, lcn_77, lcn_835], [], [sl_630, sl_632, sl_348, sl_641, sl_351, sl_385, sl_644, sl_476, sl_647, sl_648, sl_446, sl_447, sl_448, sl_449, sl_450, sl_451, sl_452], [], (161, []))
def nE_1104_205 : aNd := ((nat_lit 39), [lcn_306, lcn_77, lcn_836], [], [sl_630, sl_632, sl_348, sl_641, sl_351, sl_385, sl_644, sl_476, sl_647, sl_648, sl_446, sl_447, sl_448, sl_449, sl_450, sl_451, sl_452], [], (160, []))
def nE_1104_206 : aNd := ((nat_lit 39), [lcn_306, lcn_77, lcn_837], [], [sl_630, sl_632, sl_348, sl_641, sl_351, sl_385, sl_644, sl_476, sl_647, sl_648, sl_446, sl_447, sl_448, sl_449, sl_450, sl_451, sl_452], [], (159, []))
def nE_1104_207 : aNd := ((nat_lit 39), [lcn_306, lcn_77, lcn_838], [], [sl_630, sl_632, sl_348, sl_641, sl_351, sl_385, sl_644, sl_476, sl_647, sl_648, sl_446, sl_447, sl_448, sl_449, sl_450, sl_451, sl_452], [], (158, []))
def nE_1104_208 : aNd := ((nat_lit 39), [lcn_306, lcn_77, lcn_839], [], [sl_630, sl_632, sl_348, sl_641, sl_351, sl_385, sl_644, sl_476, sl_647, sl_648, sl_446, sl_447, sl_448, sl_449, sl_450, sl_451, sl_452], [], (157, []))
def nE_1104_209 : aNd := ((nat_lit 39), [lcn_306, lcn_77, lcn_840], [], [sl_630, sl_632, sl_348, sl_641, sl_351, sl_385, sl_644, sl_476, sl_647, sl_648, sl_446, sl_447, sl_448, sl_449, sl_450, sl_451, sl_452], [], (156, []))
def nE_1104_210 : aNd := ((nat_lit 39), [lcn_306, lcn_77, lcn_841], [], [sl_630, sl_632, sl_348, sl_641, sl_351, sl_385, sl_644, sl_476, sl_647, sl_648, sl_446, sl_447, sl_448, sl_449, sl_450, sl_451, sl_452], [], (155, []))
def nE_1104_211 : aNd := ((nat_lit 39), [lcn_306, lcn_77, lcn_842], [], [sl_630, sl_632, sl_348, sl_641, sl_351, sl_385, sl_644, sl_476, sl_647, sl_648, sl_446, sl_447, sl_448, sl_449, sl_450, sl_451, sl_452], [], (154, []))
def nE_1104_212 : aNd := ((nat_lit 39), [lcn_306, lcn_77, lcn_843], [], [sl_630, sl_632, sl_348, sl_641, sl_351, sl_385, sl_644, sl_476, sl_647, sl_648, sl_446, sl_447, sl_448, sl_449, sl_450, sl_451, sl_452], [], (153, []))
def nE_1104_213 : aNd := ((nat_lit 39), [lcn_306, lcn_77, lcn_844], [], [sl_630, sl_632, sl_348, sl_641, sl_351, sl_385, sl_644, sl_476, sl_647, sl_648, sl_446, sl_447, sl_448, sl_449, sl_450, sl_451, sl_452], [], (152, []))
def nE_1104_214 : aNd := ((nat_lit 39), [lcn_306, lcn_77, lcn_845], [], [sl_630, sl_632, sl_348, sl_641, sl_351, sl_385, sl_644, sl_476, sl_647, sl_648, sl_446, sl_447, sl_448, sl_449, sl_450, sl_451, sl_452], [], (151, []))
def nE_1104_215 : aNd := ((nat_lit 39), [lcn_306, lcn_77, lcn_846], [], [sl_630, sl_632, sl_348, sl_641, sl_351, sl_385, sl_644, sl_476, sl_647, sl_648, sl_446, sl_447, sl_448, sl_449, sl_450, sl_451, sl_452], [], (150, []))
def nE_1104_216 : aNd := ((nat_lit 39), [lcn_306, lcn_77, lcn_847], [], [sl_630, sl_632, sl_348, sl_641, sl_351, sl_385, sl_644, sl_476, sl_647, sl_648, sl_446, sl_447, sl_448, sl_449, sl_450, sl_451, sl_452], [], (149, []))
def nE_1104_217 : aNd := ((nat_lit 39), [lcn_306, lcn_77, lcn_848], [], [sl_630, sl_632, sl_348, sl_641, sl_351, sl_385, sl_644, sl_476, sl_647, sl_648, sl_446, sl_447, sl_448, sl_449, sl_450, sl_451, sl_452], [], (148, []))
def nE_1104_218 : aNd := ((nat_lit 39), [lcn_306, lcn_77, lcn_849], [], [sl_630, sl_632, sl_348, sl_641, sl_351, sl_385, sl_644, sl_476, sl_647, sl_648, sl_446, sl_447, sl_448, sl_449, sl_450, sl_451, sl_452], [], (147, []))
def nE_1104_219 : aNd := ((nat_lit 39), [lcn_306, lcn_77, lcn_850], [], [sl_630, sl_632, sl_348, sl_641, sl_351, sl_385, sl_644, sl_476, sl_647, sl_648, sl_446, sl_447, sl_448, sl_449, sl_450, sl_451, sl_452], [], (146, []))
def nE_1104_220 : aNd := ((nat_lit 39), [lcn_306, lcn_77, lcn_851], [], [sl_630, sl_632, sl_348, sl_641, sl_351, sl_385, sl_644, sl_476, sl_647, sl_648, sl_446, sl_447, sl_448, sl_449, sl_450, sl_451, sl_452], [], (145, []))
def nE_1104_221 : aNd := ((nat_lit 39), [lcn_306, lcn_77, lcn_852], [], [sl_630, sl_632, sl_348, sl_641, sl_351, sl_385, sl_644, sl_476, sl_647, sl_648, sl_446, sl_447, sl_448, sl_449, sl_450, sl_451, sl_452], [], (144, []))
def nE_1104_222 : aNd := ((nat_lit 39), [lcn_306, lcn_77, lcn_853], [], [sl_630, sl_632, sl_348, sl_641, sl_351, sl_385, sl_644, sl_476, sl_647, sl_648, sl_446, sl_447, sl_448, sl_449, sl_450, sl_451, sl_452], [], (143, []))
def nE_1104_223 : aNd := ((nat_lit 39), [lcn_306, lcn_77, lcn_854], [], [sl_630, sl_632, sl_348, sl_641, sl_351, sl_385, sl_644, sl_476, sl_647, sl_648, sl_446, sl_447, sl_448, sl_449, sl_450, sl_451, sl_452], [], (142, []))
def nE_1104_224 : aNd := ((nat_lit 39), [lcn_306, lcn_77, lcn_855], [], [sl_630, sl_632, sl_348, sl_641, sl_351, sl_385, sl_644, sl_476, sl_647, sl_648, sl_446, sl_447, sl_448, sl_449, sl_450, sl_451, sl_452], [], (141, []))
def nE_1104_225 : aNd := ((nat_lit 39), [lcn_306, lcn_77, lcn_856], [], [sl_630, sl_632, sl_348, sl_641, sl_351, sl_385, sl_644, sl_476, sl_647, sl_648, sl_446, sl_447, sl_448, sl_449, sl_450, sl_451, sl_452], [], (140, []))
def nE_1104_226 : aNd := ((nat_lit 39), [lcn_306, lcn_77, lcn_857], [], [sl_630, sl_632, sl_348, sl_641, sl_351, sl_385, sl_644, sl_476, sl_647, sl_648, sl_446, sl_447, sl_448, sl_449, sl_450, sl_451, sl_452], [], (139, []))
def nE_1104_227 : aNd := ((nat_lit 39), [lcn_306, lcn_77, lcn_858], [], [sl_630, sl_632, sl_348, sl_641, sl_351, sl_385, sl_644, sl_476, sl_647, sl_648, sl_446, sl_447, sl_448, sl_449, sl_450, sl_451, sl_452], [], (138, []))
def nE_1104_228 : aNd := ((nat_lit 39), [lcn_306, lcn_77, lcn_859], [], [sl_630, sl_632, sl_348, sl_641, sl_351, sl_385, sl_644, sl_476, sl_647, sl_648, sl_446, sl_447, sl_448, sl_449, sl_450, sl_451, sl_452], [], (137, []))
def nE_1104_229 : aNd := ((nat_lit 39), [lcn_306, lcn_77, lcn_860], [], [sl_630, sl_632, sl_348, sl_641, sl_351, sl_385, sl_644, sl_476, sl_647, sl_648, sl_446, sl_447, sl_448, sl_449, sl_450, sl_451, sl_452], [], (136, []))
def nE_1104_230 : aNd := ((nat_lit 39), [lcn_306, lcn_77, lcn_861], [], [sl_630, sl_632, sl_348, sl_641, sl_351, sl_385, sl_644, sl_476, sl_647, sl_648, sl_446, sl_447, sl_448, sl_449, sl_450, sl_451, sl_452], [], (135, []))
def nE_1104_231 : aNd := ((nat_lit 39), [lcn_306, lcn_77, lcn_862], [], [sl_630, sl_632, sl_348, sl_641, sl_351, sl_385, sl_644, sl_476, sl_647, sl_648, sl_446, sl_447, sl_448, sl_449, sl_450, sl_451, sl_452], [], (134, []))
def nE_1104_232 : aNd := ((nat_lit 39), [lcn_306, lcn_77, lcn_863], [], [sl_630, sl_632, sl_348, sl_641, sl_351, sl_385, sl_644, sl_476, sl_647, sl_648, sl_446, sl_447, sl_448, sl_449, sl_450, sl_451, sl_452], [], (133, []))
def nE_1104_233 : aNd := ((nat_lit 39), [lcn_306, lcn_77, lcn_864], [], [sl_630, sl_632, sl_348, sl_641, sl_351, sl_385, sl_644, sl_476, sl_647, sl_648, sl_446, sl_447, sl_448, sl_449, sl_450, sl_451, sl_452], [], (132, []))
def nE_1104_234 : aNd := ((nat_lit 39), [lcn_306, lcn_77, lcn_865], [], [sl_630, sl_632, sl_348, sl_641, sl_351, sl_385, sl_644, sl_476, sl_647, sl_648, sl_446, sl_447, sl_448, sl_449, sl_450, sl_451, sl_452], [], (131, []))
def nE_1104_235 : aNd := ((nat_lit 39), [lcn_306, lcn_77, lcn_866], [], [sl_630, sl_632, sl_348, sl_641, sl_351, sl_385, sl_644, sl_476, sl_647, sl_648, sl_446, sl_447, sl_448, sl_449, sl_450, sl_451, sl_452], [], (130, []))
def nE_1104_236 : aNd := ((nat_lit 39), [lcn_306, lcn_77, lcn_867], [], [sl_630, sl_632, sl_348, sl_641, sl_351, sl_385, sl_644, sl_476, sl_647, sl_648, sl_446, sl_447, sl_448, sl_449, sl_450, sl_451, sl_452], [], (129, []))
def nE_1104_237 : aNd := ((nat_lit 39), [lcn_306, lcn_77, lcn_868], [], [sl_630, sl_632, sl_348, sl_641, sl_351, sl_385, sl_644, sl_476, sl_647, sl_648, sl_446, sl_447, sl_448, sl_449, sl_450, sl_451, sl_452], [], (128, []))
def nE_1104_238 : aNd := ((nat_lit 39), [lcn_306, lcn_77, lcn_869], [], [sl_630, sl_632, sl_348, sl_641, sl_351, sl_385, sl_644, sl_476, sl_647, sl_648, sl_446, sl_447, sl_448, sl_449, sl_450, sl_451, sl_452], [], (127, []))
def nE_1104_239 : aNd := ((nat_lit 39), [lcn_306, lcn_77, lcn_870], [], [sl_630, sl_632, sl_348, sl_641, sl_351, sl_385, sl_644, sl_476, sl_647, sl_648, sl_446, sl_447, sl_448, sl_449, sl_450, sl_451, sl_452], [], (126, []))
def nE_1104_240 : aNd := ((nat_lit 39), [lcn_306, lcn_77, lcn_871], [], [sl_630, sl_632, sl_348, sl_641, sl_351, sl_385, sl_644, sl_476, sl_647, sl_648, sl_446, sl_447, sl_448, sl_449, sl_450, sl_451, sl_452], [], (125, []))
def nE_1104_241 : aNd := ((nat_lit 39), [lcn_306, lcn_77, lcn_872], [], [sl_630, sl_632, sl_348, sl_641, sl_351, sl_385, sl_644, sl_476, sl_647, sl_648, sl_446, sl_447, sl_448, sl_449, sl_450, sl_451, sl_452], [], (124, []))
def nE_1104_242 : aNd := ((nat_lit 39), [lcn_306, lcn_77, lcn_873], [], [sl_630, sl_632, sl_348, sl_641, sl_351, sl_385, sl_644, sl_476, sl_647, sl_648, sl_446, sl_447, sl_448, sl_449, sl_450, sl_451, sl_452], [], (123, []))
def nE_1104_243 : aNd := ((nat_lit 39), [lcn_306, lcn_77, lcn_874], [], [sl_630, sl_632, sl_348, sl_641, sl_351, sl_385, sl_644, sl_476, sl_647, sl_648, sl_446, sl_447, sl_448, sl_449, sl_450, sl_451, sl_452], [], (122, []))
def nE_1104_244 : aNd := ((nat_lit 39), [lcn_306, lcn_77, lcn_875], [], [sl_630, sl_632, sl_348, sl_641, sl_351, sl_385, sl_644, sl_476, sl_647, sl_648, sl_446, sl_447, sl_448, sl_449, sl_450, sl_451, sl_452], [], (121, []))
def nE_1104_245 : aNd := ((nat_lit 39), [lcn_306, lcn_77, lcn_876], [], [sl_630, sl_632, sl_348, sl_641, sl_351, sl_385, sl_644, sl_476, sl_647, sl_648, sl_446, sl_447, sl_448, sl_449, sl_450, sl_451, sl_452], [], (120, []))
def nE_1104_246 : aNd := ((nat_lit 39), [lcn_306, lcn_77, lcn_877], [], [sl_630, sl_632, sl_348, sl_641, sl_351, sl_385, sl_644, sl_476, sl_647, sl_648, sl_446, sl_447, sl_448, sl_449, sl_450, sl_451, sl_452], [], (119, []))
def nE_1104_247 : aNd := ((nat_lit 39), [lcn_306, lcn_77, lcn_878], [], [sl_630, sl_632, sl_348, sl_641, sl_351, sl_385, sl_644, sl_476, sl_647, sl_648, sl_446, sl_447, sl_448, sl_449, sl_450, sl_451, sl_452], [], (118, []))
def nE_1104_248 : aNd := ((nat_lit 39), [lcn_306, lcn_77, lcn_879], [], [sl_630, sl_632, sl_348, sl_641, sl_351, sl_385, sl_644, sl_476, sl_647, sl_648, sl_446, sl_447, sl_448, sl_449, sl_450, sl_451, sl_452], [], (117, []))
def nE_1104_249 : aNd := ((nat_lit 39), [lcn_306, lcn_77, lcn_880], [], [sl_630, sl_632, sl_348, sl_641, sl_351, sl_385, sl_644, sl_476, sl_647, sl_648, sl_446, sl_447, sl_448, sl_449, sl_450, sl_451, sl_452], [], (116, []))
def nE_1104_250 : aNd := ((nat_lit 39), [lcn_306, lcn_77, lcn_881], [], [sl_630, sl_632, sl_348, sl_641, sl_351, sl_385, sl_644, sl_476, sl_647, sl_648, sl_446, sl_447, sl_448, sl_449, sl_450, sl_451, sl_452], [], (115, []))
def nE_1104_251 : aNd := ((nat_lit 39), [lcn_306, lcn_77, lcn_882], [], [sl_630, sl_632, sl_348, sl_641, sl_351, sl_385, sl_644, sl_476, sl_647, sl_648, sl_446, sl_447, sl_448, sl_449, sl_450, sl_451, sl_452], [], (114, []))
def nE_1104_252 : aNd := ((nat_lit 39), [lcn_306, lcn_77, lcn_883], [], [sl_630, sl_632, sl_348, sl_641, sl_351, sl_385, sl_644, sl_476, sl_647, sl_648, sl_446, sl_447, sl_448, sl_449, sl_450, sl_451, sl_452], [], (113, []))
def nE_1104_253 : aNd := ((nat_lit 39), [lcn_306, lcn_77, lcn_884], [], [sl_630, sl_632, sl_348, sl_641, sl_351, sl_385, sl_644, sl_476, sl_647, sl_648, sl_446, sl_447, sl_448, sl_449, sl_450, sl_451, sl_452], [], (112, []))
def nE_1104_254 : aNd := ((nat_lit 39), [lcn_306, lcn_77, lcn_885], [], [sl_630, sl_632, sl_348, sl_641, sl_351, sl_385, sl_644, sl_476, sl_647, sl_648, sl_446, sl_447, sl_448, sl_449, sl_450, sl_451, sl_452], [], (111, []))
def nE_1104_255 : aNd := ((nat_lit 39), [lcn_306, lcn_77, lcn_886], [], [sl_630, sl_632, sl_348, sl_641, sl_351, sl_385, sl_644, sl_476, sl_647, sl_648, sl_446, sl_447, sl_448, sl_449, sl_450, sl_451, sl_452], [], (110, []))
def nE_1104_256 : aNd := ((nat_lit 39), [lcn_306, lcn_77, lcn_887], [], [sl_630, sl_632, sl_348, sl_641, sl_351, sl_385, sl_644, sl_476, sl_647, sl_648, sl_446, sl_447, sl_448, sl_449, sl_450, sl_451, sl_452], [], (109, []))
def nE_1104_257 : aNd := ((nat_lit 39), [lcn_306, lcn_77, lcn_888], [], [sl_630, sl_632, sl_348, sl_641, sl_351, sl_385, sl_644, sl_476, sl_647, sl_648, sl_446, sl_447, sl_448, sl_449, sl_450, sl_451, sl_452], [], (108, []))
def nE_1104_258 : aNd := ((nat_lit 39), [lcn_306, lcn_77, lcn_889], [], [sl_630, sl_632, sl_348, sl_641, sl_351, sl_385, sl_644, sl_476, sl_647, sl_648, sl_446, sl_447, sl_448, sl_449, sl_450, sl_451, sl_452], [], (107, []))
def nE_1104_259 : aNd := ((nat_lit 39), [lcn_306, lcn_77, lcn_890], [], [sl_630, sl_632, sl_348, sl_641, sl_351, sl_385, sl_644, sl_476, sl_647, sl_648, sl_446, sl_447, sl_448, sl_449, sl_450, sl_451, sl_452], [], (106, []))
def nE_1104_260 : aNd := ((nat_lit 39), [lcn_306, lcn_77, lcn_891], [], [sl_630, sl_632, sl_348, sl_641, sl_351, sl_385, sl_644, sl_476, sl_647, sl_648, sl_446, sl_447, sl_448, sl_449, sl_450, sl_451, sl_452], [], (105, []))
def nE_1104_261 : aNd := ((nat_lit 39), [lcn_306, lcn_77, lcn_892], [], [sl_630, sl_632, sl_348, sl_641, sl_351, sl_385, sl_644, sl_476, sl_647, sl_648, sl_446, sl_447, sl_448, sl_449, sl_450, sl_451, sl_452], [], (104, []))
def nE_1104_262 : aNd := ((nat_lit 39), [lcn_306, lcn_77, lcn_893], [], [sl_630, sl_632, sl_348, sl_641, sl_351, sl_385, sl_644, sl_476, sl_647, sl_648, sl_446, sl_447, sl_448, sl_449, sl_450, sl_451, sl_452], [], (103, []))
def nE_1104_263 : aNd := ((nat_lit 39), [lcn_306, lcn_77, lcn_894], [], [sl_630, sl_632, sl_348, sl_641, sl_351, sl_385, sl_644, sl_476, sl_647, sl_648, sl_446, sl_447, sl_448, sl_449, sl_450, sl_451, sl_452], [], (102, []))
def nE_1104_264 : aNd := ((nat_lit 39), [lcn_306, lcn_77, lcn_895], [], [sl_630, sl_632, sl_348, sl_641, sl_351, sl_385, sl_644, sl_476, sl_647, sl_648, sl_446, sl_447, sl_448, sl_449, sl_450, sl_451, sl_452], [], (101, []))
def nE_1104_265 : aNd := ((nat_lit 39), [lcn_306, lcn_77, lcn_896], [], [sl_630, sl_632, sl_348, sl_641, sl_351, sl_385, sl_644, sl_476, sl_647, sl_648, sl_446, sl_447, sl_448, sl_449, sl_450, sl_451, sl_452], [], (100, []))
def nE_1104_266 : aNd := ((nat_lit 39), [lcn_306, lcn_77, lcn_897], [], [sl_630, sl_632, sl_348, sl_641, sl_351, sl_385, sl_644, sl_476, sl_647, sl_648, sl_446, sl_447, sl_448, sl_449, sl_450, sl_451, sl_452], [], (99, []))
def nE_1104_267 : aNd := ((nat_lit 39), [lcn_306, lcn_77, lcn_898], [], [sl_630, sl_632, sl_348, sl_641, sl_351, sl_385, sl_644, sl_476, sl_647, sl_648, sl_446, sl_447, sl_448, sl_449, sl_450, sl_451, sl_452], [], (98, []))
def nE_1104_268 : aNd := ((nat_lit 39), [lcn_306, lcn_77, lcn_899], [], [sl_630, sl_632, sl_348, sl_641, sl_351, sl_385, sl_644, sl_476, sl_647, sl_648, sl_446, sl_447, sl_448, sl_449, sl_450, sl_451, sl_452], [], (97, []))
def nE_1104_269 : aNd := ((nat_lit 39), [lcn_306, lcn_77, lcn_900], [], [sl_630, sl_632, sl_348, sl_641, sl_351, sl_385, sl_644, sl_476, sl_647, sl_648, sl_446, sl_447, sl_448, sl_449, sl_450, sl_451, sl_452], [], (96, []))
def nE_1104_270 : aNd := ((nat_lit 39), [lcn_306, lcn_77, lcn_901], [], [sl_630, sl_632, sl_348, sl_641, sl_351, sl_385, sl_644, sl_476, sl_647, sl_648, sl_446, sl_447, sl_448, sl_449, sl_450, sl_451, sl_452], [], (95, []))
def nE_1104_271 : aNd := ((nat_lit 39), [lcn_306, lcn_77, lcn_902], [], [sl_630, sl_632, sl_348, sl_641, sl_351, sl_385, sl_644, sl_476, sl_647, sl_648, sl_446, sl_447, sl_448, sl_449, sl_450, sl_451, sl_452], [], (94, []))
def nE_1104_272 : aNd := ((nat_lit 39), [lcn_306, lcn_77, lcn_903], [], [sl_630, sl_632, sl_348, sl_641, sl_351, sl_385, sl_644, sl_476, sl_647, sl_648, sl_446, sl_447, sl_448, sl_449, sl_450, sl_451, sl_452], [], (93, []))
def nE_1104_273 : aNd := ((nat_lit 39), [lcn_306, lcn_77, lcn_904], [], [sl_630, sl_632, sl_348, sl_641, sl_351, sl_385, sl_644, sl_476, sl_647, sl_648, sl_446, sl_447, sl_448, sl_449, sl_450, sl_451, sl_452], [], (92, []))
def nE_1104_274 : aNd := ((nat_lit 39), [lcn_306, lcn_77, lcn_905], [], [sl_630, sl_632, sl_348, sl_641, sl_351, sl_385, sl_644, sl_476, sl_647, sl_648, sl_446, sl_447, sl_448, sl_449, sl_450, sl_451, sl_452], [], (91, []))
def nE_1104_275 : aNd := ((nat_lit 39), [lcn_306, lcn_77, lcn_906], [], [sl_630, sl_632, sl_348, sl_641, sl_351, sl_385, sl_644, sl_476, sl_647, sl_648, sl_446, sl_447, sl_448, sl_449, sl_450, sl_451, sl_452], [], (90, []))
def nE_1104_276 : aNd := ((nat_lit 39), [lcn_306, lcn_77, lcn_907], [], [sl_630, sl_632, sl_348, sl_641, sl_351, sl_385, sl_644, sl_476, sl_647, sl_648, sl_446, sl_447, sl_448, sl_449, sl_450, sl_451, sl_452], [], (89, []))
def nE_1104_277 : aNd := ((nat_lit 39), [lcn_306, lcn_77, lcn_908], [], [sl_630, sl_632, sl_348, sl_641, sl_351, sl_385, sl_644, sl_476, sl_647, sl_648, sl_446, sl_447, sl_448, sl_449, sl_450, sl_451, sl_452], [], (88, []))
def nE_1104_278 : aNd := ((nat_lit 39), [lcn_306, lcn_77, lcn_909], [], [sl_630, sl_632, sl_348, sl_641, sl_351, sl_385, sl_644, sl_476, sl_647, sl_648, sl_446, sl_447, sl_448, sl_449, sl_450, sl_451, sl_452], [], (87, []))
def nE_1104_279 : aNd := ((nat_lit 39), [lcn_306, lcn_77, lcn_910], [], [sl_630, sl_632, sl_348, sl_641, sl_351, sl_385, sl_644, sl_476, sl_647, sl_648, sl_446, sl_447, sl_448, sl_449, sl_450, sl_451, sl_452], [], (86, []))
def nE_1104_280 : aNd := ((nat_lit 39), [lcn_306, lcn_77, lcn_911], [], [sl_630, sl_632, sl_348, sl_641, sl_351, sl_385, sl_644, sl_476, sl_647, sl_648, sl_446, sl_447, sl_448, sl_449, sl_450, sl_451, sl_452], [], (85, []))
def nE_1104_281 : aNd := ((nat_lit 39), [lcn_306, lcn_77, lcn_912], [], [sl_630, sl_632, sl_348, sl_641, sl_351, sl_385, sl_644, sl_476, sl_647, sl_648, sl_446, sl_447, sl_448, sl_449, sl_450, sl_451, sl_452], [], (84, []))
def nE_1104_282 : aNd := ((nat_lit 39), [lcn_306, lcn_77, lcn_913], [], [sl_630, sl_632, sl_348, sl_641, sl_351, sl_385, sl_644, sl_476, sl_647, sl_648, sl_446, sl_447, sl_448, sl_449, sl_450, sl_451, sl_452], [], (83, []))
def nE_1104_283 : aNd := ((nat_lit 39), [lcn_306, lcn_77, lcn_914], [], [sl_630, sl_632, sl_348, sl_641, sl_351, sl_385, sl_644, sl_476, sl_647, sl_648, sl_446, sl_447, sl_448, sl_449, sl_450, sl_451, sl_452], [], (82, []))
def nE_1104_284 : aNd := ((nat_lit 39), [lcn_306, lcn_77, lcn_915], [], [sl_630, sl_632, sl_348, sl_641, sl_351, sl_385, sl_644, sl_476, sl_647, sl_648, sl_446, sl_447, sl_448, sl_449, sl_450, sl_451, sl_452], [], (81, []))
def nE_1104_285 : aNd := ((nat_lit 39), [lcn_306, lcn_77, lcn_916], [], [sl_630, sl_632, sl_348, sl_641, sl_351, sl_385, sl_644, sl_476, sl_647, sl_648, sl_446, sl_447, sl_448, sl_449, sl_450, sl_451, sl_452], [], (80, []))
def nE_1104_286 : aNd := ((nat_lit 39), [lcn_306, lcn_77, lcn_917], [], [sl_630, sl_632, sl_348, sl_641, sl_351, sl_385, sl_644, sl_476, sl_647, sl_648, sl_446, sl_447, sl_448, sl_449, sl_450, sl_451, sl_452], [], (79, []))
def nE_1104_287 : aNd := ((nat_lit 39), [lcn_306, lcn_77, lcn_918], [], [sl_630, sl_632, sl_348, sl_641, sl_351, sl_385, sl_644, sl_476, sl_647, sl_648, sl_446, sl_447, sl_448, sl_449, sl_450, sl_451, sl_452], [], (78, []))
def nE_1104_288 : aNd := ((nat_lit 39), [lcn_306, lcn_77, lcn_919], [], [sl_630, sl_632, sl_348, sl_641, sl_351, sl_385, sl_644, sl_476, sl_647, sl_648, sl_446, sl_447, sl_448, sl_449, sl_450, sl_451, sl_452], [], (77, []))
def nE_1104_289 : aNd := ((nat_lit 39), [lcn_306, lcn_77, lcn_920], [], [sl_630, sl_632, sl_348, sl_641, sl_351, sl_385, sl_644, sl_476, sl_647, sl_648, sl_446, sl_447, sl_448, sl_449, sl_450, sl_451, sl_452], [], (76, []))
def nE_1104_290 : aNd := ((nat_lit 39), [lcn_306, lcn_77, lcn_921], [], [sl_630, sl_632, sl_348, sl_641, sl_351, sl_385, sl_644, sl_476, sl_647, sl_648, sl_446, sl_447, sl_448, sl_449, sl_450, sl_451, sl_452], [], (75, []))
def nE_1104_291 : aNd := ((nat_lit 39), [lcn_306, lcn_77, lcn_922], [], [sl_630, sl_632, sl_348, sl_641, sl_351, sl_385, sl_644, sl_476, sl_647, sl_648, sl_446, sl_447, sl_448, sl_449, sl_450, sl_451, sl_452], [], (74, []))
def nE_1104_292 : aNd := ((nat_lit 39), [lcn_306, lcn_77, lcn_923], [], [sl_630, sl_632, sl_348, sl_641, sl_351, sl_385, sl_644, sl_476, sl_647, sl_648, sl_446, sl_447, sl_448, sl_449, sl_450, sl_451, sl_452], [], (73, []))
def nE_1104_293 : aNd := ((nat_lit 39), [lcn_306, lcn_77, lcn_924], [], [sl_630, sl_632, sl_348, sl_641, sl_351, sl_385, sl_644, sl_476, sl_647, sl_648, sl_446, sl_447, sl_448, sl_449, sl_450, sl_451, sl_452], [], (72, []))
def nE_1104_294 : aNd := ((nat_lit 39), [lcn_306, lcn_77, lcn_925], [], [sl_630, sl_632, sl_348, sl_641, sl_351, sl_385, sl_644, sl_476, sl_647, sl_648, sl_446, sl_447, sl_448, sl_449, sl_450, sl_451, sl_452], [], (71, []))
def nE_1104_295 : aNd := ((nat_lit 39), [lcn_306, lcn_77, lcn_926], [], [sl_630, sl_632, sl_348, sl_641, sl_351, sl_385, sl_644, sl_476, sl_647, sl_648, sl_446, sl_447, sl_448, sl_449, sl_450, sl_451, sl_452], [], (70, []))
def nE_1104_296 : aNd := ((nat_lit 39), [lcn_306, lcn_77, lcn_927], [], [sl_630, sl_632, sl_348, sl_641, sl_351, sl_385, sl_644, sl_476, sl_647, sl_648, sl_446, sl_447, sl_448, sl_449, sl_450, sl_451, sl_452], [], (69, []))
def nE_1104_297 : aNd := ((nat_lit 39), [lcn_306, lcn_77, lcn_928], [], [sl_630, sl_632, sl_348, sl_641, sl_351, sl_385, sl_644, sl_476, sl_647, sl_648, sl_446, sl_447, sl_448, sl_449, sl_450, sl_451, sl_452], [], (68, []))
def nE_1104_298 : aNd := ((nat_lit 39), [lcn_306, lcn_77, lcn_929], [], [sl_630, sl_632, sl_348, sl_641, sl_351, sl_385, sl_644, sl_476, sl_647, sl_648, sl_446, sl_447, sl_448, sl_449, sl_450, sl_451, sl_452], [], (67, []))
def nE_1104_299 : aNd := ((nat_lit 39), [lcn_306, lcn_77, lcn_930], [], [sl_630, sl_632, sl_348, sl_641, sl_351, sl_385, sl_644, sl_476, sl_647, sl_648, sl_446, sl_447, sl_448, sl_449, sl_450, sl_451, sl_452], [], (66, []))
def nE_1104_300 : aNd := ((nat_lit 39), [lcn_306, lcn_77, lcn_931], [], [sl_630, sl_632, sl_348, sl_641, sl_351, sl_385, sl_644, sl_476, sl_647, sl_648, sl_446, sl_447, sl_448, sl_449, sl_450, sl_451, sl_452], [], (65, []))
def nE_1104_301 : aNd := ((nat_lit 39), [lcn_306, lcn_77, lcn_932], [], [sl_630, sl_632, sl_348, sl_641, sl_351, sl_385, sl_644, sl_476, sl_647, sl_648, sl_446, sl_447, sl_448, sl_449, sl_450, sl_451, sl_452], [], (64, []))
def nE_1104_302 : aNd := ((nat_lit 39), [lcn_306, lcn_77, lcn_933], [], [sl_630, sl_632, sl_348, sl_641, sl_351, sl_385, sl_644, sl_476, sl_647, sl_648, sl_446, sl_447, sl_448, sl_449, sl_450, sl_451, sl_452], [], (63, []))
def nE_1104_303 : aNd := ((nat_lit 39), [lcn_306, lcn_77, lcn_934], [], [sl_630, sl_632, sl_348, sl_641, sl_351, sl_385, sl_644, sl_476, sl_647, sl_648, sl_446, sl_447, sl_448, sl_449, sl_450, sl_451, sl_452], [], (62, []))
def nE_1104_304 : aNd := ((nat_lit 39), [lcn_306, lcn_77, lcn_935], [], [sl_630, sl_632, sl_348, sl_641, sl_351, sl_385, sl_644, sl_476, sl_647, sl_648, sl_446, sl_447, sl_448, sl_449, sl_450, sl_451, sl_452], [], (61, []))
def nE_1104_305 : aNd := ((nat_lit 39), [lcn_306, lcn_77, lcn_936], [], [sl_630, sl_632, sl_348, sl_641, sl_351, sl_385, sl_644, sl_476, sl_647, sl_648, sl_446, sl_447, sl_448, sl_449, sl_450, sl_451, sl_452], [], (60, []))
def nE_1104_306 : aNd := ((nat_lit 39), [lcn_306, lcn_77, lcn_937], [], [sl_630, sl_632, sl_348, sl_641, sl_351, sl_385, sl_644, sl_476, sl_647, sl_648, sl_446, sl_447, sl_448, sl_449, sl_450, sl_451, sl_452], [], (59, []))
def nE_1104_307 : aNd := ((nat_lit 39), [lcn_306, lcn_77, lcn_938], [], [sl_630, sl_632, sl_348, sl_641, sl_351, sl_385, sl_644, sl_476, sl_647, sl_648, sl_446, sl_447, sl_448, sl_449, sl_450, sl_451, sl_452], [], (58, []))
def nE_1104_308 : aNd := ((nat_lit 39), [lcn_306, lcn_77, lcn_939], [], [sl_630, sl_632, sl_348, sl_641, sl_351, sl_385, sl_644, sl_476, sl_647, sl_648, sl_446, sl_447, sl_448, sl_449, sl_450, sl_451, sl_452], [], (57, []))
def nE_1104_309 : aNd := ((nat_lit 39), [lcn_306, lcn_77, lcn_940], [], [sl_630, sl_632, sl_348, sl_641, sl_351, sl_385, sl_644, sl_476, sl_647, sl_648, sl_446, sl_447, sl_448, sl_449, sl_450, sl_451, sl_452], [], (56, []))
def nE_1104_310 : aNd := ((nat_lit 39), [lcn_306, lcn_77, lcn_941], [], [sl_630, sl_632, sl_348, sl_641, sl_351, sl_385, sl_644, sl_476, sl_647, sl_648, sl_446, sl_447, sl_448, sl_449, sl_450, sl_451, sl_452], [], (55, []))
def nE_1104_311 : aNd := ((nat_lit 39), [lcn_306, lcn_77, lcn_942], [], [sl_630, sl_632, sl_348, sl_641, sl_351, sl_385, sl_644, sl_476, sl_647, sl_648, sl_446, sl_447, sl_448, sl_449, sl_450, sl_451, sl_452], [], (54, []))
def nE_1104_312 : aNd := ((nat_lit 39), [lcn_306, lcn_77, lcn_943], [], [sl_630, sl_632, sl_348, sl_641, sl_351, sl_385, sl_644, sl_476, sl_647, sl_648, sl_446, sl_447, sl_448, sl_449, sl_450, sl_451, sl_452], [], (53, []))
def nE_1104_313 : aNd := ((nat_lit 39), [lcn_306, lcn_77, lcn_944], [], [sl_630, sl_632, sl_348, sl_641, sl_351, sl_385, sl_644, sl_476, sl_647, sl_648, sl_446, sl_447, sl_448, sl_449, sl_450, sl_451, sl_452], [], (52, []))
def nE_1104_314 : aNd := ((nat_lit 39), [lcn_306, lcn_77, lcn_945], [], [sl_630, sl_632, sl_348, sl_641, sl_351, sl_385, sl_644, sl_476, sl_647, sl_648, sl_446, sl_447, sl_448, sl_449, sl_450, sl_451, sl_452], [], (51, []))
def nE_1104_315 : aNd := ((nat_lit 39), [lcn_306, lcn_77, lcn_946], [], [sl_630, sl_632, sl_348, sl_641, sl_351, sl_385, sl_644, sl_476, sl_647, sl_648, sl_446, sl_447, sl_448, sl_449, sl_450, sl_451, sl_452], [], (50, []))
def nE_1104_316 : aNd := ((nat_lit 39), [lcn_306, lcn_77, lcn_947], [], [sl_630, sl_632, sl_348, sl_641, sl_351, sl_385, sl_644, sl_476, sl_647, sl_648, sl_446, sl_447, sl_448, sl_449, sl_450, sl_451, sl_452], [], (49, []))
def nE_1104_317 : aNd := ((nat_lit 39), [lcn_306, lcn_77, lcn_948], [], [sl_630, sl_632, sl_348, sl_641, sl_351, sl_385, sl_644, sl_476, sl_647, sl_648, sl_446, sl_447, sl_448, sl_449, sl_450, sl_451, sl_452], [], (48, []))
def nE_1104_318 : aNd := ((nat_lit 39), [lcn_306, lcn_77, lcn_949], [], [sl_630, sl_632, sl_348, sl_641, sl_351, sl_385, sl_644, sl_476, sl_647, sl_648, sl_446, sl_447, sl_448, sl_449, sl_450, sl_451, sl_452], [], (47, []))
def nE_1104_319 : aNd := ((nat_lit 39), [lcn_306, lcn_77, lcn_950], [], [sl_630, sl_632, sl_348, sl_641, sl_351, sl_385, sl_644, sl_476, sl_647, sl_648, sl_446, sl_447, sl_448, sl_449, sl_450, sl_451, sl_452], [], (46, []))
def nE_1104_320 : aNd := ((nat_lit 39), [lcn_306, lcn_77, lcn_951], [], [sl_630, sl_632, sl_348, sl_641, sl_351, sl_385, sl_644, sl_476, sl_647, sl_648, sl_446, sl_447, sl_448, sl_449, sl_450, sl_451, sl_452], [], (45, []))
def nE_1104_321 : aNd := ((nat_lit 39), [lcn_306, lcn_77, lcn_952], [], [sl_630, sl_632, sl_348, sl_641, sl_351, sl_385, sl_644, sl_476, sl_647, sl_648, sl_446, sl_447, sl_448, sl_449, sl_450, sl_451, sl_452], [], (44, []))
def nE_1104_322 : aNd := ((nat_lit 39), [lcn_306, lcn_77, lcn_953], [], [sl_630, sl_632, sl_348, sl_641, sl_351, sl_385, sl_644, sl_476, sl_647, sl_648, sl_446, sl_447, sl_448, sl_449, sl_450, sl_451, sl_452], [], (43, []))
def nE_1104_323 : aNd := ((nat_lit 39), [lcn_306, lcn_77, lcn_954], [], [sl_630, sl_632, sl_348, sl_641, sl_351, sl_385, sl_644, sl_476, sl_647, sl_648, sl_446, sl_447, sl_448, sl_449, sl_450, sl_451, sl_452], [], (42, []))
def nE_1104_324 : aNd := ((nat_lit 39), [lcn_306, lcn_77, lcn_955], [], [sl_630, sl_632, sl_348, sl_641, sl_351, sl_385, sl_644, sl_476, sl_647, sl_648, sl_446, sl_447, sl_448, sl_449, sl_450, sl_451, sl_452], [], (41, []))
def nE_1104_325 : aNd := ((nat_lit 39), [lcn_306, lcn_77, lcn_956], [], [sl_630, sl_632, sl_348, sl_641, sl_351, sl_385, sl_644, sl_476, sl_647, sl_648, sl_446, sl_447, sl_448, sl_449, sl_450, sl_451, sl_452], [], (40, []))
def nE_1104_326 : aNd := ((nat_lit 39), [lcn_306, lcn_77, lcn_957], [], [sl_630, sl_632, sl_348, sl_641, sl_351, sl_385, sl_644, sl_476, sl_647, sl_648, sl_446, sl_447, sl_448, sl_449, sl_450, sl_451, sl_452], [], (39, []))
def nE_1104_327 : aNd := ((nat_lit 39), [lcn_306, lcn_77, lcn_958], [], [sl_630, sl_632, sl_348, sl_641, sl_351, sl_385, sl_644, sl_476, sl_647, sl_648, sl_446, sl_447, sl_448, sl_449, sl_450, sl_451, sl_452], [], (38, []))
def nE_1104_328 : aNd := ((nat_lit 39), [lcn_306, lcn_77, lcn_959], [], [sl_630, sl_632, sl_348, sl_641, sl_351, sl_385, sl_644, sl_476, sl_647, sl_648, sl_446, sl_447, sl_448, sl_449, sl_450, sl_451, sl_452], [], (37, []))
def nE_1104_329 : aNd := ((nat_lit 39), [lcn_306, lcn_77, lcn_960], [], [sl_630, sl_632, sl_348, sl_641, sl_351, sl_385, sl_644, sl_476, sl_647, sl_648, sl_446, sl_447, sl_448, sl_449, sl_450, sl_451, sl_452], [], (36, []))
def nE_1104_330 : aNd := ((nat_lit 39), [lcn_306, lcn_77, lcn_961], [], [sl_630, sl_632, sl_348, sl_641, sl_351, sl_385, sl_644, sl_476, sl_647, sl_648, sl_446, sl_447, sl_448, sl_449, sl_450, sl_451, sl_452], [], (35, []))
def nE_1104_331 : aNd := ((nat_lit 39), [lcn_306, lcn_77, lcn_962], [], [sl_630, sl_632, sl_348, sl_641, sl_351, sl_385, sl_644, sl_476, sl_647, sl_648, sl_446, sl_447, sl_448, sl_449, sl_450, sl_451, sl_452], [], (34, []))
def nE_1104_332 : aNd := ((nat_lit 39), [lcn_306, lcn_77, lcn_963], [], [sl_630, sl_632, sl_348, sl_641, sl_351, sl_385, sl_644, sl_476, sl_647, sl_648, sl_446, sl_447, sl_448, sl_449, sl_450, sl_451, sl_452], [], (33, []))
def nE_1104_333 : aNd := ((nat_lit 39), [lcn_306, lcn_77, lcn_964], [], [sl_630, sl_632, sl_348, sl_641, sl_351, sl_385, sl_644, sl_476, sl_647, sl_648, sl_446, sl_447, sl_448, sl_449, sl_450, sl_451, sl_452], [], (32, []))
def nE_1104_334 : aNd := ((nat_lit 39), [lcn_306, lcn_77, lcn_965], [], [sl_630, sl_632, sl_348, sl_641, sl_351, sl_385, sl_644, sl_476, sl_647, sl_648, sl_446, sl_447, sl_448, sl_449, sl_450, sl_451, sl_452], [], (31, []))
def nE_1104_335 : aNd := ((nat_lit 39), [lcn_306, lcn_77, lcn_966], [], [sl_630, sl_632, sl_348, sl_641, sl_351, sl_385, sl_644, sl_476, sl_647, sl_648, sl_446, sl_447, sl_448, sl_449, sl_450, sl_451, sl_452], [], (30, []))
def nE_1104_336 : aNd := ((nat_lit 39), [lcn_306, lcn_77, lcn_967], [], [sl_630, sl_632, sl_348, sl_641, sl_351, sl_385, sl_644, sl_476, sl_647, sl_648, sl_446, sl_447, sl_448, sl_449, sl_450, sl_451, sl_452], [], (29, []))
def nE_1104_337 : aNd := ((nat_lit 39), [lcn_306, lcn_77, lcn_968], [], [sl_630, sl_632, sl_348, sl_641, sl_351, sl_385, sl_644, sl_476, sl_647, sl_648, sl_446, sl_447, sl_448, sl_449, sl_450, sl_451, sl_452], [], (28, []))
def nE_1104_338 : aNd := ((nat_lit 39), [lcn_306, lcn_77, lcn_969], [], [sl_630, sl_632, sl_348, sl_641, sl_351, sl_385, sl_644, sl_476, sl_647, sl_648, sl_446, sl_447, sl_448, sl_449, sl_450, sl_451, sl_452], [], (27, []))
def nE_1104_339 : aNd := ((nat_lit 39), [lcn_306, lcn_77, lcn_970], [], [sl_630, sl_632, sl_348, sl_641, sl_351, sl_385, sl_644, sl_476, sl_647, sl_648, sl_446, sl_447, sl_448, sl_449, sl_450, sl_451, sl_452], [], (26, []))
def nE_1104_340 : aNd := ((nat_lit 39), [lcn_306, lcn_77, lcn_971], [], [sl_630, sl_632, sl_348, sl_641, sl_351, sl_385, sl_644, sl_476, sl_647, sl_648, sl_446, sl_447, sl_448, sl_449, sl_450, sl_451, sl_452], [], (25, []))
def nE_1104_341 : aNd := ((nat_lit 39), [lcn_306, lcn_77, lcn_972], [], [sl_630, sl_632, sl_348, sl_641, sl_351, sl_385, sl_644, sl_476, sl_647, sl_648, sl_446, sl_447, sl_448, sl_449, sl_450, sl_451, sl_452], [], (24, []))
def nE_1104_342 : aNd := ((nat_lit 39), [lcn_306, lcn_77, lcn_973], [], [sl_630, sl_632, sl_348, sl_641, sl_351, sl_385, sl_644, sl_476, sl_647, sl_648, sl_446, sl_447, sl_448, sl_449, sl_450, sl_451, sl_452], [], (23, []))
def nE_1104_343 : aNd := ((nat_lit 39), [lcn_306, lcn_77, lcn_974], [], [sl_630, sl_632, sl_348, sl_641, sl_351, sl_385, sl_644, sl_476, sl_647, sl_648, sl_446, sl_447, sl_448, sl_449, sl_450, sl_451, sl_452], [], (22, []))
def nE_1104_344 : aNd := ((nat_lit 39), [lcn_306, lcn_77, lcn_975], [], [sl_630, sl_632, sl_348, sl_641, sl_351, sl_385, sl_644, sl_476, sl_647, sl_648, sl_446, sl_447, sl_448, sl_449, sl_450, sl_451, sl_452], [], (21, []))
def nE_1104_345 : aNd := ((nat_lit 39), [lcn_306, lcn_77, lcn_976], [], [sl_630, sl_632, sl_348, sl_641, sl_351, sl_385, sl_644, sl_476, sl_647, sl_648, sl_446, sl_447, sl_448, sl_449, sl_450, sl_451, sl_452], [], (20, []))
def nE_1104_346 : aNd := ((nat_lit 39), [lcn_306, lcn_77, lcn_977], [], [sl_630, sl_632, sl_348, sl_641, sl_351, sl_385, sl_644, sl_476, sl_647, sl_648, sl_446, sl_447, sl_448, sl_449, sl_450, sl_451, sl_452], [], (19, []))
def nE_1104_347 : aNd := ((nat_lit 39), [lcn_306, lcn_77, lcn_978], [], [sl_630, sl_632, sl_348, sl_641, sl_351, sl_385, sl_644, sl_476, sl_647, sl_648, sl_446, sl_447, sl_448, sl_449, sl_450, sl_451, sl_452], [], (18, []))
def nE_1104_348 : aNd := ((nat_lit 39), [lcn_306, lcn_77, lcn_979], [], [sl_630, sl_632, sl_348, sl_641, sl_351, sl_385, sl_644, sl_476, sl_647, sl_648, sl_446, sl_447, sl_448, sl_449, sl_450, sl_451, sl_452], [], (17, []))
def nE_1104_349 : aNd := ((nat_lit 39), [lcn_306, lcn_77, lcn_980], [], [sl_630, sl_632, sl_348, sl_641, sl_351, sl_385, sl_644, sl_476, sl_647, sl_648, sl_446, sl_447, sl_448, sl_449, sl_450, sl_451, sl_452], [], (16, []))
def nE_1104_350 : aNd := ((nat_lit 39), [lcn_306, lcn_77, lcn_981], [], [sl_630, sl_632, sl_348, sl_641, sl_351, sl_385, sl_644, sl_476, sl_647, sl_648, sl_446, sl_447, sl_448, sl_449, sl_450, sl_451, sl_452], [], (15, []))
def nE_1104_351 : aNd := ((nat_lit 39), [lcn_306, lcn_77, lcn_982], [], [sl_630, sl_632, sl_348, sl_641, sl_351, sl_385, sl_644, sl_476, sl_647, sl_648, sl_446, sl_447, sl_448, sl_449, sl_450, sl_451, sl_452], [], (14, []))
def nE_1104_352 : aNd := ((nat_lit 39), [lcn_306, lcn_77, lcn_983], [], [sl_630, sl_632, sl_348, sl_641, sl_351, sl_385, sl_644, sl_476, sl_647, sl_648, sl_446, sl_447, sl_448, sl_449, sl_450, sl_451, sl_452], [], (13, []))
def nE_1104_353 : aNd := ((nat_lit 39), [lcn_306, lcn_77, lcn_984], [], [sl_630, sl_632, sl_348, sl_641, sl_351, sl_385, sl_644, sl_476, sl_647, sl_648, sl_446, sl_447, sl_448, sl_449, sl_450, sl_451, sl_452], [], (12, []))
def nE_1104_354 : aNd := ((nat_lit 39), [lcn_306, lcn_77, lcn_985], [], [sl_630, sl_632, sl_348, sl_641, sl_351, sl_385, sl_644, sl_476, sl_647, sl_648, sl_446, sl_447, sl_448, sl_449, sl_450, sl_451, sl_452], [], (11, []))
def nE_1104_355 : aNd := ((nat_lit 39), [lcn_306, lcn_77, lcn_986], [], [sl_630, sl_632, sl_348, sl_641, sl_351, sl_385, sl_644, sl_476, sl_647, sl_648, sl_446, sl_447, sl_448, sl_449, sl_450, sl_451, sl_452], [], (10, []))
def nE_1104_356 : aNd := ((nat_lit 39), [lcn_306, lcn_77, lcn_987], [], [sl_630, sl_632, sl_348, sl_641, sl_351, sl_385, sl_644, sl_476, sl_647, sl_648, sl_446, sl_447, sl_448, sl_449, sl_450, sl_451, sl_452], [], (9, []))
def nE_1104_357 : aNd := ((nat_lit 39), [lcn_306, lcn_77, lcn_988], [], [sl_630, sl_632, sl_348, sl_641, sl_351, sl_385, sl_644, sl_476, sl_647, sl_648, sl_446, sl_447, sl_448, sl_449, sl_450, sl_451, sl_452], [], (8, []))
def nE_1104_358 : aNd := ((nat_lit 39), [lcn_306, lcn_77, lcn_989], [], [sl_630, sl_632, sl_348, sl_641, sl_351, sl_385, sl_644, sl_476, sl_647, sl_648, sl_446, sl_447, sl_448, sl_449, sl_450, sl_451, sl_452], [], (7, []))
def nE_1104_359 : aNd := ((nat_lit 39), [lcn_306, lcn_77, lcn_990], [], [sl_630, sl_632, sl_348, sl_641, sl_351, sl_385, sl_644, sl_476, sl_647, sl_648, sl_446, sl_447, sl_448, sl_449, sl_450, sl_451, sl_452], [], (6, []))
def nE_1104_360 : aNd := ((nat_lit 39), [lcn_306, lcn_77, lcn_991], [], [sl_630, sl_632, sl_348, sl_641, sl_351, sl_385, sl_644, sl_476, sl_647, sl_648, sl_446, sl_447, sl_448, sl_449, sl_450, sl_451, sl_452], [], (5, []))
def nE_1104_361 : aNd := ((nat_lit 39), [lcn_306, lcn_77, lcn_992], [], [sl_630, sl_632, sl_348, sl_641, sl_351, sl_385, sl_644, sl_476, sl_647, sl_648, sl_446, sl_447, sl_448, sl_449, sl_450, sl_451, sl_452], [], (4, []))
def nE_1104_362 : aNd := ((nat_lit 39), [lcn_306, lcn_77, lcn_993], [], [sl_630, sl_632, sl_348, sl_641, sl_351, sl_385, sl_644, sl_476, sl_647, sl_648, sl_446, sl_447, sl_448, sl_449, sl_450, sl_451, sl_452], [], (3, []))
def nE_1104_363 : aNd := ((nat_lit 39), [lcn_306, lcn_77, lcn_994], [], [sl_630, sl_632, sl_348, sl_641, sl_351, sl_385, sl_644, sl_476, sl_647, sl_648, sl_446, sl_447, sl_448, sl_449, sl_450, sl_451, sl_452], [], (2, []))
def nE_1104_364 : aNd := ((nat_lit 39), [lcn_306, lcn_77, lcn_637], [], [sl_630, sl_632, sl_348, sl_641, sl_351, sl_385, sl_644, sl_476, sl_647, sl_648, sl_446, sl_447, sl_448, sl_449, sl_450, sl_451, sl_452], [], (1, []))
def nE_1104 : List aNd := [nE_1104_0, nE_1104_1, nE_1104_2, nE_1104_3, nE_1104_4, nE_1104_5, nE_1104_6, nE_1104_7, nE_1104_8, nE_1104_9, nE_1104_10, nE_1104_11, nE_1104_12, nE_1104_13, nE_1104_14, nE_1104_15, nE_1104_16, nE_1104_17, nE_1104_18, nE_1104_19, nE_1104_20, nE_1104_21, nE_1104_22, nE_1104_23, nE_1104_24, nE_1104_25, nE_1104_26, nE_1104_27, nE_1104_28, nE_1104_29, nE_1104_30, nE_1104_31, nE_1104_32, nE_1104_33, nE_1104_34, nE_1104_35, nE_1104_36, nE_1104_37, nE_1104_38, nE_1104_39, nE_1104_40, nE_1104_41, nE_1104_42, nE_1104_43, nE_1104_44, nE_1104_45, nE_1104_46, nE_1104_47, nE_1104_48, nE_1104_49, nE_1104_50, nE_1104_51, nE_1104_52, nE_1104_53, nE_1104_54, nE_1104_55, nE_1104_56, nE_1104_57, nE_1104_58, nE_1104_59, nE_1104_60, nE_1104_61, nE_1104_62, nE_1104_63, nE_1104_64, nE_1104_65, nE_1104_66, nE_1104_67, nE_1104_68, nE_1104_69, nE_1104_70, nE_1104_71, nE_1104_72, nE_1104_73, nE_1104_74, nE_1104_75, nE_1104_76, nE_1104_77, nE_1104_78, nE_1104_79, nE_1104_80, nE_1104_81, nE_1104_82, nE_1104_83, nE_1104_84, nE_1104_85, nE_1104_86, nE_1104_87, nE_1104_88, nE_1104_89, nE_1104_90, nE_1104_91, nE_1104_92, nE_1104_93, nE_1104_94, nE_1104_95, nE_1104_96, nE_1104_97, nE_1104_98, nE_1104_99, nE_1104_100, nE_1104_101, nE_1104_102, nE_1104_103, nE_1104_104, nE_1104_105, nE_1104_106, nE_1104_107, nE_1104_108, nE_1104_109, nE_1104_110, nE_1104_111, nE_1104_112, nE_1104_113, nE_1104_114, nE_1104_115, nE_1104_116, nE_1104_117, nE_1104_118, nE_1104_119, nE_1104_120, nE_1104_121, nE_1104_122, nE_1104_123, nE_1104_124, nE_1104_125, nE_1104_126, nE_1104_127, nE_1104_128, nE_1104_129, nE_1104_130, nE_1104_131, nE_1104_132, nE_1104_133, nE_1104_134, nE_1104_135, nE_1104_136, nE_1104_137, nE_1104_138, nE_1104_139, nE_1104_140, nE_1104_141, nE_1104_142, nE_1104_143, nE_1104_144, nE_1104_145, nE_1104_146, nE_1104_147, nE_1104_148, nE_1104_149, nE_1104_150, nE_1104_151, nE_1104_152, nE_1104_153, nE_1104_154, nE_1104_155, nE_1104_156, nE_1104_157, nE_1104_158, nE_1104_159, nE_1104_160, nE_1104_161, nE_1104_162, nE_1104_163, nE_1104_164, nE_1104_165, nE_1104_166, nE_1104_167, nE_1104_168, nE_1104_169, nE_1104_170, nE_1104_171, nE_1104_172, nE_1104_173, nE_1104_174, nE_1104_175, nE_1104_176, nE_1104_177, nE_1104_178, nE_1104_179, nE_1104_180, nE_1104_181, nE_1104_182, nE_1104_183, nE_1104_184, nE_1104_185, nE_1104_186, nE_1104_187, nE_1104_188, nE_1104_189, nE_1104_190, nE_1104_191, nE_1104_192, nE_1104_193, nE_1104_194, nE_1104_195, nE_1104_196, nE_1104_197, nE_1104_198, nE_1104_199, nE_1104_200, nE_1104_201, nE_1104_202, nE_1104_203, nE_1104_204, nE_1104_205, nE_1104_206, nE_1104_207, nE_1104_208, nE_1104_209, nE_1104_210, nE_1104_211, nE_1104_212, nE_1104_213, nE_1104_214, nE_1104_215, nE_1104_216, nE_1104_217, nE_1104_218, nE_1104_219, nE_1104_220, nE_1104_221, nE_1104_222, nE_1104_223, nE_1104_224, nE_1104_225, nE_1104_226, nE_1104_227, nE_1104_228, nE_1104_229, nE_1104_230, nE_1104_231, nE_1104_232, nE_1104_233, nE_1104_234, nE_1104_235, nE_1104_236, nE_1104_237, nE_1104_238, nE_1104_239, nE_1104_240, nE_1104_241, nE_1104_242, nE_1104_243, nE_1104_244, nE_1104_245, nE_1104_246, nE_1104_247, nE_1104_248, nE_1104_249, nE_1104_250, nE_1104_251, nE_1104_252, nE_1104_253, nE_1104_254, nE_1104_255, nE_1104_256, nE_1104_257, nE_1104_258, nE_1104_259, nE_1104_260, nE_1104_261, nE_1104_262, nE_1104_263, nE_1104_264, nE_1104_265, nE_1104_266, nE_1104_267, nE_1104_268, nE_1104_269, nE_1104_270, nE_1104_271, nE_1104_272, nE_1104_273, nE_1104_274, nE_1104_275, nE_1104_276, nE_1104_277, nE_1104_278, nE_1104_279, nE_1104_280, nE_1104_281, nE_1104_282, nE_1104_283, nE_1104_284, nE_1104_285, nE_1104_286, nE_1104_287, nE_1104_288, nE_1104_289, nE_1104_290, nE_1104_291, nE_1104_292, nE_1104_293, nE_1104_294, nE_1104_295, nE_1104_296, nE_1104_297, nE_1104_298, nE_1104_299, nE_1104_300, nE_1104_301, nE_1104_302, nE_1104_303, nE_1104_304, nE_1104_305, nE_1104_306, nE_1104_307, nE_1104_308, nE_1104_309, nE_1104_310, nE_1104_311, nE_1104_312, nE_1104_313, nE_1104_314, nE_1104_315, nE_1104_316, nE_1104_317, nE_1104_318, nE_1104_319, nE_1104_320, nE_1104_321, nE_1104_322, nE_1104_323, nE_1104_324, nE_1104_325, nE_1104_326, nE_1104_327, nE_1104_328, nE_1104_329, nE_1104_330, nE_1104_331, nE_1104_332, nE_1104_333, nE_1104_334, nE_1104_335, nE_1104_336, nE_1104_337, nE_1104_338, nE_1104_339, nE_1104_340, nE_1104_341, nE_1104_342, nE_1104_343, nE_1104_344, nE_1104_345, nE_1104_346, nE_1104_347, nE_1104_348, nE_1104_349, nE_1104_350, nE_1104_351, nE_1104_352, nE_1104_353, nE_1104_354, nE_1104_355, nE_1104_356, nE_1104_357, nE_1104_358, nE_1104_359, nE_1104_360, nE_1104_361, nE_1104_362, nE_1104_363, nE_1104_364]
set_option maxRecDepth 100000 in
theorem kT_1104_0 : bSgk wd wx ct2_1104 lk_1104 tX12_post [] 57896044618710753882728178039239635995819985241810395231838488337439858360320 9000 (nT_1104 ++ []) (nT_1104_0) = true := by decide +kernel
set_option maxRecDepth 100000 in
theorem kT_1104_1 : bSgk wd wx ct2_1104 lk_1104 tX12_post [] 57896044618710753882728178039239635995819985241810395231838488337439858360320 9000 (nT_1104 ++ []) (nT_1104_1) = true := by decide +kernel
set_option maxRecDepth 100000 in
theorem kT_1104_2 : bSgk wd wx ct2_1104 lk_1104 tX12_post [] 57896044618710753882728178039239635995819985241810395231838488337439858360320 9000 (nT_1104 ++ []) (nT_1104_2) = true := by decide +kernel
set_option maxRecDepth 100000 in
theorem kA_1104_0 : bSgk wd wx ct2_1104 lk_1104 tX12_post [] 57896044618710753882728178039239635995819985241810395231838488337439858360320 9000 (nT_1104.map nd0) (nd1 nA_1104_0) = true := by decide +kernel
set_option maxRecDepth 100000 in
theorem kA_1104_1 : bSgk wd wx ct2_1104 lk_1104 tX12_post [] 57896044618710753882728178039239635995819985241810395231838488337439858360320 9000 (nT_1104.map nd0) (nd1 nA_1104_1) = true := by decide +kernel
set_option maxRecDepth 100000 in
theorem kA_1104_2 : bSgk wd wx ct2_1104 lk_1104 tX12_post [] 57896044618710753882728178039239635995819985241810395231838488337439858360320 9000 (nT_1104.map nd0) (nd1 nA_1104_2) = true := by decide +kernel
set_option maxRecDepth 100000 in
theorem kA_1104_3 : bSgk wd wx ct2_1104 lk_1104 tX12_post [] 57896044618710753882728178039239635995819985241810395231838488337439858360320 9000 (nT_1104.map nd0) (nd1 nA_1104_3) = true := by decide +kernel
set_option maxRecDepth 100000 in
theorem kA_1104_4 : bSgk wd wx ct2_1104 lk_1104 tX12_post [] 57896044618710753882728178039239635995819985241810395231838488337439858360320 9000 (nT_1104.map nd0) (nd1 nA_1104_4) = true := by decide +kernel
set_option maxRecDepth 100000 in
theorem kA_1104_5 : bSgk wd wx ct2_1104 lk_1104 tX12_post [] 57896044618710753882728178039239635995819985241810395231838488337439858360320 9000 (nT_1104.map nd0) (nd1 nA_1104_5) = true := by decide +kernel
set_option maxRecDepth 100000 in
theorem kA_1104_6 : bSgk wd wx ct2_1104 lk_1104 tX12_post [] 57896044618710753882728178039239635995819985241810395231838488337439858360320 9000 (nT_1104.map nd0) (nd1 nA_1104_6) = true := by decide +kernel
set_option maxRecDepth 100000 in
theorem kA_1104_7 : bSgk wd wx ct2_1104 lk_1104 tX12_post [] 57896044618710753882728178039239635995819985241810395231838488337439858360320 9000 (nT_1104.map nd0) (nd1 nA_1104_7) = true := by decide +kernel
set_option maxRecDepth 100000 in
theorem kB_1104_0 : (aTok [(1, 3, 1)] nB_1104_0 && bSgk wd wx ct2_1104 lk_1104 tX12_post [] 57896044618710753882728178039239635995819985241820298752152771379639051354112 9000 ((nT_1104 ++ nC_1104).map nd0) (nd1 nB_1104_0)) = true := by decide +kernel
set_option maxRecDepth 100000 in
theorem kB_1104_1 : (aTok [(1, 3, 1)] nB_1104_1 && bSgk wd wx ct2_1104 lk_1104 tX12_post [] 57896044618710753882728178039239635995819985241820298752152771379639051354112 9000 ((nT_1104 ++ nC_1104).map nd0) (nd1 nB_1104_1)) = true := by decide +kernel
set_option maxRecDepth 100000 in
theorem kB_1104_2 : (aTok [(1, 3, 1)] nB_1104_2 && bSgk wd wx ct2_1104 lk_1104 tX12_post [] 57896044618710753882728178039239635995819985241820298752152771379639051354112 9000 ((nT_1104 ++ nC_1104).map nd0) (nd1 nB_1104_2)) = true := by decide +kernel
set_option maxRecDepth 100000 in
theorem kB_1104_3 : (aTok [(1, 3, 1)] nB_1104_3 && bSgk wd wx ct2_1104 lk_1104 tX12_post [] 57896044618710753882728178039239635995819985241820298752152771379639051354112 9000 ((nT_1104 ++ nC_1104).map nd0) (nd1 nB_1104_3)) = true := by decide +kernel
set_option maxRecDepth 100000 in
theorem kB_1104_4 : (aTok [(1, 3, 1)] nB_1104_4 && bSgk wd wx ct2_1104 lk_1104 tX12_post [] 57896044618710753882728178039239635995819985241820298752152771379639051354112 9000 ((nT_1104 ++ nC_1104).map nd0) (nd1 nB_1104_4)) = true := by decide +kernel
set_option maxRecDepth 100000 in
theorem kB_1104_5 : (aTok [(1, 3, 1)] nB_1104_5 && bSgk wd wx ct2_1104 lk_1104 tX12_post [] 57896044618710753882728178039239635995819985241820298752152771379639051354112 9000 ((nT_1104 ++ nC_1104).map nd0) (nd1 nB_1104_5)) = true := by decide +kernel
set_option maxRecDepth 100000 in
theorem kB_1104_6 : (aTok [(1, 3, 1)] nB_1104_6 && bSgk wd wx ct2_1104 lk_1104 tX12_post [] 57896044618710753882728178039239635995819985241820298752152771379639051354112 9000 ((nT_1104 ++ nC_1104).map nd0) (nd1 nB_1104_6)) = true := by decide +kernel
set_option maxRecDepth 100000 in
theorem kB_1104_7 : (aTok [(1, 3, 1)] nB_1104_7 && bSgk wd wx ct2_1104 lk_1104 tX12_post [] 57896044618710753882728178039239635995819985241820298752152771379639051354112 9000 ((nT_1104 ++ nC_1104).map nd0) (nd1 nB_1104_7)) = true := by decide +kernel
set_option maxRecDepth 100000 in
theorem kB_1104_8 : (aTok [(1, 3, 1)] nB_1104_8 && bSgk wd wx ct2_1104 lk_1104 tX12_post [] 57896044618710753882728178039239635995819985241820298752152771379639051354112 9000 ((nT_1104 ++ nC_1104).map nd0) (nd1 nB_1104_8)) = true := by decide +kernel
set_option maxRecDepth 100000 in
theorem kB_1104_9 : (aTok [(1, 3, 1)] nB_1104_9 && bSgk wd wx ct2_1104 lk_1104 tX12_post [] 57896044618710753882728178039239635995819985241820298752152771379639051354112 9000 ((nT_1104 ++ nC_1104).map nd0) (nd1 nB_1104_9)) = true := by decide +kernel
set_option maxRecDepth 100000 in
theorem kB_1104_10 : (aTok [(1, 3, 1)] nB_1104_10 && bSgk wd wx ct2_1104 lk_1104 tX12_post [] 57896044618710753882728178039239635995819985241820298752152771379639051354112 9000 ((nT_1104 ++ nC_1104).map nd0) (nd1 nB_1104_10)) = true := by decide +kernel
set_option maxRecDepth 100000 in
theorem kB_1104_11 : (aTok [(1, 3, 1)] nB_1104_11 && bSgk wd wx ct2_1104 lk_1104 tX12_post [] 57896044618710753882728178039239635995819985241820298752152771379639051354112 9000 ((nT_1104 ++ nC_1104).map nd0) (nd1 nB_1104_11)) = true := by decide +kernel
set_option maxRecDepth 100000 in
theorem kB_1104_12 : (aTok [(1, 3, 1)] nB_1104_12 && bSgk wd wx ct2_1104 lk_1104 tX12_post [] 57896044618710753882728178039239635995819985241820298752152771379639051354112 9000 ((nT_1104 ++ nC_1104).map nd0) (nd1 nB_1104_12)) = true := by decide +kernel
set_option maxRecDepth 100000 in
theorem kB_1104_13 : (aTok [(1, 3, 1)] nB_1104_13 && bSgk wd wx ct2_1104 lk_1104 tX12_post [] 57896044618710753882728178039239635995819985241820298752152771379639051354112 9000 ((nT_1104 ++ nC_1104).map nd0) (nd1 nB_1104_13)) = true := by decide +kernel
set_option maxRecDepth 100000 in
theorem kB_1104_14 : (aTok [(1, 3, 1)] nB_1104_14 && bSgk wd wx ct2_1104 lk_1104 tX12_post [] 57896044618710753882728178039239635995819985241820298752152771379639051354112 9000 ((nT_1104 ++ nC_1104).map nd0) (nd1 nB_1104_14)) = true := by decide +kernel
set_option maxRecDepth 100000 in
theorem kB_1104_15 : (aTok [(1, 3, 1)] nB_1104_15 && bSgk wd wx ct2_1104 lk_1104 tX12_post [] 57896044618710753882728178039239635995819985241820298752152771379639051354112 9000 ((nT_1104 ++ nC_1104).map nd0) (nd1 nB_1104_15)) = true := by decide +kernel
set_option maxRecDepth 100000 in
theorem kC_1104_0 : (aTok [(59, 59, 1)] nC_1104_0 && bSgk wd wx ct2_1104 lk_1104 tX12_post [] 158456325028528675187087900672 9000 ((nA_1104 ++ nB_1104).map nd0) (nd1 nC_1104_0)) = true := by decide +kernel
set_option maxRecDepth 100000 in
theorem kC_1104_1 : (aTok [(59, 59, 1)] nC_1104_1 && bSgk wd wx ct2_1104 lk_1104 tX12_post [] 158456325028528675187087900672 9000 ((nA_1104 ++ nB_1104).map nd0) (nd1 nC_1104_1)) = true := by decide +kernel
set_option maxRecDepth 100000 in
theorem kC_1104_2 : (aTok [(59, 59, 1)] nC_1104_2 && bSgk wd wx ct2_1104 lk_1104 tX12_post [] 158456325028528675187087900672 9000 ((nA_1104 ++ nB_1104).map nd0) (nd1 nC_1104_2)) = true := by decide +kernel
set_option maxRecDepth 100000 in
theorem kC_1104_3 : (aTok [(59, 59, 1)] nC_1104_3 && bSgk wd wx ct2_1104 lk_1104 tX12_post [] 158456325028528675187087900672 9000 ((nA_1104 ++ nB_1104).map nd0) (nd1 nC_1104_3)) = true := by decide +kernel
set_option maxRecDepth 100000 in
theorem kC_1104_4 : (aTok [(59, 59, 1)] nC_1104_4 && bSgk wd wx ct2_1104 lk_1104 tX12_post [] 158456325028528675187087900672 9000 ((nA_1104 ++ nB_1104).map nd0) (nd1 nC_1104_4)) = true := by decide +kernel
set_option maxRecDepth 100000 in
theorem kC_1104_5 : (aTok [(59, 59, 1)] nC_1104_5 && bSgk wd wx ct2_1104 lk_1104 tX12_post [] 158456325028528675187087900672 9000 ((nA_1104 ++ nB_1104).map nd0) (nd1 nC_1104_5)) = true := by decide +kernel
set_option maxRecDepth 100000 in
theorem kC_1104_6 : (aTok [(59, 59, 1)] nC_1104_6 && bSgk wd wx ct2_1104 lk_1104 tX12_post [] 158456325028528675187087900672 9000 ((nA_1104 ++ nB_1104).map nd0) (nd1 nC_1104_6)) = true := by decide +kernel
set_option maxRecDepth 100000 in
theorem kC_1104_7 : (aTok [(59, 59, 1)] nC_1104_7 && bSgk wd wx ct2_1104 lk_1104 tX12_post [] 158456325028528675187087900672 9000 ((nA_1104 ++ nB_1104).map nd0) (nd1 nC_1104_7)) = true := by decide +kernel
set_option maxRecDepth 100000 in
theorem kE_1104_0 : bSgk wd wx ctE_1104 lk_1104 tX12_post [] 57896044618710753882728178039239635995819985241820298752152771380188807168000 9000 (([nE_1104_1] ++ (nT_1104 ++ nC_1104)).map nd0) (nd1 nE_1104_0) = true := by decide +kernel
set_option maxRecDepth 100000 in
theorem kE_1104_1 : bSgk wd wx ctE_1104 lk_1104 tX12_post [] 57896044618710753882728178039239635995819985241820298752152771380188807168000 9000 (([nE_1104_2] ++ (nT_1104 ++ nC_1104)).map nd0) (nd1 nE_1104_1) = true := by decide +kernel
set_option maxRecDepth 100000 in
theorem kE_1104_2 : bSgk wd wx ctE_1104 lk_1104 tX12_post [] 57896044618710753882728178039239635995819985241820298752152771380188807168000 9000 (([nE_1104_3] ++ (nT_1104 ++ nC_1104)).map nd0) (nd1 nE_1104_2) = true := by decide +kernel
set_option maxRecDepth 100000 in
theorem kE_1104_3 : bSgk wd wx ctE_1104 lk_1104 tX12_post [] 57896044618710753882728178039239635995819985241820298752152771380188807168000 9000 (([nE_1104_4] ++ (nT_1104 ++ nC_1104)).map nd0) (nd1 nE_1104_3) = true := by decide +kernel
set_option maxRecDepth 100000 in
theorem kE_1104_4 : bSgk wd wx ctE_1104 lk_1104 tX12_post [] 57896044618710753882728178039239635995819985241820298752152771380188807168000 9000 (([nE_1104_5] ++ (nT_1104 ++ nC_1104)).map nd0) (nd1 nE_1104_4) = true := by decide +kernel
set_option maxRecDepth 100000 in
theorem kE_1104_5 : bSgk wd wx ctE_1104 lk_1104 tX12_post [] 57896044618710753882728178039239635995819985241820298752152771380188807168000 9000 (([nE_1104_6] ++ (nT_1104 ++ nC_1104)).map nd0) (nd1 nE_1104_5) = true := by decide +kernel
set_option maxRecDepth 100000 in
theorem kE_1104_6 : bSgk wd wx ctE_1104 lk_1104 tX12_post [] 57896044618710753882728178039239635995819985241820298752152771380188807168000 9000 (([nE_1104_7] ++ (nT_1104 ++ nC_1104)).map nd0) (nd1 nE_1104_6) = true := by decide +kernel
set_option maxRecDepth 100000 in
theorem kE_1104_7 : bSgk wd wx ctE_1104 lk_1104 tX12_post [] 57896044618710753882728178039239635995819985241820298752152771380188807168000 9000 (([nE_1104_8] ++ (nT_1104 ++ nC_1104)).map nd0) (nd1 nE_1104_7) = true := by decide +kernel
set_option maxRecDepth 100000 in
theorem kE_1104_8 : bSgk wd wx ctE_1104 lk_1104 tX12_post [] 57896044618710753882728178039239635995819985241820298752152771380188807168000 9000 (([nE_1104_9] ++ (nT_1104 ++ nC_1104)).map nd0) (nd1 nE_1104_8) = true := by decide +kernel
set_option maxRecDepth 100000 in
theorem kE_1104_9 : bSgk wd wx ctE_1104 lk_1104 tX12_post [] 57896044618710753882728178039239635995819985241820298752152771380188807168000 9000 (([nE_1104_10] ++ (nT_1104 ++ nC_1104)).map nd0) (nd1 nE_1104_9) = true := by decide +kernel
set_option maxRecDepth 100000 in
theorem kE_1104_10 : bSgk wd wx ctE_1104 lk_1104 tX12_post [] 57896044618710753882728178039239635995819985241820298752152771380188807168000 9000 (([nE_1104_11] ++ (nT_1104 ++ nC_1104)).map nd0) (nd1 nE_1104_10) = true := by decide +kernel
set_option maxRecDepth 100000 in
theorem kE_1104_11 : bSgk wd wx ctE_1104 lk_1104 tX12_post [] 57896044618710753882728178039239635995819985241820298752152771380188807168000 9000 (([nE_1104_12] ++ (nT_1104 ++ nC_1104)).map nd0) (nd1 nE_1104_11) = true := by decide +kernel
set_option maxRecDepth 100000 in
theorem kE_1104_12 : bSgk wd wx ctE_1104 lk_1104 tX12_post [] 57896044618710753882728178039239635995819985241820298752152771380188807168000 9000 (([nE_1104_13] ++ (nT_1104 ++ nC_1104)).map nd0) (nd1 nE_1104_12) = true := by decide +kernel
set_option maxRecDepth 100000 in
theorem kE_1104_13 : bSgk wd wx ctE_1104 lk_1104 tX12_post [] 57896044618710753882728178039239635995819985241820298752152771380188807168000 9000 (([nE_1104_14] ++ (nT_1104 ++ nC_1104)).map nd0) (nd1 nE_1104_13) = true := by decide +kernel
set_option maxRecDepth 100000 in
theorem kE_1104_14 : bSgk wd wx ctE_1104 lk_1104 tX12_post [] 57896044618710753882728178039239635995819985241820298752152771380188807168000 9000 (([nE_1104_15] ++ (nT_1104 ++ nC_1104)).map nd0) (nd1 nE_1104_14) = true := by decide +kernel
set_option maxRecDepth 100000 in
theorem kE_1104_15 : bSgk wd wx ctE_1104 lk_1104 tX12_post [] 57896044618710753882728178039239635995819985241820298752152771380188807168000 9000 (([nE_1104_16] ++ (nT_1104 ++ nC_1104)).map nd0) (nd1 nE_1104_15) = true := by decide +kernel
set_option maxRecDepth 100000 in
theorem kE_1104_16 : bSgk wd wx ctE_1104 lk_1104 tX12_post [] 57896044618710753882728178039239635995819985241820298752152771380188807168000 9000 (([nE_1104_17] ++ (nT_1104 ++ nC_1104)).map nd0) (nd1 nE_1104_16) = true := by decide +kernel
set_option maxRecDepth 100000 in
theorem kE_1104_17 : bSgk wd wx ctE_1104 lk_1104 tX12_post [] 57896044618710753882728178039239635995819985241820298752152771380188807168000 9000 (([nE_1104_18] ++ (nT_1104 ++ nC_1104)).map nd0) (nd1 nE_1104_17) = true := by decide +kernel
set_option maxRecDepth 100000 in
theorem kE_1104_18 : bSgk wd wx ctE_1104 lk_1104 tX12_post [] 57896044618710753882728178039239635995819985241820298752152771380188807168000 9000 (([nE_1104_19] ++ (nT_1104 ++ nC_1104)).map nd0) (nd1 nE_1104_18) = true := by decide +kernel
set_option maxRecDepth 100000 in
theorem kE_1104_19 : bSgk wd wx ctE_1104 lk_1104 tX12_post [] 57896044618710753882728178039239635995819985241820298752152771380188807168000 9000 (([nE_1104_20] ++ (nT_1104 ++ nC_1104)).map nd0) (nd1 nE_1104_19) = true := by decide +kernel
set_option maxRecDepth 100000 in
theorem kE_1104_20 : bSgk wd wx ctE_1104 lk_1104 tX12_post [] 57896044618710753882728178039239635995819985241820298752152771380188807168000 9000 (([nE_1104_21] ++ (nT_1104 ++ nC_1104)).map nd0) (nd1 nE_1104_20) = true := by decide +kernel
set_option maxRecDepth 100000 in
theorem kE_1104_21 : bSgk wd wx ctE_1104 lk_1104 tX12_post [] 57896044618710753882728178039239635995819985241820298752152771380188807168000 9000 (([nE_1104_22] ++ (nT_1104 ++ nC_1104)).map nd0) (nd1 nE_1104_21) = true := by decide +kernel
set_option maxRecDepth 100000 in
theorem kE_1104_22 : bSgk wd wx ctE_1104 lk_1104 tX12_post [] 57896044618710753882728178039239635995819985241820298752152771380188807168000 9000 (([nE_1104_23] ++ (nT_1104 ++ nC_1104)).map nd0) (nd1 nE_1104_22) = true := by decide +kernel
set_option maxRecDepth 100000 in
theorem kE_1104_23 : bSgk wd wx ctE_1104 lk_1104 tX12_post [] 57896044618710753882728178039239635995819985241820298752152771380188807168000 9000 (([nE_1104_24] ++ (nT_1104 ++ nC_1104)).map nd0) (nd1 nE_1104_23) = true := by decide +kernel
set_option maxRecDepth 100000 in
theorem kE_1104_24 : bSgk wd wx ctE_1104 lk_1104 tX12_post [] 57896044618710753882728178039239635995819985241820298752152771380188807168000 9000 (([nE_1104_25] ++ (nT_1104 ++ nC_1104)).map nd0) (nd1 nE_1104_24) = true := by decide +kernel
set_option maxRecDepth 100000 in
theorem kE_1104_25 : bSgk wd wx ctE_1104 lk_1104 tX12_post [] 57896044618710753882728178039239635995819985241820298752152771380188807168000 9000 (([nE_1104_26] ++ (nT_1104 ++ nC_1104)).map nd0) (nd1 nE_1104_25) = true := by decide +kernel
set_option maxRecDepth 100000 in
theorem kE_1104_26 : bSgk wd wx ctE_1104 lk_1104 tX12_post [] 57896044618710753882728178039239635995819985241820298752152771380188807168000 9000 (([nE_1104_27] ++ (nT_1104 ++ nC_1104)).map nd0) (nd1 nE_1104_26) = true := by decide +kernel
set_option maxRecDepth 100000 in
theorem kE_1104_27 : bSgk wd wx ctE_1104 lk_1104 tX12_post [] 57896044618710753882728178039239635995819985241820298752152771380188807168000 9000 (([nE_1104_28] ++ (nT_1104 ++ nC_1104)).map nd0) (nd1 nE_1104_27) = true := by decide +kernel
set_option maxRecDepth 100000 in
theorem kE_1104_28 : bSgk wd wx ctE_1104 lk_1104 tX12_post [] 57896044618710753882728178039239635995819985241820298752152771380188807168000 9000 (([nE_1104_29] ++ (nT_1104 ++ nC_1104)).map nd0) (nd1 nE_1104_28) = true := by decide +kernel
set_option maxRecDepth 100000 in
theorem kE_1104_29 : bSgk wd wx ctE_1104 lk_1104 tX12_post [] 57896044618710753882728178039239635995819985241820298752152771380188807168000 9000 (([nE_1104_30] ++ (nT_1104 ++ nC_1104)).map nd0) (nd1 nE_1104_29) = true := by decide +kernel
set_option maxRecDepth 100000 in
theorem kE_1104_30 : bSgk wd wx ctE_1104 lk_1104 tX12_post [] 57896044618710753882728178039239635995819985241820298752152771380188807168000 9000 (([nE_1104_31] ++ (nT_1104 ++ nC_1104)).map nd0) (nd1 nE_1104_30) = true := by decide +kernel
set_option maxRecDepth 100000 in
theorem kE_1104_31 : bSgk wd wx ctE_1104 lk_1104 tX12_post [] 57896044618710753882728178039239635995819985241820298752152771380188807168000 9000 (([nE_1104_32] ++ (nT_1104 ++ nC_1104)).map nd0) (nd1 nE_1104_31) = true := by decide +kernel
set_option maxRecDepth 100000 in
theorem kE_1104_32 : bSgk wd wx ctE_1104 lk_1104 tX12_post [] 57896044618710753882728178039239635995819985241820298752152771380188807168000 9000 (([nE_1104_33] ++ (nT_1104 ++ nC_1104)).map nd0) (nd1 nE_1104_32) = true := by decide +kernel
set_option maxRecDepth 100000 in
theorem kE_1104_33 : bSgk wd wx ctE_1104 lk_1104 tX12_post [] 57896044618710753882728178039239635995819985241820298752152771380188807168000 9000 (([nE_1104_34] ++ (nT_1104 ++ nC_1104)).map nd0) (nd1 nE_1104_33) = true := by decide +kernel
set_option maxRecDepth 100000 in
theorem kE_1104_34 : bSgk wd wx ctE_1104 lk_1104 tX12_post [] 57896044618710753882728178039239635995819985241820298752152771380188807168000 9000 (([nE_1104_35] ++ (nT_1104 ++ nC_1104)).map nd0) (nd1 nE_1104_34) = true := by decide +kernel
set_option maxRecDepth 100000 in
theorem kE_1104_35 : bSgk wd wx ctE_1104 lk_1104 tX12_post [] 57896044618710753882728178039239635995819985241820298752152771380188807168000 9000 (([nE_1104_36] ++ (nT_1104 ++ nC_1104)).map nd0) (nd1 nE_1104_35) = true := by decide +kernel
set_option maxRecDepth 100000 in
theorem kE_1104_36 : bSgk wd wx ctE_1104 lk_1104 tX12_post [] 57896044618710753882728178039239635995819985241820298752152771380188807168000 9000 (([nE_1104_37] ++ (nT_1104 ++ nC_1104)).map nd0) (nd1 nE_1104_36) = true := by decide +kernel
set_option maxRecDepth 100000 in
theorem kE_1104_37 : bSgk wd wx ctE_1104 lk_1104 tX12_post [] 57896044618710753882728178039239635995819985241820298752152771380188807168000 9000 (([nE_1104_38] ++ (nT_1104 ++ nC_1104)).map nd0) (nd1 nE_1104_37) = true := by decide +kernel
set_option maxRecDepth 100000 in
theorem kE_1104_38 : bSgk wd wx ctE_1104 lk_1104 tX12_post [] 57896044618710753882728178039239635995819985241820298752152771380188807168000 9000 (([nE_1104_39] ++ (nT_1104 ++ nC_1104)).map nd0) (nd1 nE_1104_38) = true := by decide +kernel
set_option maxRecDepth 100000 in
theorem kE_1104_39 : bSgk wd wx ctE_1104 lk_1104 tX12_post [] 57896044618710753882728178039239635995819985241820298752152771380188807168000 9000 (([nE_1104_40] ++ (nT_1104 ++ nC_1104)).map nd0) (nd1 nE_1104_39) = true := by decide +kernel
set_option maxRecDepth 100000 in
theorem kE_1104_40 : bSgk wd wx ctE_1104 lk_1104 tX12_post [] 57896044618710753882728178039239635995819985241820298752152771380188807168000 9000 (([nE_1104_41] ++ (nT_1104 ++ nC_1104)).map nd0) (nd1 nE_1104_40) = true := by decide +kernel
set_option maxRecDepth 100000 in
theorem kE_1104_41 : bSgk wd wx ctE_1104 lk_1104 tX12_post [] 57896044618710753882728178039239635995819985241820298752152771380188807168000 9000 (([nE_1104_42] ++ (nT_1104 ++ nC_1104)).map nd0) (nd1 nE_1104_41) = true := by decide +kernel
set_option maxRecDepth 100000 in
theorem kE_1104_42 : bSgk wd wx ctE_1104 lk_1104 tX12_post [] 57896044618710753882728178039239635995819985241820298752152771380188807168000 9000 (([nE_1104_43] ++ (nT_1104 ++ nC_1104)).map nd0) (nd1 nE_1104_42) = true := by decide +kernel
set_option maxRecDepth 100000 in
theorem kE_1104_43 : bSgk wd wx ctE_1104 lk_1104 tX12_post [] 57896044618710753882728178039239635995819985241820298752152771380188807168000 9000 (([nE_1104_44] ++ (nT_1104 ++ nC_1104)).map nd0) (nd1 nE_1104_43) = true := by decide +kernel
set_option maxRecDepth 100000 in
theorem kE_1104_44 : bSgk wd wx ctE_1104 lk_1104 tX12_post [] 57896044618710753882728178039239635995819985241820298752152771380188807168000 9000 (([nE_1104_45] ++ (nT_1104 ++ nC_1104)).map nd0) (nd1 nE_1104_44) = true := by decide +kernel
set_option maxRecDepth 100000 in
theorem kE_1104_45 : bSgk wd wx ctE_1104 lk_1104 tX12_post [] 57896044618710753882728178039239635995819985241820298752152771380188807168000 9000 (([nE_1104_46] ++ (nT_1104 ++ nC_1104)).map nd0) (nd1 nE_1104_45) = true := by decide +kernel
set_option maxRecDepth 100000 in
theorem kE_1104_46 : bSgk wd wx ctE_1104 lk_1104 tX12_post [] 57896044618710753882728178039239635995819985241820298752152771380188807168000 9000 (([nE_1104_47] ++ (nT_1104 ++ nC_1104)).map nd0) (nd1 nE_1104_46) = true := by decide +kernel
set_option maxRecDepth 100000 in
theorem kE_1104_47 : bSgk wd wx ctE_1104 lk_1104 tX12_post [] 57896044618710753882728178039239635995819985241820298752152771380188807168000 9000 (([nE_1104_48] ++ (nT_1104 ++ nC_1104)).map nd0) (nd1 nE_1104_47) = true := by decide +kernel
set_option maxRecDepth 100000 in
theorem kE_1104_48 : bSgk wd wx ctE_1104 lk_1104 tX12_post [] 57896044618710753882728178039239635995819985241820298752152771380188807168000 9000 (([nE_1104_49] ++ (nT_1104 ++ nC_1104)).map nd0) (nd1 nE_1104_48) = true := by decide +kernel
set_option maxRecDepth 100000 in
theorem kE_1104_49 : bSgk wd wx ctE_1104 lk_1104 tX12_post [] 57896044618710753882728178039239635995819985241820298752152771380188807168000 9000 (([nE_1104_50] ++ (nT_1104 ++ nC_1104)).map nd0) (nd1 nE_1104_49) = true := by decide +kernel
set_option maxRecDepth 100000 in
theorem kE_1104_50 : bSgk wd wx ctE_1104 lk_1104 tX12_post [] 57896044618710753882728178039239635995819985241820298752152771380188807168000 9000 (([nE_1104_51] ++ (nT_1104 ++ nC_1104)).map nd0) (nd1 nE_1104_50) = true := by decide +kernel
set_option maxRecDepth 100000 in
theorem kE_1104_51 : bSgk wd wx ctE_1104 lk_1104 tX12_post [] 57896044618710753882728178039239635995819985241820298752152771380188807168000 9000 (([nE_1104_52] ++ (nT_1104 ++ nC_1104)).map nd0) (nd1 nE_1104_51) = true := by decide +kernel
set_option maxRecDepth 100000 in
theorem kE_1104_52 : bSgk wd wx ctE_1104 lk_1104 tX12_post [] 57896044618710753882728178039239635995819985241820298752152771380188807168000 9000 (([nE_1104_53] ++ (nT_1104 ++ nC_1104)).map nd0) (nd1 nE_1104_52) = true := by decide +kernel
set_option maxRecDepth 100000 in
theorem kE_1104_53 : bSgk wd wx ctE_1104 lk_1104 tX12_post [] 57896044618710753882728178039239635995819985241820298752152771380188807168000 9000 (([nE_1104_54] ++ (nT_1104 ++ nC_1104)).map nd0) (nd1 nE_1104_53) = true := by decide +kernel
set_option maxRecDepth 100000 in
theorem kE_1104_54 : bSgk wd wx ctE_1104 lk_1104 tX12_post [] 57896044618710753882728178039239635995819985241820298752152771380188807168000 9000 (([nE_1104_55] ++ (nT_1104 ++ nC_1104)).map nd0) (nd1 nE_1104_54) = true := by decide +kernel
set_option maxRecDepth 100000 in
theorem kE_1104_55 : bSgk wd wx ctE_1104 lk_1104 tX12_post [] 57896044618710753882728178039239635995819985241820298752152771380188807168000 9000 (([nE_1104_56] ++ (nT_1104 ++ nC_1104)).map nd0) (nd1 nE_1104_55) = true := by decide +kernel
set_option maxRecDepth 100000 in
theorem kE_1104_56 : bSgk wd wx ctE_1104 lk_1104 tX12_post [] 57896044618710753882728178039239635995819985241820298752152771380188807168000 9000 (([nE_1104_57] ++ (nT_1104 ++ nC_1104)).map nd0) (nd1 nE_1104_56) = true := by decide +kernel
set_option maxRecDepth 100000 in
theorem kE_1104_57 : bSgk wd wx ctE_1104 lk_1104 tX12_post [] 57896044618710753882728178039239635995819985241820298752152771380188807168000 9000 (([nE_1104_58] ++ (nT_1104 ++ nC_1104)).map nd0) (nd1 nE_1104_57) = true := by decide +kernel
set_option maxRecDepth 100000 in
theorem kE_1104_58 : bSgk wd wx ctE_1104 lk_1104 tX12_post [] 57896044618710753882728178039239635995819985241820298752152771380188807168000 9000 (([nE_1104_59] ++ (nT_1104 ++ nC_1104)).map nd0) (nd1 nE_1104_58) = true := by decide +kernel
set_option maxRecDepth 100000 in
theorem kE_1104_59 : bSgk wd wx ctE_1104 lk_1104 tX12_post [] 57896044618710753882728178039239635995819985241820298752152771380188807168000 9000 (([nE_1104_60] ++ (nT_1104 ++ nC_1104)).map nd0) (nd1 nE_1104_59) = true := by decide +kernel
set_option maxRecDepth 100000 in
theorem kE_1104_60 : bSgk wd wx ctE_1104 lk_1104 tX12_post [] 57896044618710753882728178039239635995819985241820298752152771380188807168000 9000 (([nE_1104_61] ++ (nT_1104 ++ nC_1104)).map nd0) (nd1 nE_1104_60) = true := by decide +kernel
set_option maxRecDepth 100000 in
theorem kE_1104_61 : bSgk wd wx ctE_1104 lk_1104 tX12_post [] 57896044618710753882728178039239635995819985241820298752152771380188807168000 9000 (([nE_1104_62] ++ (nT_1104 ++ nC_1104)).map nd0) (nd1 nE_1104_61) = true := by decide +kernel
set_option maxRecDepth 100000 in
theorem kE_1104_62 : bSgk wd wx ctE_1104 lk_1104 tX12_post [] 57896044618710753882728178039239635995819985241820298752152771380188807168000 9000 (([nE_1104_63] ++ (nT_1104 ++ nC_1104)).map nd0) (nd1 nE_1104_62) = true := by decide +kernel
set_option maxRecDepth 100000 in
theorem kE_1104_63 : bSgk wd wx ctE_1104 lk_1104 tX12_post [] 57896044618710753882728178039239635995819985241820298752152771380188807168000 9000 (([nE_1104_64] ++ (nT_1104 ++ nC_1104)).map nd0) (nd1 nE_1104_63) = true := by decide +kernel
set_option maxRecDepth 100000 in
theorem kE_1104_64 : bSgk wd wx ctE_1104 lk_1104 tX12_post [] 57896044618710753882728178039239635995819985241820298752152771380188807168000 9000 (([nE_1104_65] ++ (nT_1104 ++ nC_1104)).map nd0) (nd1 nE_1104_64) = true := by decide +kernel
set_option maxRecDepth 100000 in
theorem kE_1104_65 : bSgk wd wx ctE_1104 lk_1104 tX12_post [] 57896044618710753882728178039239635995819985241820298752152771380188807168000 9000 (([nE_1104_66] ++ (nT_1104 ++ nC_1104)).map nd0) (nd1 nE_1104_65) = true := by decide +kernel
set_option maxRecDepth 100000 in
theorem kE_1104_66 : bSgk wd wx ctE_1104 lk_1104 tX12_post [] 57896044618710753882728178039239635995819985241820298752152771380188807168000 9000 (([nE_1104_67] ++ (nT_1104 ++ nC_1104)).map nd0) (nd1 nE_1104_66) = true := by decide +kernel
set_option maxRecDepth 100000 in
theorem kE_1104_67 : bSgk wd wx ctE_1104 lk_1104 tX12_post [] 57896044618710753882728178039239635995819985241820298752152771380188807168000 9000 (([nE_1104_68] ++ (nT_1104 ++ nC_1104)).map nd0) (nd1 nE_1104_67) = true := by decide +kernel
set_option maxRecDepth 100000 in
theorem kE_1104_68 : bSgk wd wx ctE_1104 lk_1104 tX12_post [] 57896044618710753882728178039239635995819985241820298752152771380188807168000 9000 (([nE_1104_69] ++ (nT_1104 ++ nC_1104)).map nd0) (nd1 nE_1104_68) = true := by decide +kernel
set_option maxRecDepth 100000 in
theorem kE_1104_69 : bSgk wd wx ctE_1104 lk_1104 tX12_post [] 57896044618710753882728178039239635995819985241820298752152771380188807168000 9000 (([nE_1104_70] ++ (nT_1104 ++ nC_1104)).map nd0) (nd1 nE_1104_69) = true := by decide +kernel
set_option maxRecDepth 100000 in
theorem kE_1104_70 : bSgk wd wx ctE_1104 lk_1104 tX12_post [] 57896044618710753882728178039239635995819985241820298752152771380188807168000 9000 (([nE_1104_71] ++ (nT_1104 ++ nC_1104)).map nd0) (nd1 nE_1104_70) = true := by decide +kernel
set_option maxRecDepth 100000 in
theorem kE_1104_71 : bSgk wd wx ctE_1104 lk_1104 tX12_post [] 57896044618710753882728178039239635995819985241820298752152771380188807168000 9000 (([nE_1104_72] ++ (nT_1104 ++ nC_1104)).map nd0) (nd1 nE_1104_71) = true := by decide +kernel
set_option maxRecDepth 100000 in
theorem kE_1104_72 : bSgk wd wx ctE_1104 lk_1104 tX12_post [] 57896044618710753882728178039239635995819985241820298752152771380188807168000 9000 (([nE_1104_73] ++ (nT_1104 ++ nC_1104)).map nd0) (nd1 nE_1104_72) = true := by decide +kernel
set_option maxRecDepth 100000 in
theorem kE_1104_73 : bSgk wd wx ctE_1104 lk_1104 tX12_post [] 57896044618710753882728178039239635995819985241820298752152771380188807168000 9000 (([nE_1104_74] ++ (nT_1104 ++ nC_1104)).map nd0) (nd1 nE_1104_73) = true := by decide +kernel
set_option maxRecDepth 100000 in
theorem kE_1104_74 : bSgk wd wx ctE_1104 lk_1104 tX12_post [] 57896044618710753882728178039239635995819985241820298752152771380188807168000 9000 (([nE_1104_75] ++ (nT_1104 ++ nC_1104)).map nd0) (nd1 nE_1104_74) = true := by decide +kernel
set_option maxRecDepth 100000 in
theorem kE_1104_75 : bSgk wd wx ctE_1104 lk_1104 tX12_post [] 57896044618710753882728178039239635995819985241820298752152771380188807168000 9000 (([nE_1104_76] ++ (nT_1104 ++ nC_1104)).map nd0) (nd1 nE_1104_75) = true := by decide +kernel
set_option maxRecDepth 100000 in
theorem kE_1104_76 : bSgk wd wx ctE_1104 lk_1104 tX12_post [] 57896044618710753882728178039239635995819985241820298752152771380188807168000 9000 (([nE_1104_77] ++ (nT_1104 ++ nC_1104)).map nd0) (nd1 nE_1104_76) = true := by decide +kernel
set_option maxRecDepth 100000 in
theorem kE_1104_77 : bSgk wd wx ctE_1104 lk_1104 tX12_post [] 57896044618710753882728178039239635995819985241820298752152771380188807168000 9000 (([nE_1104_78] ++ (nT_1104 ++ nC_1104)).map nd0) (nd1 nE_1104_77) = true := by decide +kernel
set_option maxRecDepth 100000 in
theorem kE_1104_78 : bSgk wd wx ctE_1104 lk_1104 tX12_post [] 57896044618710753882728178039239635995819985241820298752152771380188807168000 9000 (([nE_1104_79] ++ (nT_1104 ++ nC_1104)).map nd0) (nd1 nE_1104_78) = true := by decide +kernel
set_option maxRecDepth 100000 in
theorem kE_1104_79 : bSgk wd wx ctE_1104 lk_1104 tX12_post [] 57896044618710753882728178039239635995819985241820298752152771380188807168000 9000 (([nE_1104_80] ++ (nT_1104 ++ nC_1104)).map nd0) (nd1 nE_1104_79) = true := by decide +kernel
set_option maxRecDepth 100000 in
theorem kE_1104_80 : bSgk wd wx ctE_1104 lk_1104 tX12_post [] 57896044618710753882728178039239635995819985241820298752152771380188807168000 9000 (([nE_1104_81] ++ (nT_1104 ++ nC_1104)).map nd0) (nd1 nE_1104_80) = true := by decide +kernel
set_option maxRecDepth 100000 in
theorem kE_1104_81 : bSgk wd wx ctE_1104 lk_1104 tX12_post [] 57896044618710753882728178039239635995819985241820298752152771380188807168000 9000 (([nE_1104_82] ++ (nT_1104 ++ nC_1104)).map nd0) (nd1 nE_1104_81) = true := by decide +kernel
set_option maxRecDepth 100000 in
theorem kE_1104_82 : bSgk wd wx ctE_1104 lk_1104 tX12_post [] 57896044618710753882728178039239635995819985241820298752152771380188807168000 9000 (([nE_1104_83] ++ (nT_1104 ++ nC_1104)).map nd0) (nd1 nE_1104_82) = true := by decide +kernel
set_option maxRecDepth 100000 in
theorem kE_1104_83 : bSgk wd wx ctE_1104 lk_1104 tX12_post [] 57896044618710753882728178039239635995819985241820298752152771380188807168000 9000 (([nE_1104_84] ++ (nT_1104 ++ nC_1104)).map nd0) (nd1 nE_1104_83) = true := by decide +kernel
set_option maxRecDepth 100000 in
theorem kE_1104_84 : bSgk wd wx ctE_1104 lk_1104 tX12_post [] 57896044618710753882728178039239635995819985241820298752152771380188807168000 9000 (([nE_1104_85] ++ (nT_1104 ++ nC_1104)).map nd0) (nd1 nE_1104_84) = true := by decide +kernel
set_option maxRecDepth 100000 in
theorem kE_1104_85 : bSgk wd wx ctE_1104 lk_1104 tX12_post [] 57896044618710753882728178039239635995819985241820298752152771380188807168000 9000 (([nE_1104_86] ++ (nT_1104 ++ nC_1104)).map nd0) (nd1 nE_1104_85) = true := by decide +kernel
set_option maxRecDepth 100000 in
theorem kE_1104_86 : bSgk wd wx ctE_1104 lk_1104 tX12_post [] 57896044618710753882728178039239635995819985241820298752152771380188807168000 9000 (([nE_1104_87] ++ (nT_1104 ++ nC_1104)).map nd0) (nd1 nE_1104_86) = true := by decide +kernel
set_option maxRecDepth 100000 in
theorem kE_1104_87 : bSgk wd wx ctE_1104 lk_1104 tX12_post [] 57896044618710753882728178039239635995819985241820298752152771380188807168000 9000 (([nE_1104_88] ++ (nT_1104 ++ nC_1104)).map nd0) (nd1 nE_1104_87) = true := by decide +kernel
set_option maxRecDepth 100000 in
theorem kE_1104_88 : bSgk wd wx ctE_1104 lk_1104 tX12_post [] 57896044618710753882728178039239635995819985241820298752152771380188807168000 9000 (([nE_1104_89] ++ (nT_1104 ++ nC_1104)).map nd0) (nd1 nE_1104_88) = true := by decide +kernel
set_option maxRecDepth 100000 in
theorem kE_1104_89 : bSgk wd wx ctE_1104 lk_1104 tX12_post [] 57896044618710753882728178039239635995819985241820298752152771380188807168000 9000 (([nE_1104_90] ++ (nT_1104 ++ nC_1104)).map nd0) (nd1 nE_1104_89) = true := by decide +kernel
set_option maxRecDepth 100000 in
theorem kE_1104_90 : bSgk wd wx ctE_1104 lk_1104 tX12_post [] 57896044618710753882728178039239635995819985241820298752152771380188807168000 9000 (([nE_1104_91] ++ (nT_1104 ++ nC_1104)).map nd0) (nd1 nE_1104_90) = true := by decide +kernel
set_option maxRecDepth 100000 in
theorem kE_1104_91 : bSgk wd wx ctE_1104 lk_1104 tX12_post [] 57896044618710753882728178039239635995819985241820298752152771380188807168000 9000 (([nE_1104_92] ++ (nT_1104 ++ nC_1104)).map nd0) (nd1 nE_1104_91) = true := by decide +kernel
set_option maxRecDepth 100000 in
theorem kE_1104_92 : bSgk wd wx ctE_1104 lk_1104 tX12_post [] 57896044618710753882728178039239635995819985241820298752152771380188807168000 9000 (([nE_1104_93] ++ (nT_1104 ++ nC_1104)).map nd0) (nd1 nE_1104_92) = true := by decide +kernel
set_option maxRecDepth 100000 in
theorem kE_1104_93 : bSgk wd wx ctE_1104 lk_1104 tX12_post [] 57896044618710753882728178039239635995819985241820298752152771380188807168000 9000 (([nE_1104_94] ++ (nT_1104 ++ nC_1104)).map nd0) (nd1 nE_1104_93) = true := by decide +kernel
set_option maxRecDepth 100000 in
theorem kE_1104_94 : bSgk wd wx ctE_1104 lk_1104 tX12_post [] 57896044618710753882728178039239635995819985241820298752152771380188807168000 9000 (([nE_1104_95] ++ (nT_1104 ++ nC_1104)).map nd0) (nd1 nE_1104_94) = true := by decide +kernel
set_option maxRecDepth 100000 in
theorem kE_1104_95 : bSgk wd wx ctE_1104 lk_1104 tX12_post [] 57896044618710753882728178039239635995819985241820298752152771380188807168000 9000 (([nE_1104_96] ++ (nT_1104 ++ nC_1104)).map nd0) (nd1 nE_1104_95) = true := by decide +kernel
set_option maxRecDepth 100000 in
theorem kE_1104_96 : bSgk wd wx ctE_1104 lk_1104 tX12_post [] 57896044618710753882728178039239635995819985241820298752152771380188807168000 9000 (([nE_1104_97] ++ (nT_1104 ++ nC_1104)).map nd0) (nd1 nE_1104_96) = true := by decide +kernel
set_option maxRecDepth 100000 in
theorem kE_1104_97 : bSgk wd wx ctE_1104 lk_1104 tX12_post [] 57896044618710753882728178039239635995819985241820298752152771380188807168000 9000 (([nE_1104_98] ++ (nT_1104 ++ nC_1104)).map nd0) (nd1 nE_1104_97) = true := by decide +kernel
set_option maxRecDepth 100000 in
theorem kE_1104_98 : bSgk wd wx ctE_1104 lk_1104 tX12_post [] 57896044618710753882728178039239635995819985241820298752152771380188807168000 9000 (([nE_1104_99] ++ (nT_1104 ++ nC_1104)).map nd0) (nd1 nE_1104_98) = true := by decide +kernel
set_option maxRecDepth 100000 in
theorem kE_1104_99 : bSgk wd wx ctE_1104 lk_1104 tX12_post [] 57896044618710753882728178039239635995819985241820298752152771380188807168000 9000 (([nE_1104_100] ++ (nT_1104 ++ nC_1104)).map nd0) (nd1 nE_1104_99) = true := by decide +kernel
set_option maxRecDepth 100000 in
theorem kE_1104_100 : bSgk wd wx ctE_1104 lk_1104 tX12_post [] 57896044618710753882728178039239635995819985241820298752152771380188807168000 9000 (([nE_1104_101] ++ (nT_1104 ++ nC_1104)).map nd0) (nd1 nE_1104_100) = true := by decide +kernel
set_option maxRecDepth 100000 in
theorem kE_1104_101 : bSgk wd wx ctE_1104 lk_1104 tX12_post [] 57896044618710753882728178039239635995819985241820298752152771380188807168000 9000 (([nE_1104_102] ++ (nT_1104 ++ nC_1104)).map nd0) (nd1 nE_1104_101) = true := by decide +kernel
set_option maxRecDepth 100000 in
theorem kE_1104_102 : bSgk wd wx ctE_1104 lk_1104 tX12_post [] 57896044618710753882728178039239635995819985241820298752152771380188807168000 9000 (([nE_1104_103] ++ (nT_1104 ++ nC_1104)).map nd0) (nd1 nE_1104_102) = true := by decide +kernel
set_option maxRecDepth 100000 in
theorem kE_1104_103 : bSgk wd wx ctE_1104 lk_1104 tX12_post [] 57896044618710753882728178039239635995819985241820298752152771380188807168000 9000 (([nE_1104_104] ++ (nT_1104 ++ nC_1104)).map nd0) (nd1 nE_1104_103) = true := by decide +kernel
set_option maxRecDepth 100000 in
theorem kE_1104_104 : bSgk wd wx ctE_1104 lk_1104 tX12_post [] 57896044618710753882728178039239635995819985241820298752152771380188807168000 9000 (([nE_1104_105] ++ (nT_1104 ++ nC_1104)).map nd0) (nd1 nE_1104_104) = true := by decide +kernel
set_option maxRecDepth 100000 in
theorem kE_1104_105 : bSgk wd wx ctE_1104 lk_1104 tX12_post [] 57896044618710753882728178039239635995819985241820298752152771380188807168000 9000 (([nE_1104_106] ++ (nT_1104 ++ nC_1104)).map nd0) (nd1 nE_1104_105) = true := by decide +kernel
set_option maxRecDepth 100000 in
theorem kE_1104_106 : bSgk wd wx ctE_1104 lk_1104 tX12_post [] 57896044618710753882728178039239635995819985241820298752152771380188807168000 9000 (([nE_1104_107] ++ (nT_1104 ++ nC_1104)).map nd0) (nd1 nE_1104_106) = true := by decide +kernel
set_option maxRecDepth 100000 in
theorem kE_1104_107 : bSgk wd wx ctE_1104 lk_1104 tX12_post [] 57896044618710753882728178039239635995819985241820298752152771380188807168000 9000 (([nE_1104_108] ++ (nT_1104 ++ nC_1104)).map nd0) (nd1 nE_1104_107) = true := by decide +kernel
set_option maxRecDepth 100000 in
theorem kE_1104_108 : bSgk wd wx ctE_1104 lk_1104 tX12_post [] 57896044618710753882728178039239635995819985241820298752152771380188807168000 9000 (([nE_1104_109] ++ (nT_1104 ++ nC_1104)).map nd0) (nd1 nE_1104_108) = true := by decide +kernel
set_option maxRecDepth 100000 in
theorem kE_1104_109 : bSgk wd wx ctE_1104 lk_1104 tX12_post [] 57896044618710753882728178039239635995819985241820298752152771380188807168000 9000 (([nE_1104_110] ++ (nT_1104 ++ nC_1104)).map nd0) (nd1 nE_1104_109) = true := by decide +kernel
set_option maxRecDepth 100000 in
theorem kE_1104_110 : bSgk wd wx ctE_1104 lk_1104 tX12_post [] 57896044618710753882728178039239635995819985241820298752152771380188807168000 9000 (([nE_1104_111] ++ (nT_1104 ++ nC_1104)).map nd0) (nd1 nE_1104_110) = true := by decide +kernel
set_option maxRecDepth 100000 in
theorem kE_1104_111 : bSgk wd wx ctE_1104 lk_1104 tX12_post [] 57896044618710753882728178039239635995819985241820298752152771380188807168000 9000 (([nE_1104_112] ++ (nT_1104 ++ nC_1104)).map nd0) (nd1 nE_1104_111) = true := by decide +kernel
set_option maxRecDepth 100000 in
theorem kE_1104_112 : bSgk wd wx ctE_1104 lk_1104 tX12_post [] 57896044618710753882728178039239635995819985241820298752152771380188807168000 9000 (([nE_1104_113] ++ (nT_1104 ++ nC_1104)).map nd0) (nd1 nE_1104_112) = true := by decide +kernel
set_option maxRecDepth 100000 in
theorem kE_1104_113 : bSgk wd wx ctE_1104 lk_1104 tX12_post [] 57896044618710753882728178039239635995819985241820298752152771380188807168000 9000 (([nE_1104_114] ++ (nT_1104 ++ nC_1104)).map nd0) (nd1 nE_1104_113) = true := by decide +kernel
set_option maxRecDepth 100000 in
theorem kE_1104_114 : bSgk wd wx ctE_1104 lk_1104 tX12_post [] 57896044618710753882728178039239635995819985241820298752152771380188807168000 9000 (([nE_1104_115] ++ (nT_1104 ++ nC_1104)).map nd0) (nd1 nE_1104_114) = true := by decide +kernel
set_option maxRecDepth 100000 in
theorem kE_1104_115 : bSgk wd wx ctE_1104 lk_1104 tX12_post [] 57896044618710753882728178039239635995819985241820298752152771380188807168000 9000 (([nE_1104_116] ++ (nT_1104 ++ nC_1104)).map nd0) (nd1 nE_1104_115) = true := by decide +kernel
set_option maxRecDepth 100000 in
theorem kE_1104_116 : bSgk wd wx ctE_1104 lk_1104 tX12_post [] 57896044618710753882728178039239635995819985241820298752152771380188807168000 9000 (([nE_1104_117] ++ (nT_1104 ++ nC_1104)).map nd0) (nd1 nE_1104_116) = true := by decide +kernel
set_option maxRecDepth 100000 in
theorem kE_1104_117 : bSgk wd wx ctE_1104 lk_1104 tX12_post [] 57896044618710753882728178039239635995819985241820298752152771380188807168000 9000 (([nE_1104_118] ++ (nT_1104 ++ nC_1104)).map nd0) (nd1 nE_1104_117) = true := by decide +kernel
set_option maxRecDepth 100000 in
theorem kE_1104_118 : bSgk wd wx ctE_1104 lk_1104 tX12_post [] 57896044618710753882728178039239635995819985241820298752152771380188807168000 9000 (([nE_1104_119] ++ (nT_1104 ++ nC_1104)).map nd0) (nd1 nE_1104_118) = true := by decide +kernel
set_option maxRecDepth 100000 in
theorem kE_1104_119 : bSgk wd wx ctE_1104 lk_1104 tX12_post [] 57896044618710753882728178039239635995819985241820298752152771380188807168000 9000 (([nE_1104_120] ++ (nT_1104 ++ nC_1104)).map nd0) (nd1 nE_1104_119) = true := by decide +kernel
set_option maxRecDepth 100000 in
theorem kE_1104_120 : bSgk wd wx ctE_1104 lk_1104 tX12_post [] 57896044618710753882728178039239635995819985241820298752152771380188807168000 9000 (([nE_1104_121] ++ (nT_1104 ++ nC_1104)).map nd0) (nd1 nE_1104_120) = true := by decide +kernel
set_option maxRecDepth 100000 in
theorem kE_1104_121 : bSgk wd wx ctE_1104 lk_1104 tX12_post [] 57896044618710753882728178039239635995819985241820298752152771380188807168000 9000 (([nE_1104_122] ++ (nT_1104 ++ nC_1104)).map nd0) (nd1 nE_1104_121) = true := by decide +kernel
set_option maxRecDepth 100000 in
theorem kE_1104_122 : bSgk wd wx ctE_1104 lk_1104 tX12_post [] 57896044618710753882728178039239635995819985241820298752152771380188807168000 9000 (([nE_1104_123] ++ (nT_1104 ++ nC_1104)).map nd0) (nd1 nE_1104_122) = true := by decide +kernel
set_option maxRecDepth 100000 in
theorem kE_1104_123 : bSgk wd wx ctE_1104 lk_1104 tX12_post [] 57896044618710753882728178039239635995819985241820298752152771380188807168000 9000 (([nE_1104_124] ++ (nT_1104 ++ nC_1104)).map nd0) (nd1 nE_1104_123) = true := by decide +kernel
set_option maxRecDepth 100000 in
theorem kE_1104_124 : bSgk wd wx ctE_1104 lk_1104 tX12_post [] 57896044618710753882728178039239635995819985241820298752152771380188807168000 9000 (([nE_1104_125] ++ (nT_1104 ++ nC_1104)).map nd0) (nd1 nE_1104_124) = true := by decide +kernel
set_option maxRecDepth 100000 in
theorem kE_1104_125 : bSgk wd wx ctE_1104 lk_1104 tX12_post [] 57896044618710753882728178039239635995819985241820298752152771380188807168000 9000 (([nE_1104_126] ++ (nT_1104 ++ nC_1104)).map nd0) (nd1 nE_1104_125) = true := by decide +kernel
set_option maxRecDepth 100000 in
theorem kE_1104_126 : bSgk wd wx ctE_1104 lk_1104 tX12_post [] 57896044618710753882728178039239635995819985241820298752152771380188807168000 9000 (([nE_1104_127] ++ (nT_1104 ++ nC_1104)).map nd0) (nd1 nE_1104_126) = true := by decide +kernel
set_option maxRecDepth 100000 in
theorem kE_1104_127 : bSgk wd wx ctE_1104 lk_1104 tX12_post [] 57896044618710753882728178039239635995819985241820298752152771380188807168000 9000 (([nE_1104_128] ++ (nT_1104 ++ nC_1104)).map nd0) (nd1 nE_1104_127) = true := by decide +kernel
set_option maxRecDepth 100000 in
theorem kE_1104_128 : bSgk wd wx ctE_1104 lk_1104 tX12_post [] 57896044618710753882728178039239635995819985241820298752152771380188807168000 9000 (([nE_1104_129] ++ (nT_1104 ++ nC_1104)).map nd0) (nd1 nE_1104_128) = true := by decide +kernel
set_option maxRecDepth 100000 in
theorem kE_1104_129 : bSgk wd wx ctE_1104 lk_1104 tX12_post [] 57896044618710753882728178039239635995819985241820298752152771380188807168000 9000 (([nE_1104_130] ++ (nT_1104 ++ nC_1104)).map nd0) (nd1 nE_1104_129) = true := by decide +kernel
set_option maxRecDepth 100000 in
theorem kE_1104_130 : bSgk wd wx ctE_1104 lk_1104 tX12_post [] 57896044618710753882728178039239635995819985241820298752152771380188807168000 9000 (([nE_1104_131] ++ (nT_1104 ++ nC_1104)).map nd0) (nd1 nE_1104_130) = true := by decide +kernel
set_option maxRecDepth 100000 in
theorem kE_1104_131 : bSgk wd wx ctE_1104 lk_1104 tX12_post [] 57896044618710753882728178039239635995819985241820298752152771380188807168000 9000 (([nE_1104_132] ++ (nT_1104 ++ nC_1104)).map nd0) (nd1 nE_1104_131) = true := by decide +kernel
set_option maxRecDepth 100000 in
theorem kE_1104_132 : bSgk wd wx ctE_1104 lk_1104 tX12_post [] 57896044618710753882728178039239635995819985241820298752152771380188807168000 9000 (([nE_1104_133] ++ (nT_1104 ++ nC_1104)).map nd0) (nd1 nE_1104_132) = true := by decide +kernel
set_option maxRecDepth 100000 in
theorem kE_1104_133 : bSgk wd wx ctE_1104 lk_1104 tX12_post [] 57896044618710753882728178039239635995819985241820298752152771380188807168000 9000 (([nE_1104_134] ++ (nT_1104 ++ nC_1104)).map nd0) (nd1 nE_1104_133) = true := by decide +kernel
set_option maxRecDepth 100000 in
theorem kE_1104_134 : bSgk wd wx ctE_1104 lk_1104 tX12_post [] 57896044618710753882728178039239635995819985241820298752152771380188807168000 9000 (([nE_1104_135] ++ (nT_1104 ++ nC_1104)).map nd0) (nd1 nE_1104_134) = true := by decide +kernel
set_option maxRecDepth 100000 in
theorem kE_1104_135 : bSgk wd wx ctE_1104 lk_1104 tX12_post [] 57896044618710753882728178039239635995819985241820298752152771380188807168000 9000 (([nE_1104_136] ++ (nT_1104 ++ nC_1104)).map nd0) (nd1 nE_1104_135) = true := by decide +kernel
set_option maxRecDepth 100000 in
theorem kE_1104_136 : bSgk wd wx ctE_1104 lk_1104 tX12_post [] 57896044618710753882728178039239635995819985241820298752152771380188807168000 9000 (([nE_1104_137] ++ (nT_1104 ++ nC_1104)).map nd0) (nd1 nE_1104_136) = true := by decide +kernel
set_option maxRecDepth 100000 in
theorem kE_1104_137 : bSgk wd wx ctE_1104 lk_1104 tX12_post [] 57896044618710753882728178039239635995819985241820298752152771380188807168000 9000 (([nE_1104_138] ++ (nT_1104 ++ nC_1104)).map nd0) (nd1 nE_1104_137) = true := by decide +kernel
set_option maxRecDepth 100000 in
theorem kE_1104_138 : bSgk wd wx ctE_1104 lk_1104 tX12_post [] 57896044618710753882728178039239635995819985241820298752152771380188807168000 9000 (([nE_1104_139] ++ (nT_1104 ++ nC_1104)).map nd0) (nd1 nE_1104_138) = true := by decide +kernel
set_option maxRecDepth 100000 in
theorem kE_1104_139 : bSgk wd wx ctE_1104 lk_1104 tX12_post [] 57896044618710753882728178039239635995819985241820298752152771380188807168000 9000 (([nE_1104_140] ++ (nT_1104 ++ nC_1104)).map nd0) (nd1 nE_1104_139) = true := by decide +kernel
set_option maxRecDepth 100000 in
theorem kE_1104_140 : bSgk wd wx ctE_1104 lk_1104 tX12_post [] 57896044618710753882728178039239635995819985241820298752152771380188807168000 9000 (([nE_1104_141] ++ (nT_1104 ++ nC_1104)).map nd0) (nd1 nE_1104_140) = true := by decide +kernel
set_option maxRecDepth 100000 in
theorem kE_1104_141 : bSgk wd wx ctE_1104 lk_1104 tX12_post [] 57896044618710753882728178039239635995819985241820298752152771380188807168000 9000 (([nE_1104_142] ++ (nT_1104 ++ nC_1104)).map nd0) (nd1 nE_1104_141) = true := by decide +kernel
set_option maxRecDepth 100000 in
theorem kE_1104_142 : bSgk wd wx ctE_1104 lk_1104 tX12_post [] 57896044618710753882728178039239635995819985241820298752152771380188807168000 9000 (([nE_1104_143] ++ (nT_1104 ++ nC_1104)).map nd0) (nd1 nE_1104_142) = true := by decide +kernel
set_option maxRecDepth 100000 in
theorem kE_1104_143 : bSgk wd wx ctE_1104 lk_1104 tX12_post [] 57896044618710753882728178039239635995819985241820298752152771380188807168000 9000 (([nE_1104_144] ++ (nT_1104 ++ nC_1104)).map nd0) (nd1 nE_1104_143) = true := by decide +kernel
set_option maxRecDepth 100000 in
theorem kE_1104_144 : bSgk wd wx ctE_1104 lk_1104 tX12_post [] 57896044618710753882728178039239635995819985241820298752152771380188807168000 9000 (([nE_1104_145] ++ (nT_1104 ++ nC_1104)).map nd0) (nd1 nE_1104_144) = true := by decide +kernel
set_option maxRecDepth 100000 in
theorem kE_1104_145 : bSgk wd wx ctE_1104 lk_1104 tX12_post [] 57896044618710753882728178039239635995819985241820298752152771380188807168000 9000 (([nE_1104_146] ++ (nT_1104 ++ nC_1104)).map nd0) (nd1 nE_1104_145) = true := by decide +kernel
set_option maxRecDepth 100000 in
theorem kE_1104_146 : bSgk wd wx ctE_1104 lk_1104 tX12_post [] 57896044618710753882728178039239635995819985241820298752152771380188807168000 9000 (([nE_1104_147] ++ (nT_1104 ++ nC_1104)).map nd0) (nd1 nE_1104_146) = true := by decide +kernel
set_option maxRecDepth 100000 in
theorem kE_1104_147 : bSgk wd wx ctE_1104 lk_1104 tX12_post [] 57896044618710753882728178039239635995819985241820298752152771380188807168000 9000 (([nE_1104_148] ++ (nT_1104 ++ nC_1104)).map nd0) (nd1 nE_1104_147) = true := by decide +kernel
set_option maxRecDepth 100000 in
theorem kE_1104_148 : bSgk wd wx ctE_1104 lk_1104 tX12_post [] 57896044618710753882728178039239635995819985241820298752152771380188807168000 9000 (([nE_1104_149] ++ (nT_1104 ++ nC_1104)).map nd0) (nd1 nE_1104_148) = true := by decide +kernel
set_option maxRecDepth 100000 in
theorem kE_1104_149 : bSgk wd wx ctE_1104 lk_1104 tX12_post [] 57896044618710753882728178039239635995819985241820298752152771380188807168000 9000 (([nE_1104_150] ++ (nT_1104 ++ nC_1104)).map nd0) (nd1 nE_1104_149) = true := by decide +kernel
set_option maxRecDepth 100000 in
theorem kE_1104_150 : bSgk wd wx ctE_1104 lk_1104 tX12_post [] 57896044618710753882728178039239635995819985241820298752152771380188807168000 9000 (([nE_1104_151] ++ (nT_1104 ++ nC_1104)).map nd0) (nd1 nE_1104_150) = true := by decide +kernel
set_option maxRecDepth 100000 in
theorem kE_1104_151 : bSgk wd wx ctE_1104 lk_1104 tX12_post [] 57896044618710753882728178039239635995819985241820298752152771380188807168000 9000 (([nE_1104_152] ++ (nT_1104 ++ nC_1104)).map nd0) (nd1 nE_1104_151) = true := by decide +kernel
set_option maxRecDepth 100000 in
theorem kE_1104_152 : bSgk wd wx ctE_1104 lk_1104 tX12_post [] 57896044618710753882728178039239635995819985241820298752152771380188807168000 9000 (([nE_1104_153] ++ (nT_1104 ++ nC_1104)).map nd0) (nd1 nE_1104_152) = true := by decide +kernel
set_option maxRecDepth 100000 in
theorem kE_1104_153 : bSgk wd wx ctE_1104 lk_1104 tX12_post [] 57896044618710753882728178039239635995819985241820298752152771380188807168000 9000 (([nE_1104_154] ++ (nT_1104 ++ nC_1104)).map nd0) (nd1 nE_1104_153) = true := by decide +kernel
set_option maxRecDepth 100000 in
theorem kE_1104_154 : bSgk wd wx ctE_1104 lk_1104 tX12_post [] 57896044618710753882728178039239635995819985241820298752152771380188807168000 9000 (([nE_1104_155] ++ (nT_1104 ++ nC_1104)).map nd0) (nd1 nE_1104_154) = true := by decide +kernel
set_option maxRecDepth 100000 in
theorem kE_1104_155 : bSgk wd wx ctE_1104 lk_1104 tX12_post [] 57896044618710753882728178039239635995819985241820298752152771380188807168000 9000 (([nE_1104_156] ++ (nT_1104 ++ nC_1104)).map nd0) (nd1 nE_1104_155) = true := by decide +kernel
set_option maxRecDepth 100000 in
theorem kE_1104_156 : bSgk wd wx ctE_1104 lk_1104 tX12_post [] 57896044618710753882728178039239635995819985241820298752152771380188807168000 9000 (([nE_1104_157] ++ (nT_1104 ++ nC_1104)).map nd0) (nd1 nE_1104_156) = true := by decide +kernel
set_option maxRecDepth 100000 in
theorem kE_1104_157 : bSgk wd wx ctE_1104 lk_1104 tX12_post [] 57896044618710753882728178039239635995819985241820298752152771380188807168000 9000 (([nE_1104_158] ++ (nT_1104 ++ nC_1104)).map nd0) (nd1 nE_1104_157) = true := by decide +kernel
set_option maxRecDepth 100000 in
theorem kE_1104_158 : bSgk wd wx ctE_1104 lk_1104 tX12_post [] 57896044618710753882728178039239635995819985241820298752152771380188807168000 9000 (([nE_1104_159] ++ (nT_1104 ++ nC_1104)).map nd0) (nd1 nE_1104_158) = true := by decide +kernel
set_option maxRecDepth 100000 in
theorem kE_1104_159 : bSgk wd wx ctE_1104 lk_1104 tX12_post [] 57896044618710753882728178039239635995819985241820298752152771380188807168000 9000 (([nE_1104_160] ++ (nT_1104 ++ nC_1104)).map nd0) (nd1 nE_1104_159) = true := by decide +kernel
set_option maxRecDepth 100000 in
theorem kE_1104_160 : bSgk wd wx ctE_1104 lk_1104 tX12_post [] 57896044618710753882728178039239635995819985241820298752152771380188807168000 9000 (([nE_1104_161] ++ (nT_1104 ++ nC_1104)).map nd0) (nd1 nE_1104_160) = true := by decide +kernel
set_option maxRecDepth 100000 in
theorem kE_1104_161 : bSgk wd wx ctE_1104 lk_1104 tX12_post [] 57896044618710753882728178039239635995819985241820298752152771380188807168000 9000 (([nE_1104_162] ++ (nT_1104 ++ nC_1104)).map nd0) (nd1 nE_1104_161) = true := by decide +kernel
set_option maxRecDepth 100000 in
theorem kE_1104_162 : bSgk wd wx ctE_1104 lk_1104 tX12_post [] 57896044618710753882728178039239635995819985241820298752152771380188807168000 9000 (([nE_1104_163] ++ (nT_1104 ++ nC_1104)).map nd0) (nd1 nE_1104_162) = true := by decide +kernel
set_option maxRecDepth 100000 in
theorem kE_1104_163 : bSgk wd wx ctE_1104 lk_1104 tX12_post [] 57896044618710753882728178039239635995819985241820298752152771380188807168000 9000 (([nE_1104_164] ++ (nT_1104 ++ nC_1104)).map nd0) (nd1 nE_1104_163) = true := by decide +kernel
set_option maxRecDepth 100000 in
theorem kE_1104_164 : bSgk wd wx ctE_1104 lk_1104 tX12_post [] 57896044618710753882728178039239635995819985241820298752152771380188807168000 9000 (([nE_1104_165] ++ (nT_1104 ++ nC_1104)).map nd0) (nd1 nE_1104_164) = true := by decide +kernel
set_option maxRecDepth 100000 in
theorem kE_1104_165 : bSgk wd wx ctE_1104 lk_1104 tX12_post [] 57896044618710753882728178039239635995819985241820298752152771380188807168000 9000 (([nE_1104_166] ++ (nT_1104 ++ nC_1104)).map nd0) (nd1 nE_1104_165) = true := by decide +kernel
set_option maxRecDepth 100000 in
theorem kE_1104_166 : bSgk wd wx ctE_1104 lk_1104 tX12_post [] 57896044618710753882728178039239635995819985241820298752152771380188807168000 9000 (([nE_1104_167] ++ (nT_1104 ++ nC_1104)).map nd0) (nd1 nE_1104_166) = true := by decide +kernel
set_option maxRecDepth 100000 in
theorem kE_1104_167 : bSgk wd wx ctE_1104 lk_1104 tX12_post [] 57896044618710753882728178039239635995819985241820298752152771380188807168000 9000 (([nE_1104_168] ++ (nT_1104 ++ nC_1104)).map nd0) (nd1 nE_1104_167) = true := by decide +kernel
set_option maxRecDepth 100000 in
theorem kE_1104_168 : bSgk wd wx ctE_1104 lk_1104 tX12_post [] 57896044618710753882728178039239635995819985241820298752152771380188807168000 9000 (([nE_1104_169] ++ (nT_1104 ++ nC_1104)).map nd0) (nd1 nE_1104_168) = true := by decide +kernel
set_option maxRecDepth 100000 in
theorem kE_1104_169 : bSgk wd wx ctE_1104 lk_1104 tX12_post [] 57896044618710753882728178039239635995819985241820298752152771380188807168000 9000 (([nE_1104_170] ++ (nT_1104 ++ nC_1104)).map nd0) (nd1 nE_1104_169) = true := by decide +kernel
set_option maxRecDepth 100000 in
theorem kE_1104_170 : bSgk wd wx ctE_1104 lk_1104 tX12_post [] 57896044618710753882728178039239635995819985241820298752152771380188807168000 9000 (([nE_1104_171] ++ (nT_1104 ++ nC_1104)).map nd0) (nd1 nE_1104_170) = true := by decide +kernel
set_option maxRecDepth 100000 in
theorem kE_1104_171 : bSgk wd wx ctE_1104 lk_1104 tX12_post [] 57896044618710753882728178039239635995819985241820298752152771380188807168000 9000 (([nE_1104_172] ++ (nT_1104 ++ nC_1104)).map nd0) (nd1 nE_1104_171) = true := by decide +kernel
set_option maxRecDepth 100000 in
theorem kE_1104_172 : bSgk wd wx ctE_1104 lk_1104 tX12_post [] 57896044618710753882728178039239635995819985241820298752152771380188807168000 9000 (([nE_1104_173] ++ (nT_1104 ++ nC_1104)).map nd0) (nd1 nE_1104_172) = true := by decide +kernel
set_option maxRecDepth 100000 in
theorem kE_1104_173 : bSgk wd wx ctE_1104 lk_1104 tX12_post [] 57896044618710753882728178039239635995819985241820298752152771380188807168000 9000 (([nE_1104_174] ++ (nT_1104 ++ nC_1104)).map nd0) (nd1 nE_1104_173) = true := by decide +kernel
set_option maxRecDepth 100000 in
theorem kE_1104_174 : bSgk wd wx ctE_1104 lk_1104 tX12_post [] 57896044618710753882728178039239635995819985241820298752152771380188807168000 9000 (([nE_1104_175] ++ (nT_1104 ++ nC_1104)).map nd0) (nd1 nE_1104_174) = true := by decide +kernel
set_option maxRecDepth 100000 in
theorem kE_1104_175 : bSgk wd wx ctE_1104 lk_1104 tX12_post [] 57896044618710753882728178039239635995819985241820298752152771380188807168000 9000 (([nE_1104_176] ++ (nT_1104 ++ nC_1104)).map nd0) (nd1 nE_1104_175) = true := by decide +kernel
set_option maxRecDepth 100000 in
theorem kE_1104_176 : bSgk wd wx ctE_1104 lk_1104 tX12_post [] 57896044618710753882728178039239635995819985241820298752152771380188807168000 9000 (([nE_1104_177] ++ (nT_1104 ++ nC_1104)).map nd0) (nd1 nE_1104_176) = true := by decide +kernel
set_option maxRecDepth 100000 in
theorem kE_1104_177 : bSgk wd wx ctE_1104 lk_1104 tX12_post [] 57896044618710753882728178039239635995819985241820298752152771380188807168000 9000 (([nE_1104_178] ++ (nT_1104 ++ nC_1104)).map nd0) (nd1 nE_1104_177) = true := by decide +kernel
set_option maxRecDepth 100000 in
theorem kE_1104_178 : bSgk wd wx ctE_1104 lk_1104 tX12_post [] 57896044618710753882728178039239635995819985241820298752152771380188807168000 9000 (([nE_1104_179] ++ (nT_1104 ++ nC_1104)).map nd0) (nd1 nE_1104_178) = true := by decide +kernel
set_option maxRecDepth 100000 in
theorem kE_1104_179 : bSgk wd wx ctE_1104 lk_1104 tX12_post [] 57896044618710753882728178039239635995819985241820298752152771380188807168000 9000 (([nE_1104_180] ++ (nT_1104 ++ nC_1104)).map nd0) (nd1 nE_1104_179) = true := by decide +kernel
set_option maxRecDepth 100000 in
theorem kE_1104_180 : bSgk wd wx ctE_1104 lk_1104 tX12_post [] 57896044618710753882728178039239635995819985241820298752152771380188807168000 9000 (([nE_1104_181] ++ (nT_1104 ++ nC_1104)).map nd0) (nd1 nE_1104_180) = true := by decide +kernel
set_option maxRecDepth 100000 in
theorem kE_1104_181 : bSgk wd wx ctE_1104 lk_1104 tX12_post [] 57896044618710753882728178039239635995819985241820298752152771380188807168000 9000 (([nE_1104_182] ++ (nT_1104 ++ nC_1104)).map nd0) (nd1 nE_1104_181) = true := by decide +kernel
set_option maxRecDepth 100000 in
theorem kE_1104_182 : bSgk wd wx ctE_1104 lk_1104 tX12_post [] 57896044618710753882728178039239635995819985241820298752152771380188807168000 9000 (([nE_1104_183] ++ (nT_1104 ++ nC_1104)).map nd0) (nd1 nE_1104_182) = true := by decide +kernel
set_option maxRecDepth 100000 in
theorem kE_1104_183 : bSgk wd wx ctE_1104 lk_1104 tX12_post [] 57896044618710753882728178039239635995819985241820298752152771380188807168000 9000 (([nE_1104_184] ++ (nT_1104 ++ nC_1104)).map nd0) (nd1 nE_1104_183) = true := by decide +kernel
set_option maxRecDepth 100000 in
theorem kE_1104_184 : bSgk wd wx ctE_1104 lk_1104 tX12_post [] 57896044618710753882728178039239635995819985241820298752152771380188807168000 9000 (([nE_1104_185] ++ (nT_1104 ++ nC_1104)).map nd0) (nd1 nE_1104_184) = true := by decide +kernel
set_option maxRecDepth 100000 in
theorem kE_1104_185 : bSgk wd wx ctE_1104 lk_1104 tX12_post [] 57896044618710753882728178039239635995819985241820298752152771380188807168000 9000 (([nE_1104_186] ++ (nT_1104 ++ nC_1104)).map nd0) (nd1 nE_1104_185) = true := by decide +kernel
set_option maxRecDepth 100000 in
theorem kE_1104_186 : bSgk wd wx ctE_1104 lk_1104 tX12_post [] 57896044618710753882728178039239635995819985241820298752152771380188807168000 9000 (([nE_1104_187] ++ (nT_1104 ++ nC_1104)).map nd0) (nd1 nE_1104_186) = true := by decide +kernel
set_option maxRecDepth 100000 in
theorem kE_1104_187 : bSgk wd wx ctE_1104 lk_1104 tX12_post [] 57896044618710753882728178039239635995819985241820298752152771380188807168000 9000 (([nE_1104_188] ++ (nT_1104 ++ nC_1104)).map nd0) (nd1 nE_1104_187) = true := by decide +kernel
set_option maxRecDepth 100000 in
theorem kE_1104_188 : bSgk wd wx ctE_1104 lk_1104 tX12_post [] 57896044618710753882728178039239635995819985241820298752152771380188807168000 9000 (([nE_1104_189] ++ (nT_1104 ++ nC_1104)).map nd0) (nd1 nE_1104_188) = true := by decide +kernel
set_option maxRecDepth 100000 in
theorem kE_1104_189 : bSgk wd wx ctE_1104 lk_1104 tX12_post [] 57896044618710753882728178039239635995819985241820298752152771380188807168000 9000 (([nE_1104_190] ++ (nT_1104 ++ nC_1104)).map nd0) (nd1 nE_1104_189) = true := by decide +kernel
set_option maxRecDepth 100000 in
theorem kE_1104_190 : bSgk wd wx ctE_1104 lk_1104 tX12_post [] 57896044618710753882728178039239635995819985241820298752152771380188807168000 9000 (([nE_1104_191] ++ (nT_1104 ++ nC_1104)).map nd0) (nd1 nE_1104_190) = true := by decide +kernel
set_option maxRecDepth 100000 in
theorem kE_1104_191 : bSgk wd wx ctE_1104 lk_1104 tX12_post [] 57896044618710753882728178039239635995819985241820298752152771380188807168000 9000 (([nE_1104_192] ++ (nT_1104 ++ nC_1104)).map nd0) (nd1 nE_1104_191) = true := by decide +kernel
set_option maxRecDepth 100000 in
theorem kE_1104_192 : bSgk wd wx ctE_1104 lk_1104 tX12_post [] 57896044618710753882728178039239635995819985241820298752152771380188807168000 9000 (([nE_1104_193] ++ (nT_1104 ++ nC_1104)).map nd0) (nd1 nE_1104_192) = true := by decide +kernel
set_option maxRecDepth 100000 in
theorem kE_1104_193 : bSgk wd wx ctE_1104 lk_1104 tX12_post [] 57896044618710753882728178039239635995819985241820298752152771380188807168000 9000 (([nE_1104_194] ++ (nT_1104 ++ nC_1104)).map nd0) (nd1 nE_1104_193) = true := by decide +kernel
set_option maxRecDepth 100000 in
theorem kE_1104_194 : bSgk wd wx ctE_1104 lk_1104 tX12_post [] 57896044618710753882728178039239635995819985241820298752152771380188807168000 9000 (([nE_1104_195] ++ (nT_1104 ++ nC_1104)).map nd0) (nd1 nE_1104_194) = true := by decide +kernel
set_option maxRecDepth 100000 in
theorem kE_1104_195 : bSgk wd wx ctE_1104 lk_1104 tX12_post [] 57896044618710753882728178039239635995819985241820298752152771380188807168000 9000 (([nE_1104_196] ++ (nT_1104 ++ nC_1104)).map nd0) (nd1 nE_1104_195) = true := by decide +kernel
set_option maxRecDepth 100000 in
theorem kE_1104_196 : bSgk wd wx ctE_1104 lk_1104 tX12_post [] 57896044618710753882728178039239635995819985241820298752152771380188807168000 9000 (([nE_1104_197] ++ (nT_1104 ++ nC_1104)).map nd0) (nd1 nE_1104_196) = true := by decide +kernel
set_option maxRecDepth 100000 in
theorem kE_1104_197 : bSgk wd wx ctE_1104 lk_1104 tX12_post [] 57896044618710753882728178039239635995819985241820298752152771380188807168000 9000 (([nE_1104_198] ++ (nT_1104 ++ nC_1104)).map nd0) (nd1 nE_1104_197) = true := by decide +kernel
set_option maxRecDepth 100000 in
theorem kE_1104_198 : bSgk wd wx ctE_1104 lk_1104 tX12_post [] 57896044618710753882728178039239635995819985241820298752152771380188807168000 9000 (([nE_1104_199] ++ (nT_1104 ++ nC_1104)).map nd0) (nd1 nE_1104_198) = true := by decide +kernel
set_option maxRecDepth 100000 in
theorem kE_1104_199 : bSgk wd wx ctE_1104 lk_1104 tX12_post [] 57896044618710753882728178039239635995819985241820298752152771380188807168000 9000 (([nE_1104_200] ++ (nT_1104 ++ nC_1104)).map nd0) (nd1 nE_1104_199) = true := by decide +kernel
set_option maxRecDepth 100000 in
theorem kE_1104_200 : bSgk wd wx ctE_1104 lk_1104 tX12_post [] 57896044618710753882728178039239635995819985241820298752152771380188807168000 9000 (([nE_1104_201] ++ (nT_1104 ++ nC_1104)).map nd0) (nd1 nE_1104_200) = true := by decide +kernel
set_option maxRecDepth 100000 in
theorem kE_1104_201 : bSgk wd wx ctE_1104 lk_1104 tX12_post [] 57896044618710753882728178039239635995819985241820298752152771380188807168000 9000 (([nE_1104_202] ++ (nT_1104 ++ nC_1104)).map nd0) (nd1 nE_1104_201) = true := by decide +kernel
set_option maxRecDepth 100000 in
theorem kE_1104_202 : bSgk wd wx ctE_1104 lk_1104 tX12_post [] 57896044618710753882728178039239635995819985241820298752152771380188807168000 9000 (([nE_1104_203] ++ (nT_1104 ++ nC_1104)).map nd0) (nd1 nE_1104_202) = true := by decide +kernel
set_option maxRecDepth 100000 in
theorem kE_1104_203 : bSgk wd wx ctE_1104 lk_1104 tX12_post [] 57896044618710753882728178039239635995819985241820298752152771380188807168000 9000 (([nE_1104_204] ++ (nT_1104 ++ nC_1104)).map nd0) (nd1 nE_1104_203) = true := by decide +kernel
set_option maxRecDepth 100000 in
theorem kE_1104_204 : bSgk wd wx ctE_1104 lk_1104 tX12_post [] 57896044618710753882728178039239635995819985241820298752152771380188807168000 9000 (([nE_1104_205] ++ (nT_1104 ++ nC_1104)).map nd0) (nd1 nE_1104_204) = true := by decide +kernel
set_option maxRecDepth 100000 in
theorem kE_1104_205 : bSgk wd wx ctE_1104 lk_1104 tX12_post [] 57896044618710753882728178039239635995819985241820298752152771380188807168000 9000 (([nE_1104_206] ++ (nT_1104 ++ nC_1104)).map nd0) (nd1 nE_1104_205) = true := by decide +kernel
set_option maxRecDepth 100000 in
theorem kE_1104_206 : bSgk wd wx ctE_1104 lk_1104 tX12_post [] 57896044618710753882728178039239635995819985241820298752152771380188807168000 9000 (([nE_1104_207] ++ (nT_1104 ++ nC_1104)).map nd0) (nd1 nE_1104_206) = true := by decide +kernel
set_option maxRecDepth 100000 in
theorem kE_1104_207 : bSgk wd wx ctE_1104 lk_1104 tX12_post [] 57896044618710753882728178039239635995819985241820298752152771380188807168000 9000 (([nE_1104_208] ++ (nT_1104 ++ nC_1104)).map nd0) (nd1 nE_1104_207) = true := by decide +kernel
set_option maxRecDepth 100000 in
theorem kE_1104_208 : bSgk wd wx ctE_1104 lk_1104 tX12_post [] 57896044618710753882728178039239635995819985241820298752152771380188807168000 9000 (([nE_1104_209] ++ (nT_1104 ++ nC_1104)).map nd0) (nd1 nE_1104_208) = true := by decide +kernel
set_option maxRecDepth 100000 in
theorem kE_1104_209 : bSgk wd wx ctE_1104 lk_1104 tX12_post [] 57896044618710753882728178039239635995819985241820298752152771380188807168000 9000 (([nE_1104_210] ++ (nT_1104 ++ nC_1104)).map nd0) (nd1 nE_1104_209) = true := by decide +kernel
set_option maxRecDepth 100000 in
theorem kE_1104_210 : bSgk wd wx ctE_1104 lk_1104 tX12_post [] 57896044618710753882728178039239635995819985241820298752152771380188807168000 9000 (([nE_1104_211] ++ (nT_1104 ++ nC_1104)).map nd0) (nd1 nE_1104_210) = true := by decide +kernel
set_option maxRecDepth 100000 in
theorem kE_1104_211 : bSgk wd wx ctE_1104 lk_1104 tX12_post [] 57896044618710753882728178039239635995819985241820298752152771380188807168000 9000 (([nE_1104_212] ++ (nT_1104 ++ nC_1104)).map nd0) (nd1 nE_1104_211) = true := by decide +kernel
set_option maxRecDepth 100000 in
theorem kE_1104_212 : bSgk wd wx ctE_1104 lk_1104 tX12_post [] 57896044618710753882728178039239635995819985241820298752152771380188807168000 9000 (([nE_1104_213] ++ (nT_1104 ++ nC_1104)).map nd0) (nd1 nE_1104_212) = true := by decide +kernel
set_option maxRecDepth 100000 in
theorem kE_1104_213 : bSgk wd wx ctE_1104 lk_1104 tX12_post [] 57896044618710753882728178039239635995819985241820298752152771380188807168000 9000 (([nE_1104_214] ++ (nT_1104 ++ nC_1104)).map nd0) (nd1 nE_1104_213) = true := by decide +kernel
set_option maxRecDepth 100000 in
theorem kE_1104_214 : bSgk wd wx ctE_1104 lk_1104 tX12_post [] 57896044618710753882728178039239635995819985241820298752152771380188807168000 9000 (([nE_1104_215] ++ (nT_1104 ++ nC_1104)).map nd0) (nd1 nE_1104_214) = true := by decide +kernel
set_option maxRecDepth 100000 in
theorem kE_1104_215 : bSgk wd wx ctE_1104 lk_1104 tX12_post [] 57896044618710753882728178039239635995819985241820298752152771380188807168000 9000 (([nE_1104_216] ++ (nT_1104 ++ nC_1104)).map nd0) (nd1 nE_1104_215) = true := by decide +kernel
set_option maxRecDepth 100000 in
theorem kE_1104_216 : bSgk wd wx ctE_1104 lk_1104 tX12_post [] 57896044618710753882728178039239635995819985241820298752152771380188807168000 9000 (([nE_1104_217] ++ (nT_1104 ++ nC_1104)).map nd0) (nd1 nE_1104_216) = true := by decide +kernel
set_option maxRecDepth 100000 in
theorem kE_1104_217 : bSgk wd wx ctE_1104 lk_1104 tX12_post [] 57896044618710753882728178039239635995819985241820298752152771380188807168000 9000 (([nE_1104_218] ++ (nT_1104 ++ nC_1104)).map nd0) (nd1 nE_1104_217) = true := by decide +kernel
set_option maxRecDepth 100000 in
theorem kE_1104_218 : bSgk wd wx ctE_1104 lk_1104 tX12_post [] 57896044618710753882728178039239635995819985241820298752152771380188807168000 9000 (([nE_1104_219] ++ (nT_1104 ++ nC_1104)).map nd0) (nd1 nE_1104_218) = true := by decide +kernel
set_option maxRecDepth 100000 in
theorem kE_1104_219 : bSgk wd wx ctE_1104 lk_1104 tX12_post [] 57896044618710753882728178039239635995819985241820298752152771380188807168000 9000 (([nE_1104_220] ++ (nT_1104 ++ nC_1104)).map nd0) (nd1 nE_1104_219) = true := by decide +kernel
set_option maxRecDepth 100000 in
theorem kE_1104_220 : bSgk wd wx ctE_1104 lk_1104 tX12_post [] 57896044618710753882728178039239635995819985241820298752152771380188807168000 9000 (([nE_1104_221] ++ (nT_1104 ++ nC_1104)).map nd0) (nd1 nE_1104_220) = true := by decide +kernel
set_option maxRecDepth 100000 in
theorem kE_1104_221 : bSgk wd wx ctE_1104 lk_1104 tX12_post [] 57896044618710753882728178039239635995819985241820298752152771380188807168000 9000 (([nE_1104_222] ++ (nT_1104 ++ nC_1104)).map nd0) (nd1 nE_1104_221) = true := by decide +kernel
set_option maxRecDepth 100000 in
theorem kE_1104_222 : bSgk wd wx ctE_1104 lk_1104 tX12_post [] 57896044618710753882728178039239635995819985241820298752152771380188807168000 9000 (([nE_1104_223] ++ (nT_1104 ++ nC_1104)).map nd0) (nd1 nE_1104_222) = true := by decide +kernel
set_option maxRecDepth 100000 in
theorem kE_1104_223 : bSgk wd wx ctE_1104 lk_1104 tX12_post [] 57896044618710753882728178039239635995819985241820298752152771380188807168000 9000 (([nE_1104_224] ++ (nT_1104 ++ nC_1104)).map nd0) (nd1 nE_1104_223) = true := by decide +kernel
set_option maxRecDepth 100000 in
theorem kE_1104_224 : bSgk wd wx ctE_1104 lk_1104 tX12_post [] 57896044618710753882728178039239635995819985241820298752152771380188807168000 9000 (([nE_1104_225] ++ (nT_1104 ++ nC_1104)).map nd0) (nd1 nE_1104_224) = true := by decide +kernel
set_option maxRecDepth 100000 in
theorem kE_1104_225 : bSgk wd wx ctE_1104 lk_1104 tX12_post [] 57896044618710753882728178039239635995819985241820298752152771380188807168000 9000 (([nE_1104_226] ++ (nT_1104 ++ nC_1104)).map nd0) (nd1 nE_1104_225) = true := by decide +kernel
set_option maxRecDepth 100000 in
theorem kE_1104_226 : bSgk wd wx ctE_1104 lk_1104 tX12_post [] 57896044618710753882728178039239635995819985241820298752152771380188807168000 9000 (([nE_1104_227] ++ (nT_1104 ++ nC_1104)).map nd0) (nd1 nE_1104_226) = true := by decide +kernel
set_option maxRecDepth 100000 in
theorem kE_1104_227 : bSgk wd wx ctE_1104 lk_1104 tX12_post [] 57896044618710753882728178039239635995819985241820298752152771380188807168000 9000 (([nE_1104_228] ++ (nT_1104 ++ nC_1104)).map nd0) (nd1 nE_1104_227) = true := by decide +kernel
set_option maxRecDepth 100000 in
theorem kE_1104_228 : bSgk wd wx ctE_1104 lk_1104 tX12_post [] 57896044618710753882728178039239635995819985241820298752152771380188807168000 9000 (([nE_1104_229] ++ (nT_1104 ++ nC_1104)).map nd0) (nd1 nE_1104_228) = true := by decide +kernel
set_option maxRecDepth 100000 in
theorem kE_1104_229 : bSgk wd wx ctE_1104 lk_1104 tX12_post [] 57896044618710753882728178039239635995819985241820298752152771380188807168000 9000 (([nE_1104_230] ++ (nT_1104 ++ nC_1104)).map nd0) (nd1 nE_1104_229) = true := by decide +kernel
set_option maxRecDepth 100000 in
theorem kE_1104_230 : bSgk wd wx ctE_1104 lk_1104 tX12_post [] 57896044618710753882728178039239635995819985241820298752152771380188807168000 9000 (([nE_1104_231] ++ (nT_1104 ++ nC_1104)).map nd0) (nd1 nE_1104_230) = true := by decide +kernel
set_option maxRecDepth 100000 in
theorem kE_1104_231 : bSgk wd wx ctE_1104 lk_1104 tX12_post [] 57896044618710753882728178039239635995819985241820298752152771380188807168000 9000 (([nE_1104_232] ++ (nT_1104 ++ nC_1104)).map nd0) (nd1 nE_1104_231) = true := by decide +kernel
set_option maxRecDepth 100000 in
theorem kE_1104_232 : bSgk wd wx ctE_1104 lk_1104 tX12_post [] 57896044618710753882728178039239635995819985241820298752152771380188807168000 9000 (([nE_1104_233] ++ (nT_1104 ++ nC_1104)).map nd0) (nd1 nE_1104_232) = true := by decide +kernel
set_option maxRecDepth 100000 in
theorem kE_1104_233 : bSgk wd wx ctE_1104 lk_1104 tX12_post [] 57896044618710753882728178039239635995819985241820298752152771380188807168000 9000 (([nE_1104_234] ++ (nT_1104 ++ nC_1104)).map nd0) (nd1 nE_1104_233) = true := by decide +kernel
set_option maxRecDepth 100000 in
theorem kE_1104_234 : bSgk wd wx ctE_1104 lk_1104 tX12_post [] 57896044618710753882728178039239635995819985241820298752152771380188807168000 9000 (([nE_1104_235] ++ (nT_1104 ++ nC_1104)).map nd0) (nd1 nE_1104_234) = true := by decide +kernel
set_option maxRecDepth 100000 in
theorem kE_1104_235 : bSgk wd wx ctE_1104 lk_1104 tX12_post [] 57896044618710753882728178039239635995819985241820298752152771380188807168000 9000 (([nE_1104_236] ++ (nT_1104 ++ nC_1104)).map nd0) (nd1 nE_1104_235) = true := by decide +kernel
set_option maxRecDepth 100000 in
theorem kE_1104_236 : bSgk wd wx ctE_1104 lk_1104 tX12_post [] 57896044618710753882728178039239635995819985241820298752152771380188807168000 9000 (([nE_1104_237] ++ (nT_1104 ++ nC_1104)).map nd0) (nd1 nE_1104_236) = true := by decide +kernel
set_option maxRecDepth 100000 in
theorem kE_1104_237 : bSgk wd wx ctE_1104 lk_1104 tX12_post [] 57896044618710753882728178039239635995819985241820298752152771380188807168000 9000 (([nE_1104_238] ++ (nT_1104 ++ nC_1104)).map nd0) (nd1 nE_1104_237) = true := by decide +kernel
set_option maxRecDepth 100000 in
theorem kE_1104_238 : bSgk wd wx ctE_1104 lk_1104 tX12_post [] 57896044618710753882728178039239635995819985241820298752152771380188807168000 9000 (([nE_1104_239] ++ (nT_1104 ++ nC_1104)).map nd0) (nd1 nE_1104_238) = true := by decide +kernel
set_option maxRecDepth 100000 in
theorem kE_1104_239 : bSgk wd wx ctE_1104 lk_1104 tX12_post [] 57896044618710753882728178039239635995819985241820298752152771380188807168000 9000 (([nE_1104_240] ++ (nT_1104 ++ nC_1104)).map nd0) (nd1 nE_1104_239) = true := by decide +kernel
set_option maxRecDepth 100000 in
theorem kE_1104_240 : bSgk wd wx ctE_1104 lk_1104 tX12_post [] 57896044618710753882728178039239635995819985241820298752152771380188807168000 9000 (([nE_1104_241] ++ (nT_1104 ++ nC_1104)).map nd0) (nd1 nE_1104_240) = true := by decide +kernel
set_option maxRecDepth 100000 in
theorem kE_1104_241 : bSgk wd wx ctE_1104 lk_1104 tX12_post [] 57896044618710753882728178039239635995819985241820298752152771380188807168000 9000 (([nE_1104_242] ++ (nT_1104 ++ nC_1104)).map nd0) (nd1 nE_1104_241) = true := by decide +kernel
set_option maxRecDepth 100000 in
theorem kE_1104_242 : bSgk wd wx ctE_1104 lk_1104 tX12_post [] 57896044618710753882728178039239635995819985241820298752152771380188807168000 9000 (([nE_1104_243] ++ (nT_1104 ++ nC_1104)).map nd0) (nd1 nE_1104_242) = true := by decide +kernel
set_option maxRecDepth 100000 in
theorem kE_1104_243 : bSgk wd wx ctE_1104 lk_1104 tX12_post [] 57896044618710753882728178039239635995819985241820298752152771380188807168000 9000 (([nE_1104_244] ++ (nT_1104 ++ nC_1104)).map nd0) (nd1 nE_1104_243) = true := by decide +kernel
set_option maxRecDepth 100000 in
theorem kE_1104_244 : bSgk wd wx ctE_1104 lk_1104 tX12_post [] 57896044618710753882728178039239635995819985241820298752152771380188807168000 9000 (([nE_1104_245] ++ (nT_1104 ++ nC_1104)).map nd0) (nd1 nE_1104_244) = true := by decide +kernel
set_option maxRecDepth 100000 in
theorem kE_1104_245 : bSgk wd wx ctE_1104 lk_1104 tX12_post [] 57896044618710753882728178039239635995819985241820298752152771380188807168000 9000 (([nE_1104_246] ++ (nT_1104 ++ nC_1104)).map nd0) (nd1 nE_1104_245) = true := by decide +kernel
set_option maxRecDepth 100000 in
theorem kE_1104_246 : bSgk wd wx ctE_1104 lk_1104 tX12_post [] 57896044618710753882728178039239635995819985241820298752152771380188807168000 9000 (([nE_1104_247] ++ (nT_1104 ++ nC_1104)).map nd0) (nd1 nE_1104_246) = true := by decide +kernel
set_option maxRecDepth 100000 in
theorem kE_1104_247 : bSgk wd wx ctE_1104 lk_1104 tX12_post [] 57896044618710753882728178039239635995819985241820298752152771380188807168000 9000 (([nE_1104_248] ++ (nT_1104 ++ nC_1104)).map nd0) (nd1 nE_1104_247) = true := by decide +kernel
set_option maxRecDepth 100000 in
theorem kE_1104_248 : bSgk wd wx ctE_1104 lk_1104 tX12_post [] 57896044618710753882728178039239635995819985241820298752152771380188807168000 9000 (([nE_1104_249] ++ (nT_1104 ++ nC_1104)).map nd0) (nd1 nE_1104_248) = true := by decide +kernel
set_option maxRecDepth 100000 in
theorem kE_1104_249 : bSgk wd wx ctE_1104 lk_1104 tX12_post [] 57896044618710753882728178039239635995819985241820298752152771380188807168000 9000 (([nE_1104_250] ++ (nT_1104 ++ nC_1104)).map nd0) (nd1 nE_1104_249) = true := by decide +kernel
set_option maxRecDepth 100000 in
theorem kE_1104_250 : bSgk wd wx ctE_1104 lk_1104 tX12_post [] 57896044618710753882728178039239635995819985241820298752152771380188807168000 9000 (([nE_1104_251] ++ (nT_1104 ++ nC_1104)).map nd0) (nd1 nE_1104_250) = true := by decide +kernel
set_option maxRecDepth 100000 in
theorem kE_1104_251 : bSgk wd wx ctE_1104 lk_1104 tX12_post [] 57896044618710753882728178039239635995819985241820298752152771380188807168000 9000 (([nE_1104_252] ++ (nT_1104 ++ nC_1104)).map nd0) (nd1 nE_1104_251) = true := by decide +kernel
set_option maxRecDepth 100000 in
theorem kE_1104_252 : bSgk wd wx ctE_1104 lk_1104 tX12_post [] 57896044618710753882728178039239635995819985241820298752152771380188807168000 9000 (([nE_1104_253] ++ (nT_1104 ++ nC_1104)).map nd0) (nd1 nE_1104_252) = true := by decide +kernel
set_option maxRecDepth 100000 in
theorem kE_1104_253 : bSgk wd wx ctE_1104 lk_1104 tX12_post [] 57896044618710753882728178039239635995819985241820298752152771380188807168000 9000 (([nE_1104_254] ++ (nT_1104 ++ nC_1104)).map nd0) (nd1 nE_1104_253) = true := by decide +kernel
set_option maxRecDepth 100000 in
theorem kE_1104_254 : bSgk wd wx ctE_1104 lk_1104 tX12_post [] 57896044618710753882728178039239635995819985241820298752152771380188807168000 9000 (([nE_1104_255] ++ (nT_1104 ++ nC_1104)).map nd0) (nd1 nE_1104_254) = true := by decide +kernel
set_option maxRecDepth 100000 in
theorem kE_1104_255 : bSgk wd wx ctE_1104 lk_1104 tX12_post [] 57896044618710753882728178039239635995819985241820298752152771380188807168000 9000 (([nE_1104_256] ++ (nT_1104 ++ nC_1104)).map nd0) (nd1 nE_1104_255) = true := by decide +kernel
set_option maxRecDepth 100000 in
theorem kE_1104_256 : bSgk wd wx ctE_1104 lk_1104 tX12_post [] 57896044618710753882728178039239635995819985241820298752152771380188807168000 9000 (([nE_1104_257] ++ (nT_1104 ++ nC_1104)).map nd0) (nd1 nE_1104_256) = true := by decide +kernel
set_option maxRecDepth 100000 in
theorem kE_1104_257 : bSgk wd wx ctE_1104 lk_1104 tX12_post [] 57896044618710753882728178039239635995819985241820298752152771380188807168000 9000 (([nE_1104_258] ++ (nT_1104 ++ nC_1104)).map nd0) (nd1 nE_1104_257) = true := by decide +kernel
set_option maxRecDepth 100000 in
theorem kE_1104_258 : bSgk wd wx ctE_1104 lk_1104 tX12_post [] 57896044618710753882728178039239635995819985241820298752152771380188807168000 9000 (([nE_1104_259] ++ (nT_1104 ++ nC_1104)).map nd0) (nd1 nE_1104_258) = true := by decide +kernel
set_option maxRecDepth 100000 in
theorem kE_1104_259 : bSgk wd wx ctE_1104 lk_1104 tX12_post [] 57896044618710753882728178039239635995819985241820298752152771380188807168000 9000 (([nE_1104_260] ++ (nT_1104 ++ nC_1104)).map nd0) (nd1 nE_1104_259) = true := by decide +kernel
set_option maxRecDepth 100000 in
theorem kE_1104_260 : bSgk wd wx ctE_1104 lk_1104 tX12_post [] 57896044618710753882728178039239635995819985241820298752152771380188807168000 9000 (([nE_1104_261] ++ (nT_1104 ++ nC_1104)).map nd0) (nd1 nE_1104_260) = true := by decide +kernel
set_option maxRecDepth 100000 in
theorem kE_1104_261 : bSgk wd wx ctE_1104 lk_1104 tX12_post [] 57896044618710753882728178039239635995819985241820298752152771380188807168000 9000 (([nE_1104_262] ++ (nT_1104 ++ nC_1104)).map nd0) (nd1 nE_1104_261) = true := by decide +kernel
set_option maxRecDepth 100000 in
theorem kE_1104_262 : bSgk wd wx ctE_1104 lk_1104 tX12_post [] 57896044618710753882728178039239635995819985241820298752152771380188807168000 9000 (([nE_1104_263] ++ (nT_1104 ++ nC_1104)).map nd0) (nd1 nE_1104_262) = true := by decide +kernel
set_option maxRecDepth 100000 in
theorem kE_1104_263 : bSgk wd wx ctE_1104 lk_1104 tX12_post [] 57896044618710753882728178039239635995819985241820298752152771380188807168000 9000 (([nE_1104_264] ++ (nT_1104 ++ nC_1104)).map nd0) (nd1 nE_1104_263) = true := by decide +kernel
set_option maxRecDepth 100000 in
theorem kE_1104_264 : bSgk wd wx ctE_1104 lk_1104 tX12_post [] 57896044618710753882728178039239635995819985241820298752152771380188807168000 9000 (([nE_1104_265] ++ (nT_1104 ++ nC_1104)).map nd0) (nd1 nE_1104_264) = true := by decide +kernel
set_option maxRecDepth 100000 in
theorem kE_1104_265 : bSgk wd wx ctE_1104 lk_1104 tX12_post [] 57896044618710753882728178039239635995819985241820298752152771380188807168000 9000 (([nE_1104_266] ++ (nT_1104 ++ nC_1104)).map nd0) (nd1 nE_1104_265) = true := by decide +kernel
set_option maxRecDepth 100000 in
theorem kE_1104_266 : bSgk wd wx ctE_1104 lk_1104 tX12_post [] 57896044618710753882728178039239635995819985241820298752152771380188807168000 9000 (([nE_1104_267] ++ (nT_1104 ++ nC_1104)).map nd0) (nd1 nE_1104_266) = true := by decide +kernel
set_option maxRecDepth 100000 in
theorem kE_1104_267 : bSgk wd wx ctE_1104 lk_1104 tX12_post [] 57896044618710753882728178039239635995819985241820298752152771380188807168000 9000 (([nE_1104_268] ++ (nT_1104 ++ nC_1104)).map nd0) (nd1 nE_1104_267) = true := by decide +kernel
set_option maxRecDepth 100000 in
theorem kE_1104_268 : bSgk wd wx ctE_1104 lk_1104 tX12_post [] 57896044618710753882728178039239635995819985241820298752152771380188807168000 9000 (([nE_1104_269] ++ (nT_1104 ++ nC_1104)).map nd0) (nd1 nE_1104_268) = true := by decide +kernel
set_option maxRecDepth 100000 in
theorem kE_1104_269 : bSgk wd wx ctE_1104 lk_1104 tX12_post [] 57896044618710753882728178039239635995819985241820298752152771380188807168000 9000 (([nE_1104_270] ++ (nT_1104 ++ nC_1104)).map nd0) (nd1 nE_1104_269) = true := by decide +kernel
set_option maxRecDepth 100000 in
theorem kE_1104_270 : bSgk wd wx ctE_1104 lk_1104 tX12_post [] 57896044618710753882728178039239635995819985241820298752152771380188807168000 9000 (([nE_1104_271] ++ (nT_1104 ++ nC_1104)).map nd0) (nd1 nE_1104_270) = true := by decide +kernel
set_option maxRecDepth 100000 in
theorem kE_1104_271 : bSgk wd wx ctE_1104 lk_1104 tX12_post [] 57896044618710753882728178039239635995819985241820298752152771380188807168000 9000 (([nE_1104_272] ++ (nT_1104 ++ nC_1104)).map nd0) (nd1 nE_1104_271) = true := by decide +kernel
set_option maxRecDepth 100000 in
theorem kE_1104_272 : bSgk wd wx ctE_1104 lk_1104 tX12_post [] 57896044618710753882728178039239635995819985241820298752152771380188807168000 9000 (([nE_1104_273] ++ (nT_1104 ++ nC_1104)).map nd0) (nd1 nE_1104_272) = true := by decide +kernel
set_option maxRecDepth 100000 in
theorem kE_1104_273 : bSgk wd wx ctE_1104 lk_1104 tX12_post [] 57896044618710753882728178039239635995819985241820298752152771380188807168000 9000 (([nE_1104_274] ++ (nT_1104 ++ nC_1104)).map nd0) (nd1 nE_1104_273) = true := by decide +kernel
set_option maxRecDepth 100000 in
theorem kE_1104_274 : bSgk wd wx ctE_1104 lk_1104 tX12_post [] 57896044618710753882728178039239635995819985241820298752152771380188807168000 9000 (([nE_1104_275] ++ (nT_1104 ++ nC_1104)).map nd0) (nd1 nE_1104_274) = true := by decide +kernel
set_option maxRecDepth 100000 in
theorem kE_1104_275 : bSgk wd wx ctE_1104 lk_1104 tX12_post [] 57896044618710753882728178039239635995819985241820298752152771380188807168000 9000 (([nE_1104_276] ++ (nT_1104 ++ nC_1104)).map nd0) (nd1 nE_1104_275) = true := by decide +kernel
set_option maxRecDepth 100000 in
theorem kE_1104_276 : bSgk wd wx ctE_1104 lk_1104 tX12_post [] 57896044618710753882728178039239635995819985241820298752152771380188807168000 9000 (([nE_1104_277] ++ (nT_1104 ++ nC_1104)).map nd0) (nd1 nE_1104_276) = true := by decide +kernel
set_option maxRecDepth 100000 in
theorem kE_1104_277 : bSgk wd wx ctE_1104 lk_1104 tX12_post [] 57896044618710753882728178039239635995819985241820298752152771380188807168000 9000 (([nE_1104_278] ++ (nT_1104 ++ nC_1104)).map nd0) (nd1 nE_1104_277) = true := by decide +kernel
set_option maxRecDepth 100000 in
theorem kE_1104_278 : bSgk wd wx ctE_1104 lk_1104 tX12_post [] 57896044618710753882728178039239635995819985241820298752152771380188807168000 9000 (([nE_1104_279] ++ (nT_1104 ++ nC_1104)).map nd0) (nd1 nE_1104_278) = true := by decide +kernel
set_option maxRecDepth 100000 in
theorem kE_1104_279 : bSgk wd wx ctE_1104 lk_1104 tX12_post [] 57896044618710753882728178039239635995819985241820298752152771380188807168000 9000 (([nE_1104_280] ++ (nT_1104 ++ nC_1104)).map nd0) (nd1 nE_1104_279) = true := by decide +kernel
set_option maxRecDepth 100000 in
theorem kE_1104_280 : bSgk wd wx ctE_1104 lk_1104 tX12_post [] 57896044618710753882728178039239635995819985241820298752152771380188807168000 9000 (([nE_1104_281] ++ (nT_1104 ++ nC_1104)).map nd0) (nd1 nE_1104_280) = true := by decide +kernel
set_option maxRecDepth 100000 in
theorem kE_1104_281 : bSgk wd wx ctE_1104 lk_1104 tX12_post [] 57896044618710753882728178039239635995819985241820298752152771380188807168000 9000 (([nE_1104_282] ++ (nT_1104 ++ nC_1104)).map nd0) (nd1 nE_1104_281) = true := by decide +kernel
set_option maxRecDepth 100000 in
theorem kE_1104_282 : bSgk wd wx ctE_1104 lk_1104 tX12_post [] 57896044618710753882728178039239635995819985241820298752152771380188807168000 9000 (([nE_1104_283] ++ (nT_1104 ++ nC_1104)).map nd0) (nd1 nE_1104_282) = true := by decide +kernel
set_option maxRecDepth 100000 in
theorem kE_1104_283 : bSgk wd wx ctE_1104 lk_1104 tX12_post [] 57896044618710753882728178039239635995819985241820298752152771380188807168000 9000 (([nE_1104_284] ++ (nT_1104 ++ nC_1104)).map nd0) (nd1 nE_1104_283) = true := by decide +kernel
set_option maxRecDepth 100000 in
theorem kE_1104_284 : bSgk wd wx ctE_1104 lk_1104 tX12_post [] 57896044618710753882728178039239635995819985241820298752152771380188807168000 9000 (([nE_1104_285] ++ (nT_1104 ++ nC_1104)).map nd0) (nd1 nE_1104_284) = true := by decide +kernel
set_option maxRecDepth 100000 in
theorem kE_1104_285 : bSgk wd wx ctE_1104 lk_1104 tX12_post [] 57896044618710753882728178039239635995819985241820298752152771380188807168000 9000 (([nE_1104_286] ++ (nT_1104 ++ nC_1104)).map nd0) (nd1 nE_1104_285) = true := by decide +kernel
set_option maxRecDepth 100000 in
theorem kE_1104_286 : bSgk wd wx ctE_1104 lk_1104 tX12_post [] 57896044618710753882728178039239635995819985241820298752152771380188807168000 9000 (([nE_1104_287] ++ (nT_1104 ++ nC_1104)).map nd0) (nd1 nE_1104_286) = true := by decide +kernel
set_option maxRecDepth 100000 in
theorem kE_1104_287 : bSgk wd wx ctE_1104 lk_1104 tX12_post [] 57896044618710753882728178039239635995819985241820298752152771380188807168000 9000 (([nE_1104_288] ++ (nT_1104 ++ nC_1104)).map nd0) (nd1 nE_1104_287) = true := by decide +kernel
set_option maxRecDepth 100000 in
theorem kE_1104_288 : bSgk wd wx ctE_1104 lk_1104 tX12_post [] 57896044618710753882728178039239635995819985241820298752152771380188807168000 9000 (([nE_1104_289] ++ (nT_1104 ++ nC_1104)).map nd0) (nd1 nE_1104_288) = true := by decide +kernel
set_option maxRecDepth 100000 in
theorem kE_1104_289 : bSgk wd wx ctE_1104 lk_1104 tX12_post [] 57896044618710753882728178039239635995819985241820298752152771380188807168000 9000 (([nE_1104_290] ++ (nT_1104 ++ nC_1104)).map nd0) (nd1 nE_1104_289) = true := by decide +kernel
set_option maxRecDepth 100000 in
theorem kE_1104_290 : bSgk wd wx ctE_1104 lk_1104 tX12_post [] 57896044618710753882728178039239635995819985241820298752152771380188807168000 9000 (([nE_1104_291] ++ (nT_1104 ++ nC_1104)).map nd0) (nd1 nE_1104_290) = true := by decide +kernel
set_option maxRecDepth 100000 in
theorem kE_1104_291 : bSgk wd wx ctE_1104 lk_1104 tX12_post [] 57896044618710753882728178039239635995819985241820298752152771380188807168000 9000 (([nE_1104_292] ++ (nT_1104 ++ nC_1104)).map nd0) (nd1 nE_1104_291) = true := by decide +kernel
set_option maxRecDepth 100000 in
theorem kE_1104_292 : bSgk wd wx ctE_1104 lk_1104 tX12_post [] 57896044618710753882728178039239635995819985241820298752152771380188807168000 9000 (([nE_1104_293] ++ (nT_1104 ++ nC_1104)).map nd0) (nd1 nE_1104_292) = true := by decide +kernel
set_option maxRecDepth 100000 in
theorem kE_1104_293 : bSgk wd wx ctE_1104 lk_1104 tX12_post [] 57896044618710753882728178039239635995819985241820298752152771380188807168000 9000 (([nE_1104_294] ++ (nT_1104 ++ nC_1104)).map nd0) (nd1 nE_1104_293) = true := by decide +kernel
set_option maxRecDepth 100000 in
theorem kE_1104_294 : bSgk wd wx ctE_1104 lk_1104 tX12_post [] 57896044618710753882728178039239635995819985241820298752152771380188807168000 9000 (([nE_1104_295] ++ (nT_1104 ++ nC_1104)).map nd0) (nd1 nE_1104_294) = true := by decide +kernel
set_option maxRecDepth 100000 in
theorem kE_1104_295 : bSgk wd wx ctE_1104 lk_1104 tX12_post [] 57896044618710753882728178039239635995819985241820298752152771380188807168000 9000 (([nE_1104_296] ++ (nT_1104 ++ nC_1104)).map nd0) (nd1 nE_1104_295) = true := by decide +kernel
set_option maxRecDepth 100000 in
theorem kE_1104_296 : bSgk wd wx ctE_1104 lk_1104 tX12_post [] 57896044618710753882728178039239635995819985241820298752152771380188807168000 9000 (([nE_1104_297] ++ (nT_1104 ++ nC_1104)).map nd0) (nd1 nE_1104_296) = true := by decide +kernel
set_option maxRecDepth 100000 in
theorem kE_1104_297 : bSgk wd wx ctE_1104 lk_1104 tX12_post [] 57896044618710753882728178039239635995819985241820298752152771380188807168000 9000 (([nE_1104_298] ++ (nT_1104 ++ nC_1104)).map nd0) (nd1 nE_1104_297) = true := by decide +kernel
set_option maxRecDepth 100000 in
theorem kE_1104_298 : bSgk wd wx ctE_1104 lk_1104 tX12_post [] 57896044618710753882728178039239635995819985241820298752152771380188807168000 9000 (([nE_1104_299] ++ (nT_1104 ++ nC_1104)).map nd0) (nd1 nE_1104_298) = true := by decide +kernel
set_option maxRecDepth 100000 in
theorem kE_1104_299 : bSgk wd wx ctE_1104 lk_1104 tX12_post [] 57896044618710753882728178039239635995819985241820298752152771380188807168000 9000 (([nE_1104_300] ++ (nT_1104 ++ nC_1104)).map nd0) (nd1 nE_1104_299) = true := by decide +kernel
set_option maxRecDepth 100000 in
theorem kE_1104_300 : bSgk wd wx ctE_1104 lk_1104 tX12_post [] 57896044618710753882728178039239635995819985241820298752152771380188807168000 9000 (([nE_1104_301] ++ (nT_1104 ++ nC_1104)).map nd0) (nd1 nE_1104_300) = true := by decide +kernel
set_option maxRecDepth 100000 in
theorem kE_1104_301 : bSgk wd wx ctE_1104 lk_1104 tX12_post [] 57896044618710753882728178039239635995819985241820298752152771380188807168000 9000 (([nE_1104_302] ++ (nT_1104 ++ nC_1104)).map nd0) (nd1 nE_1104_301) = true := by decide +kernel
set_option maxRecDepth 100000 in
theorem kE_1104_302 : bSgk wd wx ctE_1104 lk_1104 tX12_post [] 57896044618710753882728178039239635995819985241820298752152771380188807168000 9000 (([nE_1104_303] ++ (nT_1104 ++ nC_1104)).map nd0) (nd1 nE_1104_302) = true := by decide +kernel
set_option maxRecDepth 100000 in
theorem kE_1104_303 : bSgk wd wx ctE_1104 lk_1104 tX12_post [] 57896044618710753882728178039239635995819985241820298752152771380188807168000 9000 (([nE_1104_304] ++ (nT_1104 ++ nC_1104)).map nd0) (nd1 nE_1104_303) = true := by decide +kernel
set_option maxRecDepth 100000 in
theorem kE_1104_304 : bSgk wd wx ctE_1104 lk_1104 tX12_post [] 57896044618710753882728178039239635995819985241820298752152771380188807168000 9000 (([nE_1104_305] ++ (nT_1104 ++ nC_1104)).map nd0) (nd1 nE_1104_304) = true := by decide +kernel
set_option maxRecDepth 100000 in
theorem kE_1104_305 : bSgk wd wx ctE_1104 lk_1104 tX12_post [] 57896044618710753882728178039239635995819985241820298752152771380188807168000 9000 (([nE_1104_306] ++ (nT_1104 ++ nC_1104)).map nd0) (nd1 nE_1104_305) = true := by decide +kernel
set_option maxRecDepth 100000 in
theorem kE_1104_306 : bSgk wd wx ctE_1104 lk_1104 tX12_post [] 57896044618710753882728178039239635995819985241820298752152771380188807168000 9000 (([nE_1104_307] ++ (nT_1104 ++ nC_1104)).map nd0) (nd1 nE_1104_306) = true := by decide +kernel
set_option maxRecDepth 100000 in
theorem kE_1104_307 : bSgk wd wx ctE_1104 lk_1104 tX12_post [] 57896044618710753882728178039239635995819985241820298752152771380188807168000 9000 (([nE_1104_308] ++ (nT_1104 ++ nC_1104)).map nd0) (nd1 nE_1104_307) = true := by decide +kernel
set_option maxRecDepth 100000 in
theorem kE_1104_308 : bSgk wd wx ctE_1104 lk_1104 tX12_post [] 57896044618710753882728178039239635995819985241820298752152771380188807168000 9000 (([nE_1104_309] ++ (nT_1104 ++ nC_1104)).map nd0) (nd1 nE_1104_308) = true := by decide +kernel
set_option maxRecDepth 100000 in
theorem kE_1104_309 : bSgk wd wx ctE_1104 lk_1104 tX12_post [] 57896044618710753882728178039239635995819985241820298752152771380188807168000 9000 (([nE_1104_310] ++ (nT_1104 ++ nC_1104)).map nd0) (nd1 nE_1104_309) = true := by decide +kernel
set_option maxRecDepth 100000 in
theorem kE_1104_310 : bSgk wd wx ctE_1104 lk_1104 tX12_post [] 57896044618710753882728178039239635995819985241820298752152771380188807168000 9000 (([nE_1104_311] ++ (nT_1104 ++ nC_1104)).map nd0) (nd1 nE_1104_310) = true := by decide +kernel
set_option maxRecDepth 100000 in
theorem kE_1104_311 : bSgk wd wx ctE_1104 lk_1104 tX12_post [] 57896044618710753882728178039239635995819985241820298752152771380188807168000 9000 (([nE_1104_312] ++ (nT_1104 ++ nC_1104)).map nd0) (nd1 nE_1104_311) = true := by decide +kernel
set_option maxRecDepth 100000 in
theorem kE_1104_312 : bSgk wd wx ctE_1104 lk_1104 tX12_post [] 57896044618710753882728178039239635995819985241820298752152771380188807168000 9000 (([nE_1104_313] ++ (nT_1104 ++ nC_1104)).map nd0) (nd1 nE_1104_312) = true := by decide +kernel
set_option maxRecDepth 100000 in
theorem kE_1104_313 : bSgk wd wx ctE_1104 lk_1104 tX12_post [] 57896044618710753882728178039239635995819985241820298752152771380188807168000 9000 (([nE_1104_314] ++ (nT_1104 ++ nC_1104)).map nd0) (nd1 nE_1104_313) = true := by decide +kernel
set_option maxRecDepth 100000 in
theorem kE_1104_314 : bSgk wd wx ctE_1104 lk_1104 tX12_post [] 57896044618710753882728178039239635995819985241820298752152771380188807168000 9000 (([nE_1104_315] ++ (nT_1104 ++ nC_1104)).map nd0) (nd1 nE_1104_314) = true := by decide +kernel
set_option maxRecDepth 100000 in
theorem kE_1104_315 : bSgk wd wx ctE_1104 lk_1104 tX12_post [] 57896044618710753882728178039239635995819985241820298752152771380188807168000 9000 (([nE_1104_316] ++ (nT_1104 ++ nC_1104)).map nd0) (nd1 nE_1104_315) = true := by decide +kernel
set_option maxRecDepth 100000 in
theorem kE_1104_316 : bSgk wd wx ctE_1104 lk_1104 tX12_post [] 57896044618710753882728178039239635995819985241820298752152771380188807168000 9000 (([nE_1104_317] ++ (nT_1104 ++ nC_1104)).map nd0) (nd1 nE_1104_316) = true := by decide +kernel
set_option maxRecDepth 100000 in
theorem kE_1104_317 : bSgk wd wx ctE_1104 lk_1104 tX12_post [] 57896044618710753882728178039239635995819985241820298752152771380188807168000 9000 (([nE_1104_318] ++ (nT_1104 ++ nC_1104)).map nd0) (nd1 nE_1104_317) = true := by decide +kernel
set_option maxRecDepth 100000 in
theorem kE_1104_318 : bSgk wd wx ctE_1104 lk_1104 tX12_post [] 57896044618710753882728178039239635995819985241820298752152771380188807168000 9000 (([nE_1104_319] ++ (nT_1104 ++ nC_1104)).map nd0) (nd1 nE_1104_318) = true := by decide +kernel
set_option maxRecDepth 100000 in
theorem kE_1104_319 : bSgk wd wx ctE_1104 lk_1104 tX12_post [] 57896044618710753882728178039239635995819985241820298752152771380188807168000 9000 (([nE_1104_320] ++ (nT_1104 ++ nC_1104)).map nd0) (nd1 nE_1104_319) = true := by decide +kernel
set_option maxRecDepth 100000 in
theorem kE_1104_320 : bSgk wd wx ctE_1104 lk_1104 tX12_post [] 57896044618710753882728178039239635995819985241820298752152771380188807168000 9000 (([nE_1104_321] ++ (nT_1104 ++ nC_1104)).map nd0) (nd1 nE_1104_320) = true := by decide +kernel
set_option maxRecDepth 100000 in
theorem kE_1104_321 : bSgk wd wx ctE_1104 lk_1104 tX12_post [] 57896044618710753882728178039239635995819985241820298752152771380188807168000 9000 (([nE_1104_322] ++ (nT_1104 ++ nC_1104)).map nd0) (nd1 nE_1104_321) = true := by decide +kernel
set_option maxRecDepth 100000 in
theorem kE_1104_322 : bSgk wd wx ctE_1104 lk_1104 tX12_post [] 57896044618710753882728178039239635995819985241820298752152771380188807168000 9000 (([nE_1104_323] ++ (nT_1104 ++ nC_1104)).map nd0) (nd1 nE_1104_322) = true := by decide +kernel
set_option maxRecDepth 100000 in
theorem kE_1104_323 : bSgk wd wx ctE_1104 lk_1104 tX12_post [] 57896044618710753882728178039239635995819985241820298752152771380188807168000 9000 (([nE_1104_324] ++ (nT_1104 ++ nC_1104)).map nd0) (nd1 nE_1104_323) = true := by decide +kernel
set_option maxRecDepth 100000 in
theorem kE_1104_324 : bSgk wd wx ctE_1104 lk_1104 tX12_post [] 57896044618710753882728178039239635995819985241820298752152771380188807168000 9000 (([nE_1104_325] ++ (nT_1104 ++ nC_1104)).map nd0) (nd1 nE_1104_324) = true := by decide +kernel
set_option maxRecDepth 100000 in
theorem kE_1104_325 : bSgk wd wx ctE_1104 lk_1104 tX12_post [] 57896044618710753882728178039239635995819985241820298752152771380188807168000 9000 (([nE_1104_326] ++ (nT_1104 ++ nC_1104)).map nd0) (nd1 nE_1104_325) = true := by decide +kernel
set_option maxRecDepth 100000 in
theorem kE_1104_326 : bSgk wd wx ctE_1104 lk_1104 tX12_post [] 57896044618710753882728178039239635995819985241820298752152771380188807168000 9000 (([nE_1104_327] ++ (nT_1104 ++ nC_1104)).map nd0) (nd1 nE_1104_326) = true := by decide +kernel
set_option maxRecDepth 100000 in
theorem kE_1104_327 : bSgk wd wx ctE_1104 lk_1104 tX12_post [] 57896044618710753882728178039239635995819985241820298752152771380188807168000 9000 (([nE_1104_328] ++ (nT_1104 ++ nC_1104)).map nd0) (nd1 nE_1104_327) = true := by decide +kernel
set_option maxRecDepth 100000 in
theorem kE_1104_328 : bSgk wd wx ctE_1104 lk_1104 tX12_post [] 57896044618710753882728178039239635995819985241820298752152771380188807168000 9000 (([nE_1104_329] ++ (nT_1104 ++ nC_1104)).map nd0) (nd1 nE_1104_328) = true := by decide +kernel
set_option maxRecDepth 100000 in
theorem kE_1104_329 : bSgk wd wx ctE_1104 lk_1104 tX12_post [] 57896044618710753882728178039239635995819985241820298752152771380188807168000 9000 (([nE_1104_330] ++ (nT_1104 ++ nC_1104)).map nd0) (nd1 nE_1104_329) = true := by decide +kernel
set_option maxRecDepth 100000 in
theorem kE_1104_330 : bSgk wd wx ctE_1104 lk_1104 tX12_post [] 57896044618710753882728178039239635995819985241820298752152771380188807168000 9000 (([nE_1104_331] ++ (nT_1104 ++ nC_1104)).map nd0) (nd1 nE_1104_330) = true := by decide +kernel
set_option maxRecDepth 100000 in
theorem kE_1104_331 : bSgk wd wx ctE_1104 lk_1104 tX12_post [] 57896044618710753882728178039239635995819985241820298752152771380188807168000 9000 (([nE_1104_332] ++ (nT_1104 ++ nC_1104)).map nd0) (nd1 nE_1104_331) = true := by decide +kernel
set_option maxRecDepth 100000 in
theorem kE_1104_332 : bSgk wd wx ctE_1104 lk_1104 tX12_post [] 57896044618710753882728178039239635995819985241820298752152771380188807168000 9000 (([nE_1104_333] ++ (nT_1104 ++ nC_1104)).map nd0) (nd1 nE_1104_332) = true := by decide +kernel
set_option maxRecDepth 100000 in
theorem kE_1104_333 : bSgk wd wx ctE_1104 lk_1104 tX12_post [] 57896044618710753882728178039239635995819985241820298752152771380188807168000 9000 (([nE_1104_334] ++ (nT_1104 ++ nC_1104)).map nd0) (nd1 nE_1104_333) = true := by decide +kernel
set_option maxRecDepth 100000 in
theorem kE_1104_334 : bSgk wd wx ctE_1104 lk_1104 tX12_post [] 57896044618710753882728178039239635995819985241820298752152771380188807168000 9000 (([nE_1104_335] ++ (nT_1104 ++ nC_1104)).map nd0) (nd1 nE_1104_334) = true := by decide +kernel
set_option maxRecDepth 100000 in
theorem kE_1104_335 : bSgk wd wx ctE_1104 lk_1104 tX12_post [] 57896044618710753882728178039239635995819985241820298752152771380188807168000 9000 (([nE_1104_336] ++ (nT_1104 ++ nC_1104)).map nd0) (nd1 nE_1104_335) = true := by decide +kernel
set_option maxRecDepth 100000 in
theorem kE_1104_336 : bSgk wd wx ctE_1104 lk_1104 tX12_post [] 57896044618710753882728178039239635995819985241820298752152771380188807168000 9000 (([nE_1104_337] ++ (nT_1104 ++ nC_1104)).map nd0) (nd1 nE_1104_336) = true := by decide +kernel
set_option maxRecDepth 100000 in
theorem kE_1104_337 : bSgk wd wx ctE_1104 lk_1104 tX12_post [] 57896044618710753882728178039239635995819985241820298752152771380188807168000 9000 (([nE_1104_338] ++ (nT_1104 ++ nC_1104)).map nd0) (nd1 nE_1104_337) = true := by decide +kernel
set_option maxRecDepth 100000 in
theorem kE_1104_338 : bSgk wd wx ctE_1104 lk_1104 tX12_post [] 57896044618710753882728178039239635995819985241820298752152771380188807168000 9000 (([nE_1104_339] ++ (nT_1104 ++ nC_1104)).map nd0) (nd1 nE_1104_338) = true := by decide +kernel
set_option maxRecDepth 100000 in
theorem kE_1104_339 : bSgk wd wx ctE_1104 lk_1104 tX12_post [] 57896044618710753882728178039239635995819985241820298752152771380188807168000 9000 (([nE_1104_340] ++ (nT_1104 ++ nC_1104)).map nd0) (nd1 nE_1104_339) = true := by decide +kernel
set_option maxRecDepth 100000 in
theorem kE_1104_340 : bSgk wd wx ctE_1104 lk_1104 tX12_post [] 57896044618710753882728178039239635995819985241820298752152771380188807168000 9000 (([nE_1104_341] ++ (nT_1104 ++ nC_1104)).map nd0) (nd1 nE_1104_340) = true := by decide +kernel
set_option maxRecDepth 100000 in
theorem kE_1104_341 : bSgk wd wx ctE_1104 lk_1104 tX12_post [] 57896044618710753882728178039239635995819985241820298752152771380188807168000 9000 (([nE_1104_342] ++ (nT_1104 ++ nC_1104)).map nd0) (nd1 nE_1104_341) = true := by decide +kernel
set_option maxRecDepth 100000 in
theorem kE_1104_342 : bSgk wd wx ctE_1104 lk_1104 tX12_post [] 57896044618710753882728178039239635995819985241820298752152771380188807168000 9000 (([nE_1104_343] ++ (nT_1104 ++ nC_1104)).map nd0) (nd1 nE_1104_342) = true := by decide +kernel
set_option maxRecDepth 100000 in
theorem kE_1104_343 : bSgk wd wx ctE_1104 lk_1104 tX12_post [] 57896044618710753882728178039239635995819985241820298752152771380188807168000 9000 (([nE_1104_344] ++ (nT_1104 ++ nC_1104)).map nd0) (nd1 nE_1104_343) = true := by decide +kernel
set_option maxRecDepth 100000 in
theorem kE_1104_344 : bSgk wd wx ctE_1104 lk_1104 tX12_post [] 57896044618710753882728178039239635995819985241820298752152771380188807168000 9000 (([nE_1104_345] ++ (nT_1104 ++ nC_1104)).map nd0) (nd1 nE_1104_344) = true := by decide +kernel
set_option maxRecDepth 100000 in
theorem kE_1104_345 : bSgk wd wx ctE_1104 lk_1104 tX12_post [] 57896044618710753882728178039239635995819985241820298752152771380188807168000 9000 (([nE_1104_346] ++ (nT_1104 ++ nC_1104)).map nd0) (nd1 nE_1104_345) = true := by decide +kernel
set_option maxRecDepth 100000 in
theorem kE_1104_346 : bSgk wd wx ctE_1104 lk_1104 tX12_post [] 57896044618710753882728178039239635995819985241820298752152771380188807168000 9000 (([nE_1104_347] ++ (nT_1104 ++ nC_1104)).map nd0) (nd1 nE_1104_346) = true := by decide +kernel
set_option maxRecDepth 100000 in
theorem kE_1104_347 : bSgk wd wx ctE_1104 lk_1104 tX12_post [] 57896044618710753882728178039239635995819985241820298752152771380188807168000 9000 (([nE_1104_348] ++ (nT_1104 ++ nC_1104)).map nd0) (nd1 nE_1104_347) = true := by decide +kernel
set_option maxRecDepth 100000 in
theorem kE_1104_348 : bSgk wd wx ctE_1104 lk_1104 tX12_post [] 57896044618710753882728178039239635995819985241820298752152771380188807168000 9000 (([nE_1104_349] ++ (nT_1104 ++ nC_1104)).map nd0) (nd1 nE_1104_348) = true := by decide +kernel
set_option maxRecDepth 100000 in
theorem kE_1104_349 : bSgk wd wx ctE_1104 lk_1104 tX12_post [] 57896044618710753882728178039239635995819985241820298752152771380188807168000 9000 (([nE_1104_350] ++ (nT_1104 ++ nC_1104)).map nd0) (nd1 nE_1104_349) = true := by decide +kernel
set_option maxRecDepth 100000 in
theorem kE_1104_350 : bSgk wd wx ctE_1104 lk_1104 tX12_post [] 57896044618710753882728178039239635995819985241820298752152771380188807168000 9000 (([nE_1104_351] ++ (nT_1104 ++ nC_1104)).map nd0) (nd1 nE_1104_350) = true := by decide +kernel
set_option maxRecDepth 100000 in
theorem kE_1104_351 : bSgk wd wx ctE_1104 lk_1104 tX12_post [] 57896044618710753882728178039239635995819985241820298752152771380188807168000 9000 (([nE_1104_352] ++ (nT_1104 ++ nC_1104)).map nd0) (nd1 nE_1104_351) = true := by decide +kernel
set_option maxRecDepth 100000 in
theorem kE_1104_352 : bSgk wd wx ctE_1104 lk_1104 tX12_post [] 57896044618710753882728178039239635995819985241820298752152771380188807168000 9000 (([nE_1104_353] ++ (nT_1104 ++ nC_1104)).map nd0) (nd1 nE_1104_352) = true := by decide +kernel
set_option maxRecDepth 100000 in
theorem kE_1104_353 : bSgk wd wx ctE_1104 lk_1104 tX12_post [] 57896044618710753882728178039239635995819985241820298752152771380188807168000 9000 (([nE_1104_354] ++ (nT_1104 ++ nC_1104)).map nd0) (nd1 nE_1104_353) = true := by decide +kernel
set_option maxRecDepth 100000 in
theorem kE_1104_354 : bSgk wd wx ctE_1104 lk_1104 tX12_post [] 57896044618710753882728178039239635995819985241820298752152771380188807168000 9000 (([nE_1104_355] ++ (nT_1104 ++ nC_1104)).map nd0) (nd1 nE_1104_354) = true := by decide +kernel
set_option maxRecDepth 100000 in
theorem kE_1104_355 : bSgk wd wx ctE_1104 lk_1104 tX12_post [] 57896044618710753882728178039239635995819985241820298752152771380188807168000 9000 (([nE_1104_356] ++ (nT_1104 ++ nC_1104)).map nd0) (nd1 nE_1104_355) = true := by decide +kernel
set_option maxRecDepth 100000 in
theorem kE_1104_356 : bSgk wd wx ctE_1104 lk_1104 tX12_post [] 57896044618710753882728178039239635995819985241820298752152771380188807168000 9000 (([nE_1104_357] ++ (nT_1104 ++ nC_1104)).map nd0) (nd1 nE_1104_356) = true := by decide +kernel
set_option maxRecDepth 100000 in
theorem kE_1104_357 : bSgk wd wx ctE_1104 lk_1104 tX12_post [] 57896044618710753882728178039239635995819985241820298752152771380188807168000 9000 (([nE_1104_358] ++ (nT_1104 ++ nC_1104)).map nd0) (nd1 nE_1104_357) = true := by decide +kernel
set_option maxRecDepth 100000 in
theorem kE_1104_358 : bSgk wd wx ctE_1104 lk_1104 tX12_post [] 57896044618710753882728178039239635995819985241820298752152771380188807168000 9000 (([nE_1104_359] ++ (nT_1104 ++ nC_1104)).map nd0) (nd1 nE_1104_358) = true := by decide +kernel
set_option maxRecDepth 100000 in
theorem kE_1104_359 : bSgk wd wx ctE_1104 lk_1104 tX12_post [] 57896044618710753882728178039239635995819985241820298752152771380188807168000 9000 (([nE_1104_360] ++ (nT_1104 ++ nC_1104)).map nd0) (nd1 nE_1104_359) = true := by decide +kernel
set_option maxRecDepth 100000 in
theorem kE_1104_360 : bSgk wd wx ctE_1104 lk_1104 tX12_post [] 57896044618710753882728178039239635995819985241820298752152771380188807168000 9000 (([nE_1104_361] ++ (nT_1104 ++ nC_1104)).map nd0) (nd1 nE_1104_360) = true := by decide +kernel
set_option maxRecDepth 100000 in
theorem kE_1104_361 : bSgk wd wx ctE_1104 lk_1104 tX12_post [] 57896044618710753882728178039239635995819985241820298752152771380188807168000 9000 (([nE_1104_362] ++ (nT_1104 ++ nC_1104)).map nd0) (nd1 nE_1104_361) = true := by decide +kernel
set_option maxRecDepth 100000 in
theorem kE_1104_362 : bSgk wd wx ctE_1104 lk_1104 tX12_post [] 57896044618710753882728178039239635995819985241820298752152771380188807168000 9000 (([nE_1104_363] ++ (nT_1104 ++ nC_1104)).map nd0) (nd1 nE_1104_362) = true := by decide +kernel
set_option maxRecDepth 100000 in
theorem kE_1104_363 : bSgk wd wx ctE_1104 lk_1104 tX12_post [] 57896044618710753882728178039239635995819985241820298752152771380188807168000 9000 (([nE_1104_364] ++ (nT_1104 ++ nC_1104)).map nd0) (nd1 nE_1104_363) = true := by decide +kernel
set_option maxRecDepth 100000 in
theorem kE_1104_364 : bSgk wd wx ctE_1104 lk_1104 tX12_post [] 57896044618710753882728178039239635995819985241820298752152771379639051354112 9000 (([] ++ (nT_1104 ++ nC_1104)).map nd0) (nd1 nE_1104_364) = true := by decide +kernel
set_option maxRecDepth 100000 in
theorem SE_1104 : ∀ d, ctE_1104.2.2.2.2.2.2 ≤ d → ∀ vs, ∀ nd ∈ nE_1104, aNok wd ctE_1104 d vs nd := aPostN_ok (md' := [(196, 3, 12), (196, 13, 15), (196, 20, 22), (198, 0, 8), (199, 0, 363), (200, 0, 363), (201, 0, 76), (1000002, 0, 0)]) (T := nT_1104) (A := nA_1104) (B := nB_1104) (C := nC_1104) (lk := lk_1104) (cd := oX12_post) (fk := []) (fuel := 9000) (List.forall_mem_cons.mpr ⟨⟨ml_12_173, S_759⟩, List.forall_mem_cons.mpr ⟨⟨ml_12_173, S_762⟩, List.forall_mem_cons.mpr ⟨⟨ml_12_173, S_904⟩, List.forall_mem_cons.mpr ⟨⟨ml_12_173, S_752⟩, List.forall_mem_cons.mpr ⟨⟨ml_12_173, S_898⟩, List.forall_mem_cons.mpr ⟨⟨ml_12_173, S_756⟩, List.forall_mem_cons.mpr ⟨⟨ml_12_173, S_901⟩, List.forall_mem_cons.mpr ⟨⟨ml_12_173, S_940⟩, List.forall_mem_cons.mpr ⟨⟨ml_12_173, S_938⟩, List.forall_mem_cons.mpr ⟨⟨ml_12_173, S_939⟩, List.forall_mem_cons.mpr ⟨⟨ml_12_173, S_970⟩, List.forall_mem_cons.mpr ⟨⟨ml_12_173, S_968⟩, List.forall_mem_cons.mpr ⟨⟨ml_12_173, S_969⟩, List.forall_mem_cons.mpr ⟨⟨ml_12_173, S_1000⟩, List.forall_mem_cons.mpr ⟨⟨ml_12_173, S_998⟩, List.forall_mem_cons.mpr ⟨⟨ml_12_173, S_999⟩, List.forall_mem_cons.mpr ⟨⟨ml_12_173, S_1030⟩, List.forall_mem_cons.mpr ⟨⟨ml_12_173, S_1028⟩, List.forall_mem_cons.mpr ⟨⟨ml_12_173, S_1029⟩, List.forall_mem_cons.mpr ⟨⟨ml_12_173, S_1060⟩, List.forall_mem_cons.mpr ⟨⟨ml_12_173, S_1058⟩, List.forall_mem_cons.mpr ⟨⟨ml_12_173, S_1059⟩, List.forall_mem_cons.mpr ⟨⟨ml_12_173, S_1090⟩, List.forall_mem_cons.mpr ⟨⟨ml_12_173, S_1088⟩, List.forall_mem_cons.mpr ⟨⟨ml_12_173, S_1089⟩, List.forall_mem_cons.mpr ⟨⟨ml_12_173, S_1103⟩, List.forall_mem_cons.mpr ⟨⟨ml_12_173, S_1101⟩, List.forall_mem_cons.mpr ⟨⟨ml_12_173, S_1102⟩, List.forall_mem_cons.mpr ⟨⟨ml_12_121, S_X12_next_0⟩, List.forall_mem_cons.mpr ⟨⟨ml_12_170, S_753⟩, List.forall_mem_cons.mpr ⟨⟨ml_12_176, S_X12_copy_0⟩, List.forall_mem_cons.mpr ⟨⟨ml_12_176, S_X12_copy_2⟩, List.forall_mem_cons.mpr ⟨⟨ml_12_176, S_X12_copy_1⟩, List.forall_mem_cons.mpr ⟨⟨ml_12_176, S_X12_copy_3⟩, List.forall_mem_cons.mpr ⟨⟨ml_12_176, S_X12_copy_4⟩, List.forall_mem_cons.mpr ⟨⟨ml_12_176, S_X12_copy_5⟩, List.forall_mem_cons.mpr ⟨⟨ml_12_176, S_X12_copy_6⟩, List.forall_mem_cons.mpr ⟨⟨ml_12_176, S_X12_copy_7⟩, List.forall_mem_cons.mpr ⟨⟨ml_12_176, S_X12_copy_15⟩, List.forall_mem_cons.mpr ⟨⟨ml_12_127, S_664⟩, List.forall_mem_cons.mpr ⟨⟨ml_12_127, S_739⟩, fun _ h => nomatch h⟩⟩⟩⟩⟩⟩⟩⟩⟩⟩⟩⟩⟩⟩⟩⟩⟩⟩⟩⟩⟩⟩⟩⟩⟩⟩⟩⟩⟩⟩⟩⟩⟩⟩⟩⟩⟩⟩⟩⟩⟩) odX12_post (by decide +kernel) (by decide +kernel) (List.forall_mem_cons.mpr ⟨(bSgk_in wx_ok btX12_post kT_1104_0), List.forall_mem_cons.mpr ⟨(bSgk_in wx_ok btX12_post kT_1104_1), List.forall_mem_cons.mpr ⟨(bSgk_in wx_ok btX12_post kT_1104_2), fun _ h => nomatch h⟩⟩⟩) (List.forall_mem_cons.mpr ⟨(bSgk_in wx_ok btX12_post kA_1104_0), List.forall_mem_cons.mpr ⟨(bSgk_in wx_ok btX12_post kA_1104_1), List.forall_mem_cons.mpr ⟨(bSgk_in wx_ok btX12_post kA_1104_2), List.forall_mem_cons.mpr ⟨(bSgk_in wx_ok btX12_post kA_1104_3), List.forall_mem_cons.mpr ⟨(bSgk_in wx_ok btX12_post kA_1104_4), List.forall_mem_cons.mpr ⟨(bSgk_in wx_ok btX12_post kA_1104_5), List.forall_mem_cons.mpr ⟨(bSgk_in wx_ok btX12_post kA_1104_6), List.forall_mem_cons.mpr ⟨(bSgk_in wx_ok btX12_post kA_1104_7), fun _ h => nomatch h⟩⟩⟩⟩⟩⟩⟩⟩) (List.forall_mem_cons.mpr ⟨(bTk_in wx_ok btX12_post kB_1104_0), List.forall_mem_cons.mpr ⟨(bTk_in wx_ok btX12_post kB_1104_1), List.forall_mem_cons.mpr ⟨(bTk_in wx_ok btX12_post kB_1104_2), List.forall_mem_cons.mpr ⟨(bTk_in wx_ok btX12_post kB_1104_3), List.forall_mem_cons.mpr ⟨(bTk_in wx_ok btX12_post kB_1104_4), List.forall_mem_cons.mpr ⟨(bTk_in wx_ok btX12_post kB_1104_5), List.forall_mem_cons.mpr ⟨(bTk_in wx_ok btX12_post kB_1104_6), List.forall_mem_cons.mpr ⟨(bTk_in wx_ok btX12_post kB_1104_7), List.forall_mem_cons.mpr ⟨(bTk_in wx_ok btX12_post kB_1104_8), List.forall_mem_cons.mpr ⟨(bTk_in wx_ok btX12_post kB_1104_9), List.forall_mem_cons.mpr ⟨(bTk_in wx_ok btX12_post kB_1104_10), List.forall_mem_cons.mpr ⟨(bTk_in wx_ok btX12_post kB_1104_11), List.forall_mem_cons.mpr ⟨(bTk_in wx_ok btX12_post kB_1104_12), List.forall_mem_cons.mpr ⟨(bTk_in wx_ok btX12_post kB_1104_13), List.forall_mem_cons.mpr ⟨(bTk_in wx_ok btX12_post kB_1104_14), List.forall_mem_cons.mpr ⟨(bTk_in wx_ok btX12_post kB_1104_15), fun _ h => nomatch h⟩⟩⟩⟩⟩⟩⟩⟩⟩⟩⟩⟩⟩⟩⟩⟩) (List.forall_mem_cons.mpr ⟨(bTk_in wx_ok btX12_post kC_1104_0), List.forall_mem_cons.mpr ⟨(bTk_in wx_ok btX12_post kC_1104_1), List.forall_mem_cons.mpr ⟨(bTk_in wx_ok btX12_post kC_1104_2), List.forall_mem_cons.mpr ⟨(bTk_in wx_ok btX12_post kC_1104_3), List.forall_mem_cons.mpr ⟨(bTk_in wx_ok btX12_post kC_1104_4), List.forall_mem_cons.mpr ⟨(bTk_in wx_ok btX12_post kC_1104_5), List.forall_mem_cons.mpr ⟨(bTk_in wx_ok btX12_post kC_1104_6), List.forall_mem_cons.mpr ⟨(bTk_in wx_ok btX12_post kC_1104_7), fun _ h => nomatch h⟩⟩⟩⟩⟩⟩⟩⟩) (⟨(bSgk_in wx_ok btX12_post kE_1104_0), (bSgk_in wx_ok btX12_post kE_1104_1), (bSgk_in wx_ok btX12_post kE_1104_2), (bSgk_in wx_ok btX12_post kE_1104_3), (bSgk_in wx_ok btX12_post kE_1104_4), (bSgk_in wx_ok btX12_post kE_1104_5), (bSgk_in wx_ok btX12_post kE_1104_6), (bSgk_in wx_ok btX12_post kE_1104_7), (bSgk_in wx_ok btX12_post kE_1104_8), (bSgk_in wx_ok btX12_post kE_1104_9), (bSgk_in wx_ok btX12_post kE_1104_10), (bSgk_in wx_ok btX12_post kE_1104_11), (bSgk_in wx_ok btX12_post kE_1104_12), (bSgk_in wx_ok btX12_post kE_1104_13), (bSgk_in wx_ok btX12_post kE_1104_14), (bSgk_in wx_ok btX12_post kE_1104_15), (bSgk_in wx_ok btX12_post kE_1104_16), (bSgk_in wx_ok btX12_post kE_1104_17), (bSgk_in wx_ok btX12_post kE_1104_18), (bSgk_in wx_ok btX12_post kE_1104_19), (bSgk_in wx_ok btX12_post kE_1104_20), (bSgk_in wx_ok btX12_post kE_1104_21), (bSgk_in wx_ok btX12_post kE_1104_22), (bSgk_in wx_ok btX12_post kE_1104_23), (bSgk_in wx_ok btX12_post kE_1104_24), (bSgk_in wx_ok btX12_post kE_1104_25), (bSgk_in wx_ok btX12_post kE_1104_26), (bSgk_in wx_ok btX12_post kE_1104_27), (bSgk_in wx_ok btX12_post kE_1104_28), (bSgk_in wx_ok btX12_post kE_1104_29), (bSgk_in wx_ok btX12_post kE_1104_30), (bSgk_in wx_ok btX12_post kE_1104_31), (bSgk_in wx_ok btX12_post kE_1104_32), (bSgk_in wx_ok btX12_post kE_1104_33), (bSgk_in wx_ok btX12_post kE_1104_34), (bSgk_in wx_ok btX12_post kE_1104_35), (bSgk_in wx_ok btX12_post kE_1104_36), (bSgk_in wx_ok btX12_post kE_1104_37), (bSgk_in wx_ok btX12_post kE_1104_38), (bSgk_in wx_ok btX12_post kE_1104_39), (bSgk_in wx_ok btX12_post kE_1104_40), (bSgk_in wx_ok btX12_post kE_1104_41), (bSgk_in wx_ok btX12_post kE_1104_42), (bSgk_in wx_ok btX12_post kE_1104_43), (bSgk_in wx_ok btX12_post kE_1104_44), (bSgk_in wx_ok btX12_post kE_1104_45), (bSgk_in wx_ok btX12_post kE_1104_46), (bSgk_in wx_ok btX12_post kE_1104_47), (bSgk_in wx_ok btX12_post kE_1104_48), (bSgk_in wx_ok btX12_post kE_1104_49), (bSgk_in wx_ok btX12_post kE_1104_50), (bSgk_in wx_ok btX12_post kE_1104_51), (bSgk_in wx_ok btX12_post kE_1104_52), (bSgk_in wx_ok btX12_post kE_1104_53), (bSgk_in wx_ok btX12_post kE_1104_54), (bSgk_in wx_ok btX12_post kE_1104_55), (bSgk_in wx_ok btX12_post kE_1104_56), (bSgk_in wx_ok btX12_post kE_1104_57), (bSgk_in wx_ok btX12_post kE_1104_58), (bSgk_in wx_ok btX12_post kE_1104_59), (bSgk_in wx_ok btX12_post kE_1104_60), (bSgk_in wx_ok btX12_post kE_1104_61), (bSgk_in wx_ok btX12_post kE_1104_62), (bSgk_in wx_ok btX12_post kE_1104_63), (bSgk_in wx_ok btX12_post kE_1104_64), (bSgk_in wx_ok btX12_post kE_1104_65), (bSgk_in wx_ok btX12_post kE_1104_66), (bSgk_in wx_ok btX12_post kE_1104_67), (bSgk_in wx_ok btX12_post kE_1104_68), (bSgk_in wx_ok btX12_post kE_1104_69), (bSgk_in wx_ok btX12_post kE_1104_70), (bSgk_in wx_ok btX12_post kE_1104_71), (bSgk_in wx_ok btX12_post kE_1104_72), (bSgk_in wx_ok btX12_post kE_1104_73), (bSgk_in wx_ok btX12_post kE_1104_74), (bSgk_in wx_ok btX12_post kE_1104_75), (bSgk_in wx_ok btX12_post kE_1104_76), (bSgk_in wx_ok btX12_post kE_1104_77), (bSgk_in wx_ok btX12_post kE_1104_78), (bSgk_in wx_ok btX12_post kE_1104_79), (bSgk_in wx_ok btX12_post kE_1104_80), (bSgk_in wx_ok btX12_post kE_1104_81), (bSgk_in wx_ok btX12_post kE_1104_82), (bSgk_in wx_ok btX12_post kE_1104_83), (bSgk_in wx_ok btX12_post kE_1104_84), (bSgk_in wx_ok btX12_post kE_1104_85), (bSgk_in wx_ok btX12_post kE_1104_86), (bSgk_in wx_ok btX12_post kE_1104_87), (bSgk_in wx_ok btX12_post kE_1104_88), (bSgk_in wx_ok btX12_post kE_1104_89), (bSgk_in wx_ok btX12_post kE_1104_90), (bSgk_in wx_ok btX12_post kE_1104_91), (bSgk_in wx_ok btX12_post kE_1104_92), (bSgk_in wx_ok btX12_post kE_1104_93), (bSgk_in wx_ok btX12_post kE_1104_94), (bSgk_in wx_ok btX12_post kE_1104_95), (bSgk_in wx_ok btX12_post kE_1104_96), (bSgk_in wx_ok btX12_post kE_1104_97), (bSgk_in wx_ok btX12_post kE_1104_98), (bSgk_in wx_ok btX12_post kE_1104_99), (bSgk_in wx_ok btX12_post kE_1104_100), (bSgk_in wx_ok btX12_post kE_1104_101), (bSgk_in wx_ok btX12_post kE_1104_102), (bSgk_in wx_ok btX12_post kE_1104_103), (bSgk_in wx_ok btX12_post kE_1104_104), (bSgk_in wx_ok btX12_post kE_1104_105), (bSgk_in wx_ok btX12_post kE_1104_106), (bSgk_in wx_ok btX12_post kE_1104_107), (bSgk_in wx_ok btX12_post kE_1104_108), (bSgk_in wx_ok btX12_post kE_1104_109), (bSgk_in wx_ok btX12_post kE_1104_110), (bSgk_in wx_ok btX12_post kE_1104_111), (bSgk_in wx_ok btX12_post kE_1104_112), (bSgk_in wx_ok btX12_post kE_1104_113), (bSgk_in wx_ok btX12_post kE_1104_114), (bSgk_in wx_ok btX12_post kE_1104_115), (bSgk_in wx_ok btX12_post kE_1104_116), (bSgk_in wx_ok btX12_post kE_1104_117), (bSgk_in wx_ok btX12_post kE_1104_118), (bSgk_in wx_ok btX12_post kE_1104_119), (bSgk_in wx_ok btX12_post kE_1104_120), (bSgk_in wx_ok btX12_post kE_1104_121), (bSgk_in wx_ok btX12_post kE_1104_122), (bSgk_in wx_ok btX12_post kE_1104_123), (bSgk_in wx_ok btX12_post kE_1104_124), (bSgk_in wx_ok btX12_post kE_1104_125), (bSgk_in wx_ok btX12_post kE_1104_126), (bSgk_in wx_ok btX12_post kE_1104_127), (bSgk_in wx_ok btX12_post kE_1104_128), (bSgk_in wx_ok btX12_post kE_1104_129), (bSgk_in wx_ok btX12_post kE_1104_130), (bSgk_in wx_ok btX12_post kE_1104_131), (bSgk_in wx_ok btX12_post kE_1104_132), (bSgk_in wx_ok btX12_post kE_1104_133), (bSgk_in wx_ok btX12_post kE_1104_134), (bSgk_in wx_ok btX12_post kE_1104_135), (bSgk_in wx_ok btX12_post kE_1104_136), (bSgk_in wx_ok btX12_post kE_1104_137), (bSgk_in wx_ok btX12_post kE_1104_138), (bSgk_in wx_ok btX12_post kE_1104_139), (bSgk_in wx_ok btX12_post kE_1104_140), (bSgk_in wx_ok btX12_post kE_1104_141), (bSgk_in wx_ok btX12_post kE_1104_142), (bSgk_in wx_ok btX12_post kE_1104_143), (bSgk_in wx_ok btX12_post kE_1104_144), (bSgk_in wx_ok btX12_post kE_1104_145), (bSgk_in wx_ok btX12_post kE_1104_146), (bSgk_in wx_ok btX12_post kE_1104_147), (bSgk_in wx_ok btX12_post kE_1104_148), (bSgk_in wx_ok btX12_post kE_1104_149), (bSgk_in wx_ok btX12_post kE_1104_150), (bSgk_in wx_ok btX12_post kE_1104_151), (bSgk_in wx_ok btX12_post kE_1104_152), (bSgk_in wx_ok btX12_post kE_1104_153), (bSgk_in wx_ok btX12_post kE_1104_154), (bSgk_in wx_ok btX12_post kE_1104_155), (bSgk_in wx_ok btX12_post kE_1104_156), (bSgk_in wx_ok btX12_post kE_1104_157), (bSgk_in wx_ok btX12_post kE_1104_158), (bSgk_in wx_ok btX12_post kE_1104_159), (bSgk_in wx_ok btX12_post kE_1104_160), (bSgk_in wx_ok btX12_post kE_1104_161), (bSgk_in wx_ok btX12_post kE_1104_162), (bSgk_in wx_ok btX12_post kE_1104_163), (bSgk_in wx_ok btX12_post kE_1104_164), (bSgk_in wx_ok btX12_post kE_1104_165), (bSgk_in wx_ok btX12_post kE_1104_166), (bSgk_in wx_ok btX12_post kE_1104_167), (bSgk_in wx_ok btX12_post kE_1104_168), (bSgk_in wx_ok btX12_post kE_1104_169), (bSgk_in wx_ok btX12_post kE_1104_170), (bSgk_in wx_ok btX12_post kE_1104_171), (bSgk_in wx_ok btX12_post kE_1104_172), (bSgk_in wx_ok btX12_post kE_1104_173), (bSgk_in wx_ok btX12_post kE_1104_174), (bSgk_in wx_ok btX12_post kE_1104_175), (bSgk_in wx_ok btX12_post kE_1104_176), (bSgk_in wx_ok btX12_post kE_1104_177), (bSgk_in wx_ok btX12_post kE_1104_178), (bSgk_in wx_ok btX12_post kE_1104_179), (bSgk_in wx_ok btX12_post kE_1104_180), (bSgk_in wx_ok btX12_post kE_1104_181), (bSgk_in wx_ok btX12_post kE_1104_182), (bSgk_in wx_ok btX12_post kE_1104_183), (bSgk_in wx_ok btX12_post kE_1104_184), (bSgk_in wx_ok btX12_post kE_1104_185), (bSgk_in wx_ok btX12_post kE_1104_186), (bSgk_in wx_ok btX12_post kE_1104_187), (bSgk_in wx_ok btX12_post kE_1104_188), (bSgk_in wx_ok btX12_post kE_1104_189), (bSgk_in wx_ok btX12_post kE_1104_190), (bSgk_in wx_ok btX12_post kE_1104_191), (bSgk_in wx_ok btX12_post kE_1104_192), (bSgk_in wx_ok btX12_post kE_1104_193), (bSgk_in wx_ok btX12_post kE_1104_194), (bSgk_in wx_ok btX12_post kE_1104_195), (bSgk_in wx_ok btX12_post kE_1104_196), (bSgk_in wx_ok btX12_post kE_1104_197), (bSgk_in wx_ok btX12_post kE_1104_198), (bSgk_in wx_ok btX12_post kE_1104_199), (bSgk_in wx_ok btX12_post kE_1104_200), (bSgk_in wx_ok btX12_post kE_1104_201), (bSgk_in wx_ok btX12_post kE_1104_202), (bSgk_in wx_ok btX12_post kE_1104_203), (bSgk_in wx_ok btX12_post kE_1104_204), (bSgk_in wx_ok btX12_post kE_1104_205), (bSgk_in wx_ok btX12_post kE_1104_206), (bSgk_in wx_ok btX12_post kE_1104_207), (bSgk_in wx_ok btX12_post kE_1104_208), (bSgk_in wx_ok btX12_post kE_1104_209), (bSgk_in wx_ok btX12_post kE_1104_210), (bSgk_in wx_ok btX12_post kE_1104_211), (bSgk_in wx_ok btX12_post kE_1104_212), (bSgk_in wx_ok btX12_post kE_1104_213), (bSgk_in wx_ok btX12_post kE_1104_214), (bSgk_in wx_ok btX12_post kE_1104_215), (bSgk_in wx_ok btX12_post kE_1104_216), (bSgk_in wx_ok btX12_post kE_1104_217), (bSgk_in wx_ok btX12_post kE_1104_218), (bSgk_in wx_ok btX12_post kE_1104_219), (bSgk_in wx_ok btX12_post kE_1104_220), (bSgk_in wx_ok btX12_post kE_1104_221), (bSgk_in wx_ok btX12_post kE_1104_222), (bSgk_in wx_ok btX12_post kE_1104_223), (bSgk_in wx_ok btX12_post kE_1104_224), (bSgk_in wx_ok btX12_post kE_1104_225), (bSgk_in wx_ok btX12_post kE_1104_226), (bSgk_in wx_ok btX12_post kE_1104_227), (bSgk_in wx_ok btX12_post kE_1104_228), (bSgk_in wx_ok btX12_post kE_1104_229), (bSgk_in wx_ok btX12_post kE_1104_230), (bSgk_in wx_ok btX12_post kE_1104_231), (bSgk_in wx_ok btX12_post kE_1104_232), (bSgk_in wx_ok btX12_post kE_1104_233), (bSgk_in wx_ok btX12_post kE_1104_234), (bSgk_in wx_ok btX12_post kE_1104_235), (bSgk_in wx_ok btX12_post kE_1104_236), (bSgk_in wx_ok btX12_post kE_1104_237), (bSgk_in wx_ok btX12_post kE_1104_238), (bSgk_in wx_ok btX12_post kE_1104_239), (bSgk_in wx_ok btX12_post kE_1104_240), (bSgk_in wx_ok btX12_post kE_1104_241), (bSgk_in wx_ok btX12_post kE_1104_242), (bSgk_in wx_ok btX12_post kE_1104_243), (bSgk_in wx_ok btX12_post kE_1104_244), (bSgk_in wx_ok btX12_post kE_1104_245), (bSgk_in wx_ok btX12_post kE_1104_246), (bSgk_in wx_ok btX12_post kE_1104_247), (bSgk_in wx_ok btX12_post kE_1104_248), (bSgk_in wx_ok btX12_post kE_1104_249), (bSgk_in wx_ok btX12_post kE_1104_250), (bSgk_in wx_ok btX12_post kE_1104_251), (bSgk_in wx_ok btX12_post kE_1104_252), (bSgk_in wx_ok btX12_post kE_1104_253), (bSgk_in wx_ok btX12_post kE_1104_254), (bSgk_in wx_ok btX12_post kE_1104_255), (bSgk_in wx_ok btX12_post kE_1104_256), (bSgk_in wx_ok btX12_post kE_1104_257), (bSgk_in wx_ok btX12_post kE_1104_258), (bSgk_in wx_ok btX12_post kE_1104_259), (bSgk_in wx_ok btX12_post kE_1104_260), (bSgk_in wx_ok btX12_post kE_1104_261), (bSgk_in wx_ok btX12_post kE_1104_262), (bSgk_in wx_ok btX12_post kE_1104_263), (bSgk_in wx_ok btX12_post kE_1104_264), (bSgk_in wx_ok btX12_post kE_1104_265), (bSgk_in wx_ok btX12_post kE_1104_266), (bSgk_in wx_ok btX12_post kE_1104_267), (bSgk_in wx_ok btX12_post kE_1104_268), (bSgk_in wx_ok btX12_post kE_1104_269), (bSgk_in wx_ok btX12_post kE_1104_270), (bSgk_in wx_ok btX12_post kE_1104_271), (bSgk_in wx_ok btX12_post kE_1104_272), (bSgk_in wx_ok btX12_post kE_1104_273), (bSgk_in wx_ok btX12_post kE_1104_274), (bSgk_in wx_ok btX12_post kE_1104_275), (bSgk_in wx_ok btX12_post kE_1104_276), (bSgk_in wx_ok btX12_post kE_1104_277), (bSgk_in wx_ok btX12_post kE_1104_278), (bSgk_in wx_ok btX12_post kE_1104_279), (bSgk_in wx_ok btX12_post kE_1104_280), (bSgk_in wx_ok btX12_post kE_1104_281), (bSgk_in wx_ok btX12_post kE_1104_282), (bSgk_in wx_ok btX12_post kE_1104_283), (bSgk_in wx_ok btX12_post kE_1104_284), (bSgk_in wx_ok btX12_post kE_1104_285), (bSgk_in wx_ok btX12_post kE_1104_286), (bSgk_in wx_ok btX12_post kE_1104_287), (bSgk_in wx_ok btX12_post kE_1104_288), (bSgk_in wx_ok btX12_post kE_1104_289), (bSgk_in wx_ok btX12_post kE_1104_290), (bSgk_in wx_ok btX12_post kE_1104_291), (bSgk_in wx_ok btX12_post kE_1104_292), (bSgk_in wx_ok btX12_post kE_1104_293), (bSgk_in wx_ok btX12_post kE_1104_294), (bSgk_in wx_ok btX12_post kE_1104_295), (bSgk_in wx_ok btX12_post kE_1104_296), (bSgk_in wx_ok btX12_post kE_1104_297), (bSgk_in wx_ok btX12_post kE_1104_298), (bSgk_in wx_ok btX12_post kE_1104_299), (bSgk_in wx_ok btX12_post kE_1104_300), (bSgk_in wx_ok btX12_post kE_1104_301), (bSgk_in wx_ok btX12_post kE_1104_302), (bSgk_in wx_ok btX12_post kE_1104_303), (bSgk_in wx_ok btX12_post kE_1104_304), (bSgk_in wx_ok btX12_post kE_1104_305), (bSgk_in wx_ok btX12_post kE_1104_306), (bSgk_in wx_ok btX12_post kE_1104_307), (bSgk_in wx_ok btX12_post kE_1104_308), (bSgk_in wx_ok btX12_post kE_1104_309), (bSgk_in wx_ok btX12_post kE_1104_310), (bSgk_in wx_ok btX12_post kE_1104_311), (bSgk_in wx_ok btX12_post kE_1104_312), (bSgk_in wx_ok btX12_post kE_1104_313), (bSgk_in wx_ok btX12_post kE_1104_314), (bSgk_in wx_ok btX12_post kE_1104_315), (bSgk_in wx_ok btX12_post kE_1104_316), (bSgk_in wx_ok btX12_post kE_1104_317), (bSgk_in wx_ok btX12_post kE_1104_318), (bSgk_in wx_ok btX12_post kE_1104_319), (bSgk_in wx_ok btX12_post kE_1104_320), (bSgk_in wx_ok btX12_post kE_1104_321), (bSgk_in wx_ok btX12_post kE_1104_322), (bSgk_in wx_ok btX12_post kE_1104_323), (bSgk_in wx_ok btX12_post kE_1104_324), (bSgk_in wx_ok btX12_post kE_1104_325), (bSgk_in wx_ok btX12_post kE_1104_326), (bSgk_in wx_ok btX12_post kE_1104_327), (bSgk_in wx_ok btX12_post kE_1104_328), (bSgk_in wx_ok btX12_post kE_1104_329), (bSgk_in wx_ok btX12_post kE_1104_330), (bSgk_in wx_ok btX12_post kE_1104_331), (bSgk_in wx_ok btX12_post kE_1104_332), (bSgk_in wx_ok btX12_post kE_1104_333), (bSgk_in wx_ok btX12_post kE_1104_334), (bSgk_in wx_ok btX12_post kE_1104_335), (bSgk_in wx_ok btX12_post kE_1104_336), (bSgk_in wx_ok btX12_post kE_1104_337), (bSgk_in wx_ok btX12_post kE_1104_338), (bSgk_in wx_ok btX12_post kE_1104_339), (bSgk_in wx_ok btX12_post kE_1104_340), (bSgk_in wx_ok btX12_post kE_1104_341), (bSgk_in wx_ok btX12_post kE_1104_342), (bSgk_in wx_ok btX12_post kE_1104_343), (bSgk_in wx_ok btX12_post kE_1104_344), (bSgk_in wx_ok btX12_post kE_1104_345), (bSgk_in wx_ok btX12_post kE_1104_346), (bSgk_in wx_ok btX12_post kE_1104_347), (bSgk_in wx_ok btX12_post kE_1104_348), (bSgk_in wx_ok btX12_post kE_1104_349), (bSgk_in wx_ok btX12_post kE_1104_350), (bSgk_in wx_ok btX12_post kE_1104_351), (bSgk_in wx_ok btX12_post kE_1104_352), (bSgk_in wx_ok btX12_post kE_1104_353), (bSgk_in wx_ok btX12_post kE_1104_354), (bSgk_in wx_ok btX12_post kE_1104_355), (bSgk_in wx_ok btX12_post kE_1104_356), (bSgk_in wx_ok btX12_post kE_1104_357), (bSgk_in wx_ok btX12_post kE_1104_358), (bSgk_in wx_ok btX12_post kE_1104_359), (bSgk_in wx_ok btX12_post kE_1104_360), (bSgk_in wx_ok btX12_post kE_1104_361), (bSgk_in wx_ok btX12_post kE_1104_362), (bSgk_in wx_ok btX12_post kE_1104_363), (bSgk_in wx_ok btX12_post kE_1104_364), trivial⟩)
