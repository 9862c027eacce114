section Pk0
def ct_855 : aCt := (mX12_readLine, [ag_861], ([sl_891, sl_892, sl_906, sl_955, sl_1330, sl_957, sl_953, sl_954], []), [pon_913], mdn_914, [], (nat_lit 2))
set_option maxRecDepth 100000 in
theorem S_855 : aSpec wd ct_855 := bChk_ok wx_ok btX12_readLine (nds := []) (fk := []) (rk := (1, [])) (sp := 0) (fuel := 3000) (by decide +kernel) (lk_d S_X12_isWord_2 ml_12_117 (lk_d S_695 ml_12_192 (lk_d S_696 ml_12_192 (lk_d S_460 ml_12_127 lk_n)))) odX12_readLine
def ct_856 : aCt := (mX12_readLine, [ag_861], ([sl_1215, sl_887, sl_906, sl_955, sl_1330, sl_957, sl_953, sl_954], []), [pon_913], mdn_914, [], (nat_lit 2))
set_option maxRecDepth 100000 in
theorem S_856 : aSpec wd ct_856 := bChk_ok wx_ok btX12_readLine (nds := []) (fk := []) (rk := (1, [])) (sp := 0) (fuel := 3000) (by decide +kernel) (lk_d S_X12_isWord_5 ml_12_117 (lk_d S_698 ml_12_192 (lk_d S_699 ml_12_192 (lk_d S_460 ml_12_127 lk_n)))) odX12_readLine
def ct_857 : aCt := (mX12_postLine, [ag_861], ([sl_894, sl_943, sl_906, sl_955, sl_1361, sl_957, sl_954], []), [pon_913], mdn_914, [], (nat_lit 1))
set_option maxRecDepth 100000 in
theorem S_857 : aSpec wd ct_857 := bChk_ok wx_ok btX12_postLine (nds := []) (fk := []) (rk := (1, [])) (sp := 0) (fuel := 3000) (by decide +kernel) (lk_d S_559 ml_12_127 lk_n) odX12_postLine
def mdn_1391 : List (Nat × Nat × Nat) := [((nat_lit 196), (nat_lit 4), (nat_lit 11)), ((nat_lit 196), (nat_lit 13), (nat_lit 14)), ((nat_lit 198), (nat_lit 0), (nat_lit 8)), ((nat_lit 200), (nat_lit 189), (nat_lit 190)), ((nat_lit 200), (nat_lit 251), (nat_lit 259)), ((nat_lit 1000002), (nat_lit 0), (nat_lit 0))]
def ct_858 : aCt := (mX12_newName, [ag_861, ag_153], ([sl_894, sl_895, sl_906], []), [pon_915, pon_916, pon_917], mdn_1391, [], (nat_lit 2))
set_option maxRecDepth 100000 in
theorem S_858 : aSpec wd ct_858 := bChk_ok wx_ok btX12_newName (nds := [((nat_lit 45), [lcn_898, lcn_979, lcn_296], [], [sl_894, sl_895, sl_906], [], (8, [(0, -1)]))]) (fk := []) (rk := (9, [])) (sp := 35184372088832) (fuel := 3000) (by decide +kernel) (lk_d S_562 ml_12_143 (lk_d S_563 ml_12_146 (lk_d S_X12_next_0 ml_12_121 (lk_d S_559 ml_12_127 lk_n)))) odX12_newName
def lcn_1392 : Nat × aAg := ((nat_lit 1), .inl [((.ofNat (nat_lit 0)), (.ofNat (nat_lit 5)), (nat_lit 1))])
def lcn_1393 : Nat × aAg := ((nat_lit 2), .inl [((.ofNat (nat_lit 10)), (.ofNat (nat_lit 45)), (nat_lit 7))])
def ct_859 : aCt := (mX12_isSong, [ag_861, ag_410], ([sl_895], []), [pon_453, pon_1217], mdn_872, [], (nat_lit 0))
set_option maxRecDepth 100000 in
theorem S_859 : aSpec wd ct_859 := bChk_ok wx_ok btX12_isSong (nds := [((nat_lit 30), [lcn_898, lcn_1392, lcn_1393, lcn_422, lcn_593], [], [sl_895], [], (8, [(2, 9), (3, -1)]))]) (fk := []) (rk := (18, [])) (sp := 1073741824) (fuel := 3000) (by decide +kernel) lk_n odX12_isSong
def ct_860 : aCt := (mX12_isSong, [ag_861, ag_410], ([sl_991], []), [pon_453, pon_37], mdn_872, [], (nat_lit 0))
set_option maxRecDepth 100000 in
theorem S_860 : aSpec wd ct_860 := bChk_ok wx_ok btX12_isSong (nds := [((nat_lit 30), [lcn_898, lcn_1392, lcn_1393, lcn_422, lcn_446], [], [sl_991], [], (6, [(2, 7), (3, -1)]))]) (fk := []) (rk := (14, [])) (sp := 1073741824) (fuel := 3000) (by decide +kernel) lk_n odX12_isSong
def pon_1394 : aPo := (none, [], [sl_926, sl_903, sl_912, sl_1361], [])
def sl_1395 : (Nat × Nat) × aI := (((nat_lit 200), (nat_lit 4)), [((.ofNat (nat_lit 7)), (.ofNat (nat_lit 7)), (nat_lit 1))])
def pon_1396 : aPo := (none, [], [sl_908, sl_892, sl_906, sl_1395], [])
def pon_1397 : aPo := (none, [], [sl_894, sl_895, sl_906, sl_1395], [])
def mdn_1398 : List (Nat × Nat × Nat) := [((nat_lit 196), (nat_lit 4), (nat_lit 11)), ((nat_lit 196), (nat_lit 13), (nat_lit 14)), ((nat_lit 198), (nat_lit 0), (nat_lit 8)), ((nat_lit 200), (nat_lit 4), (nat_lit 5)), ((nat_lit 200), (nat_lit 52), (nat_lit 59)), ((nat_lit 200), (nat_lit 189), (nat_lit 190)), ((nat_lit 200), (nat_lit 251), (nat_lit 259)), ((nat_lit 1000002), (nat_lit 0), (nat_lit 0))]
def lcn_1399 : Nat × aAg := ((nat_lit 4), .inl [((.ofNat (nat_lit 52)), (.ofNat (nat_lit 52)), (nat_lit 1))])
def sl_1400 : (Nat × Nat) × aI := (((nat_lit 200), (nat_lit 52)), [((.ofNat (nat_lit 2)), (.ofNat (nat_lit 6)), (nat_lit 1))])
def ct_861 : aCt := (mX12_islandLine, [ag_861], ([sl_894, sl_895, sl_906, sl_955, sl_1361], []), [pon_1394, pon_1396, pon_1397], mdn_1398, [], (nat_lit 3))
set_option maxRecDepth 100000 in
theorem S_861 : aSpec wd ct_861 := bChk_ok wx_ok btX12_islandLine (nds := [((nat_lit 65), [lcn_898, lcn_979, lcn_444, lcn_144], [], [sl_894, sl_991, sl_906, sl_955, sl_1361], [], (29, [(0, -1)])), ((nat_lit 65), [lcn_898, lcn_979, lcn_589, lcn_408], [], [sl_894, sl_895, sl_906, sl_955, sl_1361], [], (22, [(0, -1)])), ((nat_lit 112), [lcn_898, lcn_979, lcn_589, lcn_422, lcn_446], [], [sl_894, sl_895, sl_906, sl_955, sl_1361], [], (13, [(0, -7), (1, -1)])), ((nat_lit 112), [lcn_898, lcn_979, lcn_444, lcn_422, lcn_446], [], [sl_894, sl_991, sl_906, sl_955, sl_1361], [], (20, [(0, -7), (1, -1)])), ((nat_lit 204), [lcn_898, lcn_979, lcn_444, lcn_101, lcn_1399, lcn_993], [], [sl_894, sl_991, sl_906, sl_955, sl_1361, sl_1400], [], (6, [(0, -1)]))]) (fk := [14]) (rk := (30, [])) (sp := 25711008708143844408671393482650898498890112422543329113145344) (fuel := 3000) (by decide +kernel) (lk_d S_X12_next_0 ml_12_121 (lk_d S_858 ml_12_223 (lk_d S_860 ml_12_227 (lk_d S_859 ml_12_227 (lk_d S_565 ml_12_149 (lk_d S_460 ml_12_127 (lk_d S_559 ml_12_127 (lk_d S_566 ml_12_127 lk_n)))))))) odX12_islandLine
def ct_862 : aCt := (mX12_newName, [ag_861, ag_153], ([sl_908, sl_892, sl_906], []), [pon_913], mdn_914, [], (nat_lit 2))
set_option maxRecDepth 100000 in
theorem S_862 : aSpec wd ct_862 := bChk_ok wx_ok btX12_newName (nds := []) (fk := []) (rk := (1, [])) (sp := 0) (fuel := 3000) (by decide +kernel) (lk_d S_568 ml_12_143 lk_n) odX12_newName
def ct_863 : aCt := (mX12_islandLine, [ag_861], ([sl_908, sl_892, sl_906, sl_955, sl_1361], []), [pon_913], mdn_914, [], (nat_lit 3))
set_option maxRecDepth 100000 in
theorem S_863 : aSpec wd ct_863 := bChk_ok wx_ok btX12_islandLine (nds := []) (fk := [14]) (rk := (1, [])) (sp := 0) (fuel := 3000) (by decide +kernel) (lk_d S_862 ml_12_223 lk_n) odX12_islandLine
def pon_1401 : aPo := (some (.inl [((.negSucc (nat_lit 0)), (.ofNat (nat_lit 5)), (nat_lit 1)), ((.ofNat (nat_lit 7)), (.ofNat (nat_lit 19)), (nat_lit 1))]), [], [], [])
def ct_864 : aCt := (mX12_find, [ag_861], ([sl_895, sl_954], []), [pon_1401], mdn_872, [], (nat_lit 0))
set_option maxRecDepth 100000 in
theorem S_864 : aSpec wd ct_864 := bChk_ok wx_ok btX12_find (nds := [((nat_lit 2), [lcn_898, lcn_175], [], [sl_895, sl_954], [], (221, [])), ((nat_lit 46), [lcn_898, lcn_175, lcn_444, lcn_408], [], [sl_943, sl_954], [], (220, [(0, -1)])), ((nat_lit 46), [lcn_898, lcn_175, lcn_589, lcn_408], [], [sl_895, sl_954], [], (211, [])), ((nat_lit 2), [lcn_898, lcn_202, lcn_589, lcn_408], [], [sl_895, sl_954], [], (210, [])), ((nat_lit 46), [lcn_898, lcn_202, lcn_444, lcn_408], [], [sl_943, sl_954], [], (209, [(0, -1)])), ((nat_lit 46), [lcn_898, lcn_202, lcn_589, lcn_408], [], [sl_895, sl_954], [], (200, [])), ((nat_lit 2), [lcn_898, lcn_167, lcn_589, lcn_408], [], [sl_895, sl_954], [], (199, [])), ((nat_lit 46), [lcn_898, lcn_167, lcn_444, lcn_408], [], [sl_943, sl_954], [], (198, [(0, -1)])), ((nat_lit 46), [lcn_898, lcn_167, lcn_589, lcn_408], [], [sl_895, sl_954], [], (189, [])), ((nat_lit 2), [lcn_898, lcn_976, lcn_589, lcn_408], [], [sl_895, sl_954], [], (188, [])), ((nat_lit 46), [lcn_898, lcn_976, lcn_444, lcn_408], [], [sl_943, sl_954], [], (187, [(0, -1)])), ((nat_lit 46), [lcn_898, lcn_976, lcn_589, lcn_408], [], [sl_895, sl_954], [], (178, [])), ((nat_lit 2), [lcn_898, lcn_977, lcn_589, lcn_408], [], [sl_895, sl_954], [], (177, [])), ((nat_lit 46), [lcn_898, lcn_977, lcn_444, lcn_408], [], [sl_943, sl_954], [], (176, [(0, -1)])), ((nat_lit 46), [lcn_898, lcn_977, lcn_589, lcn_408], [], [sl_895, sl_954], [], (167, [])), ((nat_lit 2), [lcn_898, lcn_978, lcn_589, lcn_408], [], [sl_895, sl_954], [], (166, [])), ((nat_lit 46), [lcn_898, lcn_978, lcn_444, lcn_408], [], [sl_943, sl_954], [], (165, [(0, -1)])), ((nat_lit 46), [lcn_898, lcn_978, lcn_589, lcn_408], [], [sl_895, sl_954], [], (156, [])), ((nat_lit 2), [lcn_898, lcn_979, lcn_589, lcn_408], [], [sl_895, sl_954], [], (155, [])), ((nat_lit 46), [lcn_898, lcn_979, lcn_589, lcn_101], [], [sl_895, sl_954], [], (154, [])), ((nat_lit 2), [lcn_898, lcn_980, lcn_589, lcn_408], [], [sl_895, sl_954], [], (230, [(0, -11)])), ((nat_lit 46), [lcn_898, lcn_981, lcn_444, lcn_408], [], [sl_895, sl_954], [], (229, [(0, -11), (1, -1)])), ((nat_lit 46), [lcn_898, lcn_981, lcn_589, lcn_408], [], [sl_895, sl_954], [], (220, [(0, -11)]))]) (fk := []) (rk := (222, [])) (sp := 70368744177668) (fuel := 3000) (by decide +kernel) lk_n odX12_find
def ag_1402 : aAg := .inl [((.negSucc (nat_lit 0)), (.ofNat (nat_lit 5)), (nat_lit 1)), ((.ofNat (nat_lit 7)), (.ofNat (nat_lit 19)), (nat_lit 1))]
def pon_1403 : aPo := (some (.inl [((.ofNat (nat_lit 1)), (.ofNat (nat_lit 1)), (nat_lit 1))]), [some [((.ofNat (nat_lit 0)), (.ofNat (nat_lit 5)), (nat_lit 1))], none, none], [], [])
def ct_865 : aCt := (mX12_in, [ag_1402, ag_170, ag_153], ([], []), [pon_996, pon_1403], mdn_872, [], (nat_lit 0))
set_option maxRecDepth 100000 in
theorem S_865 : aSpec wd ct_865 := bChk_ok wx_ok btX12_in (nds := []) (fk := []) (rk := (1, [])) (sp := 0) (fuel := 3000) (by decide +kernel) lk_n odX12_in
def pon_1404 : aPo := (some (.inl [((.ofNat (nat_lit 0)), (.ofNat (nat_lit 5)), (nat_lit 1))]), [], [sl_906], [])
def ct_866 : aCt := (mX12_named, [ag_861, ag_170, ag_153], ([sl_894, sl_895, sl_906, sl_954], []), [pon_928, pon_1404], mdn_914, [], (nat_lit 2))
set_option maxRecDepth 100000 in
theorem S_866 : aSpec wd ct_866 := bChk_ok wx_ok btX12_named (nds := []) (fk := []) (rk := (1, [])) (sp := 0) (fuel := 3000) (by decide +kernel) (lk_d S_562 ml_12_143 (lk_d S_864 ml_12_146 (lk_d S_865 ml_12_149 (lk_d S_572 ml_12_127 lk_n)))) odX12_named
def pon_1405 : aPo := (some (.inl [((.ofNat (nat_lit 0)), (.ofNat (nat_lit 5)), (nat_lit 1))]), [], [sl_908, sl_892, sl_906], [])
def pon_1406 : aPo := (some (.inl [((.ofNat (nat_lit 0)), (.ofNat (nat_lit 5)), (nat_lit 1))]), [], [sl_894, sl_895, sl_906], [])
def ct_867 : aCt := (mX12_islandPassed, [ag_861], ([sl_894, sl_895, sl_906, sl_954], []), [pon_999, pon_1405, pon_1406], mdn_918, [], (nat_lit 3))
set_option maxRecDepth 100000 in
theorem S_867 : aSpec wd ct_867 := bChk_ok wx_ok btX12_islandPassed (nds := []) (fk := []) (rk := (1, [])) (sp := 0) (fuel := 3000) (by decide +kernel) (lk_d S_X12_next_0 ml_12_121 (lk_d S_866 ml_12_153 lk_n)) odX12_islandPassed
def ct_868 : aCt := (mX12_named, [ag_861, ag_170, ag_153], ([sl_908, sl_892, sl_906, sl_954], []), [pon_928], mdn_914, [], (nat_lit 2))
set_option maxRecDepth 100000 in
theorem S_868 : aSpec wd ct_868 := bChk_ok wx_ok btX12_named (nds := []) (fk := []) (rk := (1, [])) (sp := 0) (fuel := 3000) (by decide +kernel) (lk_d S_568 ml_12_143 lk_n) odX12_named
def ct_869 : aCt := (mX12_islandPassed, [ag_861], ([sl_908, sl_892, sl_906, sl_954], []), [pon_928], mdn_914, [], (nat_lit 3))
set_option maxRecDepth 100000 in
theorem S_869 : aSpec wd ct_869 := bChk_ok wx_ok btX12_islandPassed (nds := []) (fk := []) (rk := (1, [])) (sp := 0) (fuel := 3000) (by decide +kernel) (lk_d S_868 ml_12_153 lk_n) odX12_islandPassed
def ct_870 : aCt := (mX12_named, [ag_861, ag_170, ag_153], ([sl_894, sl_895, sl_912, sl_954], []), [pon_37], mdn_872, [], (nat_lit 0))
set_option maxRecDepth 100000 in
theorem S_870 : aSpec wd ct_870 := bChk_ok wx_ok btX12_named (nds := []) (fk := []) (rk := (1, [])) (sp := 0) (fuel := 3000) (by decide +kernel) lk_n odX12_named
def ct_871 : aCt := (mX12_islandPassed, [ag_861], ([sl_894, sl_895, sl_912, sl_954], []), [pon_37], mdn_872, [], (nat_lit 1))
set_option maxRecDepth 100000 in
theorem S_871 : aSpec wd ct_871 := bChk_ok wx_ok btX12_islandPassed (nds := []) (fk := []) (rk := (1, [])) (sp := 0) (fuel := 3000) (by decide +kernel) (lk_d S_870 ml_12_153 lk_n) odX12_islandPassed
def ct_872 : aCt := (mX12_islandBehind, [ag_861, ag_905], ([sl_894, sl_895, sl_906, sl_954], []), [pon_934, pon_1405, pon_1406], mdn_918, [], (nat_lit 4))
set_option maxRecDepth 100000 in
theorem S_872 : aSpec wd ct_872 := bChk_ok wx_ok btX12_islandBehind (nds := []) (fk := []) (rk := (1, [])) (sp := 0) (fuel := 3000) (by decide +kernel) (lk_d S_867 ml_12_161 (lk_d S_871 ml_12_161 (lk_d S_869 ml_12_161 (lk_d S_461 ml_12_157 lk_n)))) odX12_islandBehind
def ct_873 : aCt := (mX12_named, [ag_861, ag_170, ag_153], ([sl_908, sl_892, sl_912, sl_954], []), [pon_37], mdn_872, [], (nat_lit 0))
set_option maxRecDepth 100000 in
theorem S_873 : aSpec wd ct_873 := bChk_ok wx_ok btX12_named (nds := []) (fk := []) (rk := (1, [])) (sp := 0) (fuel := 3000) (by decide +kernel) lk_n odX12_named
def ct_874 : aCt := (mX12_islandPassed, [ag_861], ([sl_908, sl_892, sl_912, sl_954], []), [pon_37], mdn_872, [], (nat_lit 1))
set_option maxRecDepth 100000 in
theorem S_874 : aSpec wd ct_874 := bChk_ok wx_ok btX12_islandPassed (nds := []) (fk := []) (rk := (1, [])) (sp := 0) (fuel := 3000) (by decide +kernel) (lk_d S_873 ml_12_153 lk_n) odX12_islandPassed
def ct_875 : aCt := (mX12_islandBehind, [ag_861, ag_905], ([sl_908, sl_892, sl_906, sl_954], []), [pon_928], mdn_914, [], (nat_lit 3))
set_option maxRecDepth 100000 in
theorem S_875 : aSpec wd ct_875 := bChk_ok wx_ok btX12_islandBehind (nds := []) (fk := []) (rk := (1, [])) (sp := 0) (fuel := 3000) (by decide +kernel) (lk_d S_874 ml_12_161 (lk_d S_484 ml_12_157 lk_n)) odX12_islandBehind
def ct_876 : aCt := (mX12_islandBehind, [ag_861, ag_905], ([sl_894, sl_895, sl_912, sl_954], []), [pon_37], mdn_872, [], (nat_lit 2))
set_option maxRecDepth 100000 in
theorem S_876 : aSpec wd ct_876 := bChk_ok wx_ok btX12_islandBehind (nds := []) (fk := []) (rk := (1, [])) (sp := 0) (fuel := 3000) (by decide +kernel) (lk_d S_871 ml_12_161 (lk_d S_639 ml_12_157 lk_n)) odX12_islandBehind
def ct_877 : aCt := (mX12_named, [ag_861, ag_170, ag_153], ([sl_926, sl_903, sl_912, sl_954], []), [pon_37], mdn_872, [], (nat_lit 0))
set_option maxRecDepth 100000 in
theorem S_877 : aSpec wd ct_877 := bChk_ok wx_ok btX12_named (nds := []) (fk := []) (rk := (1, [])) (sp := 0) (fuel := 3000) (by decide +kernel) lk_n odX12_named
def ct_878 : aCt := (mX12_islandPassed, [ag_861], ([sl_926, sl_903, sl_912, sl_954], []), [pon_37], mdn_872, [], (nat_lit 1))
set_option maxRecDepth 100000 in
theorem S_878 : aSpec wd ct_878 := bChk_ok wx_ok btX12_islandPassed (nds := []) (fk := []) (rk := (1, [])) (sp := 0) (fuel := 3000) (by decide +kernel) (lk_d S_877 ml_12_153 lk_n) odX12_islandPassed
def ct_879 : aCt := (mX12_islandBehind, [ag_861, ag_905], ([sl_926, sl_903, sl_912, sl_954], []), [pon_37], mdn_872, [], (nat_lit 2))
set_option maxRecDepth 100000 in
theorem S_879 : aSpec wd ct_879 := bChk_ok wx_ok btX12_islandBehind (nds := []) (fk := []) (rk := (1, [])) (sp := 0) (fuel := 3000) (by decide +kernel) (lk_d S_878 ml_12_161 (lk_d S_487 ml_12_157 lk_n)) odX12_islandBehind
def sl_1407 : (Nat × Nat) × aI := (((nat_lit 200), (nat_lit 155)), [((.ofNat (nat_lit 0)), (.ofNat (nat_lit 5)), (nat_lit 1))])
def sl_1408 : (Nat × Nat) × aI := (((nat_lit 200), (nat_lit 151)), [((.ofNat (nat_lit 0)), (.ofNat (nat_lit 5)), (nat_lit 1))])
def sl_1409 : (Nat × Nat) × aI := (((nat_lit 200), (nat_lit 147)), [((.ofNat (nat_lit 0)), (.ofNat (nat_lit 5)), (nat_lit 1))])
def sl_1410 : (Nat × Nat) × aI := (((nat_lit 200), (nat_lit 143)), [((.ofNat (nat_lit 0)), (.ofNat (nat_lit 5)), (nat_lit 1))])
def sl_1411 : (Nat × Nat) × aI := (((nat_lit 200), (nat_lit 139)), [((.ofNat (nat_lit 0)), (.ofNat (nat_lit 5)), (nat_lit 1))])
def sl_1412 : (Nat × Nat) × aI := (((nat_lit 200), (nat_lit 135)), [((.ofNat (nat_lit 0)), (.ofNat (nat_lit 5)), (nat_lit 1))])
def sl_1413 : (Nat × Nat) × aI := (((nat_lit 200), (nat_lit 131)), [((.ofNat (nat_lit 0)), (.ofNat (nat_lit 5)), (nat_lit 1))])
def sl_1414 : (Nat × Nat) × aI := (((nat_lit 200), (nat_lit 127)), [((.ofNat (nat_lit 0)), (.ofNat (nat_lit 5)), (nat_lit 1))])
def sl_1415 : (Nat × Nat) × aI := (((nat_lit 200), (nat_lit 156)), [((.ofNat (nat_lit 0)), (.ofNat (nat_lit 5)), (nat_lit 1))])
def sl_1416 : (Nat × Nat) × aI := (((nat_lit 200), (nat_lit 152)), [((.ofNat (nat_lit 0)), (.ofNat (nat_lit 5)), (nat_lit 1))])
def sl_1417 : (Nat × Nat) × aI := (((nat_lit 200), (nat_lit 148)), [((.ofNat (nat_lit 0)), (.ofNat (nat_lit 5)), (nat_lit 1))])
def sl_1418 : (Nat × Nat) × aI := (((nat_lit 200), (nat_lit 144)), [((.ofNat (nat_lit 0)), (.ofNat (nat_lit 5)), (nat_lit 1))])
def sl_1419 : (Nat × Nat) × aI := (((nat_lit 200), (nat_lit 140)), [((.ofNat (nat_lit 0)), (.ofNat (nat_lit 5)), (nat_lit 1))])
def sl_1420 : (Nat × Nat) × aI := (((nat_lit 200), (nat_lit 136)), [((.ofNat (nat_lit 0)), (.ofNat (nat_lit 5)), (nat_lit 1))])
def sl_1421 : (Nat × Nat) × aI := (((nat_lit 200), (nat_lit 132)), [((.ofNat (nat_lit 0)), (.ofNat (nat_lit 5)), (nat_lit 1))])
def sl_1422 : (Nat × Nat) × aI := (((nat_lit 200), (nat_lit 128)), [((.ofNat (nat_lit 0)), (.ofNat (nat_lit 5)), (nat_lit 1))])
def ct_880 : aCt := (mX12_boxLine, [ag_861], ([sl_894, sl_895, sl_906, sl_955, sl_1361, sl_1141, sl_957, sl_954], []), [pon_1235, pon_1237, pon_1238], mdn_1239, [], (nat_lit 5))
set_option maxRecDepth 100000 in
theorem S_880 : aSpec wd ct_880 := bChk_ok wx_ok btX12_boxLine (nds := [((nat_lit 47), [lcn_898, lcn_1144], [], [sl_894, sl_895, sl_906, sl_955, sl_1361, sl_1145, sl_957, sl_1407, sl_954], [], (4, [])), ((nat_lit 47), [lcn_898, lcn_1144], [], [sl_908, sl_892, sl_906, sl_955, sl_1361, sl_1145, sl_957, sl_1407, sl_954], [], (4, [])), ((nat_lit 47), [lcn_898, lcn_1144], [], [sl_926, sl_903, sl_912, sl_955, sl_1361, sl_1145, sl_957, sl_1146, sl_954], [], (4, [])), ((nat_lit 47), [lcn_898, lcn_1147], [], [sl_894, sl_895, sl_906, sl_955, sl_1361, sl_1148, sl_957, sl_1408, sl_954], [], (4, [])), ((nat_lit 47), [lcn_898, lcn_1147], [], [sl_908, sl_892, sl_906, sl_955, sl_1361, sl_1148, sl_957, sl_1408, sl_954], [], (4, [])), ((nat_lit 47), [lcn_898, lcn_1147], [], [sl_926, sl_903, sl_912, sl_955, sl_1361, sl_1148, sl_957, sl_1149, sl_954], [], (4, [])), ((nat_lit 47), [lcn_898, lcn_1150], [], [sl_894, sl_895, sl_906, sl_955, sl_1361, sl_1151, sl_957, sl_1409, sl_954], [], (4, [])), ((nat_lit 47), [lcn_898, lcn_1150], [], [sl_908, sl_892, sl_906, sl_955, sl_1361, sl_1151, sl_957, sl_1409, sl_954], [], (4, [])), ((nat_lit 47), [lcn_898, lcn_1150], [], [sl_926, sl_903, sl_912, sl_955, sl_1361, sl_1151, sl_957, sl_1152, sl_954], [], (4, [])), ((nat_lit 47), [lcn_898, lcn_1153], [], [sl_894, sl_895, sl_906, sl_955, sl_1361, sl_1154, sl_957, sl_1410, sl_954], [], (4, [])), ((nat_lit 47), [lcn_898, lcn_1153], [], [sl_908, sl_892, sl_906, sl_955, sl_1361, sl_1154, sl_957, sl_1410, sl_954], [], (4, [])), ((nat_lit 47), [lcn_898, lcn_1153], [], [sl_926, sl_903, sl_912, sl_955, sl_1361, sl_1154, sl_957, sl_1155, sl_954], [], (4, [])), ((nat_lit 47), [lcn_898, lcn_1156], [], [sl_894, sl_895, sl_906, sl_955, sl_1361, sl_1157, sl_957, sl_1411, sl_954], [], (4, [])), ((nat_lit 47), [lcn_898, lcn_1156], [], [sl_908, sl_892, sl_906, sl_955, sl_1361, sl_1157, sl_957, sl_1411, sl_954], [], (4, [])), ((nat_lit 47), [lcn_898, lcn_1156], [], [sl_926, sl_903, sl_912, sl_955, sl_1361, sl_1157, sl_957, sl_1158, sl_954], [], (4, [])), ((nat_lit 47), [lcn_898, lcn_1159], [], [sl_894, sl_895, sl_906, sl_955, sl_1361, sl_1160, sl_957, sl_1412, sl_954], [], (4, [])), ((nat_lit 47), [lcn_898, lcn_1159], [], [sl_908, sl_892, sl_906, sl_955, sl_1361, sl_1160, sl_957, sl_1412, sl_954], [], (4, [])), ((nat_lit 47), [lcn_898, lcn_1159], [], [sl_926, sl_903, sl_912, sl_955, sl_1361, sl_1160, sl_957, sl_1161, sl_954], [], (4, [])), ((nat_lit 47), [lcn_898, lcn_1162], [], [sl_894, sl_895, sl_906, sl_955, sl_1361, sl_1163, sl_957, sl_1413, sl_954], [], (4, [])), ((nat_lit 47), [lcn_898, lcn_1162], [], [sl_908, sl_892, sl_906, sl_955, sl_1361, sl_1163, sl_957, sl_1413, sl_954], [], (4, [])), ((nat_lit 47), [lcn_898, lcn_1162], [], [sl_926, sl_903, sl_912, sl_955, sl_1361, sl_1163, sl_957, sl_1164, sl_954], [], (4, [])), ((nat_lit 47), [lcn_898, lcn_1165], [], [sl_894, sl_895, sl_906, sl_955, sl_1361, sl_946, sl_957, sl_1414, sl_954], [], (4, [])), ((nat_lit 47), [lcn_898, lcn_1165], [], [sl_908, sl_892, sl_906, sl_955, sl_1361, sl_946, sl_957, sl_1414, sl_954], [], (4, [])), ((nat_lit 47), [lcn_898, lcn_1165], [], [sl_926, sl_903, sl_912, sl_955, sl_1361, sl_946, sl_957, sl_1166, sl_954], [], (4, [])), ((nat_lit 62), [lcn_898, lcn_1144], [], [sl_894, sl_895, sl_906, sl_955, sl_1361, sl_1145, sl_957, sl_1407, sl_1415, sl_954], [], (3, [])), ((nat_lit 62), [lcn_898, lcn_1144], [], [sl_908, sl_892, sl_906, sl_955, sl_1361, sl_1145, sl_957, sl_1407, sl_1415, sl_954], [], (3, [])), ((nat_lit 62), [lcn_898, lcn_1144], [], [sl_926, sl_903, sl_912, sl_955, sl_1361, sl_1145, sl_957, sl_1407, sl_1167, sl_954], [], (3, [])), ((nat_lit 62), [lcn_898, lcn_1147], [], [sl_894, sl_895, sl_906, sl_955, sl_1361, sl_1148, sl_957, sl_1408, sl_1416, sl_954], [], (3, [])), ((nat_lit 62), [lcn_898, lcn_1147], [], [sl_908, sl_892, sl_906, sl_955, sl_1361, sl_1148, sl_957, sl_1408, sl_1416, sl_954], [], (3, [])), ((nat_lit 62), [lcn_898, lcn_1147], [], [sl_926, sl_903, sl_912, sl_955, sl_1361, sl_1148, sl_957, sl_1408, sl_1168, sl_954], [], (3, [])), ((nat_lit 62), [lcn_898, lcn_1150], [], [sl_894, sl_895, sl_906, sl_955, sl_1361, sl_1151, sl_957, sl_1409, sl_1417, sl_954], [], (3, [])), ((nat_lit 62), [lcn_898, lcn_1150], [], [sl_908, sl_892, sl_906, sl_955, sl_1361, sl_1151, sl_957, sl_1409, sl_1417, sl_954], [], (3, [])), ((nat_lit 62), [lcn_898, lcn_1150], [], [sl_926, sl_903, sl_912, sl_955, sl_1361, sl_1151, sl_957, sl_1409, sl_1169, sl_954], [], (3, [])), ((nat_lit 62), [lcn_898, lcn_1153], [], [sl_894, sl_895, sl_906, sl_955, sl_1361, sl_1154, sl_957, sl_1410, sl_1418, sl_954], [], (3, [])), ((nat_lit 62), [lcn_898, lcn_1153], [], [sl_908, sl_892, sl_906, sl_955, sl_1361, sl_1154, sl_957, sl_1410, sl_1418, sl_954], [], (3, [])), ((nat_lit 62), [lcn_898, lcn_1153], [], [sl_926, sl_903, sl_912, sl_955, sl_1361, sl_1154, sl_957, sl_1410, sl_1170, sl_954], [], (3, [])), ((nat_lit 62), [lcn_898, lcn_1156], [], [sl_894, sl_895, sl_906, sl_955, sl_1361, sl_1157, sl_957, sl_1411, sl_1419, sl_954], [], (3, [])), ((nat_lit 62), [lcn_898, lcn_1156], [], [sl_908, sl_892, sl_906, sl_955, sl_1361, sl_1157, sl_957, sl_1411, sl_1419, sl_954], [], (3, [])), ((nat_lit 62), [lcn_898, lcn_1156], [], [sl_926, sl_903, sl_912, sl_955, sl_1361, sl_1157, sl_957, sl_1411, sl_1171, sl_954], [], (3, [])), ((nat_lit 62), [lcn_898, lcn_1159], [], [sl_894, sl_895, sl_906, sl_955, sl_1361, sl_1160, sl_957, sl_1412, sl_1420, sl_954], [], (3, [])), ((nat_lit 62), [lcn_898, lcn_1159], [], [sl_908, sl_892, sl_906, sl_955, sl_1361, sl_1160, sl_957, sl_1412, sl_1420, sl_954], [], (3, [])), ((nat_lit 62), [lcn_898, lcn_1159], [], [sl_926, sl_903, sl_912, sl_955, sl_1361, sl_1160, sl_957, sl_1412, sl_1172, sl_954], [], (3, [])), ((nat_lit 62), [lcn_898, lcn_1162], [], [sl_894, sl_895, sl_906, sl_955, sl_1361, sl_1163, sl_957, sl_1413, sl_1421, sl_954], [], (3, [])), ((nat_lit 62), [lcn_898, lcn_1162], [], [sl_908, sl_892, sl_906, sl_955, sl_1361, sl_1163, sl_957, sl_1413, sl_1421, sl_954], [], (3, [])), ((nat_lit 62), [lcn_898, lcn_1162], [], [sl_926, sl_903, sl_912, sl_955, sl_1361, sl_1163, sl_957, sl_1413, sl_1173, sl_954], [], (3, [])), ((nat_lit 62), [lcn_898, lcn_1165], [], [sl_894, sl_895, sl_906, sl_955, sl_1361, sl_946, sl_957, sl_1414, sl_1422, sl_954], [], (3, [])), ((nat_lit 62), [lcn_898, lcn_1165], [], [sl_908, sl_892, sl_906, sl_955, sl_1361, sl_946, sl_957, sl_1414, sl_1422, sl_954], [], (3, [])), ((nat_lit 62), [lcn_898, lcn_1165], [], [sl_926, sl_903, sl_912, sl_955, sl_1361, sl_946, sl_957, sl_1414, sl_1174, sl_954], [], (3, [])), ((nat_lit 80), [lcn_898, lcn_1144], [], [sl_894, sl_895, sl_906, sl_955, sl_1361, sl_1145, sl_957, sl_1407, sl_1415, sl_1240, sl_954], [], (2, [])), ((nat_lit 80), [lcn_898, lcn_1144], [], [sl_908, sl_892, sl_906, sl_955, sl_1361, sl_1145, sl_957, sl_1407, sl_1415, sl_1240, sl_954], [], (2, [])), ((nat_lit 80), [lcn_898, lcn_1144], [], [sl_926, sl_903, sl_912, sl_955, sl_1361, sl_1145, sl_957, sl_1407, sl_1415, sl_1175, sl_954], [], (2, [])), ((nat_lit 80), [lcn_898, lcn_1147], [], [sl_894, sl_895, sl_906, sl_955, sl_1361, sl_1148, sl_957, sl_1408, sl_1416, sl_1241, sl_954], [], (2, [])), ((nat_lit 80), [lcn_898, lcn_1147], [], [sl_908, sl_892, sl_906, sl_955, sl_1361, sl_1148, sl_957, sl_1408, sl_1416, sl_1241, sl_954], [], (2, [])), ((nat_lit 80), [lcn_898, lcn_1147], [], [sl_926, sl_903, sl_912, sl_955, sl_1361, sl_1148, sl_957, sl_1408, sl_1416, sl_1176, sl_954], [], (2, [])), ((nat_lit 80), [lcn_898, lcn_1150], [], [sl_894, sl_895, sl_906, sl_955, sl_1361, sl_1151, sl_957, sl_1409, sl_1417, sl_1242, sl_954], [], (2, [])), ((nat_lit 80), [lcn_898, lcn_1150], [], [sl_908, sl_892, sl_906, sl_955, sl_1361, sl_1151, sl_957, sl_1409, sl_1417, sl_1242, sl_954], [], (2, [])), ((nat_lit 80), [lcn_898, lcn_1150], [], [sl_926, sl_903, sl_912, sl_955, sl_1361, sl_1151, sl_957, sl_1409, sl_1417, sl_1177, sl_954], [], (2, [])), ((nat_lit 80), [lcn_898, lcn_1153], [], [sl_894, sl_895, sl_906, sl_955, sl_1361, sl_1154, sl_957, sl_1410, sl_1418, sl_1243, sl_954], [], (2, [])), ((nat_lit 80), [lcn_898, lcn_1153], [], [sl_908, sl_892, sl_906, sl_955, sl_1361, sl_1154, sl_957, sl_1410, sl_1418, sl_1243, sl_954], [], (2, [])), ((nat_lit 80), [lcn_898, lcn_1153], [], [sl_926, sl_903, sl_912, sl_955, sl_1361, sl_1154, sl_957, sl_1410, sl_1418, sl_1178, sl_954], [], (2, [])), ((nat_lit 80), [lcn_898, lcn_1156], [], [sl_894, sl_895, sl_906, sl_955, sl_1361, sl_1157, sl_957, sl_1411, sl_1419, sl_1244, sl_954], [], (2, [])), ((nat_lit 80), [lcn_898, lcn_1156], [], [sl_908, sl_892, sl_906, sl_955, sl_1361, sl_1157, sl_957, sl_1411, sl_1419, sl_1244, sl_954], [], (2, [])), ((nat_lit 80), [lcn_898, lcn_1156], [], [sl_926, sl_903, sl_912, sl_955, sl_1361, sl_1157, sl_957, sl_1411, sl_1419, sl_1179, sl_954], [], (2, [])), ((nat_lit 80), [lcn_898, lcn_1159], [], [sl_894, sl_895, sl_906, sl_955, sl_1361, sl_1160, sl_957, sl_1412, sl_1420, sl_1245, sl_954], [], (2, [])), ((nat_lit 80), [lcn_898, lcn_1159], [], [sl_908, sl_892, sl_906, sl_955, sl_1361, sl_1160, sl_957, sl_1412, sl_1420, sl_1245, sl_954], [], (2, [])), ((nat_lit 80), [lcn_898, lcn_1159], [], [sl_926, sl_903, sl_912, sl_955, sl_1361, sl_1160, sl_957, sl_1412, sl_1420, sl_1180, sl_954], [], (2, [])), ((nat_lit 80), [lcn_898, lcn_1162], [], [sl_894, sl_895, sl_906, sl_955, sl_1361, sl_1163, sl_957, sl_1413, sl_1421, sl_1246, sl_954], [], (2, [])), ((nat_lit 80), [lcn_898, lcn_1162], [], [sl_908, sl_892, sl_906, sl_955, sl_1361, sl_1163, sl_957, sl_1413, sl_1421, sl_1246, sl_954], [], (2, [])), ((nat_lit 80), [lcn_898, lcn_1162], [], [sl_926, sl_903, sl_912, sl_955, sl_1361, sl_1163, sl_957, sl_1413, sl_1421, sl_1181, sl_954], [], (2, [])), ((nat_lit 80), [lcn_898, lcn_1165], [], [sl_894, sl_895, sl_906, sl_955, sl_1361, sl_946, sl_957, sl_1414, sl_1422, sl_1247, sl_954], [], (2, [])), ((nat_lit 80), [lcn_898, lcn_1165], [], [sl_908, sl_892, sl_906, sl_955, sl_1361, sl_946, sl_957, sl_1414, sl_1422, sl_1247, sl_954], [], (2, [])), ((nat_lit 80), [lcn_898, lcn_1165], [], [sl_926, sl_903, sl_912, sl_955, sl_1361, sl_946, sl_957, sl_1414, sl_1422, sl_1182, sl_954], [], (2, [])), ((nat_lit 99), [lcn_898, lcn_1144], [], [sl_894, sl_895, sl_906, sl_955, sl_1361, sl_1145, sl_957, sl_1407, sl_1415, sl_1240, sl_1248, sl_954], [], (1, [])), ((nat_lit 99), [lcn_898, lcn_1144], [], [sl_908, sl_892, sl_906, sl_955, sl_1361, sl_1145, sl_957, sl_1407, sl_1415, sl_1240, sl_1248, sl_954], [], (1, [])), ((nat_lit 99), [lcn_898, lcn_1144], [], [sl_926, sl_903, sl_912, sl_955, sl_1361, sl_1145, sl_957, sl_1407, sl_1415, sl_1240, sl_1183, sl_954], [], (1, [])), ((nat_lit 99), [lcn_898, lcn_1147], [], [sl_894, sl_895, sl_906, sl_955, sl_1361, sl_1148, sl_957, sl_1408, sl_1416, sl_1241, sl_1249, sl_954], [], (1, [])), ((nat_lit 99), [lcn_898, lcn_1147], [], [sl_908, sl_892, sl_906, sl_955, sl_1361, sl_1148, sl_957, sl_1408, sl_1416, sl_1241, sl_1249, sl_954], [], (1, [])), ((nat_lit 99), [lcn_898, lcn_1147], [], [sl_926, sl_903, sl_912, sl_955, sl_1361, sl_1148, sl_957, sl_1408, sl_1416, sl_1241, sl_1184, sl_954], [], (1, [])), ((nat_lit 99), [lcn_898, lcn_1150], [], [sl_894, sl_895, sl_906, sl_955, sl_1361, sl_1151, sl_957, sl_1409, sl_1417, sl_1242, sl_1250, sl_954], [], (1, [])), ((nat_lit 99), [lcn_898, lcn_1150], [], [sl_908, sl_892, sl_906, sl_955, sl_1361, sl_1151, sl_957, sl_1409, sl_1417, sl_1242, sl_1250, sl_954], [], (1, [])), ((nat_lit 99), [lcn_898, lcn_1150], [], [sl_926, sl_903, sl_912, sl_955, sl_1361, sl_1151, sl_957, sl_1409, sl_1417, sl_1242, sl_1185, sl_954], [], (1, [])), ((nat_lit 99), [lcn_898, lcn_1153], [], [sl_894, sl_895, sl_906, sl_955, sl_1361, sl_1154, sl_957, sl_1410, sl_1418, sl_1243, sl_1251, sl_954], [], (1, [])), ((nat_lit 99), [lcn_898, lcn_1153], [], [sl_908, sl_892, sl_906, sl_955, sl_1361, sl_1154, sl_957, sl_1410, sl_1418, sl_1243, sl_1251, sl_954], [], (1, [])), ((nat_lit 99), [lcn_898, lcn_1153], [], [sl_926, sl_903, sl_912, sl_955, sl_1361, sl_1154, sl_957, sl_1410, sl_1418, sl_1243, sl_1186, sl_954], [], (1, [])), ((nat_lit 99), [lcn_898, lcn_1156], [], [sl_894, sl_895, sl_906, sl_955, sl_1361, sl_1157, sl_957, sl_1411, sl_1419, sl_1244, sl_1252, sl_954], [], (1, [])), ((nat_lit 99), [lcn_898, lcn_1156], [], [sl_908, sl_892, sl_906, sl_955, sl_1361, sl_1157, sl_957, sl_1411, sl_1419, sl_1244, sl_1252, sl_954], [], (1, [])), ((nat_lit 99), [lcn_898, lcn_1156], [], [sl_926, sl_903, sl_912, sl_955, sl_1361, sl_1157, sl_957, sl_1411, sl_1419, sl_1244, sl_1187, sl_954], [], (1, [])), ((nat_lit 99), [lcn_898, lcn_1159], [], [sl_894, sl_895, sl_906, sl_955, sl_1361, sl_1160, sl_957, sl_1412, sl_1420, sl_1245, sl_1253, sl_954], [], (1, [])), ((nat_lit 99), [lcn_898, lcn_1159], [], [sl_908, sl_892, sl_906, sl_955, sl_1361, sl_1160, sl_957, sl_1412, sl_1420, sl_1245, sl_1253, sl_954], [], (1, [])), ((nat_lit 99), [lcn_898, lcn_1159], [], [sl_926, sl_903, sl_912, sl_955, sl_1361, sl_1160, sl_957, sl_1412, sl_1420, sl_1245, sl_1188, sl_954], [], (1, [])), ((nat_lit 99), [lcn_898, lcn_1162], [], [sl_894, sl_895, sl_906, sl_955, sl_1361, sl_1163, sl_957, sl_1413, sl_1421, sl_1246, sl_1254, sl_954], [], (1, [])), ((nat_lit 99), [lcn_898, lcn_1162], [], [sl_908, sl_892, sl_906, sl_955, sl_1361, sl_1163, sl_957, sl_1413, sl_1421, sl_1246, sl_1254, sl_954], [], (1, [])), ((nat_lit 99), [lcn_898, lcn_1162], [], [sl_926, sl_903, sl_912, sl_955, sl_1361, sl_1163, sl_957, sl_1413, sl_1421, sl_1246, sl_1189, sl_954], [], (1, [])), ((nat_lit 99), [lcn_898, lcn_1165], [], [sl_894, sl_895, sl_906, sl_955, sl_1361, sl_946, sl_957, sl_1414, sl_1422, sl_1247, sl_1255, sl_954], [], (1, [])), ((nat_lit 99), [lcn_898, lcn_1165], [], [sl_908, sl_892, sl_906, sl_955, sl_1361, sl_946, sl_957, sl_1414, sl_1422, sl_1247, sl_1255, sl_954], [], (1, [])), ((nat_lit 99), [lcn_898, lcn_1165], [], [sl_926, sl_903, sl_912, sl_955, sl_1361, sl_946, sl_957, sl_1414, sl_1422, sl_1247, sl_1190, sl_954], [], (1, [])), ((nat_lit 117), [lcn_898, lcn_1144], [], [sl_894, sl_895, sl_906, sl_955, sl_1361, sl_1211, sl_957, sl_1407, sl_1415, sl_1240, sl_1248, sl_954], [], (0, [])), ((nat_lit 117), [lcn_898, lcn_1144], [], [sl_908, sl_892, sl_906, sl_955, sl_1361, sl_1211, sl_957, sl_1407, sl_1415, sl_1240, sl_1248, sl_954], [], (0, [])), ((nat_lit 117), [lcn_898, lcn_1144], [], [sl_926, sl_903, sl_912, sl_955, sl_1361, sl_1145, sl_957, sl_1407, sl_1415, sl_1240, sl_1183, sl_954], [], (0, [])), ((nat_lit 117), [lcn_898, lcn_1147], [], [sl_894, sl_895, sl_906, sl_955, sl_1361, sl_1145, sl_957, sl_1408, sl_1416, sl_1241, sl_1249, sl_954], [], (0, [])), ((nat_lit 117), [lcn_898, lcn_1147], [], [sl_908, sl_892, sl_906, sl_955, sl_1361, sl_1145, sl_957, sl_1408, sl_1416, sl_1241, sl_1249, sl_954], [], (0, [])), ((nat_lit 117), [lcn_898, lcn_1147], [], [sl_926, sl_903, sl_912, sl_955, sl_1361, sl_1148, sl_957, sl_1408, sl_1416, sl_1241, sl_1184, sl_954], [], (0, [])), ((nat_lit 117), [lcn_898, lcn_1150], [], [sl_894, sl_895, sl_906, sl_955, sl_1361, sl_1148, sl_957, sl_1409, sl_1417, sl_1242, sl_1250, sl_954], [], (0, [])), ((nat_lit 117), [lcn_898, lcn_1150], [], [sl_908, sl_892, sl_906, sl_955, sl_1361, sl_1148, sl_957, sl_1409, sl_1417, sl_1242, sl_1250, sl_954], [], (0, [])), ((nat_lit 117), [lcn_898, lcn_1150], [], [sl_926, sl_903, sl_912, sl_955, sl_1361, sl_1151, sl_957, sl_1409, sl_1417, sl_1242, sl_1185, sl_954], [], (0, [])), ((nat_lit 117), [lcn_898, lcn_1153], [], [sl_894, sl_895, sl_906, sl_955, sl_1361, sl_1151, sl_957, sl_1410, sl_1418, sl_1243, sl_1251, sl_954], [], (0, [])), ((nat_lit 117), [lcn_898, lcn_1153], [], [sl_908, sl_892, sl_906, sl_955, sl_1361, sl_1151, sl_957, sl_1410, sl_1418, sl_1243, sl_1251, sl_954], [], (0, [])), ((nat_lit 117), [lcn_898, lcn_1153], [], [sl_926, sl_903, sl_912, sl_955, sl_1361, sl_1154, sl_957, sl_1410, sl_1418, sl_1243, sl_1186, sl_954], [], (0, [])), ((nat_lit 117), [lcn_898, lcn_1156], [], [sl_894, sl_895, sl_906, sl_955, sl_1361, sl_1154, sl_957, sl_1411, sl_1419, sl_1244, sl_1252, sl_954], [], (0, [])), ((nat_lit 117), [lcn_898, lcn_1156], [], [sl_908, sl_892, sl_906, sl_955, sl_1361, sl_1154, sl_957, sl_1411, sl_1419, sl_1244, sl_1252, sl_954], [], (0, [])), ((nat_lit 117), [lcn_898, lcn_1156], [], [sl_926, sl_903, sl_912, sl_955, sl_1361, sl_1157, sl_957, sl_1411, sl_1419, sl_1244, sl_1187, sl_954], [], (0, [])), ((nat_lit 117), [lcn_898, lcn_1159], [], [sl_894, sl_895, sl_906, sl_955, sl_1361, sl_1157, sl_957, sl_1412, sl_1420, sl_1245, sl_1253, sl_954], [], (0, [])), ((nat_lit 117), [lcn_898, lcn_1159], [], [sl_908, sl_892, sl_906, sl_955, sl_1361, sl_1157, sl_957, sl_1412, sl_1420, sl_1245, sl_1253, sl_954], [], (0, [])), ((nat_lit 117), [lcn_898, lcn_1159], [], [sl_926, sl_903, sl_912, sl_955, sl_1361, sl_1160, sl_957, sl_1412, sl_1420, sl_1245, sl_1188, sl_954], [], (0, [])), ((nat_lit 117), [lcn_898, lcn_1162], [], [sl_894, sl_895, sl_906, sl_955, sl_1361, sl_1160, sl_957, sl_1413, sl_1421, sl_1246, sl_1254, sl_954], [], (0, [])), ((nat_lit 117), [lcn_898, lcn_1162], [], [sl_908, sl_892, sl_906, sl_955, sl_1361, sl_1160, sl_957, sl_1413, sl_1421, sl_1246, sl_1254, sl_954], [], (0, [])), ((nat_lit 117), [lcn_898, lcn_1162], [], [sl_926, sl_903, sl_912, sl_955, sl_1361, sl_1163, sl_957, sl_1413, sl_1421, sl_1246, sl_1189, sl_954], [], (0, [])), ((nat_lit 117), [lcn_898, lcn_1165], [], [sl_894, sl_895, sl_906, sl_955, sl_1361, sl_1163, sl_957, sl_1414, sl_1422, sl_1247, sl_1255, sl_954], [], (0, [])), ((nat_lit 117), [lcn_898, lcn_1165], [], [sl_908, sl_892, sl_906, sl_955, sl_1361, sl_1163, sl_957, sl_1414, sl_1422, sl_1247, sl_1255, sl_954], [], (0, [])), ((nat_lit 117), [lcn_898, lcn_1165], [], [sl_926, sl_903, sl_912, sl_955, sl_1361, sl_946, sl_957, sl_1414, sl_1422, sl_1247, sl_1190, sl_954], [], (0, []))]) (fk := [18]) (rk := (5, [])) (sp := 166154133299623528659118015977095168) (fuel := 3000) (by decide +kernel) (lk_d S_626 ml_12_223 (lk_d S_641 ml_12_223 (lk_d S_642 ml_12_223 (lk_d S_643 ml_12_223 (lk_d S_644 ml_12_223 (lk_d S_645 ml_12_223 (lk_d S_646 ml_12_223 (lk_d S_647 ml_12_223 (lk_d S_872 ml_12_246 (lk_d S_876 ml_12_246 (lk_d S_875 ml_12_246 (lk_d S_879 ml_12_246 (lk_d S_592 ml_12_213 (lk_d S_728 ml_12_213 (lk_d S_594 ml_12_213 (lk_d S_729 ml_12_213 (lk_d S_652 ml_12_213 (lk_d S_654 ml_12_213 lk_n)))))))))))))))))) odX12_boxLine
def ct_881 : aCt := (mX12_islandBehind, [ag_861, ag_905], ([sl_908, sl_892, sl_912, sl_954], []), [pon_37], mdn_872, [], (nat_lit 2))
set_option maxRecDepth 100000 in
theorem S_881 : aSpec wd ct_881 := bChk_ok wx_ok btX12_islandBehind (nds := []) (fk := []) (rk := (1, [])) (sp := 0) (fuel := 3000) (by decide +kernel) (lk_d S_874 ml_12_161 (lk_d S_492 ml_12_157 lk_n)) odX12_islandBehind
def ct_882 : aCt := (mX12_boxLine, [ag_861], ([sl_908, sl_892, sl_906, sl_955, sl_1361, sl_1141, sl_957, sl_954], []), [pon_913], mdn_1191, [], (nat_lit 3))
set_option maxRecDepth 100000 in
theorem S_882 : aSpec wd ct_882 := bChk_ok wx_ok btX12_boxLine (nds := [((nat_lit 47), [lcn_898, lcn_1144], [], [sl_908, sl_892, sl_912, sl_955, sl_1361, sl_1145, sl_957, sl_1146, sl_954], [], (4, [])), ((nat_lit 47), [lcn_898, lcn_1147], [], [sl_908, sl_892, sl_912, sl_955, sl_1361, sl_1148, sl_957, sl_1149, sl_954], [], (4, [])), ((nat_lit 47), [lcn_898, lcn_1150], [], [sl_908, sl_892, sl_912, sl_955, sl_1361, sl_1151, sl_957, sl_1152, sl_954], [], (4, [])), ((nat_lit 47), [lcn_898, lcn_1153], [], [sl_908, sl_892, sl_912, sl_955, sl_1361, sl_1154, sl_957, sl_1155, sl_954], [], (4, [])), ((nat_lit 47), [lcn_898, lcn_1156], [], [sl_908, sl_892, sl_912, sl_955, sl_1361, sl_1157, sl_957, sl_1158, sl_954], [], (4, [])), ((nat_lit 47), [lcn_898, lcn_1159], [], [sl_908, sl_892, sl_912, sl_955, sl_1361, sl_1160, sl_957, sl_1161, sl_954], [], (4, [])), ((nat_lit 47), [lcn_898, lcn_1162], [], [sl_908, sl_892, sl_912, sl_955, sl_1361, sl_1163, sl_957, sl_1164, sl_954], [], (4, [])), ((nat_lit 47), [lcn_898, lcn_1165], [], [sl_908, sl_892, sl_912, sl_955, sl_1361, sl_946, sl_957, sl_1166, sl_954], [], (4, [])), ((nat_lit 62), [lcn_898, lcn_1144], [], [sl_908, sl_892, sl_912, sl_955, sl_1361, sl_1145, sl_957, sl_1146, sl_1167, sl_954], [], (3, [])), ((nat_lit 62), [lcn_898, lcn_1147], [], [sl_908, sl_892, sl_912, sl_955, sl_1361, sl_1148, sl_957, sl_1149, sl_1168, sl_954], [], (3, [])), ((nat_lit 62), [lcn_898, lcn_1150], [], [sl_908, sl_892, sl_912, sl_955, sl_1361, sl_1151, sl_957, sl_1152, sl_1169, sl_954], [], (3, [])), ((nat_lit 62), [lcn_898, lcn_1153], [], [sl_908, sl_892, sl_912, sl_955, sl_1361, sl_1154, sl_957, sl_1155, sl_1170, sl_954], [], (3, [])), ((nat_lit 62), [lcn_898, lcn_1156], [], [sl_908, sl_892, sl_912, sl_955, sl_1361, sl_1157, sl_957, sl_1158, sl_1171, sl_954], [], (3, [])), ((nat_lit 62), [lcn_898, lcn_1159], [], [sl_908, sl_892, sl_912, sl_955, sl_1361, sl_1160, sl_957, sl_1161, sl_1172, sl_954], [], (3, [])), ((nat_lit 62), [lcn_898, lcn_1162], [], [sl_908, sl_892, sl_912, sl_955, sl_1361, sl_1163, sl_957, sl_1164, sl_1173, sl_954], [], (3, [])), ((nat_lit 62), [lcn_898, lcn_1165], [], [sl_908, sl_892, sl_912, sl_955, sl_1361, sl_946, sl_957, sl_1166, sl_1174, sl_954], [], (3, [])), ((nat_lit 80), [lcn_898, lcn_1144], [], [sl_908, sl_892, sl_912, sl_955, sl_1361, sl_1145, sl_957, sl_1146, sl_1167, sl_1175, sl_954], [], (2, [])), ((nat_lit 80), [lcn_898, lcn_1147], [], [sl_908, sl_892, sl_912, sl_955, sl_1361, sl_1148, sl_957, sl_1149, sl_1168, sl_1176, sl_954], [], (2, [])), ((nat_lit 80), [lcn_898, lcn_1150], [], [sl_908, sl_892, sl_912, sl_955, sl_1361, sl_1151, sl_957, sl_1152, sl_1169, sl_1177, sl_954], [], (2, [])), ((nat_lit 80), [lcn_898, lcn_1153], [], [sl_908, sl_892, sl_912, sl_955, sl_1361, sl_1154, sl_957, sl_1155, sl_1170, sl_1178, sl_954], [], (2, [])), ((nat_lit 80), [lcn_898, lcn_1156], [], [sl_908, sl_892, sl_912, sl_955, sl_1361, sl_1157, sl_957, sl_1158, sl_1171, sl_1179, sl_954], [], (2, [])), ((nat_lit 80), [lcn_898, lcn_1159], [], [sl_908, sl_892, sl_912, sl_955, sl_1361, sl_1160, sl_957, sl_1161, sl_1172, sl_1180, sl_954], [], (2, [])), ((nat_lit 80), [lcn_898, lcn_1162], [], [sl_908, sl_892, sl_912, sl_955, sl_1361, sl_1163, sl_957, sl_1164, sl_1173, sl_1181, sl_954], [], (2, [])), ((nat_lit 80), [lcn_898, lcn_1165], [], [sl_908, sl_892, sl_912, sl_955, sl_1361, sl_946, sl_957, sl_1166, sl_1174, sl_1182, sl_954], [], (2, [])), ((nat_lit 99), [lcn_898, lcn_1144], [], [sl_908, sl_892, sl_912, sl_955, sl_1361, sl_1145, sl_957, sl_1146, sl_1167, sl_1175, sl_1183, sl_954], [], (1, [])), ((nat_lit 99), [lcn_898, lcn_1147], [], [sl_908, sl_892, sl_912, sl_955, sl_1361, sl_1148, sl_957, sl_1149, sl_1168, sl_1176, sl_1184, sl_954], [], (1, [])), ((nat_lit 99), [lcn_898, lcn_1150], [], [sl_908, sl_892, sl_912, sl_955, sl_1361, sl_1151, sl_957, sl_1152, sl_1169, sl_1177, sl_1185, sl_954], [], (1, [])), ((nat_lit 99), [lcn_898, lcn_1153], [], [sl_908, sl_892, sl_912, sl_955, sl_1361, sl_1154, sl_957, sl_1155, sl_1170, sl_1178, sl_1186, sl_954], [], (1, [])), ((nat_lit 99), [lcn_898, lcn_1156], [], [sl_908, sl_892, sl_912, sl_955, sl_1361, sl_1157, sl_957, sl_1158, sl_1171, sl_1179, sl_1187, sl_954], [], (1, [])), ((nat_lit 99), [lcn_898, lcn_1159], [], [sl_908, sl_892, sl_912, sl_955, sl_1361, sl_1160, sl_957, sl_1161, sl_1172, sl_1180, sl_1188, sl_954], [], (1, [])), ((nat_lit 99), [lcn_898, lcn_1162], [], [sl_908, sl_892, sl_912, sl_955, sl_1361, sl_1163, sl_957, sl_1164, sl_1173, sl_1181, sl_1189, sl_954], [], (1, [])), ((nat_lit 99), [lcn_898, lcn_1165], [], [sl_908, sl_892, sl_912, sl_955, sl_1361, sl_946, sl_957, sl_1166, sl_1174, sl_1182, sl_1190, sl_954], [], (1, [])), ((nat_lit 117), [lcn_898, lcn_1144], [], [sl_908, sl_892, sl_912, sl_955, sl_1361, sl_1145, sl_957, sl_1146, sl_1167, sl_1175, sl_1183, sl_954], [], (0, [])), ((nat_lit 117), [lcn_898, lcn_1147], [], [sl_908, sl_892, sl_912, sl_955, sl_1361, sl_1148, sl_957, sl_1149, sl_1168, sl_1176, sl_1184, sl_954], [], (0, [])), ((nat_lit 117), [lcn_898, lcn_1150], [], [sl_908, sl_892, sl_912, sl_955, sl_1361, sl_1151, sl_957, sl_1152, sl_1169, sl_1177, sl_1185, sl_954], [], (0, [])), ((nat_lit 117), [lcn_898, lcn_1153], [], [sl_908, sl_892, sl_912, sl_955, sl_1361, sl_1154, sl_957, sl_1155, sl_1170, sl_1178, sl_1186, sl_954], [], (0, [])), ((nat_lit 117), [lcn_898, lcn_1156], [], [sl_908, sl_892, sl_912, sl_955, sl_1361, sl_1157, sl_957, sl_1158, sl_1171, sl_1179, sl_1187, sl_954], [], (0, [])), ((nat_lit 117), [lcn_898, lcn_1159], [], [sl_908, sl_892, sl_912, sl_955, sl_1361, sl_1160, sl_957, sl_1161, sl_1172, sl_1180, sl_1188, sl_954], [], (0, [])), ((nat_lit 117), [lcn_898, lcn_1162], [], [sl_908, sl_892, sl_912, sl_955, sl_1361, sl_1163, sl_957, sl_1164, sl_1173, sl_1181, sl_1189, sl_954], [], (0, [])), ((nat_lit 117), [lcn_898, lcn_1165], [], [sl_908, sl_892, sl_912, sl_955, sl_1361, sl_946, sl_957, sl_1166, sl_1174, sl_1182, sl_1190, sl_954], [], (0, []))]) (fk := [18]) (rk := (5, [])) (sp := 166154133299623528659118015977095168) (fuel := 3000) (by decide +kernel) (lk_d S_656 ml_12_223 (lk_d S_658 ml_12_223 (lk_d S_659 ml_12_223 (lk_d S_660 ml_12_223 (lk_d S_661 ml_12_223 (lk_d S_662 ml_12_223 (lk_d S_663 ml_12_223 (lk_d S_664 ml_12_223 (lk_d S_881 ml_12_246 (lk_d S_665 ml_12_213 (lk_d S_667 ml_12_213 lk_n))))))))))) odX12_boxLine
def ct_883 : aCt := (mX12_boxLine, [ag_861], ([sl_894, sl_943, sl_912, sl_955, sl_1361, sl_1211, sl_957, sl_954], []), [pon_49], mdn_872, [], (nat_lit 0))
set_option maxRecDepth 100000 in
theorem S_883 : aSpec wd ct_883 := bChk_ok wx_ok btX12_boxLine (nds := []) (fk := [18]) (rk := (1, [])) (sp := 0) (fuel := 3000) (by decide +kernel) lk_n odX12_boxLine
def pon_1423 : aPo := (none, [], [sl_908, sl_892, sl_906, sl_1361, sl_954], [])
def pon_1424 : aPo := (none, [], [sl_894, sl_895, sl_906, sl_1361, sl_954], [])
def mdn_1425 : List (Nat × Nat × Nat) := [((nat_lit 196), (nat_lit 4), (nat_lit 11)), ((nat_lit 196), (nat_lit 13), (nat_lit 14)), ((nat_lit 198), (nat_lit 0), (nat_lit 8)), ((nat_lit 200), (nat_lit 4), (nat_lit 9)), ((nat_lit 200), (nat_lit 52), (nat_lit 183)), ((nat_lit 200), (nat_lit 189), (nat_lit 203)), ((nat_lit 200), (nat_lit 251), (nat_lit 363)), ((nat_lit 1000002), (nat_lit 0), (nat_lit 0))]
def ct_884 : aCt := (mX12_readLine, [ag_861], ([sl_894, sl_895, sl_906, sl_955, sl_1361, sl_957, sl_954], []), [pon_1394, pon_1423, pon_1396, pon_1424, pon_1397], mdn_1425, [], (nat_lit 6))
set_option maxRecDepth 100000 in
theorem S_884 : aSpec wd ct_884 := bChk_ok wx_ok btX12_readLine (nds := []) (fk := []) (rk := (1, [])) (sp := 0) (fuel := 3000) (by decide +kernel) (lk_d S_883 ml_12_205 (lk_d S_880 ml_12_205 (lk_d S_882 ml_12_205 (lk_d S_857 ml_12_189 (lk_d S_861 ml_12_196 (lk_d S_863 ml_12_196 (lk_d S_545 ml_12_208 (lk_d S_546 ml_12_202 (lk_d S_547 ml_12_199 (lk_d S_623 ml_12_202 (lk_d S_687 ml_12_208 (lk_d S_604 ml_12_199 (lk_d S_625 ml_12_202 (lk_d S_691 ml_12_208 (lk_d S_607 ml_12_199 (lk_d S_X12_isWord_0 ml_12_117 (lk_d S_561 ml_12_192 (lk_d S_692 ml_12_192 (lk_d S_460 ml_12_127 lk_n))))))))))))))))))) odX12_readLine
def ct_885 : aCt := (mX12_readLine, [ag_861], ([sl_891, sl_892, sl_906, sl_955, sl_1361, sl_957, sl_954], []), [pon_913], mdn_914, [], (nat_lit 2))
set_option maxRecDepth 100000 in
theorem S_885 : aSpec wd ct_885 := bChk_ok wx_ok btX12_readLine (nds := []) (fk := []) (rk := (1, [])) (sp := 0) (fuel := 3000) (by decide +kernel) (lk_d S_X12_isWord_2 ml_12_117 (lk_d S_695 ml_12_192 (lk_d S_696 ml_12_192 (lk_d S_460 ml_12_127 lk_n)))) odX12_readLine
def ct_886 : aCt := (mX12_readLine, [ag_861], ([sl_1215, sl_887, sl_906, sl_955, sl_1361, sl_957, sl_954], []), [pon_913], mdn_914, [], (nat_lit 2))
set_option maxRecDepth 100000 in
theorem S_886 : aSpec wd ct_886 := bChk_ok wx_ok btX12_readLine (nds := []) (fk := []) (rk := (1, [])) (sp := 0) (fuel := 3000) (by decide +kernel) (lk_d S_X12_isWord_5 ml_12_117 (lk_d S_698 ml_12_192 (lk_d S_699 ml_12_192 (lk_d S_460 ml_12_127 lk_n)))) odX12_readLine
def ct_887 : aCt := (mX12_postLine, [ag_861], ([sl_894, sl_943, sl_906, sl_955, sl_1395, sl_957], []), [pon_913], mdn_914, [], (nat_lit 1))
set_option maxRecDepth 100000 in
theorem S_887 : aSpec wd ct_887 := bChk_ok wx_ok btX12_postLine (nds := []) (fk := []) (rk := (1, [])) (sp := 0) (fuel := 3000) (by decide +kernel) (lk_d S_559 ml_12_127 lk_n) odX12_postLine
def ct_888 : aCt := (mX12_islandLine, [ag_861], ([sl_894, sl_943, sl_912, sl_955, sl_1395], []), [pon_49], mdn_872, [], (nat_lit 0))
set_option maxRecDepth 100000 in
theorem S_888 : aSpec wd ct_888 := bChk_ok wx_ok btX12_islandLine (nds := []) (fk := [14]) (rk := (1, [])) (sp := 0) (fuel := 3000) (by decide +kernel) lk_n odX12_islandLine
def ct_889 : aCt := (mX12_islandBehind, [ag_861, ag_905], ([sl_894, sl_895, sl_912], []), [pon_37], mdn_872, [], (nat_lit 2))
set_option maxRecDepth 100000 in
theorem S_889 : aSpec wd ct_889 := bChk_ok wx_ok btX12_islandBehind (nds := []) (fk := []) (rk := (1, [])) (sp := 0) (fuel := 3000) (by decide +kernel) (lk_d S_610 ml_12_161 (lk_d S_639 ml_12_157 lk_n)) odX12_islandBehind
def ct_890 : aCt := (mX12_named, [ag_861, ag_170, ag_153], ([sl_926, sl_903, sl_912], []), [pon_37], mdn_872, [], (nat_lit 0))
set_option maxRecDepth 100000 in
theorem S_890 : aSpec wd ct_890 := bChk_ok wx_ok btX12_named (nds := []) (fk := []) (rk := (1, [])) (sp := 0) (fuel := 3000) (by decide +kernel) lk_n odX12_named
def ct_891 : aCt := (mX12_islandPassed, [ag_861], ([sl_926, sl_903, sl_912], []), [pon_37], mdn_872, [], (nat_lit 1))
set_option maxRecDepth 100000 in
theorem S_891 : aSpec wd ct_891 := bChk_ok wx_ok btX12_islandPassed (nds := []) (fk := []) (rk := (1, [])) (sp := 0) (fuel := 3000) (by decide +kernel) (lk_d S_890 ml_12_153 lk_n) odX12_islandPassed
def ct_892 : aCt := (mX12_islandBehind, [ag_861, ag_905], ([sl_926, sl_903, sl_912], []), [pon_37], mdn_872, [], (nat_lit 2))
set_option maxRecDepth 100000 in
theorem S_892 : aSpec wd ct_892 := bChk_ok wx_ok btX12_islandBehind (nds := []) (fk := []) (rk := (1, [])) (sp := 0) (fuel := 3000) (by decide +kernel) (lk_d S_891 ml_12_161 (lk_d S_487 ml_12_157 lk_n)) odX12_islandBehind
def ct_893 : aCt := (mX12_boxLine, [ag_861], ([sl_894, sl_895, sl_906, sl_955, sl_1395, sl_1141, sl_957], []), [pon_1235, pon_1237, pon_1238], mdn_1239, [], (nat_lit 5))
set_option maxRecDepth 100000 in
theorem S_893 : aSpec wd ct_893 := bChk_ok wx_ok btX12_boxLine (nds := [((nat_lit 47), [lcn_898, lcn_1144], [], [sl_894, sl_895, sl_906, sl_955, sl_1395, sl_1145, sl_957], [], (4, [])), ((nat_lit 47), [lcn_898, lcn_1144], [], [sl_908, sl_892, sl_906, sl_955, sl_1395, sl_1145, sl_957], [], (4, [])), ((nat_lit 47), [lcn_898, lcn_1144], [], [sl_926, sl_903, sl_912, sl_955, sl_1395, sl_1145, sl_957, sl_1146], [], (4, [])), ((nat_lit 47), [lcn_898, lcn_1147], [], [sl_894, sl_895, sl_906, sl_955, sl_1395, sl_1148, sl_957], [], (4, [])), ((nat_lit 47), [lcn_898, lcn_1147], [], [sl_908, sl_892, sl_906, sl_955, sl_1395, sl_1148, sl_957], [], (4, [])), ((nat_lit 47), [lcn_898, lcn_1147], [], [sl_926, sl_903, sl_912, sl_955, sl_1395, sl_1148, sl_957, sl_1149], [], (4, [])), ((nat_lit 47), [lcn_898, lcn_1150], [], [sl_894, sl_895, sl_906, sl_955, sl_1395, sl_1151, sl_957], [], (4, [])), ((nat_lit 47), [lcn_898, lcn_1150], [], [sl_908, sl_892, sl_906, sl_955, sl_1395, sl_1151, sl_957], [], (4, [])), ((nat_lit 47), [lcn_898, lcn_1150], [], [sl_926, sl_903, sl_912, sl_955, sl_1395, sl_1151, sl_957, sl_1152], [], (4, [])), ((nat_lit 47), [lcn_898, lcn_1153], [], [sl_894, sl_895, sl_906, sl_955, sl_1395, sl_1154, sl_957], [], (4, [])), ((nat_lit 47), [lcn_898, lcn_1153], [], [sl_908, sl_892, sl_906, sl_955, sl_1395, sl_1154, sl_957], [], (4, [])), ((nat_lit 47), [lcn_898, lcn_1153], [], [sl_926, sl_903, sl_912, sl_955, sl_1395, sl_1154, sl_957, sl_1155], [], (4, [])), ((nat_lit 47), [lcn_898, lcn_1156], [], [sl_894, sl_895, sl_906, sl_955, sl_1395, sl_1157, sl_957], [], (4, [])), ((nat_lit 47), [lcn_898, lcn_1156], [], [sl_908, sl_892, sl_906, sl_955, sl_1395, sl_1157, sl_957], [], (4, [])), ((nat_lit 47), [lcn_898, lcn_1156], [], [sl_926, sl_903, sl_912, sl_955, sl_1395, sl_1157, sl_957, sl_1158], [], (4, [])), ((nat_lit 47), [lcn_898, lcn_1159], [], [sl_894, sl_895, sl_906, sl_955, sl_1395, sl_1160, sl_957], [], (4, [])), ((nat_lit 47), [lcn_898, lcn_1159], [], [sl_908, sl_892, sl_906, sl_955, sl_1395, sl_1160, sl_957], [], (4, [])), ((nat_lit 47), [lcn_898, lcn_1159], [], [sl_926, sl_903, sl_912, sl_955, sl_1395, sl_1160, sl_957, sl_1161], [], (4, [])), ((nat_lit 47), [lcn_898, lcn_1162], [], [sl_894, sl_895, sl_906, sl_955, sl_1395, sl_1163, sl_957], [], (4, [])), ((nat_lit 47), [lcn_898, lcn_1162], [], [sl_908, sl_892, sl_906, sl_955, sl_1395, sl_1163, sl_957], [], (4, [])), ((nat_lit 47), [lcn_898, lcn_1162], [], [sl_926, sl_903, sl_912, sl_955, sl_1395, sl_1163, sl_957, sl_1164], [], (4, [])), ((nat_lit 47), [lcn_898, lcn_1165], [], [sl_894, sl_895, sl_906, sl_955, sl_1395, sl_946, sl_957], [], (4, [])), ((nat_lit 47), [lcn_898, lcn_1165], [], [sl_908, sl_892, sl_906, sl_955, sl_1395, sl_946, sl_957], [], (4, [])), ((nat_lit 47), [lcn_898, lcn_1165], [], [sl_926, sl_903, sl_912, sl_955, sl_1395, sl_946, sl_957, sl_1166], [], (4, [])), ((nat_lit 62), [lcn_898, lcn_1144], [], [sl_894, sl_895, sl_906, sl_955, sl_1395, sl_1145, sl_957], [], (3, [])), ((nat_lit 62), [lcn_898, lcn_1144], [], [sl_908, sl_892, sl_906, sl_955, sl_1395, sl_1145, sl_957], [], (3, [])), ((nat_lit 62), [lcn_898, lcn_1144], [], [sl_926, sl_903, sl_912, sl_955, sl_1395, sl_1145, sl_957, sl_1167], [], (3, [])), ((nat_lit 62), [lcn_898, lcn_1147], [], [sl_894, sl_895, sl_906, sl_955, sl_1395, sl_1148, sl_957], [], (3, [])), ((nat_lit 62), [lcn_898, lcn_1147], [], [sl_908, sl_892, sl_906, sl_955, sl_1395, sl_1148, sl_957], [], (3, [])), ((nat_lit 62), [lcn_898, lcn_1147], [], [sl_926, sl_903, sl_912, sl_955, sl_1395, sl_1148, sl_957, sl_1168], [], (3, [])), ((nat_lit 62), [lcn_898, lcn_1150], [], [sl_894, sl_895, sl_906, sl_955, sl_1395, sl_1151, sl_957], [], (3, [])), ((nat_lit 62), [lcn_898, lcn_1150], [], [sl_908, sl_892, sl_906, sl_955, sl_1395, sl_1151, sl_957], [], (3, [])), ((nat_lit 62), [lcn_898, lcn_1150], [], [sl_926, sl_903, sl_912, sl_955, sl_1395, sl_1151, sl_957, sl_1169], [], (3, [])), ((nat_lit 62), [lcn_898, lcn_1153], [], [sl_894, sl_895, sl_906, sl_955, sl_1395, sl_1154, sl_957], [], (3, [])), ((nat_lit 62), [lcn_898, lcn_1153], [], [sl_908, sl_892, sl_906, sl_955, sl_1395, sl_1154, sl_957], [], (3, [])), ((nat_lit 62), [lcn_898, lcn_1153], [], [sl_926, sl_903, sl_912, sl_955, sl_1395, sl_1154, sl_957, sl_1170], [], (3, [])), ((nat_lit 62), [lcn_898, lcn_1156], [], [sl_894, sl_895, sl_906, sl_955, sl_1395, sl_1157, sl_957], [], (3, [])), ((nat_lit 62), [lcn_898, lcn_1156], [], [sl_908, sl_892, sl_906, sl_955, sl_1395, sl_1157, sl_957], [], (3, [])), ((nat_lit 62), [lcn_898, lcn_1156], [], [sl_926, sl_903, sl_912, sl_955, sl_1395, sl_1157, sl_957, sl_1171], [], (3, [])), ((nat_lit 62), [lcn_898, lcn_1159], [], [sl_894, sl_895, sl_906, sl_955, sl_1395, sl_1160, sl_957], [], (3, [])), ((nat_lit 62), [lcn_898, lcn_1159], [], [sl_908, sl_892, sl_906, sl_955, sl_1395, sl_1160, sl_957], [], (3, [])), ((nat_lit 62), [lcn_898, lcn_1159], [], [sl_926, sl_903, sl_912, sl_955, sl_1395, sl_1160, sl_957, sl_1172], [], (3, [])), ((nat_lit 62), [lcn_898, lcn_1162], [], [sl_894, sl_895, sl_906, sl_955, sl_1395, sl_1163, sl_957], [], (3, [])), ((nat_lit 62), [lcn_898, lcn_1162], [], [sl_908, sl_892, sl_906, sl_955, sl_1395, sl_1163, sl_957], [], (3, [])), ((nat_lit 62), [lcn_898, lcn_1162], [], [sl_926, sl_903, sl_912, sl_955, sl_1395, sl_1163, sl_957, sl_1173], [], (3, [])), ((nat_lit 62), [lcn_898, lcn_1165], [], [sl_894, sl_895, sl_906, sl_955, sl_1395, sl_946, sl_957], [], (3, [])), ((nat_lit 62), [lcn_898, lcn_1165], [], [sl_908, sl_892, sl_906, sl_955, sl_1395, sl_946, sl_957], [], (3, [])), ((nat_lit 62), [lcn_898, lcn_1165], [], [sl_926, sl_903, sl_912, sl_955, sl_1395, sl_946, sl_957, sl_1174], [], (3, [])), ((nat_lit 80), [lcn_898, lcn_1144], [], [sl_894, sl_895, sl_906, sl_955, sl_1395, sl_1145, sl_957, sl_1240], [], (2, [])), ((nat_lit 80), [lcn_898, lcn_1144], [], [sl_908, sl_892, sl_906, sl_955, sl_1395, sl_1145, sl_957, sl_1240], [], (2, [])), ((nat_lit 80), [lcn_898, lcn_1144], [], [sl_926, sl_903, sl_912, sl_955, sl_1395, sl_1145, sl_957, sl_1175], [], (2, [])), ((nat_lit 80), [lcn_898, lcn_1147], [], [sl_894, sl_895, sl_906, sl_955, sl_1395, sl_1148, sl_957, sl_1241], [], (2, [])), ((nat_lit 80), [lcn_898, lcn_1147], [], [sl_908, sl_892, sl_906, sl_955, sl_1395, sl_1148, sl_957, sl_1241], [], (2, [])), ((nat_lit 80), [lcn_898, lcn_1147], [], [sl_926, sl_903, sl_912, sl_955, sl_1395, sl_1148, sl_957, sl_1176], [], (2, [])), ((nat_lit 80), [lcn_898, lcn_1150], [], [sl_894, sl_895, sl_906, sl_955, sl_1395, sl_1151, sl_957, sl_1242], [], (2, [])), ((nat_lit 80), [lcn_898, lcn_1150], [], [sl_908, sl_892, sl_906, sl_955, sl_1395, sl_1151, sl_957, sl_1242], [], (2, [])), ((nat_lit 80), [lcn_898, lcn_1150], [], [sl_926, sl_903, sl_912, sl_955, sl_1395, sl_1151, sl_957, sl_1177], [], (2, [])), ((nat_lit 80), [lcn_898, lcn_1153], [], [sl_894, sl_895, sl_906, sl_955, sl_1395, sl_1154, sl_957, sl_1243], [], (2, [])), ((nat_lit 80), [lcn_898, lcn_1153], [], [sl_908, sl_892, sl_906, sl_955, sl_1395, sl_1154, sl_957, sl_1243], [], (2, [])), ((nat_lit 80), [lcn_898, lcn_1153], [], [sl_926, sl_903, sl_912, sl_955, sl_1395, sl_1154, sl_957, sl_1178], [], (2, [])), ((nat_lit 80), [lcn_898, lcn_1156], [], [sl_894, sl_895, sl_906, sl_955, sl_1395, sl_1157, sl_957, sl_1244], [], (2, [])), ((nat_lit 80), [lcn_898, lcn_1156], [], [sl_908, sl_892, sl_906, sl_955, sl_1395, sl_1157, sl_957, sl_1244], [], (2, [])), ((nat_lit 80), [lcn_898, lcn_1156], [], [sl_926, sl_903, sl_912, sl_955, sl_1395, sl_1157, sl_957, sl_1179], [], (2, [])), ((nat_lit 80), [lcn_898, lcn_1159], [], [sl_894, sl_895, sl_906, sl_955, sl_1395, sl_1160, sl_957, sl_1245], [], (2, [])), ((nat_lit 80), [lcn_898, lcn_1159], [], [sl_908, sl_892, sl_906, sl_955, sl_1395, sl_1160, sl_957, sl_1245], [], (2, [])), ((nat_lit 80), [lcn_898, lcn_1159], [], [sl_926, sl_903, sl_912, sl_955, sl_1395, sl_1160, sl_957, sl_1180], [], (2, [])), ((nat_lit 80), [lcn_898, lcn_1162], [], [sl_894, sl_895, sl_906, sl_955, sl_1395, sl_1163, sl_957, sl_1246], [], (2, [])), ((nat_lit 80), [lcn_898, lcn_1162], [], [sl_908, sl_892, sl_906, sl_955, sl_1395, sl_1163, sl_957, sl_1246], [], (2, [])), ((nat_lit 80), [lcn_898, lcn_1162], [], [sl_926, sl_903, sl_912, sl_955, sl_1395, sl_1163, sl_957, sl_1181], [], (2, [])), ((nat_lit 80), [lcn_898, lcn_1165], [], [sl_894, sl_895, sl_906, sl_955, sl_1395, sl_946, sl_957, sl_1247], [], (2, [])), ((nat_lit 80), [lcn_898, lcn_1165], [], [sl_908, sl_892, sl_906, sl_955, sl_1395, sl_946, sl_957, sl_1247], [], (2, [])), ((nat_lit 80), [lcn_898, lcn_1165], [], [sl_926, sl_903, sl_912, sl_955, sl_1395, sl_946, sl_957, sl_1182], [], (2, [])), ((nat_lit 99), [lcn_898, lcn_1144], [], [sl_894, sl_895, sl_906, sl_955, sl_1395, sl_1145, sl_957, sl_1240, sl_1248], [], (1, [])), ((nat_lit 99), [lcn_898, lcn_1144], [], [sl_908, sl_892, sl_906, sl_955, sl_1395, sl_1145, sl_957, sl_1240, sl_1248], [], (1, [])), ((nat_lit 99), [lcn_898, lcn_1144], [], [sl_926, sl_903, sl_912, sl_955, sl_1395, sl_1145, sl_957, sl_1240, sl_1183], [], (1, [])), ((nat_lit 99), [lcn_898, lcn_1147], [], [sl_894, sl_895, sl_906, sl_955, sl_1395, sl_1148, sl_957, sl_1241, sl_1249], [], (1, [])), ((nat_lit 99), [lcn_898, lcn_1147], [], [sl_908, sl_892, sl_906, sl_955, sl_1395, sl_1148, sl_957, sl_1241, sl_1249], [], (1, [])), ((nat_lit 99), [lcn_898, lcn_1147], [], [sl_926, sl_903, sl_912, sl_955, sl_1395, sl_1148, sl_957, sl_1241, sl_1184], [], (1, [])), ((nat_lit 99), [lcn_898, lcn_1150], [], [sl_894, sl_895, sl_906, sl_955, sl_1395, sl_1151, sl_957, sl_1242, sl_1250], [], (1, [])), ((nat_lit 99), [lcn_898, lcn_1150], [], [sl_908, sl_892, sl_906, sl_955, sl_1395, sl_1151, sl_957, sl_1242, sl_1250], [], (1, [])), ((nat_lit 99), [lcn_898, lcn_1150], [], [sl_926, sl_903, sl_912, sl_955, sl_1395, sl_1151, sl_957, sl_1242, sl_1185], [], (1, [])), ((nat_lit 99), [lcn_898, lcn_1153], [], [sl_894, sl_895, sl_906, sl_955, sl_1395, sl_1154, sl_957, sl_1243, sl_1251], [], (1, [])), ((nat_lit 99), [lcn_898, lcn_1153], [], [sl_908, sl_892, sl_906, sl_955, sl_1395, sl_1154, sl_957, sl_1243, sl_1251], [], (1, [])), ((nat_lit 99), [lcn_898, lcn_1153], [], [sl_926, sl_903, sl_912, sl_955, sl_1395, sl_1154, sl_957, sl_1243, sl_1186], [], (1, [])), ((nat_lit 99), [lcn_898, lcn_1156], [], [sl_894, sl_895, sl_906, sl_955, sl_1395, sl_1157, sl_957, sl_1244, sl_1252], [], (1, [])), ((nat_lit 99), [lcn_898, lcn_1156], [], [sl_908, sl_892, sl_906, sl_955, sl_1395, sl_1157, sl_957, sl_1244, sl_1252], [], (1, [])), ((nat_lit 99), [lcn_898, lcn_1156], [], [sl_926, sl_903, sl_912, sl_955, sl_1395, sl_1157, sl_957, sl_1244, sl_1187], [], (1, [])), ((nat_lit 99), [lcn_898, lcn_1159], [], [sl_894, sl_895, sl_906, sl_955, sl_1395, sl_1160, sl_957, sl_1245, sl_1253], [], (1, [])), ((nat_lit 99), [lcn_898, lcn_1159], [], [sl_908, sl_892, sl_906, sl_955, sl_1395, sl_1160, sl_957, sl_1245, sl_1253], [], (1, [])), ((nat_lit 99), [lcn_898, lcn_1159], [], [sl_926, sl_903, sl_912, sl_955, sl_1395, sl_1160, sl_957, sl_1245, sl_1188], [], (1, [])), ((nat_lit 99), [lcn_898, lcn_1162], [], [sl_894, sl_895, sl_906, sl_955, sl_1395, sl_1163, sl_957, sl_1246, sl_1254], [], (1, [])), ((nat_lit 99), [lcn_898, lcn_1162], [], [sl_908, sl_892, sl_906, sl_955, sl_1395, sl_1163, sl_957, sl_1246, sl_1254], [], (1, [])), ((nat_lit 99), [lcn_898, lcn_1162], [], [sl_926, sl_903, sl_912, sl_955, sl_1395, sl_1163, sl_957, sl_1246, sl_1189], [], (1, [])), ((nat_lit 99), [lcn_898, lcn_1165], [], [sl_894, sl_895, sl_906, sl_955, sl_1395, sl_946, sl_957, sl_1247, sl_1255], [], (1, [])), ((nat_lit 99), [lcn_898, lcn_1165], [], [sl_908, sl_892, sl_906, sl_955, sl_1395, sl_946, sl_957, sl_1247, sl_1255], [], (1, [])), ((nat_lit 99), [lcn_898, lcn_1165], [], [sl_926, sl_903, sl_912, sl_955, sl_1395, sl_946, sl_957, sl_1247, sl_1190], [], (1, [])), ((nat_lit 117), [lcn_898, lcn_1144], [], [sl_894, sl_895, sl_906, sl_955, sl_1395, sl_1211, sl_957, sl_1240, sl_1248], [], (0, [])), ((nat_lit 117), [lcn_898, lcn_1144], [], [sl_908, sl_892, sl_906, sl_955, sl_1395, sl_1211, sl_957, sl_1240, sl_1248], [], (0, [])), ((nat_lit 117), [lcn_898, lcn_1144], [], [sl_926, sl_903, sl_912, sl_955, sl_1395, sl_1145, sl_957, sl_1240, sl_1183], [], (0, [])), ((nat_lit 117), [lcn_898, lcn_1147], [], [sl_894, sl_895, sl_906, sl_955, sl_1395, sl_1145, sl_957, sl_1241, sl_1249], [], (0, [])), ((nat_lit 117), [lcn_898, lcn_1147], [], [sl_908, sl_892, sl_906, sl_955, sl_1395, sl_1145, sl_957, sl_1241, sl_1249], [], (0, [])), ((nat_lit 117), [lcn_898, lcn_1147], [], [sl_926, sl_903, sl_912, sl_955, sl_1395, sl_1148, sl_957, sl_1241, sl_1184], [], (0, [])), ((nat_lit 117), [lcn_898, lcn_1150], [], [sl_894, sl_895, sl_906, sl_955, sl_1395, sl_1148, sl_957, sl_1242, sl_1250], [], (0, [])), ((nat_lit 117), [lcn_898, lcn_1150], [], [sl_908, sl_892, sl_906, sl_955, sl_1395, sl_1148, sl_957, sl_1242, sl_1250], [], (0, [])), ((nat_lit 117), [lcn_898, lcn_1150], [], [sl_926, sl_903, sl_912, sl_955, sl_1395, sl_1151, sl_957, sl_1242, sl_1185], [], (0, [])), ((nat_lit 117), [lcn_898, lcn_1153], [], [sl_894, sl_895, sl_906, sl_955, sl_1395, sl_1151, sl_957, sl_1243, sl_1251], [], (0, [])), ((nat_lit 117), [lcn_898, lcn_1153], [], [sl_908, sl_892, sl_906, sl_955, sl_1395, sl_1151, sl_957, sl_1243, sl_1251], [], (0, [])), ((nat_lit 117), [lcn_898, lcn_1153], [], [sl_926, sl_903, sl_912, sl_955, sl_1395, sl_1154, sl_957, sl_1243, sl_1186], [], (0, [])), ((nat_lit 117), [lcn_898, lcn_1156], [], [sl_894, sl_895, sl_906, sl_955, sl_1395, sl_1154, sl_957, sl_1244, sl_1252], [], (0, [])), ((nat_lit 117), [lcn_898, lcn_1156], [], [sl_908, sl_892, sl_906, sl_955, sl_1395, sl_1154, sl_957, sl_1244, sl_1252], [], (0, [])), ((nat_lit 117), [lcn_898, lcn_1156], [], [sl_926, sl_903, sl_912, sl_955, sl_1395, sl_1157, sl_957, sl_1244, sl_1187], [], (0, [])), ((nat_lit 117), [lcn_898, lcn_1159], [], [sl_894, sl_895, sl_906, sl_955, sl_1395, sl_1157, sl_957, sl_1245, sl_1253], [], (0, [])), ((nat_lit 117), [lcn_898, lcn_1159], [], [sl_908, sl_892, sl_906, sl_955, sl_1395, sl_1157, sl_957, sl_1245, sl_1253], [], (0, [])), ((nat_lit 117), [lcn_898, lcn_1159], [], [sl_926, sl_903, sl_912, sl_955, sl_1395, sl_1160, sl_957, sl_1245, sl_1188], [], (0, [])), ((nat_lit 117), [lcn_898, lcn_1162], [], [sl_894, sl_895, sl_906, sl_955, sl_1395, sl_1160, sl_957, sl_1246, sl_1254], [], (0, [])), ((nat_lit 117), [lcn_898, lcn_1162], [], [sl_908, sl_892, sl_906, sl_955, sl_1395, sl_1160, sl_957, sl_1246, sl_1254], [], (0, [])), ((nat_lit 117), [lcn_898, lcn_1162], [], [sl_926, sl_903, sl_912, sl_955, sl_1395, sl_1163, sl_957, sl_1246, sl_1189], [], (0, [])), ((nat_lit 117), [lcn_898, lcn_1165], [], [sl_894, sl_895, sl_906, sl_955, sl_1395, sl_1163, sl_957, sl_1247, sl_1255], [], (0, [])), ((nat_lit 117), [lcn_898, lcn_1165], [], [sl_908, sl_892, sl_906, sl_955, sl_1395, sl_1163, sl_957, sl_1247, sl_1255], [], (0, [])), ((nat_lit 117), [lcn_898, lcn_1165], [], [sl_926, sl_903, sl_912, sl_955, sl_1395, sl_946, sl_957, sl_1247, sl_1190], [], (0, []))]) (fk := [18]) (rk := (5, [])) (sp := 166154133299623528659118015977095168) (fuel := 3000) (by decide +kernel) (lk_d S_626 ml_12_223 (lk_d S_641 ml_12_223 (lk_d S_642 ml_12_223 (lk_d S_643 ml_12_223 (lk_d S_644 ml_12_223 (lk_d S_645 ml_12_223 (lk_d S_646 ml_12_223 (lk_d S_647 ml_12_223 (lk_d S_611 ml_12_246 (lk_d S_889 ml_12_246 (lk_d S_613 ml_12_246 (lk_d S_892 ml_12_246 (lk_d S_592 ml_12_213 (lk_d S_728 ml_12_213 (lk_d S_594 ml_12_213 (lk_d S_729 ml_12_213 (lk_d S_652 ml_12_213 (lk_d S_654 ml_12_213 lk_n)))))))))))))))))) odX12_boxLine
end Pk0
section Pk1
def ct_894 : aCt := (mX12_islandBehind, [ag_861, ag_905], ([sl_908, sl_892, sl_912], []), [pon_37], mdn_872, [], (nat_lit 2))
set_option maxRecDepth 100000 in
theorem S_894 : aSpec wd ct_894 := bChk_ok wx_ok btX12_islandBehind (nds := []) (fk := []) (rk := (1, [])) (sp := 0) (fuel := 3000) (by decide +kernel) (lk_d S_612 ml_12_161 (lk_d S_492 ml_12_157 lk_n)) odX12_islandBehind
def ct_895 : aCt := (mX12_boxLine, [ag_861], ([sl_908, sl_892, sl_906, sl_955, sl_1395, sl_1141, sl_957], []), [pon_913], mdn_1191, [], (nat_lit 3))
set_option maxRecDepth 100000 in
theorem S_895 : aSpec wd ct_895 := bChk_ok wx_ok btX12_boxLine (nds := [((nat_lit 47), [lcn_898, lcn_1144], [], [sl_908, sl_892, sl_912, sl_955, sl_1395, sl_1145, sl_957, sl_1146], [], (4, [])), ((nat_lit 47), [lcn_898, lcn_1147], [], [sl_908, sl_892, sl_912, sl_955, sl_1395, sl_1148, sl_957, sl_1149], [], (4, [])), ((nat_lit 47), [lcn_898, lcn_1150], [], [sl_908, sl_892, sl_912, sl_955, sl_1395, sl_1151, sl_957, sl_1152], [], (4, [])), ((nat_lit 47), [lcn_898, lcn_1153], [], [sl_908, sl_892, sl_912, sl_955, sl_1395, sl_1154, sl_957, sl_1155], [], (4, [])), ((nat_lit 47), [lcn_898, lcn_1156], [], [sl_908, sl_892, sl_912, sl_955, sl_1395, sl_1157, sl_957, sl_1158], [], (4, [])), ((nat_lit 47), [lcn_898, lcn_1159], [], [sl_908, sl_892, sl_912, sl_955, sl_1395, sl_1160, sl_957, sl_1161], [], (4, [])), ((nat_lit 47), [lcn_898, lcn_1162], [], [sl_908, sl_892, sl_912, sl_955, sl_1395, sl_1163, sl_957, sl_1164], [], (4, [])), ((nat_lit 47), [lcn_898, lcn_1165], [], [sl_908, sl_892, sl_912, sl_955, sl_1395, sl_946, sl_957, sl_1166], [], (4, [])), ((nat_lit 62), [lcn_898, lcn_1144], [], [sl_908, sl_892, sl_912, sl_955, sl_1395, sl_1145, sl_957, sl_1146, sl_1167], [], (3, [])), ((nat_lit 62), [lcn_898, lcn_1147], [], [sl_908, sl_892, sl_912, sl_955, sl_1395, sl_1148, sl_957, sl_1149, sl_1168], [], (3, [])), ((nat_lit 62), [lcn_898, lcn_1150], [], [sl_908, sl_892, sl_912, sl_955, sl_1395, sl_1151, sl_957, sl_1152, sl_1169], [], (3, [])), ((nat_lit 62), [lcn_898, lcn_1153], [], [sl_908, sl_892, sl_912, sl_955, sl_1395, sl_1154, sl_957, sl_1155, sl_1170], [], (3, [])), ((nat_lit 62), [lcn_898, lcn_1156], [], [sl_908, sl_892, sl_912, sl_955, sl_1395, sl_1157, sl_957, sl_1158, sl_1171], [], (3, [])), ((nat_lit 62), [lcn_898, lcn_1159], [], [sl_908, sl_892, sl_912, sl_955, sl_1395, sl_1160, sl_957, sl_1161, sl_1172], [], (3, [])), ((nat_lit 62), [lcn_898, lcn_1162], [], [sl_908, sl_892, sl_912, sl_955, sl_1395, sl_1163, sl_957, sl_1164, sl_1173], [], (3, [])), ((nat_lit 62), [lcn_898, lcn_1165], [], [sl_908, sl_892, sl_912, sl_955, sl_1395, sl_946, sl_957, sl_1166, sl_1174], [], (3, [])), ((nat_lit 80), [lcn_898, lcn_1144], [], [sl_908, sl_892, sl_912, sl_955, sl_1395, sl_1145, sl_957, sl_1146, sl_1167, sl_1175], [], (2, [])), ((nat_lit 80), [lcn_898, lcn_1147], [], [sl_908, sl_892, sl_912, sl_955, sl_1395, sl_1148, sl_957, sl_1149, sl_1168, sl_1176], [], (2, [])), ((nat_lit 80), [lcn_898, lcn_1150], [], [sl_908, sl_892, sl_912, sl_955, sl_1395, sl_1151, sl_957, sl_1152, sl_1169, sl_1177], [], (2, [])), ((nat_lit 80), [lcn_898, lcn_1153], [], [sl_908, sl_892, sl_912, sl_955, sl_1395, sl_1154, sl_957, sl_1155, sl_1170, sl_1178], [], (2, [])), ((nat_lit 80), [lcn_898, lcn_1156], [], [sl_908, sl_892, sl_912, sl_955, sl_1395, sl_1157, sl_957, sl_1158, sl_1171, sl_1179], [], (2, [])), ((nat_lit 80), [lcn_898, lcn_1159], [], [sl_908, sl_892, sl_912, sl_955, sl_1395, sl_1160, sl_957, sl_1161, sl_1172, sl_1180], [], (2, [])), ((nat_lit 80), [lcn_898, lcn_1162], [], [sl_908, sl_892, sl_912, sl_955, sl_1395, sl_1163, sl_957, sl_1164, sl_1173, sl_1181], [], (2, [])), ((nat_lit 80), [lcn_898, lcn_1165], [], [sl_908, sl_892, sl_912, sl_955, sl_1395, sl_946, sl_957, sl_1166, sl_1174, sl_1182], [], (2, [])), ((nat_lit 99), [lcn_898, lcn_1144], [], [sl_908, sl_892, sl_912, sl_955, sl_1395, sl_1145, sl_957, sl_1146, sl_1167, sl_1175, sl_1183], [], (1, [])), ((nat_lit 99), [lcn_898, lcn_1147], [], [sl_908, sl_892, sl_912, sl_955, sl_1395, sl_1148, sl_957, sl_1149, sl_1168, sl_1176, sl_1184], [], (1, [])), ((nat_lit 99), [lcn_898, lcn_1150], [], [sl_908, sl_892, sl_912, sl_955, sl_1395, sl_1151, sl_957, sl_1152, sl_1169, sl_1177, sl_1185], [], (1, [])), ((nat_lit 99), [lcn_898, lcn_1153], [], [sl_908, sl_892, sl_912, sl_955, sl_1395, sl_1154, sl_957, sl_1155, sl_1170, sl_1178, sl_1186], [], (1, [])), ((nat_lit 99), [lcn_898, lcn_1156], [], [sl_908, sl_892, sl_912, sl_955, sl_1395, sl_1157, sl_957, sl_1158, sl_1171, sl_1179, sl_1187], [], (1, [])), ((nat_lit 99), [lcn_898, lcn_1159], [], [sl_908, sl_892, sl_912, sl_955, sl_1395, sl_1160, sl_957, sl_1161, sl_1172, sl_1180, sl_1188], [], (1, [])), ((nat_lit 99), [lcn_898, lcn_1162], [], [sl_908, sl_892, sl_912, sl_955, sl_1395, sl_1163, sl_957, sl_1164, sl_1173, sl_1181, sl_1189], [], (1, [])), ((nat_lit 99), [lcn_898, lcn_1165], [], [sl_908, sl_892, sl_912, sl_955, sl_1395, sl_946, sl_957, sl_1166, sl_1174, sl_1182, sl_1190], [], (1, [])), ((nat_lit 117), [lcn_898, lcn_1144], [], [sl_908, sl_892, sl_912, sl_955, sl_1395, sl_1145, sl_957, sl_1146, sl_1167, sl_1175, sl_1183], [], (0, [])), ((nat_lit 117), [lcn_898, lcn_1147], [], [sl_908, sl_892, sl_912, sl_955, sl_1395, sl_1148, sl_957, sl_1149, sl_1168, sl_1176, sl_1184], [], (0, [])), ((nat_lit 117), [lcn_898, lcn_1150], [], [sl_908, sl_892, sl_912, sl_955, sl_1395, sl_1151, sl_957, sl_1152, sl_1169, sl_1177, sl_1185], [], (0, [])), ((nat_lit 117), [lcn_898, lcn_1153], [], [sl_908, sl_892, sl_912, sl_955, sl_1395, sl_1154, sl_957, sl_1155, sl_1170, sl_1178, sl_1186], [], (0, [])), ((nat_lit 117), [lcn_898, lcn_1156], [], [sl_908, sl_892, sl_912, sl_955, sl_1395, sl_1157, sl_957, sl_1158, sl_1171, sl_1179, sl_1187], [], (0, [])), ((nat_lit 117), [lcn_898, lcn_1159], [], [sl_908, sl_892, sl_912, sl_955, sl_1395, sl_1160, sl_957, sl_1161, sl_1172, sl_1180, sl_1188], [], (0, [])), ((nat_lit 117), [lcn_898, lcn_1162], [], [sl_908, sl_892, sl_912, sl_955, sl_1395, sl_1163, sl_957, sl_1164, sl_1173, sl_1181, sl_1189], [], (0, [])), ((nat_lit 117), [lcn_898, lcn_1165], [], [sl_908, sl_892, sl_912, sl_955, sl_1395, sl_946, sl_957, sl_1166, sl_1174, sl_1182, sl_1190], [], (0, []))]) (fk := [18]) (rk := (5, [])) (sp := 166154133299623528659118015977095168) (fuel := 3000) (by decide +kernel) (lk_d S_656 ml_12_223 (lk_d S_658 ml_12_223 (lk_d S_659 ml_12_223 (lk_d S_660 ml_12_223 (lk_d S_661 ml_12_223 (lk_d S_662 ml_12_223 (lk_d S_663 ml_12_223 (lk_d S_664 ml_12_223 (lk_d S_894 ml_12_246 (lk_d S_665 ml_12_213 (lk_d S_667 ml_12_213 lk_n))))))))))) odX12_boxLine
def ct_896 : aCt := (mX12_boxLine, [ag_861], ([sl_894, sl_943, sl_912, sl_955, sl_1395, sl_1211, sl_957], []), [pon_49], mdn_872, [], (nat_lit 0))
set_option maxRecDepth 100000 in
theorem S_896 : aSpec wd ct_896 := bChk_ok wx_ok btX12_boxLine (nds := []) (fk := [18]) (rk := (1, [])) (sp := 0) (fuel := 3000) (by decide +kernel) lk_n odX12_boxLine
def mdn_1426 : List (Nat × Nat × Nat) := [((nat_lit 196), (nat_lit 4), (nat_lit 11)), ((nat_lit 196), (nat_lit 13), (nat_lit 14)), ((nat_lit 198), (nat_lit 0), (nat_lit 8)), ((nat_lit 200), (nat_lit 5), (nat_lit 9)), ((nat_lit 200), (nat_lit 59), (nat_lit 183)), ((nat_lit 200), (nat_lit 190), (nat_lit 203)), ((nat_lit 200), (nat_lit 259), (nat_lit 363)), ((nat_lit 1000002), (nat_lit 0), (nat_lit 0))]
def ct_897 : aCt := (mX12_readLine, [ag_861], ([sl_894, sl_895, sl_906, sl_955, sl_1395, sl_957], []), [pon_1142, pon_916, pon_917], mdn_1426, [], (nat_lit 6))
set_option maxRecDepth 100000 in
theorem S_897 : aSpec wd ct_897 := bChk_ok wx_ok btX12_readLine (nds := []) (fk := []) (rk := (1, [])) (sp := 0) (fuel := 3000) (by decide +kernel) (lk_d S_896 ml_12_205 (lk_d S_893 ml_12_205 (lk_d S_895 ml_12_205 (lk_d S_887 ml_12_189 (lk_d S_888 ml_12_196 (lk_d S_545 ml_12_208 (lk_d S_546 ml_12_202 (lk_d S_547 ml_12_199 (lk_d S_623 ml_12_202 (lk_d S_687 ml_12_208 (lk_d S_604 ml_12_199 (lk_d S_625 ml_12_202 (lk_d S_691 ml_12_208 (lk_d S_607 ml_12_199 (lk_d S_X12_isWord_0 ml_12_117 (lk_d S_692 ml_12_192 (lk_d S_561 ml_12_192 (lk_d S_460 ml_12_127 lk_n)))))))))))))))))) odX12_readLine
def ct_898 : aCt := (mX12_readLine, [ag_861], ([sl_891, sl_892, sl_906, sl_955, sl_1395, sl_957], []), [pon_913], mdn_914, [], (nat_lit 2))
set_option maxRecDepth 100000 in
theorem S_898 : aSpec wd ct_898 := bChk_ok wx_ok btX12_readLine (nds := []) (fk := []) (rk := (1, [])) (sp := 0) (fuel := 3000) (by decide +kernel) (lk_d S_X12_isWord_2 ml_12_117 (lk_d S_696 ml_12_192 (lk_d S_695 ml_12_192 (lk_d S_460 ml_12_127 lk_n)))) odX12_readLine
def ct_899 : aCt := (mX12_readLine, [ag_861], ([sl_1215, sl_887, sl_906, sl_955, sl_1395, sl_957], []), [pon_913], mdn_914, [], (nat_lit 2))
set_option maxRecDepth 100000 in
theorem S_899 : aSpec wd ct_899 := bChk_ok wx_ok btX12_readLine (nds := []) (fk := []) (rk := (1, [])) (sp := 0) (fuel := 3000) (by decide +kernel) (lk_d S_X12_isWord_5 ml_12_117 (lk_d S_699 ml_12_192 (lk_d S_698 ml_12_192 (lk_d S_460 ml_12_127 lk_n)))) odX12_readLine
def sl_1427 : (Nat × Nat) × aI := (((nat_lit 196), (nat_lit 2)), [((.ofNat (nat_lit 0)), (.ofNat (nat_lit 0)), (nat_lit 1))])
def sl_1428 : (Nat × Nat) × aI := (((nat_lit 196), (nat_lit 14)), [((.ofNat (nat_lit 1)), (.ofNat (nat_lit 1)), (nat_lit 1))])
def sl_1429 : (Nat × Nat) × aI := (((nat_lit 196), (nat_lit 20)), [((.ofNat (nat_lit 0)), (.ofNat (nat_lit 0)), (nat_lit 1))])
def sl_1430 : (Nat × Nat) × aI := (((nat_lit 196), (nat_lit 21)), [((.ofNat (nat_lit 0)), (.ofNat (nat_lit 0)), (nat_lit 1))])
def sl_1431 : (Nat × Nat) × aI := (((nat_lit 199), (nat_lit 0)), [((.ofNat (nat_lit 2)), (.ofNat (nat_lit 4)), (nat_lit 1))])
def sl_1432 : (Nat × Nat) × aI := (((nat_lit 199), (nat_lit 4)), [((.ofNat (nat_lit 1)), (.ofNat (nat_lit 7)), (nat_lit 1))])
def sl_1433 : (Nat × Nat) × aI := (((nat_lit 200), (nat_lit 4)), [((.ofNat (nat_lit 1)), (.ofNat (nat_lit 7)), (nat_lit 1))])
def pon_1434 : aPo := (some (.inl [((.ofNat (nat_lit 1)), (.ofNat (nat_lit 7)), (nat_lit 1))]), [], [sl_1427, sl_886, sl_892, sl_867, sl_906, sl_1428, sl_1429, sl_1430, sl_1431, sl_1432, sl_955, sl_1433, sl_957], [])
def sl_1435 : (Nat × Nat) × aI := (((nat_lit 196), (nat_lit 11)), [((.ofNat (nat_lit 2)), (.ofNat (nat_lit 2)), (nat_lit 1)), ((.ofNat (nat_lit 4)), (.ofNat (nat_lit 4)), (nat_lit 1))])
def pon_1436 : aPo := (some (.inl [((.negSucc (nat_lit 0)), (.negSucc (nat_lit 0)), (nat_lit 1))]), [], [sl_1435], [])
def mdn_1437 : List (Nat × Nat × Nat) := [((nat_lit 196), (nat_lit 0), (nat_lit 1)), ((nat_lit 196), (nat_lit 2), (nat_lit 12)), ((nat_lit 196), (nat_lit 13), (nat_lit 15)), ((nat_lit 196), (nat_lit 20), (nat_lit 22)), ((nat_lit 198), (nat_lit 0), (nat_lit 8)), ((nat_lit 199), (nat_lit 0), (nat_lit 363)), ((nat_lit 200), (nat_lit 0), (nat_lit 363)), ((nat_lit 201), (nat_lit 0), (nat_lit 76))]
def lcn_1438 : Nat × aAg := ((nat_lit 2), .inl [((.ofNat (nat_lit 0)), (.ofNat (nat_lit 99)), (nat_lit 1))])
def sl_1439 : (Nat × Nat) × aI := (((nat_lit 199), (nat_lit 9)), [((.ofNat (nat_lit 1)), (.ofNat (nat_lit 1)), (nat_lit 1))])
def lcn_1440 : Nat × aAg := ((nat_lit 2), .inl [((.ofNat (nat_lit 363)), (.ofNat (nat_lit 363)), (nat_lit 1))])
def lcn_1441 : Nat × aAg := ((nat_lit 2), .inl [((.ofNat (nat_lit 6)), (.ofNat (nat_lit 6)), (nat_lit 1))])
def lcn_1442 : Nat × aAg := ((nat_lit 2), .inl [((.ofNat (nat_lit 7)), (.ofNat (nat_lit 7)), (nat_lit 1))])
def sl_1443 : (Nat × Nat) × aI := (((nat_lit 200), (nat_lit 6)), [((.ofNat (nat_lit 0)), (.ofNat (nat_lit 0)), (nat_lit 1))])
def lcn_1444 : Nat × aAg := ((nat_lit 2), .inl [((.ofNat (nat_lit 8)), (.ofNat (nat_lit 8)), (nat_lit 1))])
def lcn_1445 : Nat × aAg := ((nat_lit 2), .inl [((.ofNat (nat_lit 9)), (.ofNat (nat_lit 9)), (nat_lit 1))])
def sl_1446 : (Nat × Nat) × aI := (((nat_lit 200), (nat_lit 8)), [((.ofNat (nat_lit 0)), (.ofNat (nat_lit 0)), (nat_lit 1))])
def lcn_1447 : Nat × aAg := ((nat_lit 2), .inl [((.ofNat (nat_lit 11)), (.ofNat (nat_lit 11)), (nat_lit 1))])
def lcn_1448 : Nat × aAg := ((nat_lit 2), .inl [((.ofNat (nat_lit 12)), (.ofNat (nat_lit 12)), (nat_lit 1))])
def lcn_1449 : Nat × aAg := ((nat_lit 2), .inl [((.ofNat (nat_lit 13)), (.ofNat (nat_lit 13)), (nat_lit 1))])
def lcn_1450 : Nat × aAg := ((nat_lit 2), .inl [((.ofNat (nat_lit 14)), (.ofNat (nat_lit 14)), (nat_lit 1))])
def lcn_1451 : Nat × aAg := ((nat_lit 2), .inl [((.ofNat (nat_lit 16)), (.ofNat (nat_lit 16)), (nat_lit 1))])
def lcn_1452 : Nat × aAg := ((nat_lit 2), .inl [((.ofNat (nat_lit 17)), (.ofNat (nat_lit 17)), (nat_lit 1))])
def lcn_1453 : Nat × aAg := ((nat_lit 2), .inl [((.ofNat (nat_lit 18)), (.ofNat (nat_lit 18)), (nat_lit 1))])
def lcn_1454 : Nat × aAg := ((nat_lit 2), .inl [((.ofNat (nat_lit 19)), (.ofNat (nat_lit 19)), (nat_lit 1))])
def lcn_1455 : Nat × aAg := ((nat_lit 2), .inl [((.ofNat (nat_lit 20)), (.ofNat (nat_lit 20)), (nat_lit 1))])
def lcn_1456 : Nat × aAg := ((nat_lit 2), .inl [((.ofNat (nat_lit 21)), (.ofNat (nat_lit 21)), (nat_lit 1))])
def lcn_1457 : Nat × aAg := ((nat_lit 2), .inl [((.ofNat (nat_lit 22)), (.ofNat (nat_lit 22)), (nat_lit 1))])
def lcn_1458 : Nat × aAg := ((nat_lit 2), .inl [((.ofNat (nat_lit 23)), (.ofNat (nat_lit 23)), (nat_lit 1))])
def lcn_1459 : Nat × aAg := ((nat_lit 2), .inl [((.ofNat (nat_lit 24)), (.ofNat (nat_lit 24)), (nat_lit 1))])
def lcn_1460 : Nat × aAg := ((nat_lit 2), .inl [((.ofNat (nat_lit 25)), (.ofNat (nat_lit 25)), (nat_lit 1))])
def lcn_1461 : Nat × aAg := ((nat_lit 2), .inl [((.ofNat (nat_lit 26)), (.ofNat (nat_lit 26)), (nat_lit 1))])
def lcn_1462 : Nat × aAg := ((nat_lit 2), .inl [((.ofNat (nat_lit 27)), (.ofNat (nat_lit 27)), (nat_lit 1))])
def lcn_1463 : Nat × aAg := ((nat_lit 2), .inl [((.ofNat (nat_lit 28)), (.ofNat (nat_lit 28)), (nat_lit 1))])
def lcn_1464 : Nat × aAg := ((nat_lit 2), .inl [((.ofNat (nat_lit 29)), (.ofNat (nat_lit 29)), (nat_lit 1))])
def lcn_1465 : Nat × aAg := ((nat_lit 2), .inl [((.ofNat (nat_lit 30)), (.ofNat (nat_lit 30)), (nat_lit 1))])
def lcn_1466 : Nat × aAg := ((nat_lit 2), .inl [((.ofNat (nat_lit 31)), (.ofNat (nat_lit 31)), (nat_lit 1))])
def lcn_1467 : Nat × aAg := ((nat_lit 2), .inl [((.ofNat (nat_lit 32)), (.ofNat (nat_lit 32)), (nat_lit 1))])
def lcn_1468 : Nat × aAg := ((nat_lit 2), .inl [((.ofNat (nat_lit 33)), (.ofNat (nat_lit 33)), (nat_lit 1))])
def lcn_1469 : Nat × aAg := ((nat_lit 2), .inl [((.ofNat (nat_lit 34)), (.ofNat (nat_lit 34)), (nat_lit 1))])
def lcn_1470 : Nat × aAg := ((nat_lit 2), .inl [((.ofNat (nat_lit 35)), (.ofNat (nat_lit 35)), (nat_lit 1))])
def lcn_1471 : Nat × aAg := ((nat_lit 2), .inl [((.ofNat (nat_lit 36)), (.ofNat (nat_lit 36)), (nat_lit 1))])
def lcn_1472 : Nat × aAg := ((nat_lit 2), .inl [((.ofNat (nat_lit 37)), (.ofNat (nat_lit 37)), (nat_lit 1))])
def lcn_1473 : Nat × aAg := ((nat_lit 2), .inl [((.ofNat (nat_lit 38)), (.ofNat (nat_lit 38)), (nat_lit 1))])
def lcn_1474 : Nat × aAg := ((nat_lit 2), .inl [((.ofNat (nat_lit 39)), (.ofNat (nat_lit 39)), (nat_lit 1))])
def lcn_1475 : Nat × aAg := ((nat_lit 2), .inl [((.ofNat (nat_lit 40)), (.ofNat (nat_lit 40)), (nat_lit 1))])
def lcn_1476 : Nat × aAg := ((nat_lit 2), .inl [((.ofNat (nat_lit 41)), (.ofNat (nat_lit 41)), (nat_lit 1))])
def lcn_1477 : Nat × aAg := ((nat_lit 2), .inl [((.ofNat (nat_lit 42)), (.ofNat (nat_lit 42)), (nat_lit 1))])
def lcn_1478 : Nat × aAg := ((nat_lit 2), .inl [((.ofNat (nat_lit 43)), (.ofNat (nat_lit 43)), (nat_lit 1))])
def lcn_1479 : Nat × aAg := ((nat_lit 2), .inl [((.ofNat (nat_lit 44)), (.ofNat (nat_lit 44)), (nat_lit 1))])
def lcn_1480 : Nat × aAg := ((nat_lit 2), .inl [((.ofNat (nat_lit 45)), (.ofNat (nat_lit 45)), (nat_lit 1))])
def lcn_1481 : Nat × aAg := ((nat_lit 2), .inl [((.ofNat (nat_lit 46)), (.ofNat (nat_lit 46)), (nat_lit 1))])
def lcn_1482 : Nat × aAg := ((nat_lit 2), .inl [((.ofNat (nat_lit 47)), (.ofNat (nat_lit 47)), (nat_lit 1))])
def lcn_1483 : Nat × aAg := ((nat_lit 2), .inl [((.ofNat (nat_lit 48)), (.ofNat (nat_lit 48)), (nat_lit 1))])
def lcn_1484 : Nat × aAg := ((nat_lit 2), .inl [((.ofNat (nat_lit 49)), (.ofNat (nat_lit 49)), (nat_lit 1))])
def lcn_1485 : Nat × aAg := ((nat_lit 2), .inl [((.ofNat (nat_lit 51)), (.ofNat (nat_lit 51)), (nat_lit 1))])
def lcn_1486 : Nat × aAg := ((nat_lit 2), .inl [((.ofNat (nat_lit 52)), (.ofNat (nat_lit 52)), (nat_lit 1))])
def lcn_1487 : Nat × aAg := ((nat_lit 2), .inl [((.ofNat (nat_lit 53)), (.ofNat (nat_lit 53)), (nat_lit 1))])
def lcn_1488 : Nat × aAg := ((nat_lit 2), .inl [((.ofNat (nat_lit 54)), (.ofNat (nat_lit 54)), (nat_lit 1))])
def lcn_1489 : Nat × aAg := ((nat_lit 2), .inl [((.ofNat (nat_lit 55)), (.ofNat (nat_lit 55)), (nat_lit 1))])
def lcn_1490 : Nat × aAg := ((nat_lit 2), .inl [((.ofNat (nat_lit 56)), (.ofNat (nat_lit 56)), (nat_lit 1))])
def lcn_1491 : Nat × aAg := ((nat_lit 2), .inl [((.ofNat (nat_lit 58)), (.ofNat (nat_lit 58)), (nat_lit 1))])
def lcn_1492 : Nat × aAg := ((nat_lit 2), .inl [((.ofNat (nat_lit 59)), (.ofNat (nat_lit 59)), (nat_lit 1))])
def lcn_1493 : Nat × aAg := ((nat_lit 2), .inl [((.ofNat (nat_lit 60)), (.ofNat (nat_lit 60)), (nat_lit 1))])
def lcn_1494 : Nat × aAg := ((nat_lit 2), .inl [((.ofNat (nat_lit 61)), (.ofNat (nat_lit 61)), (nat_lit 1))])
def lcn_1495 : Nat × aAg := ((nat_lit 2), .inl [((.ofNat (nat_lit 62)), (.ofNat (nat_lit 62)), (nat_lit 1))])
def lcn_1496 : Nat × aAg := ((nat_lit 2), .inl [((.ofNat (nat_lit 63)), (.ofNat (nat_lit 63)), (nat_lit 1))])
def lcn_1497 : Nat × aAg := ((nat_lit 2), .inl [((.ofNat (nat_lit 64)), (.ofNat (nat_lit 64)), (nat_lit 1))])
def lcn_1498 : Nat × aAg := ((nat_lit 2), .inl [((.ofNat (nat_lit 65)), (.ofNat (nat_lit 65)), (nat_lit 1))])
def lcn_1499 : Nat × aAg := ((nat_lit 2), .inl [((.ofNat (nat_lit 66)), (.ofNat (nat_lit 66)), (nat_lit 1))])
def lcn_1500 : Nat × aAg := ((nat_lit 2), .inl [((.ofNat (nat_lit 67)), (.ofNat (nat_lit 67)), (nat_lit 1))])
def lcn_1501 : Nat × aAg := ((nat_lit 2), .inl [((.ofNat (nat_lit 68)), (.ofNat (nat_lit 68)), (nat_lit 1))])
def lcn_1502 : Nat × aAg := ((nat_lit 2), .inl [((.ofNat (nat_lit 69)), (.ofNat (nat_lit 69)), (nat_lit 1))])
def lcn_1503 : Nat × aAg := ((nat_lit 2), .inl [((.ofNat (nat_lit 70)), (.ofNat (nat_lit 70)), (nat_lit 1))])
def lcn_1504 : Nat × aAg := ((nat_lit 2), .inl [((.ofNat (nat_lit 71)), (.ofNat (nat_lit 71)), (nat_lit 1))])
def lcn_1505 : Nat × aAg := ((nat_lit 2), .inl [((.ofNat (nat_lit 72)), (.ofNat (nat_lit 72)), (nat_lit 1))])
def lcn_1506 : Nat × aAg := ((nat_lit 2), .inl [((.ofNat (nat_lit 73)), (.ofNat (nat_lit 73)), (nat_lit 1))])
def lcn_1507 : Nat × aAg := ((nat_lit 2), .inl [((.ofNat (nat_lit 74)), (.ofNat (nat_lit 74)), (nat_lit 1))])
def lcn_1508 : Nat × aAg := ((nat_lit 2), .inl [((.ofNat (nat_lit 75)), (.ofNat (nat_lit 75)), (nat_lit 1))])
def lcn_1509 : Nat × aAg := ((nat_lit 2), .inl [((.ofNat (nat_lit 76)), (.ofNat (nat_lit 76)), (nat_lit 1))])
def lcn_1510 : Nat × aAg := ((nat_lit 2), .inl [((.ofNat (nat_lit 77)), (.ofNat (nat_lit 77)), (nat_lit 1))])
def lcn_1511 : Nat × aAg := ((nat_lit 2), .inl [((.ofNat (nat_lit 78)), (.ofNat (nat_lit 78)), (nat_lit 1))])
def lcn_1512 : Nat × aAg := ((nat_lit 2), .inl [((.ofNat (nat_lit 79)), (.ofNat (nat_lit 79)), (nat_lit 1))])
def lcn_1513 : Nat × aAg := ((nat_lit 2), .inl [((.ofNat (nat_lit 80)), (.ofNat (nat_lit 80)), (nat_lit 1))])
def lcn_1514 : Nat × aAg := ((nat_lit 2), .inl [((.ofNat (nat_lit 81)), (.ofNat (nat_lit 81)), (nat_lit 1))])
def lcn_1515 : Nat × aAg := ((nat_lit 2), .inl [((.ofNat (nat_lit 82)), (.ofNat (nat_lit 82)), (nat_lit 1))])
def lcn_1516 : Nat × aAg := ((nat_lit 2), .inl [((.ofNat (nat_lit 83)), (.ofNat (nat_lit 83)), (nat_lit 1))])
def lcn_1517 : Nat × aAg := ((nat_lit 2), .inl [((.ofNat (nat_lit 84)), (.ofNat (nat_lit 84)), (nat_lit 1))])
def lcn_1518 : Nat × aAg := ((nat_lit 2), .inl [((.ofNat (nat_lit 85)), (.ofNat (nat_lit 85)), (nat_lit 1))])
def lcn_1519 : Nat × aAg := ((nat_lit 2), .inl [((.ofNat (nat_lit 86)), (.ofNat (nat_lit 86)), (nat_lit 1))])
def lcn_1520 : Nat × aAg := ((nat_lit 2), .inl [((.ofNat (nat_lit 87)), (.ofNat (nat_lit 87)), (nat_lit 1))])
def lcn_1521 : Nat × aAg := ((nat_lit 2), .inl [((.ofNat (nat_lit 88)), (.ofNat (nat_lit 88)), (nat_lit 1))])
def lcn_1522 : Nat × aAg := ((nat_lit 2), .inl [((.ofNat (nat_lit 89)), (.ofNat (nat_lit 89)), (nat_lit 1))])
def lcn_1523 : Nat × aAg := ((nat_lit 2), .inl [((.ofNat (nat_lit 90)), (.ofNat (nat_lit 90)), (nat_lit 1))])
def lcn_1524 : Nat × aAg := ((nat_lit 2), .inl [((.ofNat (nat_lit 91)), (.ofNat (nat_lit 91)), (nat_lit 1))])
def lcn_1525 : Nat × aAg := ((nat_lit 2), .inl [((.ofNat (nat_lit 92)), (.ofNat (nat_lit 92)), (nat_lit 1))])
def lcn_1526 : Nat × aAg := ((nat_lit 2), .inl [((.ofNat (nat_lit 93)), (.ofNat (nat_lit 93)), (nat_lit 1))])
def lcn_1527 : Nat × aAg := ((nat_lit 2), .inl [((.ofNat (nat_lit 94)), (.ofNat (nat_lit 94)), (nat_lit 1))])
def lcn_1528 : Nat × aAg := ((nat_lit 2), .inl [((.ofNat (nat_lit 95)), (.ofNat (nat_lit 95)), (nat_lit 1))])
def lcn_1529 : Nat × aAg := ((nat_lit 2), .inl [((.ofNat (nat_lit 96)), (.ofNat (nat_lit 96)), (nat_lit 1))])
def lcn_1530 : Nat × aAg := ((nat_lit 2), .inl [((.ofNat (nat_lit 97)), (.ofNat (nat_lit 97)), (nat_lit 1))])
def lcn_1531 : Nat × aAg := ((nat_lit 2), .inl [((.ofNat (nat_lit 98)), (.ofNat (nat_lit 98)), (nat_lit 1))])
def lcn_1532 : Nat × aAg := ((nat_lit 2), .inl [((.ofNat (nat_lit 101)), (.ofNat (nat_lit 101)), (nat_lit 1))])
def lcn_1533 : Nat × aAg := ((nat_lit 2), .inl [((.ofNat (nat_lit 102)), (.ofNat (nat_lit 102)), (nat_lit 1))])
def lcn_1534 : Nat × aAg := ((nat_lit 2), .inl [((.ofNat (nat_lit 103)), (.ofNat (nat_lit 103)), (nat_lit 1))])
def lcn_1535 : Nat × aAg := ((nat_lit 2), .inl [((.ofNat (nat_lit 104)), (.ofNat (nat_lit 104)), (nat_lit 1))])
def lcn_1536 : Nat × aAg := ((nat_lit 2), .inl [((.ofNat (nat_lit 105)), (.ofNat (nat_lit 105)), (nat_lit 1))])
def lcn_1537 : Nat × aAg := ((nat_lit 2), .inl [((.ofNat (nat_lit 106)), (.ofNat (nat_lit 106)), (nat_lit 1))])
def lcn_1538 : Nat × aAg := ((nat_lit 2), .inl [((.ofNat (nat_lit 107)), (.ofNat (nat_lit 107)), (nat_lit 1))])
def lcn_1539 : Nat × aAg := ((nat_lit 2), .inl [((.ofNat (nat_lit 108)), (.ofNat (nat_lit 108)), (nat_lit 1))])
def lcn_1540 : Nat × aAg := ((nat_lit 2), .inl [((.ofNat (nat_lit 109)), (.ofNat (nat_lit 109)), (nat_lit 1))])
def lcn_1541 : Nat × aAg := ((nat_lit 2), .inl [((.ofNat (nat_lit 110)), (.ofNat (nat_lit 110)), (nat_lit 1))])
def lcn_1542 : Nat × aAg := ((nat_lit 2), .inl [((.ofNat (nat_lit 111)), (.ofNat (nat_lit 111)), (nat_lit 1))])
def lcn_1543 : Nat × aAg := ((nat_lit 2), .inl [((.ofNat (nat_lit 112)), (.ofNat (nat_lit 112)), (nat_lit 1))])
def lcn_1544 : Nat × aAg := ((nat_lit 2), .inl [((.ofNat (nat_lit 113)), (.ofNat (nat_lit 113)), (nat_lit 1))])
def lcn_1545 : Nat × aAg := ((nat_lit 2), .inl [((.ofNat (nat_lit 114)), (.ofNat (nat_lit 114)), (nat_lit 1))])
def lcn_1546 : Nat × aAg := ((nat_lit 2), .inl [((.ofNat (nat_lit 115)), (.ofNat (nat_lit 115)), (nat_lit 1))])
def lcn_1547 : Nat × aAg := ((nat_lit 2), .inl [((.ofNat (nat_lit 116)), (.ofNat (nat_lit 116)), (nat_lit 1))])
def lcn_1548 : Nat × aAg := ((nat_lit 2), .inl [((.ofNat (nat_lit 117)), (.ofNat (nat_lit 117)), (nat_lit 1))])
def lcn_1549 : Nat × aAg := ((nat_lit 2), .inl [((.ofNat (nat_lit 118)), (.ofNat (nat_lit 118)), (nat_lit 1))])
def lcn_1550 : Nat × aAg := ((nat_lit 2), .inl [((.ofNat (nat_lit 119)), (.ofNat (nat_lit 119)), (nat_lit 1))])
def lcn_1551 : Nat × aAg := ((nat_lit 2), .inl [((.ofNat (nat_lit 120)), (.ofNat (nat_lit 120)), (nat_lit 1))])
def lcn_1552 : Nat × aAg := ((nat_lit 2), .inl [((.ofNat (nat_lit 121)), (.ofNat (nat_lit 121)), (nat_lit 1))])
def lcn_1553 : Nat × aAg := ((nat_lit 2), .inl [((.ofNat (nat_lit 123)), (.ofNat (nat_lit 123)), (nat_lit 1))])
def lcn_1554 : Nat × aAg := ((nat_lit 2), .inl [((.ofNat (nat_lit 124)), (.ofNat (nat_lit 124)), (nat_lit 1))])
def lcn_1555 : Nat × aAg := ((nat_lit 2), .inl [((.ofNat (nat_lit 125)), (.ofNat (nat_lit 125)), (nat_lit 1))])
def lcn_1556 : Nat × aAg := ((nat_lit 2), .inl [((.ofNat (nat_lit 126)), (.ofNat (nat_lit 126)), (nat_lit 1))])
def lcn_1557 : Nat × aAg := ((nat_lit 2), .inl [((.ofNat (nat_lit 127)), (.ofNat (nat_lit 127)), (nat_lit 1))])
def lcn_1558 : Nat × aAg := ((nat_lit 2), .inl [((.ofNat (nat_lit 128)), (.ofNat (nat_lit 128)), (nat_lit 1))])
def lcn_1559 : Nat × aAg := ((nat_lit 2), .inl [((.ofNat (nat_lit 129)), (.ofNat (nat_lit 129)), (nat_lit 1))])
def lcn_1560 : Nat × aAg := ((nat_lit 2), .inl [((.ofNat (nat_lit 130)), (.ofNat (nat_lit 130)), (nat_lit 1))])
def lcn_1561 : Nat × aAg := ((nat_lit 2), .inl [((.ofNat (nat_lit 131)), (.ofNat (nat_lit 131)), (nat_lit 1))])
def lcn_1562 : Nat × aAg := ((nat_lit 2), .inl [((.ofNat (nat_lit 132)), (.ofNat (nat_lit 132)), (nat_lit 1))])
def lcn_1563 : Nat × aAg := ((nat_lit 2), .inl [((.ofNat (nat_lit 133)), (.ofNat (nat_lit 133)), (nat_lit 1))])
def lcn_1564 : Nat × aAg := ((nat_lit 2), .inl [((.ofNat (nat_lit 134)), (.ofNat (nat_lit 134)), (nat_lit 1))])
def lcn_1565 : Nat × aAg := ((nat_lit 2), .inl [((.ofNat (nat_lit 135)), (.ofNat (nat_lit 135)), (nat_lit 1))])
def lcn_1566 : Nat × aAg := ((nat_lit 2), .inl [((.ofNat (nat_lit 136)), (.ofNat (nat_lit 136)), (nat_lit 1))])
def lcn_1567 : Nat × aAg := ((nat_lit 2), .inl [((.ofNat (nat_lit 137)), (.ofNat (nat_lit 137)), (nat_lit 1))])
def lcn_1568 : Nat × aAg := ((nat_lit 2), .inl [((.ofNat (nat_lit 138)), (.ofNat (nat_lit 138)), (nat_lit 1))])
def lcn_1569 : Nat × aAg := ((nat_lit 2), .inl [((.ofNat (nat_lit 139)), (.ofNat (nat_lit 139)), (nat_lit 1))])
def lcn_1570 : Nat × aAg := ((nat_lit 2), .inl [((.ofNat (nat_lit 140)), (.ofNat (nat_lit 140)), (nat_lit 1))])
def lcn_1571 : Nat × aAg := ((nat_lit 2), .inl [((.ofNat (nat_lit 141)), (.ofNat (nat_lit 141)), (nat_lit 1))])
def lcn_1572 : Nat × aAg := ((nat_lit 2), .inl [((.ofNat (nat_lit 142)), (.ofNat (nat_lit 142)), (nat_lit 1))])
def lcn_1573 : Nat × aAg := ((nat_lit 2), .inl [((.ofNat (nat_lit 143)), (.ofNat (nat_lit 143)), (nat_lit 1))])
def lcn_1574 : Nat × aAg := ((nat_lit 2), .inl [((.ofNat (nat_lit 144)), (.ofNat (nat_lit 144)), (nat_lit 1))])
def lcn_1575 : Nat × aAg := ((nat_lit 2), .inl [((.ofNat (nat_lit 145)), (.ofNat (nat_lit 145)), (nat_lit 1))])
def lcn_1576 : Nat × aAg := ((nat_lit 2), .inl [((.ofNat (nat_lit 146)), (.ofNat (nat_lit 146)), (nat_lit 1))])
def lcn_1577 : Nat × aAg := ((nat_lit 2), .inl [((.ofNat (nat_lit 147)), (.ofNat (nat_lit 147)), (nat_lit 1))])
def lcn_1578 : Nat × aAg := ((nat_lit 2), .inl [((.ofNat (nat_lit 148)), (.ofNat (nat_lit 148)), (nat_lit 1))])
def lcn_1579 : Nat × aAg := ((nat_lit 2), .inl [((.ofNat (nat_lit 149)), (.ofNat (nat_lit 149)), (nat_lit 1))])
def lcn_1580 : Nat × aAg := ((nat_lit 2), .inl [((.ofNat (nat_lit 150)), (.ofNat (nat_lit 150)), (nat_lit 1))])
def lcn_1581 : Nat × aAg := ((nat_lit 2), .inl [((.ofNat (nat_lit 151)), (.ofNat (nat_lit 151)), (nat_lit 1))])
def lcn_1582 : Nat × aAg := ((nat_lit 2), .inl [((.ofNat (nat_lit 152)), (.ofNat (nat_lit 152)), (nat_lit 1))])
def lcn_1583 : Nat × aAg := ((nat_lit 2), .inl [((.ofNat (nat_lit 153)), (.ofNat (nat_lit 153)), (nat_lit 1))])
def lcn_1584 : Nat × aAg := ((nat_lit 2), .inl [((.ofNat (nat_lit 154)), (.ofNat (nat_lit 154)), (nat_lit 1))])
def lcn_1585 : Nat × aAg := ((nat_lit 2), .inl [((.ofNat (nat_lit 155)), (.ofNat (nat_lit 155)), (nat_lit 1))])
def lcn_1586 : Nat × aAg := ((nat_lit 2), .inl [((.ofNat (nat_lit 156)), (.ofNat (nat_lit 156)), (nat_lit 1))])
def lcn_1587 : Nat × aAg := ((nat_lit 2), .inl [((.ofNat (nat_lit 157)), (.ofNat (nat_lit 157)), (nat_lit 1))])
def lcn_1588 : Nat × aAg := ((nat_lit 2), .inl [((.ofNat (nat_lit 158)), (.ofNat (nat_lit 158)), (nat_lit 1))])
def lcn_1589 : Nat × aAg := ((nat_lit 2), .inl [((.ofNat (nat_lit 159)), (.ofNat (nat_lit 159)), (nat_lit 1))])
def lcn_1590 : Nat × aAg := ((nat_lit 2), .inl [((.ofNat (nat_lit 160)), (.ofNat (nat_lit 160)), (nat_lit 1))])
def lcn_1591 : Nat × aAg := ((nat_lit 2), .inl [((.ofNat (nat_lit 161)), (.ofNat (nat_lit 161)), (nat_lit 1))])
def lcn_1592 : Nat × aAg := ((nat_lit 2), .inl [((.ofNat (nat_lit 162)), (.ofNat (nat_lit 162)), (nat_lit 1))])
def lcn_1593 : Nat × aAg := ((nat_lit 2), .inl [((.ofNat (nat_lit 163)), (.ofNat (nat_lit 163)), (nat_lit 1))])
def lcn_1594 : Nat × aAg := ((nat_lit 2), .inl [((.ofNat (nat_lit 164)), (.ofNat (nat_lit 164)), (nat_lit 1))])
def lcn_1595 : Nat × aAg := ((nat_lit 2), .inl [((.ofNat (nat_lit 165)), (.ofNat (nat_lit 165)), (nat_lit 1))])
def lcn_1596 : Nat × aAg := ((nat_lit 2), .inl [((.ofNat (nat_lit 166)), (.ofNat (nat_lit 166)), (nat_lit 1))])
def lcn_1597 : Nat × aAg := ((nat_lit 2), .inl [((.ofNat (nat_lit 167)), (.ofNat (nat_lit 167)), (nat_lit 1))])
def lcn_1598 : Nat × aAg := ((nat_lit 2), .inl [((.ofNat (nat_lit 168)), (.ofNat (nat_lit 168)), (nat_lit 1))])
def lcn_1599 : Nat × aAg := ((nat_lit 2), .inl [((.ofNat (nat_lit 169)), (.ofNat (nat_lit 169)), (nat_lit 1))])
def lcn_1600 : Nat × aAg := ((nat_lit 2), .inl [((.ofNat (nat_lit 170)), (.ofNat (nat_lit 170)), (nat_lit 1))])
def lcn_1601 : Nat × aAg := ((nat_lit 2), .inl [((.ofNat (nat_lit 171)), (.ofNat (nat_lit 171)), (nat_lit 1))])
def lcn_1602 : Nat × aAg := ((nat_lit 2), .inl [((.ofNat (nat_lit 172)), (.ofNat (nat_lit 172)), (nat_lit 1))])
def lcn_1603 : Nat × aAg := ((nat_lit 2), .inl [((.ofNat (nat_lit 173)), (.ofNat (nat_lit 173)), (nat_lit 1))])
def lcn_1604 : Nat × aAg := ((nat_lit 2), .inl [((.ofNat (nat_lit 174)), (.ofNat (nat_lit 174)), (nat_lit 1))])
def lcn_1605 : Nat × aAg := ((nat_lit 2), .inl [((.ofNat (nat_lit 175)), (.ofNat (nat_lit 175)), (nat_lit 1))])
def lcn_1606 : Nat × aAg := ((nat_lit 2), .inl [((.ofNat (nat_lit 176)), (.ofNat (nat_lit 176)), (nat_lit 1))])
def lcn_1607 : Nat × aAg := ((nat_lit 2), .inl [((.ofNat (nat_lit 177)), (.ofNat (nat_lit 177)), (nat_lit 1))])
def lcn_1608 : Nat × aAg := ((nat_lit 2), .inl [((.ofNat (nat_lit 178)), (.ofNat (nat_lit 178)), (nat_lit 1))])
def lcn_1609 : Nat × aAg := ((nat_lit 2), .inl [((.ofNat (nat_lit 179)), (.ofNat (nat_lit 179)), (nat_lit 1))])
def lcn_1610 : Nat × aAg := ((nat_lit 2), .inl [((.ofNat (nat_lit 180)), (.ofNat (nat_lit 180)), (nat_lit 1))])
def lcn_1611 : Nat × aAg := ((nat_lit 2), .inl [((.ofNat (nat_lit 181)), (.ofNat (nat_lit 181)), (nat_lit 1))])
def lcn_1612 : Nat × aAg := ((nat_lit 2), .inl [((.ofNat (nat_lit 182)), (.ofNat (nat_lit 182)), (nat_lit 1))])
def lcn_1613 : Nat × aAg := ((nat_lit 2), .inl [((.ofNat (nat_lit 183)), (.ofNat (nat_lit 183)), (nat_lit 1))])
def lcn_1614 : Nat × aAg := ((nat_lit 2), .inl [((.ofNat (nat_lit 184)), (.ofNat (nat_lit 184)), (nat_lit 1))])
def lcn_1615 : Nat × aAg := ((nat_lit 2), .inl [((.ofNat (nat_lit 185)), (.ofNat (nat_lit 185)), (nat_lit 1))])
def lcn_1616 : Nat × aAg := ((nat_lit 2), .inl [((.ofNat (nat_lit 186)), (.ofNat (nat_lit 186)), (nat_lit 1))])
def lcn_1617 : Nat × aAg := ((nat_lit 2), .inl [((.ofNat (nat_lit 187)), (.ofNat (nat_lit 187)), (nat_lit 1))])
def lcn_1618 : Nat × aAg := ((nat_lit 2), .inl [((.ofNat (nat_lit 188)), (.ofNat (nat_lit 188)), (nat_lit 1))])
def lcn_1619 : Nat × aAg := ((nat_lit 2), .inl [((.ofNat (nat_lit 189)), (.ofNat (nat_lit 189)), (nat_lit 1))])
def lcn_1620 : Nat × aAg := ((nat_lit 2), .inl [((.ofNat (nat_lit 190)), (.ofNat (nat_lit 190)), (nat_lit 1))])
def lcn_1621 : Nat × aAg := ((nat_lit 2), .inl [((.ofNat (nat_lit 191)), (.ofNat (nat_lit 191)), (nat_lit 1))])
def lcn_1622 : Nat × aAg := ((nat_lit 2), .inl [((.ofNat (nat_lit 192)), (.ofNat (nat_lit 192)), (nat_lit 1))])
def lcn_1623 : Nat × aAg := ((nat_lit 2), .inl [((.ofNat (nat_lit 193)), (.ofNat (nat_lit 193)), (nat_lit 1))])
def lcn_1624 : Nat × aAg := ((nat_lit 2), .inl [((.ofNat (nat_lit 194)), (.ofNat (nat_lit 194)), (nat_lit 1))])
def lcn_1625 : Nat × aAg := ((nat_lit 2), .inl [((.ofNat (nat_lit 195)), (.ofNat (nat_lit 195)), (nat_lit 1))])
def lcn_1626 : Nat × aAg := ((nat_lit 2), .inl [((.ofNat (nat_lit 196)), (.ofNat (nat_lit 196)), (nat_lit 1))])
def lcn_1627 : Nat × aAg := ((nat_lit 2), .inl [((.ofNat (nat_lit 197)), (.ofNat (nat_lit 197)), (nat_lit 1))])
def lcn_1628 : Nat × aAg := ((nat_lit 2), .inl [((.ofNat (nat_lit 198)), (.ofNat (nat_lit 198)), (nat_lit 1))])
def lcn_1629 : Nat × aAg := ((nat_lit 2), .inl [((.ofNat (nat_lit 199)), (.ofNat (nat_lit 199)), (nat_lit 1))])
def lcn_1630 : Nat × aAg := ((nat_lit 2), .inl [((.ofNat (nat_lit 200)), (.ofNat (nat_lit 200)), (nat_lit 1))])
def lcn_1631 : Nat × aAg := ((nat_lit 2), .inl [((.ofNat (nat_lit 201)), (.ofNat (nat_lit 201)), (nat_lit 1))])
def lcn_1632 : Nat × aAg := ((nat_lit 2), .inl [((.ofNat (nat_lit 202)), (.ofNat (nat_lit 202)), (nat_lit 1))])
def lcn_1633 : Nat × aAg := ((nat_lit 2), .inl [((.ofNat (nat_lit 203)), (.ofNat (nat_lit 203)), (nat_lit 1))])
def lcn_1634 : Nat × aAg := ((nat_lit 2), .inl [((.ofNat (nat_lit 204)), (.ofNat (nat_lit 204)), (nat_lit 1))])
def lcn_1635 : Nat × aAg := ((nat_lit 2), .inl [((.ofNat (nat_lit 205)), (.ofNat (nat_lit 205)), (nat_lit 1))])
def lcn_1636 : Nat × aAg := ((nat_lit 2), .inl [((.ofNat (nat_lit 206)), (.ofNat (nat_lit 206)), (nat_lit 1))])
def lcn_1637 : Nat × aAg := ((nat_lit 2), .inl [((.ofNat (nat_lit 207)), (.ofNat (nat_lit 207)), (nat_lit 1))])
def lcn_1638 : Nat × aAg := ((nat_lit 2), .inl [((.ofNat (nat_lit 208)), (.ofNat (nat_lit 208)), (nat_lit 1))])
def lcn_1639 : Nat × aAg := ((nat_lit 2), .inl [((.ofNat (nat_lit 209)), (.ofNat (nat_lit 209)), (nat_lit 1))])
def lcn_1640 : Nat × aAg := ((nat_lit 2), .inl [((.ofNat (nat_lit 210)), (.ofNat (nat_lit 210)), (nat_lit 1))])
def lcn_1641 : Nat × aAg := ((nat_lit 2), .inl [((.ofNat (nat_lit 211)), (.ofNat (nat_lit 211)), (nat_lit 1))])
def lcn_1642 : Nat × aAg := ((nat_lit 2), .inl [((.ofNat (nat_lit 212)), (.ofNat (nat_lit 212)), (nat_lit 1))])
def lcn_1643 : Nat × aAg := ((nat_lit 2), .inl [((.ofNat (nat_lit 213)), (.ofNat (nat_lit 213)), (nat_lit 1))])
def lcn_1644 : Nat × aAg := ((nat_lit 2), .inl [((.ofNat (nat_lit 214)), (.ofNat (nat_lit 214)), (nat_lit 1))])
def lcn_1645 : Nat × aAg := ((nat_lit 2), .inl [((.ofNat (nat_lit 215)), (.ofNat (nat_lit 215)), (nat_lit 1))])
def lcn_1646 : Nat × aAg := ((nat_lit 2), .inl [((.ofNat (nat_lit 216)), (.ofNat (nat_lit 216)), (nat_lit 1))])
def lcn_1647 : Nat × aAg := ((nat_lit 2), .inl [((.ofNat (nat_lit 217)), (.ofNat (nat_lit 217)), (nat_lit 1))])
def lcn_1648 : Nat × aAg := ((nat_lit 2), .inl [((.ofNat (nat_lit 218)), (.ofNat (nat_lit 218)), (nat_lit 1))])
def lcn_1649 : Nat × aAg := ((nat_lit 2), .inl [((.ofNat (nat_lit 219)), (.ofNat (nat_lit 219)), (nat_lit 1))])
def lcn_1650 : Nat × aAg := ((nat_lit 2), .inl [((.ofNat (nat_lit 220)), (.ofNat (nat_lit 220)), (nat_lit 1))])
def lcn_1651 : Nat × aAg := ((nat_lit 2), .inl [((.ofNat (nat_lit 221)), (.ofNat (nat_lit 221)), (nat_lit 1))])
def lcn_1652 : Nat × aAg := ((nat_lit 2), .inl [((.ofNat (nat_lit 222)), (.ofNat (nat_lit 222)), (nat_lit 1))])
def lcn_1653 : Nat × aAg := ((nat_lit 2), .inl [((.ofNat (nat_lit 223)), (.ofNat (nat_lit 223)), (nat_lit 1))])
def lcn_1654 : Nat × aAg := ((nat_lit 2), .inl [((.ofNat (nat_lit 224)), (.ofNat (nat_lit 224)), (nat_lit 1))])
def lcn_1655 : Nat × aAg := ((nat_lit 2), .inl [((.ofNat (nat_lit 225)), (.ofNat (nat_lit 225)), (nat_lit 1))])
def lcn_1656 : Nat × aAg := ((nat_lit 2), .inl [((.ofNat (nat_lit 226)), (.ofNat (nat_lit 226)), (nat_lit 1))])
def lcn_1657 : Nat × aAg := ((nat_lit 2), .inl [((.ofNat (nat_lit 227)), (.ofNat (nat_lit 227)), (nat_lit 1))])
def lcn_1658 : Nat × aAg := ((nat_lit 2), .inl [((.ofNat (nat_lit 228)), (.ofNat (nat_lit 228)), (nat_lit 1))])
def lcn_1659 : Nat × aAg := ((nat_lit 2), .inl [((.ofNat (nat_lit 229)), (.ofNat (nat_lit 229)), (nat_lit 1))])
def lcn_1660 : Nat × aAg := ((nat_lit 2), .inl [((.ofNat (nat_lit 230)), (.ofNat (nat_lit 230)), (nat_lit 1))])
def lcn_1661 : Nat × aAg := ((nat_lit 2), .inl [((.ofNat (nat_lit 231)), (.ofNat (nat_lit 231)), (nat_lit 1))])
def lcn_1662 : Nat × aAg := ((nat_lit 2), .inl [((.ofNat (nat_lit 232)), (.ofNat (nat_lit 232)), (nat_lit 1))])
def lcn_1663 : Nat × aAg := ((nat_lit 2), .inl [((.ofNat (nat_lit 233)), (.ofNat (nat_lit 233)), (nat_lit 1))])
def lcn_1664 : Nat × aAg := ((nat_lit 2), .inl [((.ofNat (nat_lit 234)), (.ofNat (nat_lit 234)), (nat_lit 1))])
def lcn_1665 : Nat × aAg := ((nat_lit 2), .inl [((.ofNat (nat_lit 235)), (.ofNat (nat_lit 235)), (nat_lit 1))])
def lcn_1666 : Nat × aAg := ((nat_lit 2), .inl [((.ofNat (nat_lit 236)), (.ofNat (nat_lit 236)), (nat_lit 1))])
def lcn_1667 : Nat × aAg := ((nat_lit 2), .inl [((.ofNat (nat_lit 237)), (.ofNat (nat_lit 237)), (nat_lit 1))])
def lcn_1668 : Nat × aAg := ((nat_lit 2), .inl [((.ofNat (nat_lit 238)), (.ofNat (nat_lit 238)), (nat_lit 1))])
def lcn_1669 : Nat × aAg := ((nat_lit 2), .inl [((.ofNat (nat_lit 239)), (.ofNat (nat_lit 239)), (nat_lit 1))])
def lcn_1670 : Nat × aAg := ((nat_lit 2), .inl [((.ofNat (nat_lit 240)), (.ofNat (nat_lit 240)), (nat_lit 1))])
def lcn_1671 : Nat × aAg := ((nat_lit 2), .inl [((.ofNat (nat_lit 241)), (.ofNat (nat_lit 241)), (nat_lit 1))])
def lcn_1672 : Nat × aAg := ((nat_lit 2), .inl [((.ofNat (nat_lit 242)), (.ofNat (nat_lit 242)), (nat_lit 1))])
def lcn_1673 : Nat × aAg := ((nat_lit 2), .inl [((.ofNat (nat_lit 243)), (.ofNat (nat_lit 243)), (nat_lit 1))])
def lcn_1674 : Nat × aAg := ((nat_lit 2), .inl [((.ofNat (nat_lit 244)), (.ofNat (nat_lit 244)), (nat_lit 1))])
def lcn_1675 : Nat × aAg := ((nat_lit 2), .inl [((.ofNat (nat_lit 245)), (.ofNat (nat_lit 245)), (nat_lit 1))])
def lcn_1676 : Nat × aAg := ((nat_lit 2), .inl [((.ofNat (nat_lit 246)), (.ofNat (nat_lit 246)), (nat_lit 1))])
def lcn_1677 : Nat × aAg := ((nat_lit 2), .inl [((.ofNat (nat_lit 247)), (.ofNat (nat_lit 247)), (nat_lit 1))])
def lcn_1678 : Nat × aAg := ((nat_lit 2), .inl [((.ofNat (nat_lit 248)), (.ofNat (nat_lit 248)), (nat_lit 1))])
def lcn_1679 : Nat × aAg := ((nat_lit 2), .inl [((.ofNat (nat_lit 249)), (.ofNat (nat_lit 249)), (nat_lit 1))])
def lcn_1680 : Nat × aAg := ((nat_lit 2), .inl [((.ofNat (nat_lit 250)), (.ofNat (nat_lit 250)), (nat_lit 1))])
def lcn_1681 : Nat × aAg := ((nat_lit 2), .inl [((.ofNat (nat_lit 251)), (.ofNat (nat_lit 251)), (nat_lit 1))])
def lcn_1682 : Nat × aAg := ((nat_lit 2), .inl [((.ofNat (nat_lit 252)), (.ofNat (nat_lit 252)), (nat_lit 1))])
def lcn_1683 : Nat × aAg := ((nat_lit 2), .inl [((.ofNat (nat_lit 253)), (.ofNat (nat_lit 253)), (nat_lit 1))])
def lcn_1684 : Nat × aAg := ((nat_lit 2), .inl [((.ofNat (nat_lit 254)), (.ofNat (nat_lit 254)), (nat_lit 1))])
def lcn_1685 : Nat × aAg := ((nat_lit 2), .inl [((.ofNat (nat_lit 255)), (.ofNat (nat_lit 255)), (nat_lit 1))])
def lcn_1686 : Nat × aAg := ((nat_lit 2), .inl [((.ofNat (nat_lit 256)), (.ofNat (nat_lit 256)), (nat_lit 1))])
def lcn_1687 : Nat × aAg := ((nat_lit 2), .inl [((.ofNat (nat_lit 257)), (.ofNat (nat_lit 257)), (nat_lit 1))])
def lcn_1688 : Nat × aAg := ((nat_lit 2), .inl [((.ofNat (nat_lit 258)), (.ofNat (nat_lit 258)), (nat_lit 1))])
def lcn_1689 : Nat × aAg := ((nat_lit 2), .inl [((.ofNat (nat_lit 259)), (.ofNat (nat_lit 259)), (nat_lit 1))])
def lcn_1690 : Nat × aAg := ((nat_lit 2), .inl [((.ofNat (nat_lit 260)), (.ofNat (nat_lit 260)), (nat_lit 1))])
def lcn_1691 : Nat × aAg := ((nat_lit 2), .inl [((.ofNat (nat_lit 261)), (.ofNat (nat_lit 261)), (nat_lit 1))])
def lcn_1692 : Nat × aAg := ((nat_lit 2), .inl [((.ofNat (nat_lit 262)), (.ofNat (nat_lit 262)), (nat_lit 1))])
def lcn_1693 : Nat × aAg := ((nat_lit 2), .inl [((.ofNat (nat_lit 263)), (.ofNat (nat_lit 263)), (nat_lit 1))])
def lcn_1694 : Nat × aAg := ((nat_lit 2), .inl [((.ofNat (nat_lit 264)), (.ofNat (nat_lit 264)), (nat_lit 1))])
def lcn_1695 : Nat × aAg := ((nat_lit 2), .inl [((.ofNat (nat_lit 265)), (.ofNat (nat_lit 265)), (nat_lit 1))])
def lcn_1696 : Nat × aAg := ((nat_lit 2), .inl [((.ofNat (nat_lit 266)), (.ofNat (nat_lit 266)), (nat_lit 1))])
def lcn_1697 : Nat × aAg := ((nat_lit 2), .inl [((.ofNat (nat_lit 267)), (.ofNat (nat_lit 267)), (nat_lit 1))])
def lcn_1698 : Nat × aAg := ((nat_lit 2), .inl [((.ofNat (nat_lit 268)), (.ofNat (nat_lit 268)), (nat_lit 1))])
def lcn_1699 : Nat × aAg := ((nat_lit 2), .inl [((.ofNat (nat_lit 269)), (.ofNat (nat_lit 269)), (nat_lit 1))])
def lcn_1700 : Nat × aAg := ((nat_lit 2), .inl [((.ofNat (nat_lit 270)), (.ofNat (nat_lit 270)), (nat_lit 1))])
def lcn_1701 : Nat × aAg := ((nat_lit 2), .inl [((.ofNat (nat_lit 271)), (.ofNat (nat_lit 271)), (nat_lit 1))])
def lcn_1702 : Nat × aAg := ((nat_lit 2), .inl [((.ofNat (nat_lit 272)), (.ofNat (nat_lit 272)), (nat_lit 1))])
def lcn_1703 : Nat × aAg := ((nat_lit 2), .inl [((.ofNat (nat_lit 273)), (.ofNat (nat_lit 273)), (nat_lit 1))])
def lcn_1704 : Nat × aAg := ((nat_lit 2), .inl [((.ofNat (nat_lit 274)), (.ofNat (nat_lit 274)), (nat_lit 1))])
def lcn_1705 : Nat × aAg := ((nat_lit 2), .inl [((.ofNat (nat_lit 275)), (.ofNat (nat_lit 275)), (nat_lit 1))])
def lcn_1706 : Nat × aAg := ((nat_lit 2), .inl [((.ofNat (nat_lit 276)), (.ofNat (nat_lit 276)), (nat_lit 1))])
def lcn_1707 : Nat × aAg := ((nat_lit 2), .inl [((.ofNat (nat_lit 277)), (.ofNat (nat_lit 277)), (nat_lit 1))])
def lcn_1708 : Nat × aAg := ((nat_lit 2), .inl [((.ofNat (nat_lit 278)), (.ofNat (nat_lit 278)), (nat_lit 1))])
def lcn_1709 : Nat × aAg := ((nat_lit 2), .inl [((.ofNat (nat_lit 279)), (.ofNat (nat_lit 279)), (nat_lit 1))])
def lcn_1710 : Nat × aAg := ((nat_lit 2), .inl [((.ofNat (nat_lit 280)), (.ofNat (nat_lit 280)), (nat_lit 1))])
def lcn_1711 : Nat × aAg := ((nat_lit 2), .inl [((.ofNat (nat_lit 281)), (.ofNat (nat_lit 281)), (nat_lit 1))])
def lcn_1712 : Nat × aAg := ((nat_lit 2), .inl [((.ofNat (nat_lit 282)), (.ofNat (nat_lit 282)), (nat_lit 1))])
def lcn_1713 : Nat × aAg := ((nat_lit 2), .inl [((.ofNat (nat_lit 283)), (.ofNat (nat_lit 283)), (nat_lit 1))])
def lcn_1714 : Nat × aAg := ((nat_lit 2), .inl [((.ofNat (nat_lit 284)), (.ofNat (nat_lit 284)), (nat_lit 1))])
def lcn_1715 : Nat × aAg := ((nat_lit 2), .inl [((.ofNat (nat_lit 285)), (.ofNat (nat_lit 285)), (nat_lit 1))])
def lcn_1716 : Nat × aAg := ((nat_lit 2), .inl [((.ofNat (nat_lit 286)), (.ofNat (nat_lit 286)), (nat_lit 1))])
def lcn_1717 : Nat × aAg := ((nat_lit 2), .inl [((.ofNat (nat_lit 287)), (.ofNat (nat_lit 287)), (nat_lit 1))])
def lcn_1718 : Nat × aAg := ((nat_lit 2), .inl [((.ofNat (nat_lit 288)), (.ofNat (nat_lit 288)), (nat_lit 1))])
def lcn_1719 : Nat × aAg := ((nat_lit 2), .inl [((.ofNat (nat_lit 289)), (.ofNat (nat_lit 289)), (nat_lit 1))])
def lcn_1720 : Nat × aAg := ((nat_lit 2), .inl [((.ofNat (nat_lit 290)), (.ofNat (nat_lit 290)), (nat_lit 1))])
def lcn_1721 : Nat × aAg := ((nat_lit 2), .inl [((.ofNat (nat_lit 291)), (.ofNat (nat_lit 291)), (nat_lit 1))])
def lcn_1722 : Nat × aAg := ((nat_lit 2), .inl [((.ofNat (nat_lit 292)), (.ofNat (nat_lit 292)), (nat_lit 1))])
def lcn_1723 : Nat × aAg := ((nat_lit 2), .inl [((.ofNat (nat_lit 293)), (.ofNat (nat_lit 293)), (nat_lit 1))])
def lcn_1724 : Nat × aAg := ((nat_lit 2), .inl [((.ofNat (nat_lit 294)), (.ofNat (nat_lit 294)), (nat_lit 1))])
def lcn_1725 : Nat × aAg := ((nat_lit 2), .inl [((.ofNat (nat_lit 295)), (.ofNat (nat_lit 295)), (nat_lit 1))])
def lcn_1726 : Nat × aAg := ((nat_lit 2), .inl [((.ofNat (nat_lit 296)), (.ofNat (nat_lit 296)), (nat_lit 1))])
def lcn_1727 : Nat × aAg := ((nat_lit 2), .inl [((.ofNat (nat_lit 297)), (.ofNat (nat_lit 297)), (nat_lit 1))])
def lcn_1728 : Nat × aAg := ((nat_lit 2), .inl [((.ofNat (nat_lit 298)), (.ofNat (nat_lit 298)), (nat_lit 1))])
def lcn_1729 : Nat × aAg := ((nat_lit 2), .inl [((.ofNat (nat_lit 299)), (.ofNat (nat_lit 299)), (nat_lit 1))])
def lcn_1730 : Nat × aAg := ((nat_lit 2), .inl [((.ofNat (nat_lit 300)), (.ofNat (nat_lit 300)), (nat_lit 1))])
def lcn_1731 : Nat × aAg := ((nat_lit 2), .inl [((.ofNat (nat_lit 301)), (.ofNat (nat_lit 301)), (nat_lit 1))])
def lcn_1732 : Nat × aAg := ((nat_lit 2), .inl [((.ofNat (nat_lit 302)), (.ofNat (nat_lit 302)), (nat_lit 1))])
def lcn_1733 : Nat × aAg := ((nat_lit 2), .inl [((.ofNat (nat_lit 303)), (.ofNat (nat_lit 303)), (nat_lit 1))])
def lcn_1734 : Nat × aAg := ((nat_lit 2), .inl [((.ofNat (nat_lit 304)), (.ofNat (nat_lit 304)), (nat_lit 1))])
def lcn_1735 : Nat × aAg := ((nat_lit 2), .inl [((.ofNat (nat_lit 305)), (.ofNat (nat_lit 305)), (nat_lit 1))])
def lcn_1736 : Nat × aAg := ((nat_lit 2), .inl [((.ofNat (nat_lit 306)), (.ofNat (nat_lit 306)), (nat_lit 1))])
def lcn_1737 : Nat × aAg := ((nat_lit 2), .inl [((.ofNat (nat_lit 307)), (.ofNat (nat_lit 307)), (nat_lit 1))])
def lcn_1738 : Nat × aAg := ((nat_lit 2), .inl [((.ofNat (nat_lit 308)), (.ofNat (nat_lit 308)), (nat_lit 1))])
def lcn_1739 : Nat × aAg := ((nat_lit 2), .inl [((.ofNat (nat_lit 309)), (.ofNat (nat_lit 309)), (nat_lit 1))])
def lcn_1740 : Nat × aAg := ((nat_lit 2), .inl [((.ofNat (nat_lit 310)), (.ofNat (nat_lit 310)), (nat_lit 1))])
def lcn_1741 : Nat × aAg := ((nat_lit 2), .inl [((.ofNat (nat_lit 311)), (.ofNat (nat_lit 311)), (nat_lit 1))])
def lcn_1742 : Nat × aAg := ((nat_lit 2), .inl [((.ofNat (nat_lit 312)), (.ofNat (nat_lit 312)), (nat_lit 1))])
def lcn_1743 : Nat × aAg := ((nat_lit 2), .inl [((.ofNat (nat_lit 313)), (.ofNat (nat_lit 313)), (nat_lit 1))])
def lcn_1744 : Nat × aAg := ((nat_lit 2), .inl [((.ofNat (nat_lit 314)), (.ofNat (nat_lit 314)), (nat_lit 1))])
def lcn_1745 : Nat × aAg := ((nat_lit 2), .inl [((.ofNat (nat_lit 315)), (.ofNat (nat_lit 315)), (nat_lit 1))])
def lcn_1746 : Nat × aAg := ((nat_lit 2), .inl [((.ofNat (nat_lit 316)), (.ofNat (nat_lit 316)), (nat_lit 1))])
def lcn_1747 : Nat × aAg := ((nat_lit 2), .inl [((.ofNat (nat_lit 317)), (.ofNat (nat_lit 317)), (nat_lit 1))])
def lcn_1748 : Nat × aAg := ((nat_lit 2), .inl [((.ofNat (nat_lit 318)), (.ofNat (nat_lit 318)), (nat_lit 1))])
def lcn_1749 : Nat × aAg := ((nat_lit 2), .inl [((.ofNat (nat_lit 319)), (.ofNat (nat_lit 319)), (nat_lit 1))])
def lcn_1750 : Nat × aAg := ((nat_lit 2), .inl [((.ofNat (nat_lit 320)), (.ofNat (nat_lit 320)), (nat_lit 1))])
def lcn_1751 : Nat × aAg := ((nat_lit 2), .inl [((.ofNat (nat_lit 321)), (.ofNat (nat_lit 321)), (nat_lit 1))])
def lcn_1752 : Nat × aAg := ((nat_lit 2), .inl [((.ofNat (nat_lit 322)), (.ofNat (nat_lit 322)), (nat_lit 1))])
def lcn_1753 : Nat × aAg := ((nat_lit 2), .inl [((.ofNat (nat_lit 323)), (.ofNat (nat_lit 323)), (nat_lit 1))])
def lcn_1754 : Nat × aAg := ((nat_lit 2), .inl [((.ofNat (nat_lit 324)), (.ofNat (nat_lit 324)), (nat_lit 1))])
def lcn_1755 : Nat × aAg := ((nat_lit 2), .inl [((.ofNat (nat_lit 325)), (.ofNat (nat_lit 325)), (nat_lit 1))])
def lcn_1756 : Nat × aAg := ((nat_lit 2), .inl [((.ofNat (nat_lit 326)), (.ofNat (nat_lit 326)), (nat_lit 1))])
def lcn_1757 : Nat × aAg := ((nat_lit 2), .inl [((.ofNat (nat_lit 327)), (.ofNat (nat_lit 327)), (nat_lit 1))])
def lcn_1758 : Nat × aAg := ((nat_lit 2), .inl [((.ofNat (nat_lit 328)), (.ofNat (nat_lit 328)), (nat_lit 1))])
def lcn_1759 : Nat × aAg := ((nat_lit 2), .inl [((.ofNat (nat_lit 329)), (.ofNat (nat_lit 329)), (nat_lit 1))])
def lcn_1760 : Nat × aAg := ((nat_lit 2), .inl [((.ofNat (nat_lit 330)), (.ofNat (nat_lit 330)), (nat_lit 1))])
def lcn_1761 : Nat × aAg := ((nat_lit 2), .inl [((.ofNat (nat_lit 331)), (.ofNat (nat_lit 331)), (nat_lit 1))])
def lcn_1762 : Nat × aAg := ((nat_lit 2), .inl [((.ofNat (nat_lit 332)), (.ofNat (nat_lit 332)), (nat_lit 1))])
def lcn_1763 : Nat × aAg := ((nat_lit 2), .inl [((.ofNat (nat_lit 333)), (.ofNat (nat_lit 333)), (nat_lit 1))])
def lcn_1764 : Nat × aAg := ((nat_lit 2), .inl [((.ofNat (nat_lit 334)), (.ofNat (nat_lit 334)), (nat_lit 1))])
def lcn_1765 : Nat × aAg := ((nat_lit 2), .inl [((.ofNat (nat_lit 335)), (.ofNat (nat_lit 335)), (nat_lit 1))])
def lcn_1766 : Nat × aAg := ((nat_lit 2), .inl [((.ofNat (nat_lit 336)), (.ofNat (nat_lit 336)), (nat_lit 1))])
def lcn_1767 : Nat × aAg := ((nat_lit 2), .inl [((.ofNat (nat_lit 337)), (.ofNat (nat_lit 337)), (nat_lit 1))])
def lcn_1768 : Nat × aAg := ((nat_lit 2), .inl [((.ofNat (nat_lit 338)), (.ofNat (nat_lit 338)), (nat_lit 1))])
def lcn_1769 : Nat × aAg := ((nat_lit 2), .inl [((.ofNat (nat_lit 339)), (.ofNat (nat_lit 339)), (nat_lit 1))])
def lcn_1770 : Nat × aAg := ((nat_lit 2), .inl [((.ofNat (nat_lit 340)), (.ofNat (nat_lit 340)), (nat_lit 1))])
def lcn_1771 : Nat × aAg := ((nat_lit 2), .inl [((.ofNat (nat_lit 341)), (.ofNat (nat_lit 341)), (nat_lit 1))])
def lcn_1772 : Nat × aAg := ((nat_lit 2), .inl [((.ofNat (nat_lit 342)), (.ofNat (nat_lit 342)), (nat_lit 1))])
def lcn_1773 : Nat × aAg := ((nat_lit 2), .inl [((.ofNat (nat_lit 343)), (.ofNat (nat_lit 343)), (nat_lit 1))])
def lcn_1774 : Nat × aAg := ((nat_lit 2), .inl [((.ofNat (nat_lit 344)), (.ofNat (nat_lit 344)), (nat_lit 1))])
def lcn_1775 : Nat × aAg := ((nat_lit 2), .inl [((.ofNat (nat_lit 345)), (.ofNat (nat_lit 345)), (nat_lit 1))])
def lcn_1776 : Nat × aAg := ((nat_lit 2), .inl [((.ofNat (nat_lit 346)), (.ofNat (nat_lit 346)), (nat_lit 1))])
def lcn_1777 : Nat × aAg := ((nat_lit 2), .inl [((.ofNat (nat_lit 347)), (.ofNat (nat_lit 347)), (nat_lit 1))])
def lcn_1778 : Nat × aAg := ((nat_lit 2), .inl [((.ofNat (nat_lit 348)), (.ofNat (nat_lit 348)), (nat_lit 1))])
def lcn_1779 : Nat × aAg := ((nat_lit 2), .inl [((.ofNat (nat_lit 349)), (.ofNat (nat_lit 349)), (nat_lit 1))])
def lcn_1780 : Nat × aAg := ((nat_lit 2), .inl [((.ofNat (nat_lit 350)), (.ofNat (nat_lit 350)), (nat_lit 1))])
def lcn_1781 : Nat × aAg := ((nat_lit 2), .inl [((.ofNat (nat_lit 351)), (.ofNat (nat_lit 351)), (nat_lit 1))])
def lcn_1782 : Nat × aAg := ((nat_lit 2), .inl [((.ofNat (nat_lit 352)), (.ofNat (nat_lit 352)), (nat_lit 1))])
def lcn_1783 : Nat × aAg := ((nat_lit 2), .inl [((.ofNat (nat_lit 353)), (.ofNat (nat_lit 353)), (nat_lit 1))])
def lcn_1784 : Nat × aAg := ((nat_lit 2), .inl [((.ofNat (nat_lit 354)), (.ofNat (nat_lit 354)), (nat_lit 1))])
def lcn_1785 : Nat × aAg := ((nat_lit 2), .inl [((.ofNat (nat_lit 355)), (.ofNat (nat_lit 355)), (nat_lit 1))])
def lcn_1786 : Nat × aAg := ((nat_lit 2), .inl [((.ofNat (nat_lit 356)), (.ofNat (nat_lit 356)), (nat_lit 1))])
def lcn_1787 : Nat × aAg := ((nat_lit 2), .inl [((.ofNat (nat_lit 357)), (.ofNat (nat_lit 357)), (nat_lit 1))])
def lcn_1788 : Nat × aAg := ((nat_lit 2), .inl [((.ofNat (nat_lit 358)), (.ofNat (nat_lit 358)), (nat_lit 1))])
def lcn_1789 : Nat × aAg := ((nat_lit 2), .inl [((.ofNat (nat_lit 359)), (.ofNat (nat_lit 359)), (nat_lit 1))])
def lcn_1790 : Nat × aAg := ((nat_lit 2), .inl [((.ofNat (nat_lit 360)), (.ofNat (nat_lit 360)), (nat_lit 1))])
def lcn_1791 : Nat × aAg := ((nat_lit 2), .inl [((.ofNat (nat_lit 361)), (.ofNat (nat_lit 361)), (nat_lit 1))])
def lcn_1792 : Nat × aAg := ((nat_lit 2), .inl [((.ofNat (nat_lit 362)), (.ofNat (nat_lit 362)), (nat_lit 1))])
set_option maxRecDepth 100000 in
theorem btX12_post : bTab oX12_post tX12_post := ⟨ofX12_post, by decide +kernel⟩
def ct_900 : aCt := (mX12_post, [ag_861, ag_1], ([], []), [pon_1434, pon_1436], mdn_1437, [], (nat_lit 7))
def lk_900 : aLk := [(173, 0, 1, ct_555), (173, 0, 1, ct_558), (173, 0, 1, ct_700), (173, 0, 1, ct_548), (173, 0, 1, ct_694), (173, 0, 1, ct_552), (173, 0, 1, ct_697), (173, 0, 1, ct_736), (173, 0, 1, ct_734), (173, 0, 1, ct_735), (173, 0, 1, ct_766), (173, 0, 1, ct_764), (173, 0, 1, ct_765), (173, 0, 1, ct_796), (173, 0, 1, ct_794), (173, 0, 1, ct_795), (173, 0, 1, ct_826), (173, 0, 1, ct_824), (173, 0, 1, ct_825), (173, 0, 1, ct_856), (173, 0, 1, ct_854), (173, 0, 1, ct_855), (173, 0, 1, ct_886), (173, 0, 1, ct_884), (173, 0, 1, ct_885), (173, 0, 1, ct_899), (173, 0, 1, ct_897), (173, 0, 1, ct_898), (121, 0, 1, ct_X12_next_0), (170, 0, 2, ct_549), (176, 1, 5, ct_X12_copy_0), (176, 1, 5, ct_X12_copy_2), (176, 1, 5, ct_X12_copy_1), (176, 1, 5, ct_X12_copy_3), (176, 1, 5, ct_X12_copy_4), (176, 1, 5, ct_X12_copy_5), (176, 1, 5, ct_X12_copy_6), (176, 1, 5, ct_X12_copy_7), (176, 1, 5, ct_X12_copy_15), (127, 0, 3, ct_460), (127, 0, 3, ct_535)]
def ctE_900 : aCt := (mX12_post, [.inr (.inl [196]), .inl aTop], ([], []), [(some (.inl [(1, 7, 1)]), [], [((196, 2), [(0, 0, 1)]), ((196, 6), [(0, 0, 1)]), ((196, 8), [(0, 0, 1), (9, 1000, 1)]), ((196, 11), [(0, 0, 1)]), ((196, 13), [(0, 0, 1)]), ((196, 14), [(1, 1, 1)]), ((196, 20), [(0, 0, 1)]), ((196, 21), [(0, 0, 1)]), ((199, 0), [(2, 4, 1)]), ((199, 4), [(1, 7, 1)]), ((200, 0), [(2, 4, 1)]), ((200, 4), [(1, 7, 1)]), ((200, 9), [(1, 1, 1)])], []), (some (.inl [(-1, -1, 1)]), [], [((196, 2), [(0, 0, 1)]), ((196, 6), [(0, 3, 1), (59, 59, 1)]), ((196, 8), [(0, 1000, 1)]), ((196, 11), [(4, 4, 1)]), ((196, 13), [(1, 1, 1)]), ((200, 0), [(0, 0, 1), (2, 4, 1)])], [])], [(196, 3, 12), (196, 13, 15), (196, 20, 22), (198, 0, 8), (199, 0, 363), (200, 0, 363), (201, 0, 76)], [], 7)
def ct2_900 : aCt := (ctE_900.1, ctE_900.2.1, ctE_900.2.2.1, ctE_900.2.2.2.1, [(196, 3, 12), (196, 13, 15), (196, 20, 22), (198, 0, 8), (199, 0, 363), (200, 0, 363), (201, 0, 76), (1000002, 0, 0)], ctE_900.2.2.2.2.2.1, ctE_900.2.2.2.2.2.2)
def nT_900_0 : aNd := ((nat_lit 194), [lcn_898, lcn_286, lcn_1438], [], [sl_1427, sl_886, sl_892, sl_867, sl_906, sl_1431, sl_1432, sl_1439, sl_955, sl_1433, sl_957], [], (114, [(1, -1)]))
def nT_900_1 : aNd := ((nat_lit 215), [lcn_898, lcn_286, lcn_293], [], [sl_1427, sl_886, sl_892, sl_867, sl_906, sl_1431, sl_1432, sl_1439, sl_955, sl_1433, sl_957], [], (14, [(1, -1)]))
def nT_900_2 : aNd := ((nat_lit 255), [lcn_898, lcn_286, lcn_296], [], [sl_1427, sl_886, sl_892, sl_867, sl_906, sl_1431, sl_1432, sl_1439, sl_955, sl_1433, sl_957], [], (8, [(1, -1)]))
def nT_900 : List aNd := [nT_900_0, nT_900_1, nT_900_2]
def nA_900_0 : aNd := ((nat_lit 97), [lcn_898, lcn_286, lcn_1440], [], [sl_1427, sl_1215, sl_887, sl_867, sl_906, sl_955, sl_945, sl_946, sl_957, sl_948, sl_949, sl_950, sl_951, sl_952, sl_953, sl_954], [], (1, []))
def nA_900_1 : aNd := ((nat_lit 97), [lcn_898, lcn_286, lcn_1440], [], [sl_1427, sl_1215, sl_887, sl_867, sl_906, sl_955, sl_987, sl_957, sl_949, sl_950, sl_951, sl_952, sl_953, sl_954], [], (1, []))
def nA_900_2 : aNd := ((nat_lit 97), [lcn_898, lcn_286, lcn_1440], [], [sl_1427, sl_1215, sl_887, sl_867, sl_906, sl_955, sl_1220, sl_957, sl_950, sl_951, sl_952, sl_953, sl_954], [], (1, []))
def nA_900_3 : aNd := ((nat_lit 97), [lcn_898, lcn_286, lcn_1440], [], [sl_1427, sl_1215, sl_887, sl_867, sl_906, sl_955, sl_1262, sl_957, sl_951, sl_952, sl_953, sl_954], [], (1, []))
def nA_900_4 : aNd := ((nat_lit 97), [lcn_898, lcn_286, lcn_1440], [], [sl_1427, sl_1215, sl_887, sl_867, sl_906, sl_955, sl_1296, sl_957, sl_952, sl_953, sl_954], [], (1, []))
def nA_900_5 : aNd := ((nat_lit 97), [lcn_898, lcn_286, lcn_1440], [], [sl_1427, sl_1215, sl_887, sl_867, sl_906, sl_955, sl_1330, sl_957, sl_953, sl_954], [], (1, []))
def nA_900_6 : aNd := ((nat_lit 97), [lcn_898, lcn_286, lcn_1440], [], [sl_1427, sl_1215, sl_887, sl_867, sl_906, sl_955, sl_1361, sl_957, sl_954], [], (1, []))
def nA_900_7 : aNd := ((nat_lit 97), [lcn_898, lcn_286, lcn_1440], [], [sl_1427, sl_1215, sl_887, sl_867, sl_906, sl_955, sl_1395, sl_957], [], (1, []))
def nA_900 : List aNd := [nA_900_0, nA_900_1, nA_900_2, nA_900_3, nA_900_4, nA_900_5, nA_900_6, nA_900_7]
def nB_900_0 : aNd := ((nat_lit 97), [lcn_898, lcn_286, lcn_1440], [], [sl_1427, sl_894, sl_895, sl_867, sl_906, sl_955, sl_945, sl_946, sl_957, sl_948, sl_949, sl_950, sl_951, sl_952, sl_953, sl_954], [], (1, []))
def nB_900_1 : aNd := ((nat_lit 97), [lcn_898, lcn_286, lcn_1440], [], [sl_1427, sl_891, sl_892, sl_867, sl_906, sl_955, sl_945, sl_946, sl_957, sl_948, sl_949, sl_950, sl_951, sl_952, sl_953, sl_954], [], (1, []))
def nB_900_2 : aNd := ((nat_lit 97), [lcn_898, lcn_286, lcn_1440], [], [sl_1427, sl_894, sl_895, sl_867, sl_906, sl_955, sl_987, sl_957, sl_949, sl_950, sl_951, sl_952, sl_953, sl_954], [], (1, []))
def nB_900_3 : aNd := ((nat_lit 97), [lcn_898, lcn_286, lcn_1440], [], [sl_1427, sl_891, sl_892, sl_867, sl_906, sl_955, sl_987, sl_957, sl_949, sl_950, sl_951, sl_952, sl_953, sl_954], [], (1, []))
def nB_900_4 : aNd := ((nat_lit 97), [lcn_898, lcn_286, lcn_1440], [], [sl_1427, sl_894, sl_895, sl_867, sl_906, sl_955, sl_1220, sl_957, sl_950, sl_951, sl_952, sl_953, sl_954], [], (1, []))
def nB_900_5 : aNd := ((nat_lit 97), [lcn_898, lcn_286, lcn_1440], [], [sl_1427, sl_891, sl_892, sl_867, sl_906, sl_955, sl_1220, sl_957, sl_950, sl_951, sl_952, sl_953, sl_954], [], (1, []))
def nB_900_6 : aNd := ((nat_lit 97), [lcn_898, lcn_286, lcn_1440], [], [sl_1427, sl_894, sl_895, sl_867, sl_906, sl_955, sl_1262, sl_957, sl_951, sl_952, sl_953, sl_954], [], (1, []))
def nB_900_7 : aNd := ((nat_lit 97), [lcn_898, lcn_286, lcn_1440], [], [sl_1427, sl_891, sl_892, sl_867, sl_906, sl_955, sl_1262, sl_957, sl_951, sl_952, sl_953, sl_954], [], (1, []))
def nB_900_8 : aNd := ((nat_lit 97), [lcn_898, lcn_286, lcn_1440], [], [sl_1427, sl_894, sl_895, sl_867, sl_906, sl_955, sl_1296, sl_957, sl_952, sl_953, sl_954], [], (1, []))
def nB_900_9 : aNd := ((nat_lit 97), [lcn_898, lcn_286, lcn_1440], [], [sl_1427, sl_891, sl_892, sl_867, sl_906, sl_955, sl_1296, sl_957, sl_952, sl_953, sl_954], [], (1, []))
def nB_900_10 : aNd := ((nat_lit 97), [lcn_898, lcn_286, lcn_1440], [], [sl_1427, sl_894, sl_895, sl_867, sl_906, sl_955, sl_1330, sl_957, sl_953, sl_954], [], (1, []))
def nB_900_11 : aNd := ((nat_lit 97), [lcn_898, lcn_286, lcn_1440], [], [sl_1427, sl_891, sl_892, sl_867, sl_906, sl_955, sl_1330, sl_957, sl_953, sl_954], [], (1, []))
def nB_900_12 : aNd := ((nat_lit 97), [lcn_898, lcn_286, lcn_1440], [], [sl_1427, sl_894, sl_895, sl_867, sl_906, sl_955, sl_1361, sl_957, sl_954], [], (1, []))
def nB_900_13 : aNd := ((nat_lit 97), [lcn_898, lcn_286, lcn_1440], [], [sl_1427, sl_891, sl_892, sl_867, sl_906, sl_955, sl_1361, sl_957, sl_954], [], (1, []))
def nB_900_14 : aNd := ((nat_lit 97), [lcn_898, lcn_286, lcn_1440], [], [sl_1427, sl_894, sl_895, sl_867, sl_906, sl_955, sl_1395, sl_957], [], (1, []))
def nB_900_15 : aNd := ((nat_lit 97), [lcn_898, lcn_286, lcn_1440], [], [sl_1427, sl_891, sl_892, sl_867, sl_906, sl_955, sl_1395, sl_957], [], (1, []))
def nB_900 : List aNd := [nB_900_0, nB_900_1, nB_900_2, nB_900_3, nB_900_4, nB_900_5, nB_900_6, nB_900_7, nB_900_8, nB_900_9, nB_900_10, nB_900_11, nB_900_12, nB_900_13, nB_900_14, nB_900_15]
def nC_900_0 : aNd := ((nat_lit 93), [lcn_898, lcn_286, lcn_1440], [], [sl_1427, sl_889, sl_892, sl_867, sl_906, sl_955, sl_945, sl_946, sl_957, sl_948, sl_949, sl_950, sl_951, sl_952, sl_953, sl_954], [], (1, []))
def nC_900_1 : aNd := ((nat_lit 93), [lcn_898, lcn_286, lcn_1440], [], [sl_1427, sl_889, sl_892, sl_867, sl_906, sl_955, sl_987, sl_957, sl_949, sl_950, sl_951, sl_952, sl_953, sl_954], [], (1, []))
def nC_900_2 : aNd := ((nat_lit 93), [lcn_898, lcn_286, lcn_1440], [], [sl_1427, sl_889, sl_892, sl_867, sl_906, sl_955, sl_1220, sl_957, sl_950, sl_951, sl_952, sl_953, sl_954], [], (1, []))
def nC_900_3 : aNd := ((nat_lit 93), [lcn_898, lcn_286, lcn_1440], [], [sl_1427, sl_889, sl_892, sl_867, sl_906, sl_955, sl_1262, sl_957, sl_951, sl_952, sl_953, sl_954], [], (1, []))
def nC_900_4 : aNd := ((nat_lit 93), [lcn_898, lcn_286, lcn_1440], [], [sl_1427, sl_889, sl_892, sl_867, sl_906, sl_955, sl_1296, sl_957, sl_952, sl_953, sl_954], [], (1, []))
def nC_900_5 : aNd := ((nat_lit 93), [lcn_898, lcn_286, lcn_1440], [], [sl_1427, sl_889, sl_892, sl_867, sl_906, sl_955, sl_1330, sl_957, sl_953, sl_954], [], (1, []))
def nC_900_6 : aNd := ((nat_lit 93), [lcn_898, lcn_286, lcn_1440], [], [sl_1427, sl_889, sl_892, sl_867, sl_906, sl_955, sl_1361, sl_957, sl_954], [], (1, []))
def nC_900_7 : aNd := ((nat_lit 93), [lcn_898, lcn_286, lcn_1440], [], [sl_1427, sl_889, sl_892, sl_867, sl_906, sl_955, sl_1395, sl_957], [], (1, []))
def nC_900 : List aNd := [nC_900_0, nC_900_1, nC_900_2, nC_900_3, nC_900_4, nC_900_5, nC_900_6, nC_900_7]
def nE_900_0 : aNd := ((nat_lit 27), [lcn_898, lcn_286], [], [sl_1427, sl_867], [], (365, []))
def nE_900_1 : aNd := ((nat_lit 39), [lcn_898, lcn_286, lcn_589], [], [sl_1427, sl_867, sl_906], [], (364, []))
def nE_900_2 : aNd := ((nat_lit 39), [lcn_898, lcn_286, lcn_444], [], [sl_1427, sl_867, sl_906, sl_944], [], (363, []))
def nE_900_3 : aNd := ((nat_lit 39), [lcn_898, lcn_286, lcn_597], [], [sl_1427, sl_867, sl_906, sl_944], [], (362, []))
def nE_900_4 : aNd := ((nat_lit 39), [lcn_898, lcn_286, lcn_176], [], [sl_1427, sl_867, sl_906, sl_944], [], (361, []))
def nE_900_5 : aNd := ((nat_lit 39), [lcn_898, lcn_286, lcn_168], [], [sl_1427, sl_867, sl_906, sl_944], [], (360, []))
def nE_900_6 : aNd := ((nat_lit 39), [lcn_898, lcn_286, lcn_607], [], [sl_1427, sl_867, sl_906, sl_944, sl_945], [], (359, []))
def nE_900_7 : aNd := ((nat_lit 39), [lcn_898, lcn_286, lcn_1441], [], [sl_1427, sl_867, sl_906, sl_944, sl_945, sl_1050], [], (358, []))
def nE_900_8 : aNd := ((nat_lit 39), [lcn_898, lcn_286, lcn_1442], [], [sl_1427, sl_867, sl_906, sl_944, sl_945, sl_1050, sl_1443], [], (357, []))
def nE_900_9 : aNd := ((nat_lit 39), [lcn_898, lcn_286, lcn_1444], [], [sl_1427, sl_867, sl_906, sl_944, sl_945, sl_1050, sl_1443, sl_946], [], (356, []))
def nE_900_10 : aNd := ((nat_lit 39), [lcn_898, lcn_286, lcn_1445], [], [sl_1427, sl_867, sl_906, sl_944, sl_945, sl_1050, sl_1443, sl_946, sl_1446], [], (355, []))
def nE_900_11 : aNd := ((nat_lit 39), [lcn_898, lcn_286, lcn_1218], [], [sl_1427, sl_867, sl_906, sl_944, sl_945, sl_1050, sl_1443, sl_946, sl_1446, sl_947], [], (354, []))
def nE_900_12 : aNd := ((nat_lit 39), [lcn_898, lcn_286, lcn_1447], [], [sl_1427, sl_867, sl_906, sl_944, sl_945, sl_1050, sl_1443, sl_946, sl_1446, sl_947], [], (353, []))
def nE_900_13 : aNd := ((nat_lit 39), [lcn_898, lcn_286, lcn_1448], [], [sl_1427, sl_867, sl_906, sl_944, sl_945, sl_1050, sl_1443, sl_946, sl_1446, sl_947], [], (352, []))
def nE_900_14 : aNd := ((nat_lit 39), [lcn_898, lcn_286, lcn_1449], [], [sl_1427, sl_867, sl_906, sl_944, sl_945, sl_1050, sl_1443, sl_946, sl_1446, sl_947], [], (351, []))
def nE_900_15 : aNd := ((nat_lit 39), [lcn_898, lcn_286, lcn_1450], [], [sl_1427, sl_867, sl_906, sl_944, sl_945, sl_1050, sl_1443, sl_946, sl_1446, sl_947], [], (350, []))
def nE_900_16 : aNd := ((nat_lit 39), [lcn_898, lcn_286, lcn_255], [], [sl_1427, sl_867, sl_906, sl_944, sl_945, sl_1050, sl_1443, sl_946, sl_1446, sl_947], [], (349, []))
def nE_900_17 : aNd := ((nat_lit 39), [lcn_898, lcn_286, lcn_1451], [], [sl_1427, sl_867, sl_906, sl_944, sl_945, sl_1050, sl_1443, sl_946, sl_1446, sl_947], [], (348, []))
def nE_900_18 : aNd := ((nat_lit 39), [lcn_898, lcn_286, lcn_1452], [], [sl_1427, sl_867, sl_906, sl_944, sl_945, sl_1050, sl_1443, sl_946, sl_1446, sl_947], [], (347, []))
def nE_900_19 : aNd := ((nat_lit 39), [lcn_898, lcn_286, lcn_1453], [], [sl_1427, sl_867, sl_906, sl_944, sl_945, sl_1050, sl_1443, sl_946, sl_1446, sl_947], [], (346, []))
def nE_900_20 : aNd := ((nat_lit 39), [lcn_898, lcn_286, lcn_1454], [], [sl_1427, sl_867, sl_906, sl_944, sl_945, sl_1050, sl_1443, sl_946, sl_1446, sl_947], [], (345, []))
def nE_900_21 : aNd := ((nat_lit 39), [lcn_898, lcn_286, lcn_1455], [], [sl_1427, sl_867, sl_906, sl_944, sl_945, sl_1050, sl_1443, sl_946, sl_1446, sl_947], [], (344, []))
def nE_900_22 : aNd := ((nat_lit 39), [lcn_898, lcn_286, lcn_1456], [], [sl_1427, sl_867, sl_906, sl_944, sl_945, sl_1050, sl_1443, sl_946, sl_1446, sl_947], [], (343, []))
def nE_900_23 : aNd := ((nat_lit 39), [lcn_898, lcn_286, lcn_1457], [], [sl_1427, sl_867, sl_906, sl_944, sl_945, sl_1050, sl_1443, sl_946, sl_1446, sl_947], [], (342, []))
def nE_900_24 : aNd := ((nat_lit 39), [lcn_898, lcn_286, lcn_1458], [], [sl_1427, sl_867, sl_906, sl_944, sl_945, sl_1050, sl_1443, sl_946, sl_1446, sl_947], [], (341, []))
def nE_900_25 : aNd := ((nat_lit 39), [lcn_898, lcn_286, lcn_1459], [], [sl_1427, sl_867, sl_906, sl_944, sl_945, sl_1050, sl_1443, sl_946, sl_1446, sl_947], [], (340, []))
def nE_900_26 : aNd := ((nat_lit 39), [lcn_898, lcn_286, lcn_1460], [], [sl_1427, sl_867, sl_906, sl_944, sl_945, sl_1050, sl_1443, sl_946, sl_1446, sl_947], [], (339, []))
def nE_900_27 : aNd := ((nat_lit 39), [lcn_898, lcn_286, lcn_1461], [], [sl_1427, sl_867, sl_906, sl_944, sl_945, sl_1050, sl_1443, sl_946, sl_1446, sl_947], [], (338, []))
def nE_900_28 : aNd := ((nat_lit 39), [lcn_898, lcn_286, lcn_1462], [], [sl_1427, sl_867, sl_906, sl_944, sl_945, sl_1050, sl_1443, sl_946, sl_1446, sl_947], [], (337, []))
def nE_900_29 : aNd := ((nat_lit 39), [lcn_898, lcn_286, lcn_1463], [], [sl_1427, sl_867, sl_906, sl_944, sl_945, sl_1050, sl_1443, sl_946, sl_1446, sl_947], [], (336, []))
def nE_900_30 : aNd := ((nat_lit 39), [lcn_898, lcn_286, lcn_1464], [], [sl_1427, sl_867, sl_906, sl_944, sl_945, sl_1050, sl_1443, sl_946, sl_1446, sl_947], [], (335, []))
def nE_900_31 : aNd := ((nat_lit 39), [lcn_898, lcn_286, lcn_1465], [], [sl_1427, sl_867, sl_906, sl_944, sl_945, sl_1050, sl_1443, sl_946, sl_1446, sl_947], [], (334, []))
def nE_900_32 : aNd := ((nat_lit 39), [lcn_898, lcn_286, lcn_1466], [], [sl_1427, sl_867, sl_906, sl_944, sl_945, sl_1050, sl_1443, sl_946, sl_1446, sl_947], [], (333, []))
def nE_900_33 : aNd := ((nat_lit 39), [lcn_898, lcn_286, lcn_1467], [], [sl_1427, sl_867, sl_906, sl_944, sl_945, sl_1050, sl_1443, sl_946, sl_1446, sl_947], [], (332, []))
def nE_900_34 : aNd := ((nat_lit 39), [lcn_898, lcn_286, lcn_1468], [], [sl_1427, sl_867, sl_906, sl_944, sl_945, sl_1050, sl_1443, sl_946, sl_1446, sl_947], [], (331, []))
def nE_900_35 : aNd := ((nat_lit 39), [lcn_898, lcn_286, lcn_1469], [], [sl_1427, sl_867, sl_906, sl_944, sl_945, sl_1050, sl_1443, sl_946, sl_1446, sl_947], [], (330, []))
def nE_900_36 : aNd := ((nat_lit 39), [lcn_898, lcn_286, lcn_1470], [], [sl_1427, sl_867, sl_906, sl_944, sl_945, sl_1050, sl_1443, sl_946, sl_1446, sl_947], [], (329, []))
def nE_900_37 : aNd := ((nat_lit 39), [lcn_898, lcn_286, lcn_1471], [], [sl_1427, sl_867, sl_906, sl_944, sl_945, sl_1050, sl_1443, sl_946, sl_1446, sl_947], [], (328, []))
def nE_900_38 : aNd := ((nat_lit 39), [lcn_898, lcn_286, lcn_1472], [], [sl_1427, sl_867, sl_906, sl_944, sl_945, sl_1050, sl_1443, sl_946, sl_1446, sl_947], [], (327, []))
def nE_900_39 : aNd := ((nat_lit 39), [lcn_898, lcn_286, lcn_1473], [], [sl_1427, sl_867, sl_906, sl_944, sl_945, sl_1050, sl_1443, sl_946, sl_1446, sl_947], [], (326, []))
def nE_900_40 : aNd := ((nat_lit 39), [lcn_898, lcn_286, lcn_1474], [], [sl_1427, sl_867, sl_906, sl_944, sl_945, sl_1050, sl_1443, sl_946, sl_1446, sl_947], [], (325, []))
def nE_900_41 : aNd := ((nat_lit 39), [lcn_898, lcn_286, lcn_1475], [], [sl_1427, sl_867, sl_906, sl_944, sl_945, sl_1050, sl_1443, sl_946, sl_1446, sl_947], [], (324, []))
def nE_900_42 : aNd := ((nat_lit 39), [lcn_898, lcn_286, lcn_1476], [], [sl_1427, sl_867, sl_906, sl_944, sl_945, sl_1050, sl_1443, sl_946, sl_1446, sl_947], [], (323, []))
def nE_900_43 : aNd := ((nat_lit 39), [lcn_898, lcn_286, lcn_1477], [], [sl_1427, sl_867, sl_906, sl_944, sl_945, sl_1050, sl_1443, sl_946, sl_1446, sl_947], [], (322, []))
def nE_900_44 : aNd := ((nat_lit 39), [lcn_898, lcn_286, lcn_1478], [], [sl_1427, sl_867, sl_906, sl_944, sl_945, sl_1050, sl_1443, sl_946, sl_1446, sl_947], [], (321, []))
def nE_900_45 : aNd := ((nat_lit 39), [lcn_898, lcn_286, lcn_1479], [], [sl_1427, sl_867, sl_906, sl_944, sl_945, sl_1050, sl_1443, sl_946, sl_1446, sl_947], [], (320, []))
def nE_900_46 : aNd := ((nat_lit 39), [lcn_898, lcn_286, lcn_1480], [], [sl_1427, sl_867, sl_906, sl_944, sl_945, sl_1050, sl_1443, sl_946, sl_1446, sl_947], [], (319, []))
def nE_900_47 : aNd := ((nat_lit 39), [lcn_898, lcn_286, lcn_1481], [], [sl_1427, sl_867, sl_906, sl_944, sl_945, sl_1050, sl_1443, sl_946, sl_1446, sl_947], [], (318, []))
def nE_900_48 : aNd := ((nat_lit 39), [lcn_898, lcn_286, lcn_1482], [], [sl_1427, sl_867, sl_906, sl_944, sl_945, sl_1050, sl_1443, sl_946, sl_1446, sl_947], [], (317, []))
def nE_900_49 : aNd := ((nat_lit 39), [lcn_898, lcn_286, lcn_1483], [], [sl_1427, sl_867, sl_906, sl_944, sl_945, sl_1050, sl_1443, sl_946, sl_1446, sl_947], [], (316, []))
def nE_900_50 : aNd := ((nat_lit 39), [lcn_898, lcn_286, lcn_1484], [], [sl_1427, sl_867, sl_906, sl_944, sl_945, sl_1050, sl_1443, sl_946, sl_1446, sl_947], [], (315, []))
def nE_900_51 : aNd := ((nat_lit 39), [lcn_898, lcn_286, lcn_182], [], [sl_1427, sl_867, sl_906, sl_944, sl_945, sl_1050, sl_1443, sl_946, sl_1446, sl_947], [], (314, []))
def nE_900_52 : aNd := ((nat_lit 39), [lcn_898, lcn_286, lcn_1485], [], [sl_1427, sl_867, sl_906, sl_944, sl_945, sl_1050, sl_1443, sl_946, sl_1446, sl_947], [], (313, []))
def nE_900_53 : aNd := ((nat_lit 39), [lcn_898, lcn_286, lcn_1486], [], [sl_1427, sl_867, sl_906, sl_944, sl_945, sl_1050, sl_1443, sl_946, sl_1446, sl_947], [], (312, []))
def nE_900_54 : aNd := ((nat_lit 39), [lcn_898, lcn_286, lcn_1487], [], [sl_1427, sl_867, sl_906, sl_944, sl_945, sl_1050, sl_1443, sl_946, sl_1446, sl_947], [], (311, []))
def nE_900_55 : aNd := ((nat_lit 39), [lcn_898, lcn_286, lcn_1488], [], [sl_1427, sl_867, sl_906, sl_944, sl_945, sl_1050, sl_1443, sl_946, sl_1446, sl_947], [], (310, []))
def nE_900_56 : aNd := ((nat_lit 39), [lcn_898, lcn_286, lcn_1489], [], [sl_1427, sl_867, sl_906, sl_944, sl_945, sl_1050, sl_1443, sl_946, sl_1446, sl_947], [], (309, []))
def nE_900_57 : aNd := ((nat_lit 39), [lcn_898, lcn_286, lcn_1490], [], [sl_1427, sl_867, sl_906, sl_944, sl_945, sl_1050, sl_1443, sl_946, sl_1446, sl_947], [], (308, []))
def nE_900_58 : aNd := ((nat_lit 39), [lcn_898, lcn_286, lcn_48], [], [sl_1427, sl_867, sl_906, sl_944, sl_945, sl_1050, sl_1443, sl_946, sl_1446, sl_947], [], (307, []))
def nE_900_59 : aNd := ((nat_lit 39), [lcn_898, lcn_286, lcn_1491], [], [sl_1427, sl_867, sl_906, sl_944, sl_945, sl_1050, sl_1443, sl_946, sl_1446, sl_947], [], (306, []))
def nE_900_60 : aNd := ((nat_lit 39), [lcn_898, lcn_286, lcn_1492], [], [sl_1427, sl_867, sl_906, sl_944, sl_945, sl_1050, sl_1443, sl_946, sl_1446, sl_947], [], (305, []))
def nE_900_61 : aNd := ((nat_lit 39), [lcn_898, lcn_286, lcn_1493], [], [sl_1427, sl_867, sl_906, sl_944, sl_945, sl_1050, sl_1443, sl_946, sl_1446, sl_947], [], (304, []))
def nE_900_62 : aNd := ((nat_lit 39), [lcn_898, lcn_286, lcn_1494], [], [sl_1427, sl_867, sl_906, sl_944, sl_945, sl_1050, sl_1443, sl_946, sl_1446, sl_947], [], (303, []))
def nE_900_63 : aNd := ((nat_lit 39), [lcn_898, lcn_286, lcn_1495], [], [sl_1427, sl_867, sl_906, sl_944, sl_945, sl_1050, sl_1443, sl_946, sl_1446, sl_947], [], (302, []))
def nE_900_64 : aNd := ((nat_lit 39), [lcn_898, lcn_286, lcn_1496], [], [sl_1427, sl_867, sl_906, sl_944, sl_945, sl_1050, sl_1443, sl_946, sl_1446, sl_947], [], (301, []))
def nE_900_65 : aNd := ((nat_lit 39), [lcn_898, lcn_286, lcn_1497], [], [sl_1427, sl_867, sl_906, sl_944, sl_945, sl_1050, sl_1443, sl_946, sl_1446, sl_947], [], (300, []))
def nE_900_66 : aNd := ((nat_lit 39), [lcn_898, lcn_286, lcn_1498], [], [sl_1427, sl_867, sl_906, sl_944, sl_945, sl_1050, sl_1443, sl_946, sl_1446, sl_947], [], (299, []))
def nE_900_67 : aNd := ((nat_lit 39), [lcn_898, lcn_286, lcn_1499], [], [sl_1427, sl_867, sl_906, sl_944, sl_945, sl_1050, sl_1443, sl_946, sl_1446, sl_947], [], (298, []))
def nE_900_68 : aNd := ((nat_lit 39), [lcn_898, lcn_286, lcn_1500], [], [sl_1427, sl_867, sl_906, sl_944, sl_945, sl_1050, sl_1443, sl_946, sl_1446, sl_947], [], (297, []))
def nE_900_69 : aNd := ((nat_lit 39), [lcn_898, lcn_286, lcn_1501], [], [sl_1427, sl_867, sl_906, sl_944, sl_945, sl_1050, sl_1443, sl_946, sl_1446, sl_947], [], (296, []))
def nE_900_70 : aNd := ((nat_lit 39), [lcn_898, lcn_286, lcn_1502], [], [sl_1427, sl_867, sl_906, sl_944, sl_945, sl_1050, sl_1443, sl_946, sl_1446, sl_947], [], (295, []))
def nE_900_71 : aNd := ((nat_lit 39), [lcn_898, lcn_286, lcn_1503], [], [sl_1427, sl_867, sl_906, sl_944, sl_945, sl_1050, sl_1443, sl_946, sl_1446, sl_947], [], (294, []))
def nE_900_72 : aNd := ((nat_lit 39), [lcn_898, lcn_286, lcn_1504], [], [sl_1427, sl_867, sl_906, sl_944, sl_945, sl_1050, sl_1443, sl_946, sl_1446, sl_947], [], (293, []))
def nE_900_73 : aNd := ((nat_lit 39), [lcn_898, lcn_286, lcn_1505], [], [sl_1427, sl_867, sl_906, sl_944, sl_945, sl_1050, sl_1443, sl_946, sl_1446, sl_947], [], (292, []))
def nE_900_74 : aNd := ((nat_lit 39), [lcn_898, lcn_286, lcn_1506], [], [sl_1427, sl_867, sl_906, sl_944, sl_945, sl_1050, sl_1443, sl_946, sl_1446, sl_947], [], (291, []))
def nE_900_75 : aNd := ((nat_lit 39), [lcn_898, lcn_286, lcn_1507], [], [sl_1427, sl_867, sl_906, sl_944, sl_945, sl_1050, sl_1443, sl_946, sl_1446, sl_947], [], (290, []))
def nE_900_76 : aNd := ((nat_lit 39), [lcn_898, lcn_286, lcn_1508], [], [sl_1427, sl_867, sl_906, sl_944, sl_945, sl_1050, sl_1443, sl_946, sl_1446, sl_947], [], (289, []))
def nE_900_77 : aNd := ((nat_lit 39), [lcn_898, lcn_286, lcn_1509], [], [sl_1427, sl_867, sl_906, sl_944, sl_945, sl_1050, sl_1443, sl_946, sl_1446, sl_947], [], (288, []))
def nE_900_78 : aNd := ((nat_lit 39), [lcn_898, lcn_286, lcn_1510], [], [sl_1427, sl_867, sl_906, sl_944, sl_945, sl_1050, sl_1443, sl_946, sl_1446, sl_947], [], (287, []))
def nE_900_79 : aNd := ((nat_lit 39), [lcn_898, lcn_286, lcn_1511], [], [sl_1427, sl_867, sl_906, sl_944, sl_945, sl_1050, sl_1443, sl_946, sl_1446, sl_947], [], (286, []))
def nE_900_80 : aNd := ((nat_lit 39), [lcn_898, lcn_286, lcn_1512], [], [sl_1427, sl_867, sl_906, sl_944, sl_945, sl_1050, sl_1443, sl_946, sl_1446, sl_947], [], (285, []))
def nE_900_81 : aNd := ((nat_lit 39), [lcn_898, lcn_286, lcn_1513], [], [sl_1427, sl_867, sl_906, sl_944, sl_945, sl_1050, sl_1443, sl_946, sl_1446, sl_947], [], (284, []))
def nE_900_82 : aNd := ((nat_lit 39), [lcn_898, lcn_286, lcn_1514], [], [sl_1427, sl_867, sl_906, sl_944, sl_945, sl_1050, sl_1443, sl_946, sl_1446, sl_947], [], (283, []))
def nE_900_83 : aNd := ((nat_lit 39), [lcn_898, lcn_286, lcn_1515], [], [sl_1427, sl_867, sl_906, sl_944, sl_945, sl_1050, sl_1443, sl_946, sl_1446, sl_947], [], (282, []))
def nE_900_84 : aNd := ((nat_lit 39), [lcn_898, lcn_286, lcn_1516], [], [sl_1427, sl_867, sl_906, sl_944, sl_945, sl_1050, sl_1443, sl_946, sl_1446, sl_947], [], (281, []))
def nE_900_85 : aNd := ((nat_lit 39), [lcn_898, lcn_286, lcn_1517], [], [sl_1427, sl_867, sl_906, sl_944, sl_945, sl_1050, sl_1443, sl_946, sl_1446, sl_947], [], (280, []))
def nE_900_86 : aNd := ((nat_lit 39), [lcn_898, lcn_286, lcn_1518], [], [sl_1427, sl_867, sl_906, sl_944, sl_945, sl_1050, sl_1443, sl_946, sl_1446, sl_947], [], (279, []))
def nE_900_87 : aNd := ((nat_lit 39), [lcn_898, lcn_286, lcn_1519], [], [sl_1427, sl_867, sl_906, sl_944, sl_945, sl_1050, sl_1443, sl_946, sl_1446, sl_947], [], (278, []))
def nE_900_88 : aNd := ((nat_lit 39), [lcn_898, lcn_286, lcn_1520], [], [sl_1427, sl_867, sl_906, sl_944, sl_945, sl_1050, sl_1443, sl_946, sl_1446, sl_947], [], (277, []))
def nE_900_89 : aNd := ((nat_lit 39), [lcn_898, lcn_286, lcn_1521], [], [sl_1427, sl_867, sl_906, sl_944, sl_945, sl_1050, sl_1443, sl_946, sl_1446, sl_947], [], (276, []))
def nE_900_90 : aNd := ((nat_lit 39), [lcn_898, lcn_286, lcn_1522], [], [sl_1427, sl_867, sl_906, sl_944, sl_945, sl_1050, sl_1443, sl_946, sl_1446, sl_947], [], (275, []))
def nE_900_91 : aNd := ((nat_lit 39), [lcn_898, lcn_286, lcn_1523], [], [sl_1427, sl_867, sl_906, sl_944, sl_945, sl_1050, sl_1443, sl_946, sl_1446, sl_947], [], (274, []))
def nE_900_92 : aNd := ((nat_lit 39), [lcn_898, lcn_286, lcn_1524], [], [sl_1427, sl_867, sl_906, sl_944, sl_945, sl_1050, sl_1443, sl_946, sl_1446, sl_947], [], (273, []))
def nE_900_93 : aNd := ((nat_lit 39), [lcn_898, lcn_286, lcn_1525], [], [sl_1427, sl_867, sl_906, sl_944, sl_945, sl_1050, sl_1443, sl_946, sl_1446, sl_947], [], (272, []))
def nE_900_94 : aNd := ((nat_lit 39), [lcn_898, lcn_286, lcn_1526], [], [sl_1427, sl_867, sl_906, sl_944, sl_945, sl_1050, sl_1443, sl_946, sl_1446, sl_947], [], (271, []))
def nE_900_95 : aNd := ((nat_lit 39), [lcn_898, lcn_286, lcn_1527], [], [sl_1427, sl_867, sl_906, sl_944, sl_945, sl_1050, sl_1443, sl_946, sl_1446, sl_947], [], (270, []))
def nE_900_96 : aNd := ((nat_lit 39), [lcn_898, lcn_286, lcn_1528], [], [sl_1427, sl_867, sl_906, sl_944, sl_945, sl_1050, sl_1443, sl_946, sl_1446, sl_947], [], (269, []))
def nE_900_97 : aNd := ((nat_lit 39), [lcn_898, lcn_286, lcn_1529], [], [sl_1427, sl_867, sl_906, sl_944, sl_945, sl_1050, sl_1443, sl_946, sl_1446, sl_947], [], (268, []))
def nE_900_98 : aNd := ((nat_lit 39), [lcn_898, lcn_286, lcn_1530], [], [sl_1427, sl_867, sl_906, sl_944, sl_945, sl_1050, sl_1443, sl_946, sl_1446, sl_947], [], (267, []))
def nE_900_99 : aNd := ((nat_lit 39), [lcn_898, lcn_286, lcn_1531], [], [sl_1427, sl_867, sl_906, sl_944, sl_945, sl_1050, sl_1443, sl_946, sl_1446, sl_947], [], (266, []))
def nE_900_100 : aNd := ((nat_lit 39), [lcn_898, lcn_286, lcn_203], [], [sl_1427, sl_867, sl_906, sl_944, sl_945, sl_1050, sl_1443, sl_946, sl_1446, sl_947], [], (265, []))
def nE_900_101 : aNd := ((nat_lit 39), [lcn_898, lcn_286, lcn_188], [], [sl_1427, sl_867, sl_906, sl_944, sl_945, sl_1050, sl_1443, sl_946, sl_1446, sl_947], [], (264, []))
def nE_900_102 : aNd := ((nat_lit 39), [lcn_898, lcn_286, lcn_1532], [], [sl_1427, sl_867, sl_906, sl_944, sl_945, sl_1050, sl_1443, sl_946, sl_1446, sl_947], [], (263, []))
def nE_900_103 : aNd := ((nat_lit 39), [lcn_898, lcn_286, lcn_1533], [], [sl_1427, sl_867, sl_906, sl_944, sl_945, sl_1050, sl_1443, sl_946, sl_1446, sl_947], [], (262, []))
def nE_900_104 : aNd := ((nat_lit 39), [lcn_898, lcn_286, lcn_1534], [], [sl_1427, sl_867, sl_906, sl_944, sl_945, sl_1050, sl_1443, sl_946, sl_1446, sl_947], [], (261, []))
def nE_900_105 : aNd := ((nat_lit 39), [lcn_898, lcn_286, lcn_1535], [], [sl_1427, sl_867, sl_906, sl_944, sl_945, sl_1050, sl_1443, sl_946, sl_1446, sl_947], [], (260, []))
def nE_900_106 : aNd := ((nat_lit 39), [lcn_898, lcn_286, lcn_1536], [], [sl_1427, sl_867, sl_906, sl_944, sl_945, sl_1050, sl_1443, sl_946, sl_1446, sl_947], [], (259, []))
def nE_900_107 : aNd := ((nat_lit 39), [lcn_898, lcn_286, lcn_1537], [], [sl_1427, sl_867, sl_906, sl_944, sl_945, sl_1050, sl_1443, sl_946, sl_1446, sl_947], [], (258, []))
def nE_900_108 : aNd := ((nat_lit 39), [lcn_898, lcn_286, lcn_1538], [], [sl_1427, sl_867, sl_906, sl_944, sl_945, sl_1050, sl_1443, sl_946, sl_1446, sl_947], [], (257, []))
def nE_900_109 : aNd := ((nat_lit 39), [lcn_898, lcn_286, lcn_1539], [], [sl_1427, sl_867, sl_906, sl_944, sl_945, sl_1050, sl_1443, sl_946, sl_1446, sl_947], [], (256, []))
def nE_900_110 : aNd := ((nat_lit 39), [lcn_898, lcn_286, lcn_1540], [], [sl_1427, sl_867, sl_906, sl_944, sl_945, sl_1050, sl_1443, sl_946, sl_1446, sl_947], [], (255, []))
def nE_900_111 : aNd := ((nat_lit 39), [lcn_898, lcn_286, lcn_1541], [], [sl_1427, sl_867, sl_906, sl_944, sl_945, sl_1050, sl_1443, sl_946, sl_1446, sl_947], [], (254, []))
def nE_900_112 : aNd := ((nat_lit 39), [lcn_898, lcn_286, lcn_1542], [], [sl_1427, sl_867, sl_906, sl_944, sl_945, sl_1050, sl_1443, sl_946, sl_1446, sl_947], [], (253, []))
def nE_900_113 : aNd := ((nat_lit 39), [lcn_898, lcn_286, lcn_1543], [], [sl_1427, sl_867, sl_906, sl_944, sl_945, sl_1050, sl_1443, sl_946, sl_1446, sl_947], [], (252, []))
def nE_900_114 : aNd := ((nat_lit 39), [lcn_898, lcn_286, lcn_1544], [], [sl_1427, sl_867, sl_906, sl_944, sl_945, sl_1050, sl_1443, sl_946, sl_1446, sl_947], [], (251, []))
def nE_900_115 : aNd := ((nat_lit 39), [lcn_898, lcn_286, lcn_1545], [], [sl_1427, sl_867, sl_906, sl_944, sl_945, sl_1050, sl_1443, sl_946, sl_1446, sl_947], [], (250, []))
def nE_900_116 : aNd := ((nat_lit 39), [lcn_898, lcn_286, lcn_1546], [], [sl_1427, sl_867, sl_906, sl_944, sl_945, sl_1050, sl_1443, sl_946, sl_1446, sl_947], [], (249, []))
def nE_900_117 : aNd := ((nat_lit 39), [lcn_898, lcn_286, lcn_1547], [], [sl_1427, sl_867, sl_906, sl_944, sl_945, sl_1050, sl_1443, sl_946, sl_1446, sl_947], [], (248, []))
def nE_900_118 : aNd := ((nat_lit 39), [lcn_898, lcn_286, lcn_1548], [], [sl_1427, sl_867, sl_906, sl_944, sl_945, sl_1050, sl_1443, sl_946, sl_1446, sl_947], [], (247, []))
def nE_900_119 : aNd := ((nat_lit 39), [lcn_898, lcn_286, lcn_1549], [], [sl_1427, sl_867, sl_906, sl_944, sl_945, sl_1050, sl_1443, sl_946, sl_1446, sl_947], [], (246, []))
def nE_900_120 : aNd := ((nat_lit 39), [lcn_898, lcn_286, lcn_1550], [], [sl_1427, sl_867, sl_906, sl_944, sl_945, sl_1050, sl_1443, sl_946, sl_1446, sl_947], [], (245, []))
def nE_900_121 : aNd := ((nat_lit 39), [lcn_898, lcn_286, lcn_1551], [], [sl_1427, sl_867, sl_906, sl_944, sl_945, sl_1050, sl_1443, sl_946, sl_1446, sl_947], [], (244, []))
def nE_900_122 : aNd := ((nat_lit 39), [lcn_898, lcn_286, lcn_1552], [], [sl_1427, sl_867, sl_906, sl_944, sl_945, sl_1050, sl_1443, sl_946, sl_1446, sl_947], [], (243, []))
def nE_900_123 : aNd := ((nat_lit 39), [lcn_898, lcn_286, lcn_42], [], [sl_1427, sl_867, sl_906, sl_944, sl_945, sl_1050, sl_1443, sl_946, sl_1446, sl_947], [], (242, []))
def nE_900_124 : aNd := ((nat_lit 39), [lcn_898, lcn_286, lcn_1553], [], [sl_1427, sl_867, sl_906, sl_944, sl_945, sl_1050, sl_1443, sl_946, sl_1446, sl_947], [], (241, []))
def nE_900_125 : aNd := ((nat_lit 39), [lcn_898, lcn_286, lcn_1554], [], [sl_1427, sl_867, sl_906, sl_944, sl_945, sl_1050, sl_1443, sl_946, sl_1446, sl_947], [], (240, []))
def nE_900_126 : aNd := ((nat_lit 39), [lcn_898, lcn_286, lcn_1555], [], [sl_1427, sl_867, sl_906, sl_944, sl_945, sl_1050, sl_1443, sl_946, sl_1446, sl_947], [], (239, []))
def nE_900_127 : aNd := ((nat_lit 39), [lcn_898, lcn_286, lcn_1556], [], [sl_1427, sl_867, sl_906, sl_944, sl_945, sl_1050, sl_1443, sl_946, sl_1446, sl_947], [], (238, []))
def nE_900_128 : aNd := ((nat_lit 39), [lcn_898, lcn_286, lcn_1557], [], [sl_1427, sl_867, sl_906, sl_944, sl_945, sl_1050, sl_1443, sl_946, sl_1446, sl_947], [], (237, []))
def nE_900_129 : aNd := ((nat_lit 39), [lcn_898, lcn_286, lcn_1558], [], [sl_1427, sl_867, sl_906, sl_944, sl_945, sl_1050, sl_1443, sl_946, sl_1446, sl_947], [], (236, []))
def nE_900_130 : aNd := ((nat_lit 39), [lcn_898, lcn_286, lcn_1559], [], [sl_1427, sl_867, sl_906, sl_944, sl_945, sl_1050, sl_1443, sl_946, sl_1446, sl_947], [], (235, []))
def nE_900_131 : aNd := ((nat_lit 39), [lcn_898, lcn_286, lcn_1560], [], [sl_1427, sl_867, sl_906, sl_944, sl_945, sl_1050, sl_1443, sl_946, sl_1446, sl_947], [], (234, []))
def nE_900_132 : aNd := ((nat_lit 39), [lcn_898, lcn_286, lcn_1561], [], [sl_1427, sl_867, sl_906, sl_944, sl_945, sl_1050, sl_1443, sl_946, sl_1446, sl_947], [], (233, []))
def nE_900_133 : aNd := ((nat_lit 39), [lcn_898, lcn_286, lcn_1562], [], [sl_1427, sl_867, sl_906, sl_944, sl_945, sl_1050, sl_1443, sl_946, sl_1446, sl_947], [], (232, []))
def nE_900_134 : aNd := ((nat_lit 39), [lcn_898, lcn_286, lcn_1563], [], [sl_1427, sl_867, sl_906, sl_944, sl_945, sl_1050, sl_1443, sl_946, sl_1446, sl_947], [], (231, []))
def nE_900_135 : aNd := ((nat_lit 39), [lcn_898, lcn_286, lcn_1564], [], [sl_1427, sl_867, sl_906, sl_944, sl_945, sl_1050, sl_1443, sl_946, sl_1446, sl_947], [], (230, []))
def nE_900_136 : aNd := ((nat_lit 39), [lcn_898, lcn_286, lcn_1565], [], [sl_1427, sl_867, sl_906, sl_944, sl_945, sl_1050, sl_1443, sl_946, sl_1446, sl_947], [], (229, []))
def nE_900_137 : aNd := ((nat_lit 39), [lcn_898, lcn_286, lcn_1566], [], [sl_1427, sl_867, sl_906, sl_944, sl_945, sl_1050, sl_1443, sl_946, sl_1446, sl_947], [], (228, []))
def nE_900_138 : aNd := ((nat_lit 39), [lcn_898, lcn_286, lcn_1567], [], [sl_1427, sl_867, sl_906, sl_944, sl_945, sl_1050, sl_1443, sl_946, sl_1446, sl_947], [], (227, []))
def nE_900_139 : aNd := ((nat_lit 39), [lcn_898, lcn_286, lcn_1568], [], [sl_1427, sl_867, sl_906, sl_944, sl_945, sl_1050, sl_1443, sl_946, sl_1446, sl_947], [], (226, []))
def nE_900_140 : aNd := ((nat_lit 39), [lcn_898, lcn_286, lcn_1569], [], [sl_1427, sl_867, sl_906, sl_944, sl_945, sl_1050, sl_1443, sl_946, sl_1446, sl_947], [], (225, []))
def nE_900_141 : aNd := ((nat_lit 39), [lcn_898, lcn_286, lcn_1570], [], [sl_1427, sl_867, sl_906, sl_944, sl_945, sl_1050, sl_1443, sl_946, sl_1446, sl_947], [], (224, []))
def nE_900_142 : aNd := ((nat_lit 39), [lcn_898, lcn_286, lcn_1571], [], [sl_1427, sl_867, sl_906, sl_944, sl_945, sl_1050, sl_1443, sl_946, sl_1446, sl_947], [], (223, []))
def nE_900_143 : aNd := ((nat_lit 39), [lcn_898, lcn_286, lcn_1572], [], [sl_1427, sl_867, sl_906, sl_944, sl_945, sl_1050, sl_1443, sl_946, sl_1446, sl_947], [], (222, []))
def nE_900_144 : aNd := ((nat_lit 39), [lcn_898, lcn_286, lcn_1573], [], [sl_1427, sl_867, sl_906, sl_944, sl_945, sl_1050, sl_1443, sl_946, sl_1446, sl_947], [], (221, []))
def nE_900_145 : aNd := ((nat_lit 39), [lcn_898, lcn_286, lcn_1574], [], [sl_1427, sl_867, sl_906, sl_944, sl_945, sl_1050, sl_1443, sl_946, sl_1446, sl_947], [], (220, []))
def nE_900_146 : aNd := ((nat_lit 39), [lcn_898, lcn_286, lcn_1575], [], [sl_1427, sl_867, sl_906, sl_944, sl_945, sl_1050, sl_1443, sl_946, sl_1446, sl_947], [], (219, []))
def nE_900_147 : aNd := ((nat_lit 39), [lcn_898, lcn_286, lcn_1576], [], [sl_1427, sl_867, sl_906, sl_944, sl_945, sl_1050, sl_1443, sl_946, sl_1446, sl_947], [], (218, []))
def nE_900_148 : aNd := ((nat_lit 39), [lcn_898, lcn_286, lcn_1577], [], [sl_1427, sl_867, sl_906, sl_944, sl_945, sl_1050, sl_1443, sl_946, sl_1446, sl_947], [], (217, []))
def nE_900_149 : aNd := ((nat_lit 39), [lcn_898, lcn_286, lcn_1578], [], [sl_1427, sl_867, sl_906, sl_944, sl_945, sl_1050, sl_1443, sl_946, sl_1446, sl_947], [], (216, []))
def nE_900_150 : aNd := ((nat_lit 39), [lcn_898, lcn_286, lcn_1579], [], [sl_1427, sl_867, sl_906, sl_944, sl_945, sl_1050, sl_1443, sl_946, sl_1446, sl_947], [], (215, []))
def nE_900_151 : aNd := ((nat_lit 39), [lcn_898, lcn_286, lcn_1580], [], [sl_1427, sl_867, sl_906, sl_944, sl_945, sl_1050, sl_1443, sl_946, sl_1446, sl_947], [], (214, []))
def nE_900_152 : aNd := ((nat_lit 39), [lcn_898, lcn_286, lcn_1581], [], [sl_1427, sl_867, sl_906, sl_944, sl_945, sl_1050, sl_1443, sl_946, sl_1446, sl_947], [], (213, []))
def nE_900_153 : aNd := ((nat_lit 39), [lcn_898, lcn_286, lcn_1582], [], [sl_1427, sl_867, sl_906, sl_944, sl_945, sl_1050, sl_1443, sl_946, sl_1446, sl_947], [], (212, []))
def nE_900_154 : aNd := ((nat_lit 39), [lcn_898, lcn_286, lcn_1583], [], [sl_1427, sl_867, sl_906, sl_944, sl_945, sl_1050, sl_1443, sl_946, sl_1446, sl_947], [], (211, []))
def nE_900_155 : aNd := ((nat_lit 39), [lcn_898, lcn_286, lcn_1584], [], [sl_1427, sl_867, sl_906, sl_944, sl_945, sl_1050, sl_1443, sl_946, sl_1446, sl_947], [], (210, []))
def nE_900_156 : aNd := ((nat_lit 39), [lcn_898, lcn_286, lcn_1585], [], [sl_1427, sl_867, sl_906, sl_944, sl_945, sl_1050, sl_1443, sl_946, sl_1446, sl_947], [], (209, []))
def nE_900_157 : aNd := ((nat_lit 39), [lcn_898, lcn_286, lcn_1586], [], [sl_1427, sl_867, sl_906, sl_944, sl_945, sl_1050, sl_1443, sl_946, sl_1446, sl_947], [], (208, []))
def nE_900_158 : aNd := ((nat_lit 39), [lcn_898, lcn_286, lcn_1587], [], [sl_1427, sl_867, sl_906, sl_944, sl_945, sl_1050, sl_1443, sl_946, sl_1446, sl_947], [], (207, []))
def nE_900_159 : aNd := ((nat_lit 39), [lcn_898, lcn_286, lcn_1588], [], [sl_1427, sl_867, sl_906, sl_944, sl_945, sl_1050, sl_1443, sl_946, sl_1446, sl_947], [], (206, []))
def nE_900_160 : aNd := ((nat_lit 39), [lcn_898, lcn_286, lcn_1589], [], [sl_1427, sl_867, sl_906, sl_944, sl_945, sl_1050, sl_1443, sl_946, sl_1446, sl_947], [], (205, []))
def nE_900_161 : aNd := ((nat_lit 39), [lcn_898, lcn_286, lcn_1590], [], [sl_1427, sl_867, sl_906, sl_944, sl_945, sl_1050, sl_1443, sl_946, sl_1446, sl_947], [], (204, []))
def nE_900_162 : aNd := ((nat_lit 39), [lcn_898, lcn_286, lcn_1591], [], [sl_1427, sl_867, sl_906, sl_944, sl_945, sl_1050, sl_1443, sl_946, sl_1446, sl_947], [], (203, []))
def nE_900_163 : aNd := ((nat_lit 39), [lcn_898, lcn_286, lcn_1592], [], [sl_1427, sl_867, sl_906, sl_944, sl_945, sl_1050, sl_1443, sl_946, sl_1446, sl_947], [], (202, []))
def nE_900_164 : aNd := ((nat_lit 39), [lcn_898, lcn_286, lcn_1593], [], [sl_1427, sl_867, sl_906, sl_944, sl_945, sl_1050, sl_1443, sl_946, sl_1446, sl_947], [], (201, []))
def nE_900_165 : aNd := ((nat_lit 39), [lcn_898, lcn_286, lcn_1594], [], [sl_1427, sl_867, sl_906, sl_944, sl_945, sl_1050, sl_1443, sl_946, sl_1446, sl_947], [], (200, []))
def nE_900_166 : aNd := ((nat_lit 39), [lcn_898, lcn_286, lcn_1595], [], [sl_1427, sl_867, sl_906, sl_944, sl_945, sl_1050, sl_1443, sl_946, sl_1446, sl_947], [], (199, []))
def nE_900_167 : aNd := ((nat_lit 39), [lcn_898, lcn_286, lcn_1596], [], [sl_1427, sl_867, sl_906, sl_944, sl_945, sl_1050, sl_1443, sl_946, sl_1446, sl_947], [], (198, []))
def nE_900_168 : aNd := ((nat_lit 39), [lcn_898, lcn_286, lcn_1597], [], [sl_1427, sl_867, sl_906, sl_944, sl_945, sl_1050, sl_1443, sl_946, sl_1446, sl_947], [], (197, []))
def nE_900_169 : aNd := ((nat_lit 39), [lcn_898, lcn_286, lcn_1598], [], [sl_1427, sl_867, sl_906, sl_944, sl_945, sl_1050, sl_1443, sl_946, sl_1446, sl_947], [], (196, []))
def nE_900_170 : aNd := ((nat_lit 39), [lcn_898, lcn_286, lcn_1599], [], [sl_1427, sl_867, sl_906, sl_944, sl_945, sl_1050, sl_1443, sl_946, sl_1446, sl_947], [], (195, []))
def nE_900_171 : aNd := ((nat_lit 39), [lcn_898, lcn_286, lcn_1600], [], [sl_1427, sl_867, sl_906, sl_944, sl_945, sl_1050, sl_1443, sl_946, sl_1446, sl_947], [], (194, []))
def nE_900_172 : aNd := ((nat_lit 39), [lcn_898, lcn_286, lcn_1601], [], [sl_1427, sl_867, sl_906, sl_944, sl_945, sl_1050, sl_1443, sl_946, sl_1446, sl_947], [], (193, []))
def nE_900_173 : aNd := ((nat_lit 39), [lcn_898, lcn_286, lcn_1602], [], [sl_1427, sl_867, sl_906, sl_944, sl_945, sl_1050, sl_1443, sl_946, sl_1446, sl_947], [], (192, []))
def nE_900_174 : aNd := ((nat_lit 39), [lcn_898, lcn_286, lcn_1603], [], [sl_1427, sl_867, sl_906, sl_944, sl_945, sl_1050, sl_1443, sl_946, sl_1446, sl_947], [], (191, []))
def nE_900_175 : aNd := ((nat_lit 39), [lcn_898, lcn_286, lcn_1604], [], [sl_1427, sl_867, sl_906, sl_944, sl_945, sl_1050, sl_1443, sl_946, sl_1446, sl_947], [], (190, []))
def nE_900_176 : aNd := ((nat_lit 39), [lcn_898, lcn_286, lcn_1605], [], [sl_1427, sl_867, sl_906, sl_944, sl_945, sl_1050, sl_1443, sl_946, sl_1446, sl_947], [], (189, []))
def nE_900_177 : aNd := ((nat_lit 39), [lcn_898, lcn_286, lcn_1606], [], [sl_1427, sl_867, sl_906, sl_944, sl_945, sl_1050, sl_1443, sl_946, sl_1446, sl_947], [], (188, []))
def nE_900_178 : aNd := ((nat_lit 39), [lcn_898, lcn_286, lcn_1607], [], [sl_1427, sl_867, sl_906, sl_944, sl_945, sl_1050, sl_1443, sl_946, sl_1446, sl_947], [], (187, []))
def nE_900_179 : aNd := ((nat_lit 39), [lcn_898, lcn_286, lcn_1608], [], [sl_1427, sl_867, sl_906, sl_944, sl_945, sl_1050, sl_1443, sl_946, sl_1446, sl_947], [], (186, []))
def nE_900_180 : aNd := ((nat_lit 39), [lcn_898, lcn_286, lcn_1609], [], [sl_1427, sl_867, sl_906, sl_944, sl_945, sl_1050, sl_1443, sl_946, sl_1446, sl_947], [], (185, []))
def nE_900_181 : aNd := ((nat_lit 39), [lcn_898, lcn_286, lcn_1610], [], [sl_1427, sl_867, sl_906, sl_944, sl_945, sl_1050, sl_1443, sl_946, sl_1446, sl_947], [], (184, []))
def nE_900_182 : aNd := ((nat_lit 39), [lcn_898, lcn_286, lcn_1611], [], [sl_1427, sl_867, sl_906, sl_944, sl_945, sl_1050, sl_1443, sl_946, sl_1446, sl_947], [], (183, []))
def nE_900_183 : aNd := ((nat_lit 39), [lcn_898, lcn_286, lcn_1612], [], [sl_1427, sl_867, sl_906, sl_944, sl_945, sl_1050, sl_1443, sl_946, sl_1446, sl_947], [], (182, []))
def nE_900_184 : aNd := ((nat_lit 39), [lcn_898, lcn_286, lcn_1613], [], [sl_1427, sl_867, sl_906, sl_944, sl_945, sl_1050, sl_1443, sl_946, sl_1446, sl_947], [], (181, []))
def nE_900_185 : aNd := ((nat_lit 39), [lcn_898, lcn_286, lcn_1614], [], [sl_1427, sl_867, sl_906, sl_944, sl_945, sl_1050, sl_1443, sl_946, sl_1446, sl_947, sl_948], [], (180, []))
def nE_900_186 : aNd := ((nat_lit 39), [lcn_898, lcn_286, lcn_1615], [], [sl_1427, sl_867, sl_906, sl_944, sl_945, sl_1050, sl_1443, sl_946, sl_1446, sl_947, sl_948, sl_949], [], (179, []))
def nE_900_187 : aNd := ((nat_lit 39), [lcn_898, lcn_286, lcn_1616], [], [sl_1427, sl_867, sl_906, sl_944, sl_945, sl_1050, sl_1443, sl_946, sl_1446, sl_947, sl_948, sl_949, sl_950], [], (178, []))
def nE_900_188 : aNd := ((nat_lit 39), [lcn_898, lcn_286, lcn_1617], [], [sl_1427, sl_867, sl_906, sl_944, sl_945, sl_1050, sl_1443, sl_946, sl_1446, sl_947, sl_948, sl_949, sl_950, sl_951], [], (177, []))
def nE_900_189 : aNd := ((nat_lit 39), [lcn_898, lcn_286, lcn_1618], [], [sl_1427, sl_867, sl_906, sl_944, sl_945, sl_1050, sl_1443, sl_946, sl_1446, sl_947, sl_948, sl_949, sl_950, sl_951, sl_952], [], (176, []))
def nE_900_190 : aNd := ((nat_lit 39), [lcn_898, lcn_286, lcn_1619], [], [sl_1427, sl_867, sl_906, sl_944, sl_945, sl_1050, sl_1443, sl_946, sl_1446, sl_947, sl_948, sl_949, sl_950, sl_951, sl_952, sl_953], [], (175, []))
def nE_900_191 : aNd := ((nat_lit 39), [lcn_898, lcn_286, lcn_1620], [], [sl_1427, sl_867, sl_906, sl_944, sl_945, sl_1050, sl_1443, sl_946, sl_1446, sl_947, sl_948, sl_949, sl_950, sl_951, sl_952, sl_953, sl_954], [], (174, []))
def nE_900_192 : aNd := ((nat_lit 39), [lcn_898, lcn_286, lcn_1621], [], [sl_1427, sl_867, sl_906, sl_944, sl_945, sl_1050, sl_1443, sl_946, sl_1446, sl_947, sl_948, sl_949, sl_950, sl_951, sl_952, sl_953, sl_954], [], (173, []))
def nE_900_193 : aNd := ((nat_lit 39), [lcn_898, lcn_286, lcn_1622], [], [sl_1427, sl_867, sl_906, sl_944, sl_945, sl_1050, sl_1443, sl_946, sl_1446, sl_947, sl_948, sl_949, sl_950, sl_951, sl_952, sl_953, sl_954], [], (172, []))
def nE_900_194 : aNd := ((nat_lit 39), [lcn_898, lcn_286, lcn_1623], [], [sl_1427, sl_867, sl_906, sl_944, sl_945, sl_1050, sl_1443, sl_946, sl_1446, sl_947, sl_948, sl_949, sl_950, sl_951, sl_952, sl_953, sl_954], [], (171, []))
def nE_900_195 : aNd := ((nat_lit 39), [lcn_898, lcn_286, lcn_1624], [], [sl_1427, sl_867, sl_906, sl_944, sl_945, sl_1050, sl_1443, sl_946, sl_1446, sl_947, sl_948, sl_949, sl_950, sl_951, sl_952, sl_953, sl_954], [], (170, []))
def nE_900_196 : aNd := ((nat_lit 39), [lcn_898, lcn_286, lcn_1625], [], [sl_1427, sl_867, sl_906, sl_944, sl_945, sl_1050, sl_1443, sl_946, sl_1446, sl_947, sl_948, sl_949, sl_950, sl_951, sl_952, sl_953, sl_954], [], (169, []))
def nE_900_197 : aNd := ((nat_lit 39), [lcn_898, lcn_286, lcn_1626], [], [sl_1427, sl_867, sl_906, sl_944, sl_945, sl_1050, sl_1443, sl_946, sl_1446, sl_947, sl_948, sl_949, sl_950, sl_951, sl_952, sl_953, sl_954], [], (168, []))
def nE_900_198 : aNd := ((nat_lit 39), [lcn_898, lcn_286, lcn_1627], [], [sl_1427, sl_867, sl_906, sl_944, sl_945, sl_1050, sl_1443, sl_946, sl_1446, sl_947, sl_948, sl_949, sl_950, sl_951, sl_952, sl_953, sl_954], [], (167, []))
def nE_900_199 : aNd := ((nat_lit 39), [lcn_898, lcn_286, lcn_1628], [], [sl_1427, sl_867, sl_906, sl_944, sl_945, sl_1050, sl_1443, sl_946, sl_1446, sl_947, sl_948, sl_949, sl_950, sl_951, sl_952, sl_953, sl_954], [], (166, []))
def nE_900_200 : aNd := ((nat_lit 39), [lcn_898, lcn_286, lcn_1629], [], [sl_1427, sl_867, sl_906, sl_944, sl_945, sl_1050, sl_1443, sl_946, sl_1446, sl_947, sl_948, sl_949, sl_950, sl_951, sl_952, sl_953, sl_954], [], (165, []))
def nE_900_201 : aNd := ((nat_lit 39), [lcn_898, lcn_286, lcn_1630], [], [sl_1427, sl_867, sl_906, sl_944, sl_945, sl_1050, sl_1443, sl_946, sl_1446, sl_947, sl_948, sl_949, sl_950, sl_951, sl_952, sl_953, sl_954], [], (164, []))
def nE_900_202 : aNd := ((nat_lit 39), [lcn_898, lcn_286, lcn_1631], [], [sl_1427, sl_867, sl_906, sl_944, sl_945, sl_1050, sl_1443, sl_946, sl_1446, sl_947, sl_948, sl_949, sl_950, sl_951, sl_952, sl_953, sl_954], [], (163, []))
def nE_900_203 : aNd := ((nat_lit 39), [lcn_898, lcn_286, lcn_1632], [], [sl_1427, sl_867, sl_906, sl_944, sl_945, sl_1050, sl_1443, sl_946, sl_1446, sl_947, sl_948, sl_949, sl_950, sl_951, sl_952, sl_953, sl_954], [], (162, []))
def nE_900_204 : aNd := ((nat_lit 39), [lcn_898, lcn_286, lcn_1633], [], [sl_1427, sl_867, sl_906, sl_944, sl_945, sl_1050, sl_1443, sl_946, sl_1446, sl_947, sl_948, sl_949, sl_950, sl_951, sl_952, sl_953, sl_954], [], (161, []))
def nE_900_205 : aNd := ((nat_lit 39), [lcn_898, lcn_286, lcn_1634], [], [sl_1427, sl_867, sl_906, sl_944, sl_945, sl_1050, sl_1443, sl_946, sl_1446, sl_947, sl_948, sl_949, sl_950, sl_951, sl_952, sl_953, sl_954], [], (160, []))
def nE_900_206 : aNd := ((nat_lit 39), [lcn_898, lcn_286, lcn_1635], [], [sl_1427, sl_867, sl_906, sl_944, sl_945, sl_1050, sl_1443, sl_946, sl_1446, sl_947, sl_948, sl_949, sl_950, sl_951, sl_952, sl_953, sl_954], [], (159, []))
def nE_900_207 : aNd := ((nat_lit 39), [lcn_898, lcn_286, lcn_1636], [], [sl_1427, sl_867, sl_906, sl_944, sl_945, sl_1050, sl_1443, sl_946, sl_1446, sl_947, sl_948, sl_949, sl_950, sl_951, sl_952, sl_953, sl_954], [], (158, []))
def nE_900_208 : aNd := ((nat_lit 39), [lcn_898, lcn_286, lcn_1637], [], [sl_1427, sl_867, sl_906, sl_944, sl_945, sl_1050, sl_1443, sl_946, sl_1446, sl_947, sl_948, sl_949, sl_950, sl_951, sl_952, sl_953, sl_954], [], (157, []))
def nE_900_209 : aNd := ((nat_lit 39), [lcn_898, lcn_286, lcn_1638], [], [sl_1427, sl_867, sl_906, sl_944, sl_945, sl_1050, sl_1443, sl_946, sl_1446, sl_947, sl_948, sl_949, sl_950, sl_951, sl_952, sl_953, sl_954], [], (156, []))
def nE_900_210 : aNd := ((nat_lit 39), [lcn_898, lcn_286, lcn_1639], [], [sl_1427, sl_867, sl_906, sl_944, sl_945, sl_1050, sl_1443, sl_946, sl_1446, sl_947, sl_948, sl_949, sl_950, sl_951, sl_952, sl_953, sl_954], [], (155, []))
def nE_900_211 : aNd := ((nat_lit 39), [lcn_898, lcn_286, lcn_1640], [], [sl_1427, sl_867, sl_906, sl_944, sl_945, sl_1050, sl_1443, sl_946, sl_1446, sl_947, sl_948, sl_949, sl_950, sl_951, sl_952, sl_953, sl_954], [], (154, []))
def nE_900_212 : aNd := ((nat_lit 39), [lcn_898, lcn_286, lcn_1641], [], [sl_1427, sl_867, sl_906, sl_944, sl_945, sl_1050, sl_1443, sl_946, sl_1446, sl_947, sl_948, sl_949, sl_950, sl_951, sl_952, sl_953, sl_954], [], (153, []))
def nE_900_213 : aNd := ((nat_lit 39), [lcn_898, lcn_286, lcn_1642], [], [sl_1427, sl_867, sl_906, sl_944, sl_945, sl_1050, sl_1443, sl_946, sl_1446, sl_947, sl_948, sl_949, sl_950, sl_951, sl_952, sl_953, sl_954], [], (152, []))
def nE_900_214 : aNd := ((nat_lit 39), [lcn_898, lcn_286, lcn_1643], [], [sl_1427, sl_867, sl_906, sl_944, sl_945, sl_1050, sl_1443, sl_946, sl_1446, sl_947, sl_948, sl_949, sl_950, sl_951, sl_952, sl_953, sl_954], [], (151, []))
def nE_900_215 : aNd := ((nat_lit 39), [lcn_898, lcn_286, lcn_1644], [], [sl_1427, sl_867, sl_906, sl_944, sl_945, sl_1050, sl_1443, sl_946, sl_1446, sl_947, sl_948, sl_949, sl_950, sl_951, sl_952, sl_953, sl_954], [], (150, []))
def nE_900_216 : aNd := ((nat_lit 39), [lcn_898, lcn_286, lcn_1645], [], [sl_1427, sl_867, sl_906, sl_944, sl_945, sl_1050, sl_1443, sl_946, sl_1446, sl_947, sl_948, sl_949, sl_950, sl_951, sl_952, sl_953, sl_954], [], (149, []))
def nE_900_217 : aNd := ((nat_lit 39), [lcn_898, lcn_286, lcn_1646], [], [sl_1427, sl_867, sl_906, sl_944, sl_945, sl_1050, sl_1443, sl_946, sl_1446, sl_947, sl_948, sl_949, sl_950, sl_951, sl_952, sl_953, sl_954], [], (148, []))
def nE_900_218 : aNd := ((nat_lit 39), [lcn_898, lcn_286, lcn_1647], [], [sl_1427, sl_867, sl_906, sl_944, sl_945, sl_1050, sl_1443, sl_946, sl_1446, sl_947, sl_948, sl_949, sl_950, sl_951, sl_952, sl_953, sl_954], [], (147, []))
def nE_900_219 : aNd := ((nat_lit 39), [lcn_898, lcn_286, lcn_1648], [], [sl_1427, sl_867, sl_906, sl_944, sl_945, sl_1050, sl_1443, sl_946, sl_1446, sl_947, sl_948, sl_949, sl_950, sl_951, sl_952, sl_953, sl_954], [], (146, []))
def nE_900_220 : aNd := ((nat_lit 39), [lcn_898, lcn_286, lcn_1649], [], [sl_1427, sl_867, sl_906, sl_944, sl_945, sl_1050, sl_1443, sl_946, sl_1446, sl_947, sl_948, sl_949, sl_950, sl_951, sl_952, sl_953, sl_954], [], (145, []))
def nE_900_221 : aNd := ((nat_lit 39), [lcn_898, lcn_286, lcn_1650], [], [sl_1427, sl_867, sl_906, sl_944, sl_945, sl_1050, sl_1443, sl_946, sl_1446, sl_947, sl_948, sl_949, sl_950, sl_951, sl_952, sl_953, sl_954], [], (144, []))
def nE_900_222 : aNd := ((nat_lit 39), [lcn_898, lcn_286, lcn_1651], [], [sl_1427, sl_867, sl_906, sl_944, sl_945, sl_1050, sl_1443, sl_946, sl_1446, sl_947, sl_948, sl_949, sl_950, sl_951, sl_952, sl_953, sl_954], [], (143, []))
def nE_900_223 : aNd := ((nat_lit 39), [lcn_898, lcn_286, lcn_1652], [], [sl_1427, sl_867, sl_906, sl_944, sl_945, sl_1050, sl_1443, sl_946, sl_1446, sl_947, sl_948, sl_949, sl_950, sl_951, sl_952, sl_953, sl_954], [], (142, []))
def nE_900_224 : aNd := ((nat_lit 39), [lcn_898, lcn_286, lcn_1653], [], [sl_1427, sl_867, sl_906, sl_944, sl_945, sl_1050, sl_1443, sl_946, sl_1446, sl_947, sl_948, sl_949, sl_950, sl_951, sl_952, sl_953, sl_954], [], (141, []))
def nE_900_225 : aNd := ((nat_lit 39), [lcn_898, lcn_286, lcn_1654], [], [sl_1427, sl_867, sl_906, sl_944, sl_945, sl_1050, sl_1443, sl_946, sl_1446, sl_947, sl_948, sl_949, sl_950, sl_951, sl_952, sl_953, sl_954], [], (140, []))
def nE_900_226 : aNd := ((nat_lit 39), [lcn_898, lcn_286, lcn_1655], [], [sl_1427, sl_867, sl_906, sl_944, sl_945, sl_1050, sl_1443, sl_946, sl_1446, sl_947, sl_948, sl_949, sl_950, sl_951, sl_952, sl_953, sl_954], [], (139, []))
def nE_900_227 : aNd := ((nat_lit 39), [lcn_898, lcn_286, lcn_1656], [], [sl_1427, sl_867, sl_906, sl_944, sl_945, sl_1050, sl_1443, sl_946, sl_1446, sl_947, sl_948, sl_949, sl_950, sl_951, sl_952, sl_953, sl_954], [], (138, []))
def nE_900_228 : aNd := ((nat_lit 39), [lcn_898, lcn_286, lcn_1657], [], [sl_1427, sl_867, sl_906, sl_944, sl_945, sl_1050, sl_1443, sl_946, sl_1446, sl_947, sl_948, sl_949, sl_950, sl_951, sl_952, sl_953, sl_954], [], (137, []))
def nE_900_229 : aNd := ((nat_lit 39), [lcn_898, lcn_286, lcn_1658], [], [sl_1427, sl_867, sl_906, sl_944, sl_945, sl_1050, sl_1443, sl_946, sl_1446, sl_947, sl_948, sl_949, sl_950, sl_951, sl_952, sl_953, sl_954], [], (136, []))
def nE_900_230 : aNd := ((nat_lit 39), [lcn_898, lcn_286, lcn_1659], [], [sl_1427, sl_867, sl_906, sl_944, sl_945, sl_1050, sl_1443, sl_946, sl_1446, sl_947, sl_948, sl_949, sl_950, sl_951, sl_952, sl_953, sl_954], [], (135, []))
def nE_900_231 : aNd := ((nat_lit 39), [lcn_898, lcn_286, lcn_1660], [], [sl_1427, sl_867, sl_906, sl_944, sl_945, sl_1050, sl_1443, sl_946, sl_1446, sl_947, sl_948, sl_949, sl_950, sl_951, sl_952, sl_953, sl_954], [], (134, []))
def nE_900_232 : aNd := ((nat_lit 39), [lcn_898, lcn_286, lcn_1661], [], [sl_1427, sl_867, sl_906, sl_944, sl_945, sl_1050, sl_1443, sl_946, sl_1446, sl_947, sl_948, sl_949, sl_950, sl_951, sl_952, sl_953, sl_954], [], (133, []))
def nE_900_233 : aNd := ((nat_lit 39), [lcn_898, lcn_286, lcn_1662], [], [sl_1427, sl_867, sl_906, sl_944, sl_945, sl_1050, sl_1443, sl_946, sl_1446, sl_947, sl_948, sl_949, sl_950, sl_951, sl_952, sl_953, sl_954], [], (132, []))
def nE_900_234 : aNd := ((nat_lit 39), [lcn_898, lcn_286, lcn_1663], [], [sl_1427, sl_867, sl_906, sl_944, sl_945, sl_1050, sl_1443, sl_946, sl_1446, sl_947, sl_948, sl_949, sl_950, sl_951, sl_952, sl_953, sl_954], [], (131, []))
def nE_900_235 : aNd := ((nat_lit 39), [lcn_898, lcn_286, lcn_1664], [], [sl_1427, sl_867, sl_906, sl_944, sl_945, sl_1050, sl_1443, sl_946, sl_1446, sl_947, sl_948, sl_949, sl_950, sl_951, sl_952, sl_953, sl_954], [], (130, []))
def nE_900_236 : aNd := ((nat_lit 39), [lcn_898, lcn_286, lcn_1665], [], [sl_1427, sl_867, sl_906, sl_944, sl_945, sl_1050, sl_1443, sl_946, sl_1446, sl_947, sl_948, sl_949, sl_950, sl_951, sl_952, sl_953, sl_954], [], (129, []))
def nE_900_237 : aNd := ((nat_lit 39), [lcn_898, lcn_286, lcn_1666], [], [sl_1427, sl_867, sl_906, sl_944, sl_945, sl_1050, sl_1443, sl_946, sl_1446, sl_947, sl_948, sl_949, sl_950, sl_951, sl_952, sl_953, sl_954], [], (128, []))
def nE_900_238 : aNd := ((nat_lit 39), [lcn_898, lcn_286, lcn_1667], [], [sl_1427, sl_867, sl_906, sl_944, sl_945, sl_1050, sl_1443, sl_946, sl_1446, sl_947, sl_948, sl_949, sl_950, sl_951, sl_952, sl_953, sl_954], [], (127, []))
def nE_900_239 : aNd := ((nat_lit 39), [lcn_898, lcn_286, lcn_1668], [], [sl_1427, sl_867, sl_906, sl_944, sl_945, sl_1050, sl_1443, sl_946, sl_1446, sl_947, sl_948, sl_949, sl_950, sl_951, sl_952, sl_953, sl_954], [], (126, []))
def nE_900_240 : aNd := ((nat_lit 39), [lcn_898, lcn_286, lcn_1669], [], [sl_1427, sl_867, sl_906, sl_944, sl_945, sl_1050, sl_1443, sl_946, sl_1446, sl_947, sl_948, sl_949, sl_950, sl_951, sl_952, sl_953, sl_954], [], (125, []))
def nE_900_241 : aNd := ((nat_lit 39), [lcn_898, lcn_286, lcn_1670], [], [sl_1427, sl_867, sl_906, sl_944, sl_945, sl_1050, sl_1443, sl_946, sl_1446, sl_947, sl_948, sl_949, sl_950, sl_951, sl_952, sl_953, sl_954], [], (124, []))
def nE_900_242 : aNd := ((nat_lit 39), [lcn_898, lcn_286, lcn_1671], [], [sl_1427, sl_867, sl_906, sl_944, sl_945, sl_1050, sl_1443, sl_946, sl_1446, sl_947, sl_948, sl_949, sl_950, sl_951, sl_952, sl_953, sl_954], [], (123, []))
def nE_900_243 : aNd := ((nat_lit 39), [lcn_898, lcn_286, lcn_1672], [], [sl_1427, sl_867, sl_906, sl_944, sl_945, sl_1050, sl_1443, sl_946, sl_1446, sl_947, sl_948, sl_949, sl_950, sl_951, sl_952, sl_953, sl_954], [], (122, []))
def nE_900_244 : aNd := ((nat_lit 39), [lcn_898, lcn_286, lcn_1673], [], [sl_1427, sl_867, sl_906, sl_944, sl_945, sl_1050, sl_1443, sl_946, sl_1446, sl_947, sl_948, sl_949, sl_950, sl_951, sl_952, sl_953, sl_954], [], (121, []))
def nE_900_245 : aNd := ((nat_lit 39), [lcn_898, lcn_286, lcn_1674], [], [sl_1427, sl_867, sl_906, sl_944, sl_945, sl_1050, sl_1443, sl_946, sl_1446, sl_947, sl_948, sl_949, sl_950, sl_951, sl_952, sl_953, sl_954], [], (120, []))
def nE_900_246 : aNd := ((nat_lit 39), [lcn_898, lcn_286, lcn_1675], [], [sl_1427, sl_867, sl_906, sl_944, sl_945, sl_1050, sl_1443, sl_946, sl_1446, sl_947, sl_948, sl_949, sl_950, sl_951, sl_952, sl_953, sl_954], [], (119, []))
def nE_900_247 : aNd := ((nat_lit 39), [lcn_898, lcn_286, lcn_1676], [], [sl_1427, sl_867, sl_906, sl_944, sl_945, sl_1050, sl_1443, sl_946, sl_1446, sl_947, sl_948, sl_949, sl_950, sl_951, sl_952, sl_953, sl_954], [], (118, []))
def nE_900_248 : aNd := ((nat_lit 39), [lcn_898, lcn_286, lcn_1677], [], [sl_1427, sl_867, sl_906, sl_944, sl_945, sl_1050, sl_1443, sl_946, sl_1446, sl_947, sl_948, sl_949, sl_950, sl_951, sl_952, sl_953, sl_954], [], (117, []))
def nE_900_249 : aNd := ((nat_lit 39), [lcn_898, lcn_286, lcn_1678], [], [sl_1427, sl_867, sl_906, sl_944, sl_945, sl_1050, sl_1443, sl_946, sl_1446, sl_947, sl_948, sl_949, sl_950, sl_951, sl_952, sl_953, sl_954], [], (116, []))
def nE_900_250 : aNd := ((nat_lit 39), [lcn_898, lcn_286, lcn_1679], [], [sl_1427, sl_867, sl_906, sl_944, sl_945, sl_1050, sl_1443, sl_946, sl_1446, sl_947, sl_948, sl_949, sl_950, sl_951, sl_952, sl_953, sl_954], [], (115, []))
def nE_900_251 : aNd := ((nat_lit 39), [lcn_898, lcn_286, lcn_1680], [], [sl_1427, sl_867, sl_906, sl_944, sl_945, sl_1050, sl_1443, sl_946, sl_1446, sl_947, sl_948, sl_949, sl_950, sl_951, sl_952, sl_953, sl_954], [], (114, []))
def nE_900_252 : aNd := ((nat_lit 39), [lcn_898, lcn_286, lcn_1681], [], [sl_1427, sl_867, sl_906, sl_944, sl_945, sl_1050, sl_1443, sl_946, sl_1446, sl_947, sl_948, sl_949, sl_950, sl_951, sl_952, sl_953, sl_954], [], (113, []))
def nE_900_253 : aNd := ((nat_lit 39), [lcn_898, lcn_286, lcn_1682], [], [sl_1427, sl_867, sl_906, sl_944, sl_945, sl_1050, sl_1443, sl_946, sl_1446, sl_947, sl_948, sl_949, sl_950, sl_951, sl_952, sl_953, sl_954], [], (112, []))
def nE_900_254 : aNd := ((nat_lit 39), [lcn_898, lcn_286, lcn_1683], [], [sl_1427, sl_867, sl_906, sl_944, sl_945, sl_1050, sl_1443, sl_946, sl_1446, sl_947, sl_948, sl_949, sl_950, sl_951, sl_952, sl_953, sl_954], [], (111, []))
def nE_900_255 : aNd := ((nat_lit 39), [lcn_898, lcn_286, lcn_1684], [], [sl_1427, sl_867, sl_906, sl_944, sl_945, sl_1050, sl_1443, sl_946, sl_1446, sl_947, sl_948, sl_949, sl_950, sl_951, sl_952, sl_953, sl_954], [], (110, []))
def nE_900_256 : aNd := ((nat_lit 39), [lcn_898, lcn_286, lcn_1685], [], [sl_1427, sl_867, sl_906, sl_944, sl_945, sl_1050, sl_1443, sl_946, sl_1446, sl_947, sl_948, sl_949, sl_950, sl_951, sl_952, sl_953, sl_954], [], (109, []))
def nE_900_257 : aNd := ((nat_lit 39), [lcn_898, lcn_286, lcn_1686], [], [sl_1427, sl_867, sl_906, sl_944, sl_945, sl_1050, sl_1443, sl_946, sl_1446, sl_947, sl_948, sl_949, sl_950, sl_951, sl_952, sl_953, sl_954], [], (108, []))
def nE_900_258 : aNd := ((nat_lit 39), [lcn_898, lcn_286, lcn_1687], [], [sl_1427, sl_867, sl_906, sl_944, sl_945, sl_1050, sl_1443, sl_946, sl_1446, sl_947, sl_948, sl_949, sl_950, sl_951, sl_952, sl_953, sl_954], [], (107, []))
def nE_900_259 : aNd := ((nat_lit 39), [lcn_898, lcn_286, lcn_1688], [], [sl_1427, sl_867, sl_906, sl_944, sl_945, sl_1050, sl_1443, sl_946, sl_1446, sl_947, sl_948, sl_949, sl_950, sl_951, sl_952, sl_953, sl_954], [], (106, []))
def nE_900_260 : aNd := ((nat_lit 39), [lcn_898, lcn_286, lcn_1689], [], [sl_1427, sl_867, sl_906, sl_944, sl_945, sl_1050, sl_1443, sl_946, sl_1446, sl_947, sl_948, sl_949, sl_950, sl_951, sl_952, sl_953, sl_954], [], (105, []))
def nE_900_261 : aNd := ((nat_lit 39), [lcn_898, lcn_286, lcn_1690], [], [sl_1427, sl_867, sl_906, sl_944, sl_945, sl_1050, sl_1443, sl_946, sl_1446, sl_947, sl_948, sl_949, sl_950, sl_951, sl_952, sl_953, sl_954], [], (104, []))
def nE_900_262 : aNd := ((nat_lit 39), [lcn_898, lcn_286, lcn_1691], [], [sl_1427, sl_867, sl_906, sl_944, sl_945, sl_1050, sl_1443, sl_946, sl_1446, sl_947, sl_948, sl_949, sl_950, sl_951, sl_952, sl_953, sl_954], [], (103, []))
def nE_900_263 : aNd := ((nat_lit 39), [lcn_898, lcn_286, lcn_1692], [], [sl_1427, sl_867, sl_906, sl_944, sl_945, sl_1050, sl_1443, sl_946, sl_1446, sl_947, sl_948, sl_949, sl_950, sl_951, sl_952, sl_953, sl_954], [], (102, []))
def nE_900_264 : aNd := ((nat_lit 39), [lcn_898, lcn_286, lcn_1693], [], [sl_1427, sl_867, sl_906, sl_944, sl_945, sl_1050, sl_1443, sl_946, sl_1446, sl_947, sl_948, sl_949, sl_950, sl_951, sl_952, sl_953, sl_954], [], (101, []))
def nE_900_265 : aNd := ((nat_lit 39), [lcn_898, lcn_286, lcn_1694], [], [sl_1427, sl_867, sl_906, sl_944, sl_945, sl_1050, sl_1443, sl_946, sl_1446, sl_947, sl_948, sl_949, sl_950, sl_951, sl_952, sl_953, sl_954], [], (100, []))
def nE_900_266 : aNd := ((nat_lit 39), [lcn_898, lcn_286, lcn_1695], [], [sl_1427, sl_867, sl_906, sl_944, sl_945, sl_1050, sl_1443, sl_946, sl_1446, sl_947, sl_948, sl_949, sl_950, sl_951, sl_952, sl_953, sl_954], [], (99, []))
def nE_900_267 : aNd := ((nat_lit 39), [lcn_898, lcn_286, lcn_1696], [], [sl_1427, sl_867, sl_906, sl_944, sl_945, sl_1050, sl_1443, sl_946, sl_1446, sl_947, sl_948, sl_949, sl_950, sl_951, sl_952, sl_953, sl_954], [], (98, []))
def nE_900_268 : aNd := ((nat_lit 39), [lcn_898, lcn_286, lcn_1697], [], [sl_1427, sl_867, sl_906, sl_944, sl_945, sl_1050, sl_1443, sl_946, sl_1446, sl_947, sl_948, sl_949, sl_950, sl_951, sl_952, sl_953, sl_954], [], (97, []))
def nE_900_269 : aNd := ((nat_lit 39), [lcn_898, lcn_286, lcn_1698], [], [sl_1427, sl_867, sl_906, sl_944, sl_945, sl_1050, sl_1443, sl_946, sl_1446, sl_947, sl_948, sl_949, sl_950, sl_951, sl_952, sl_953, sl_954], [], (96, []))
def nE_900_270 : aNd := ((nat_lit 39), [lcn_898, lcn_286, lcn_1699], [], [sl_1427, sl_867, sl_906, sl_944, sl_945, sl_1050, sl_1443, sl_946, sl_1446, sl_947, sl_948, sl_949, sl_950, sl_951, sl_952, sl_953, sl_954], [], (95, []))
def nE_900_271 : aNd := ((nat_lit 39), [lcn_898, lcn_286, lcn_1700], [], [sl_1427, sl_867, sl_906, sl_944, sl_945, sl_1050, sl_1443, sl_946, sl_1446, sl_947, sl_948, sl_949, sl_950, sl_951, sl_952, sl_953, sl_954], [], (94, []))
def nE_900_272 : aNd := ((nat_lit 39), [lcn_898, lcn_286, lcn_1701], [], [sl_1427, sl_867, sl_906, sl_944, sl_945, sl_1050, sl_1443, sl_946, sl_1446, sl_947, sl_948, sl_949, sl_950, sl_951, sl_952, sl_953, sl_954], [], (93, []))
def nE_900_273 : aNd := ((nat_lit 39), [lcn_898, lcn_286, lcn_1702], [], [sl_1427, sl_867, sl_906, sl_944, sl_945, sl_1050, sl_1443, sl_946, sl_1446, sl_947, sl_948, sl_949, sl_950, sl_951, sl_952, sl_953, sl_954], [], (92, []))
def nE_900_274 : aNd := ((nat_lit 39), [lcn_898, lcn_286, lcn_1703], [], [sl_1427, sl_867, sl_906, sl_944, sl_945, sl_1050, sl_1443, sl_946, sl_1446, sl_947, sl_948, sl_949, sl_950, sl_951, sl_952, sl_953, sl_954], [], (91, []))
def nE_900_275 : aNd := ((nat_lit 39), [lcn_898, lcn_286, lcn_1704], [], [sl_1427, sl_867, sl_906, sl_944, sl_945, sl_1050, sl_1443, sl_946, sl_1446, sl_947, sl_948, sl_949, sl_950, sl_951, sl_952, sl_953, sl_954], [], (90, []))
def nE_900_276 : aNd := ((nat_lit 39), [lcn_898, lcn_286, lcn_1705], [], [sl_1427, sl_867, sl_906, sl_944, sl_945, sl_1050, sl_1443, sl_946, sl_1446, sl_947, sl_948, sl_949, sl_950, sl_951, sl_952, sl_953, sl_954], [], (89, []))
def nE_900_277 : aNd := ((nat_lit 39), [lcn_898, lcn_286, lcn_1706], [], [sl_1427, sl_867, sl_906, sl_944, sl_945, sl_1050, sl_1443, sl_946, sl_1446, sl_947, sl_948, sl_949, sl_950, sl_951, sl_952, sl_953, sl_954], [], (88, []))
def nE_900_278 : aNd := ((nat_lit 39), [lcn_898, lcn_286, lcn_1707], [], [sl_1427, sl_867, sl_906, sl_944, sl_945, sl_1050, sl_1443, sl_946, sl_1446, sl_947, sl_948, sl_949, sl_950, sl_951, sl_952, sl_953, sl_954], [], (87, []))
def nE_900_279 : aNd := ((nat_lit 39), [lcn_898, lcn_286, lcn_1708], [], [sl_1427, sl_867, sl_906, sl_944, sl_945, sl_1050, sl_1443, sl_946, sl_1446, sl_947, sl_948, sl_949, sl_950, sl_951, sl_952, sl_953, sl_954], [], (86, []))
def nE_900_280 : aNd := ((nat_lit 39), [lcn_898, lcn_286, lcn_1709], [], [sl_1427, sl_867, sl_906, sl_944, sl_945, sl_1050, sl_1443, sl_946, sl_1446, sl_947, sl_948, sl_949, sl_950, sl_951, sl_952, sl_953, sl_954], [], (85, []))
def nE_900_281 : aNd := ((nat_lit 39), [lcn_898, lcn_286, lcn_1710], [], [sl_1427, sl_867, sl_906, sl_944, sl_945, sl_1050, sl_1443, sl_946, sl_1446, sl_947, sl_948, sl_949, sl_950, sl_951, sl_952, sl_953, sl_954], [], (84, []))
def nE_900_282 : aNd := ((nat_lit 39), [lcn_898, lcn_286, lcn_1711], [], [sl_1427, sl_867, sl_906, sl_944, sl_945, sl_1050, sl_1443, sl_946, sl_1446, sl_947, sl_948, sl_949, sl_950, sl_951, sl_952, sl_953, sl_954], [], (83, []))
def nE_900_283 : aNd := ((nat_lit 39), [lcn_898, lcn_286, lcn_1712], [], [sl_1427, sl_867, sl_906, sl_944, sl_945, sl_1050, sl_1443, sl_946, sl_1446, sl_947, sl_948, sl_949, sl_950, sl_951, sl_952, sl_953, sl_954], [], (82, []))
def nE_900_284 : aNd := ((nat_lit 39), [lcn_898, lcn_286, lcn_1713], [], [sl_1427, sl_867, sl_906, sl_944, sl_945, sl_1050, sl_1443, sl_946, sl_1446, sl_947, sl_948, sl_949, sl_950, sl_951, sl_952, sl_953, sl_954], [], (81, []))
def nE_900_285 : aNd := ((nat_lit 39), [lcn_898, lcn_286, lcn_1714], [], [sl_1427, sl_867, sl_906, sl_944, sl_945, sl_1050, sl_1443, sl_946, sl_1446, sl_947, sl_948, sl_949, sl_950, sl_951, sl_952, sl_953, sl_954], [], (80, []))
def nE_900_286 : aNd := ((nat_lit 39), [lcn_898, lcn_286, lcn_1715], [], [sl_1427, sl_867, sl_906, sl_944, sl_945, sl_1050, sl_1443, sl_946, sl_1446, sl_947, sl_948, sl_949, sl_950, sl_951, sl_952, sl_953, sl_954], [], (79, []))
def nE_900_287 : aNd := ((nat_lit 39), [lcn_898, lcn_286, lcn_1716], [], [sl_1427, sl_867, sl_906, sl_944, sl_945, sl_1050, sl_1443, sl_946, sl_1446, sl_947, sl_948, sl_949, sl_950, sl_951, sl_952, sl_953, sl_954], [], (78, []))
def nE_900_288 : aNd := ((nat_lit 39), [lcn_898, lcn_286, lcn_1717], [], [sl_1427, sl_867, sl_906, sl_944, sl_945, sl_1050, sl_1443, sl_946, sl_1446, sl_947, sl_948, sl_949, sl_950, sl_951, sl_952, sl_953, sl_954], [], (77, []))
def nE_900_289 : aNd := ((nat_lit 39), [lcn_898, lcn_286, lcn_1718], [], [sl_1427, sl_867, sl_906, sl_944, sl_945, sl_1050, sl_1443, sl_946, sl_1446, sl_947, sl_948, sl_949, sl_950, sl_951, sl_952, sl_953, sl_954], [], (76, []))
def nE_900_290 : aNd := ((nat_lit 39), [lcn_898, lcn_286, lcn_1719], [], [sl_1427, sl_867, sl_906, sl_944, sl_945, sl_1050, sl_1443, sl_946, sl_1446, sl_947, sl_948, sl_949, sl_950, sl_951, sl_952, sl_953, sl_954], [], (75, []))
def nE_900_291 : aNd := ((nat_lit 39), [lcn_898, lcn_286, lcn_1720], [], [sl_1427, sl_867, sl_906, sl_944, sl_945, sl_1050, sl_1443, sl_946, sl_1446, sl_947, sl_948, sl_949, sl_950, sl_951, sl_952, sl_953, sl_954], [], (74, []))
def nE_900_292 : aNd := ((nat_lit 39), [lcn_898, lcn_286, lcn_1721], [], [sl_1427, sl_867, sl_906, sl_944, sl_945, sl_1050, sl_1443, sl_946, sl_1446, sl_947, sl_948, sl_949, sl_950, sl_951, sl_952, sl_953, sl_954], [], (73, []))
def nE_900_293 : aNd := ((nat_lit 39), [lcn_898, lcn_286, lcn_1722], [], [sl_1427, sl_867, sl_906, sl_944, sl_945, sl_1050, sl_1443, sl_946, sl_1446, sl_947, sl_948, sl_949, sl_950, sl_951, sl_952, sl_953, sl_954], [], (72, []))
def nE_900_294 : aNd := ((nat_lit 39), [lcn_898, lcn_286, lcn_1723], [], [sl_1427, sl_867, sl_906, sl_944, sl_945, sl_1050, sl_1443, sl_946, sl_1446, sl_947, sl_948, sl_949, sl_950, sl_951, sl_952, sl_953, sl_954], [], (71, []))
def nE_900_295 : aNd := ((nat_lit 39), [lcn_898, lcn_286, lcn_1724], [], [sl_1427, sl_867, sl_906, sl_944, sl_945, sl_1050, sl_1443, sl_946, sl_1446, sl_947, sl_948, sl_949, sl_950, sl_951, sl_952, sl_953, sl_954], [], (70, []))
def nE_900_296 : aNd := ((nat_lit 39), [lcn_898, lcn_286, lcn_1725], [], [sl_1427, sl_867, sl_906, sl_944, sl_945, sl_1050, sl_1443, sl_946, sl_1446, sl_947, sl_948, sl_949, sl_950, sl_951, sl_952, sl_953, sl_954], [], (69, []))
def nE_900_297 : aNd := ((nat_lit 39), [lcn_898, lcn_286, lcn_1726], [], [sl_1427, sl_867, sl_906, sl_944, sl_945, sl_1050, sl_1443, sl_946, sl_1446, sl_947, sl_948, sl_949, sl_950, sl_951, sl_952, sl_953, sl_954], [], (68, []))
def nE_900_298 : aNd := ((nat_lit 39), [lcn_898, lcn_286, lcn_1727], [], [sl_1427, sl_867, sl_906, sl_944, sl_945, sl_1050, sl_1443, sl_946, sl_1446, sl_947, sl_948, sl_949, sl_950, sl_951, sl_952, sl_953, sl_954], [], (67, []))
def nE_900_299 : aNd := ((nat_lit 39), [lcn_898, lcn_286, lcn_1728], [], [sl_1427, sl_867, sl_906, sl_944, sl_945, sl_1050, sl_1443, sl_946, sl_1446, sl_947, sl_948, sl_949, sl_950, sl_951, sl_952, sl_953, sl_954], [], (66, []))
def nE_900_300 : aNd := ((nat_lit 39), [lcn_898, lcn_286, lcn_1729], [], [sl_1427, sl_867, sl_906, sl_944, sl_945, sl_1050, sl_1443, sl_946, sl_1446, sl_947, sl_948, sl_949, sl_950, sl_951, sl_952, sl_953, sl_954], [], (65, []))
def nE_900_301 : aNd := ((nat_lit 39), [lcn_898, lcn_286, lcn_1730], [], [sl_1427, sl_867, sl_906, sl_944, sl_945, sl_1050, sl_1443, sl_946, sl_1446, sl_947, sl_948, sl_949, sl_950, sl_951, sl_952, sl_953, sl_954], [], (64, []))
def nE_900_302 : aNd := ((nat_lit 39), [lcn_898, lcn_286, lcn_1731], [], [sl_1427, sl_867, sl_906, sl_944, sl_945, sl_1050, sl_1443, sl_946, sl_1446, sl_947, sl_948, sl_949, sl_950, sl_951, sl_952, sl_953, sl_954], [], (63, []))
def nE_900_303 : aNd := ((nat_lit 39), [lcn_898, lcn_286, lcn_1732], [], [sl_1427, sl_867, sl_906, sl_944, sl_945, sl_1050, sl_1443, sl_946, sl_1446, sl_947, sl_948, sl_949, sl_950, sl_951, sl_952, sl_953, sl_954], [], (62, []))
def nE_900_304 : aNd := ((nat_lit 39), [lcn_898, lcn_286, lcn_1733], [], [sl_1427, sl_867, sl_906, sl_944, sl_945, sl_1050, sl_1443, sl_946, sl_1446, sl_947, sl_948, sl_949, sl_950, sl_951, sl_952, sl_953, sl_954], [], (61, []))
def nE_900_305 : aNd := ((nat_lit 39), [lcn_898, lcn_286, lcn_1734], [], [sl_1427, sl_867, sl_906, sl_944, sl_945, sl_1050, sl_1443, sl_946, sl_1446, sl_947, sl_948, sl_949, sl_950, sl_951, sl_952, sl_953, sl_954], [], (60, []))
def nE_900_306 : aNd := ((nat_lit 39), [lcn_898, lcn_286, lcn_1735], [], [sl_1427, sl_867, sl_906, sl_944, sl_945, sl_1050, sl_1443, sl_946, sl_1446, sl_947, sl_948, sl_949, sl_950, sl_951, sl_952, sl_953, sl_954], [], (59, []))
def nE_900_307 : aNd := ((nat_lit 39), [lcn_898, lcn_286, lcn_1736], [], [sl_1427, sl_867, sl_906, sl_944, sl_945, sl_1050, sl_1443, sl_946, sl_1446, sl_947, sl_948, sl_949, sl_950, sl_951, sl_952, sl_953, sl_954], [], (58, []))
def nE_900_308 : aNd := ((nat_lit 39), [lcn_898, lcn_286, lcn_1737], [], [sl_1427, sl_867, sl_906, sl_944, sl_945, sl_1050, sl_1443, sl_946, sl_1446, sl_947, sl_948, sl_949, sl_950, sl_951, sl_952, sl_953, sl_954], [], (57, []))
def nE_900_309 : aNd := ((nat_lit 39), [lcn_898, lcn_286, lcn_1738], [], [sl_1427, sl_867, sl_906, sl_944, sl_945, sl_1050, sl_1443, sl_946, sl_1446, sl_947, sl_948, sl_949, sl_950, sl_951, sl_952, sl_953, sl_954], [], (56, []))
def nE_900_310 : aNd := ((nat_lit 39), [lcn_898, lcn_286, lcn_1739], [], [sl_1427, sl_867, sl_906, sl_944, sl_945, sl_1050, sl_1443, sl_946, sl_1446, sl_947, sl_948, sl_949, sl_950, sl_951, sl_952, sl_953, sl_954], [], (55, []))
def nE_900_311 : aNd := ((nat_lit 39), [lcn_898, lcn_286, lcn_1740], [], [sl_1427, sl_867, sl_906, sl_944, sl_945, sl_1050, sl_1443, sl_946, sl_1446, sl_947, sl_948, sl_949, sl_950, sl_951, sl_952, sl_953, sl_954], [], (54, []))
def nE_900_312 : aNd := ((nat_lit 39), [lcn_898, lcn_286, lcn_1741], [], [sl_1427, sl_867, sl_906, sl_944, sl_945, sl_1050, sl_1443, sl_946, sl_1446, sl_947, sl_948, sl_949, sl_950, sl_951, sl_952, sl_953, sl_954], [], (53, []))
def nE_900_313 : aNd := ((nat_lit 39), [lcn_898, lcn_286, lcn_1742], [], [sl_1427, sl_867, sl_906, sl_944, sl_945, sl_1050, sl_1443, sl_946, sl_1446, sl_947, sl_948, sl_949, sl_950, sl_951, sl_952, sl_953, sl_954], [], (52, []))
def nE_900_314 : aNd := ((nat_lit 39), [lcn_898, lcn_286, lcn_1743], [], [sl_1427, sl_867, sl_906, sl_944, sl_945, sl_1050, sl_1443, sl_946, sl_1446, sl_947, sl_948, sl_949, sl_950, sl_951, sl_952, sl_953, sl_954], [], (51, []))
def nE_900_315 : aNd := ((nat_lit 39), [lcn_898, lcn_286, lcn_1744], [], [sl_1427, sl_867, sl_906, sl_944, sl_945, sl_1050, sl_1443, sl_946, sl_1446, sl_947, sl_948, sl_949, sl_950, sl_951, sl_952, sl_953, sl_954], [], (50, []))
def nE_900_316 : aNd := ((nat_lit 39), [lcn_898, lcn_286, lcn_1745], [], [sl_1427, sl_867, sl_906, sl_944, sl_945, sl_1050, sl_1443, sl_946, sl_1446, sl_947, sl_948, sl_949, sl_950, sl_951, sl_952, sl_953, sl_954], [], (49, []))
def nE_900_317 : aNd := ((nat_lit 39), [lcn_898, lcn_286, lcn_1746], [], [sl_1427, sl_867, sl_906, sl_944, sl_945, sl_1050, sl_1443, sl_946, sl_1446, sl_947, sl_948, sl_949, sl_950, sl_951, sl_952, sl_953, sl_954], [], (48, []))
def nE_900_318 : aNd := ((nat_lit 39), [lcn_898, lcn_286, lcn_1747], [], [sl_1427, sl_867, sl_906, sl_944, sl_945, sl_1050, sl_1443, sl_946, sl_1446, sl_947, sl_948, sl_949, sl_950, sl_951, sl_952, sl_953, sl_954], [], (47, []))
def nE_900_319 : aNd := ((nat_lit 39), [lcn_898, lcn_286, lcn_1748], [], [sl_1427, sl_867, sl_906, sl_944, sl_945, sl_1050, sl_1443, sl_946, sl_1446, sl_947, sl_948, sl_949, sl_950, sl_951, sl_952, sl_953, sl_954], [], (46, []))
def nE_900_320 : aNd := ((nat_lit 39), [lcn_898, lcn_286, lcn_1749], [], [sl_1427, sl_867, sl_906, sl_944, sl_945, sl_1050, sl_1443, sl_946, sl_1446, sl_947, sl_948, sl_949, sl_950, sl_951, sl_952, sl_953, sl_954], [], (45, []))
def nE_900_321 : aNd := ((nat_lit 39), [lcn_898, lcn_286, lcn_1750], [], [sl_1427, sl_867, sl_906, sl_944, sl_945, sl_1050, sl_1443, sl_946, sl_1446, sl_947, sl_948, sl_949, sl_950, sl_951, sl_952, sl_953, sl_954], [], (44, []))
def nE_900_322 : aNd := ((nat_lit 39), [lcn_898, lcn_286, lcn_1751], [], [sl_1427, sl_867, sl_906, sl_944, sl_945, sl_1050, sl_1443, sl_946, sl_1446, sl_947, sl_948, sl_949, sl_950, sl_951, sl_952, sl_953, sl_954], [], (43, []))
def nE_900_323 : aNd := ((nat_lit 39), [lcn_898, lcn_286, lcn_1752], [], [sl_1427, sl_867, sl_906, sl_944, sl_945, sl_1050, sl_1443, sl_946, sl_1446, sl_947, sl_948, sl_949, sl_950, sl_951, sl_952, sl_953, sl_954], [], (42, []))
def nE_900_324 : aNd := ((nat_lit 39), [lcn_898, lcn_286, lcn_1753], [], [sl_1427, sl_867, sl_906, sl_944, sl_945, sl_1050, sl_1443, sl_946, sl_1446, sl_947, sl_948, sl_949, sl_950, sl_951, sl_952, sl_953, sl_954], [], (41, []))
def nE_900_325 : aNd := ((nat_lit 39), [lcn_898, lcn_286, lcn_1754], [], [sl_1427, sl_867, sl_906, sl_944, sl_945, sl_1050, sl_1443, sl_946, sl_1446, sl_947, sl_948, sl_949, sl_950, sl_951, sl_952, sl_953, sl_954], [], (40, []))
def nE_900_326 : aNd := ((nat_lit 39), [lcn_898, lcn_286, lcn_1755], [], [sl_1427, sl_867, sl_906, sl_944, sl_945, sl_1050, sl_1443, sl_946, sl_1446, sl_947, sl_948, sl_949, sl_950, sl_951, sl_952, sl_953, sl_954], [], (39, []))
def nE_900_327 : aNd := ((nat_lit 39), [lcn_898, lcn_286, lcn_1756], [], [sl_1427, sl_867, sl_906, sl_944, sl_945, sl_1050, sl_1443, sl_946, sl_1446, sl_947, sl_948, sl_949, sl_950, sl_951, sl_952, sl_953, sl_954], [], (38, []))
def nE_900_328 : aNd := ((nat_lit 39), [lcn_898, lcn_286, lcn_1757], [], [sl_1427, sl_867, sl_906, sl_944, sl_945, sl_1050, sl_1443, sl_946, sl_1446, sl_947, sl_948, sl_949, sl_950, sl_951, sl_952, sl_953, sl_954], [], (37, []))
def nE_900_329 : aNd := ((nat_lit 39), [lcn_898, lcn_286, lcn_1758], [], [sl_1427, sl_867, sl_906, sl_944, sl_945, sl_1050, sl_1443, sl_946, sl_1446, sl_947, sl_948, sl_949, sl_950, sl_951, sl_952, sl_953, sl_954], [], (36, []))
def nE_900_330 : aNd := ((nat_lit 39), [lcn_898, lcn_286, lcn_1759], [], [sl_1427, sl_867, sl_906, sl_944, sl_945, sl_1050, sl_1443, sl_946, sl_1446, sl_947, sl_948, sl_949, sl_950, sl_951, sl_952, sl_953, sl_954], [], (35, []))
def nE_900_331 : aNd := ((nat_lit 39), [lcn_898, lcn_286, lcn_1760], [], [sl_1427, sl_867, sl_906, sl_944, sl_945, sl_1050, sl_1443, sl_946, sl_1446, sl_947, sl_948, sl_949, sl_950, sl_951, sl_952, sl_953, sl_954], [], (34, []))
def nE_900_332 : aNd := ((nat_lit 39), [lcn_898, lcn_286, lcn_1761], [], [sl_1427, sl_867, sl_906, sl_944, sl_945, sl_1050, sl_1443, sl_946, sl_1446, sl_947, sl_948, sl_949, sl_950, sl_951, sl_952, sl_953, sl_954], [], (33, []))
def nE_900_333 : aNd := ((nat_lit 39), [lcn_898, lcn_286, lcn_1762], [], [sl_1427, sl_867, sl_906, sl_944, sl_945, sl_1050, sl_1443, sl_946, sl_1446, sl_947, sl_948, sl_949, sl_950, sl_951, sl_952, sl_953, sl_954], [], (32, []))
def nE_900_334 : aNd := ((nat_lit 39), [lcn_898, lcn_286, lcn_1763], [], [sl_1427, sl_867, sl_906, sl_944, sl_945, sl_1050, sl_1443, sl_946, sl_1446, sl_947, sl_948, sl_949, sl_950, sl_951, sl_952, sl_953, sl_954], [], (31, []))
def nE_900_335 : aNd := ((nat_lit 39), [lcn_898, lcn_286, lcn_1764], [], [sl_1427, sl_867, sl_906, sl_944, sl_945, sl_1050, sl_1443, sl_946, sl_1446, sl_947, sl_948, sl_949, sl_950, sl_951, sl_952, sl_953, sl_954], [], (30, []))
def nE_900_336 : aNd := ((nat_lit 39), [lcn_898, lcn_286, lcn_1765], [], [sl_1427, sl_867, sl_906, sl_944, sl_945, sl_1050, sl_1443, sl_946, sl_1446, sl_947, sl_948, sl_949, sl_950, sl_951, sl_952, sl_953, sl_954], [], (29, []))
def nE_900_337 : aNd := ((nat_lit 39), [lcn_898, lcn_286, lcn_1766], [], [sl_1427, sl_867, sl_906, sl_944, sl_945, sl_1050, sl_1443, sl_946, sl_1446, sl_947, sl_948, sl_949, sl_950, sl_951, sl_952, sl_953, sl_954], [], (28, []))
def nE_900_338 : aNd := ((nat_lit 39), [lcn_898, lcn_286, lcn_1767], [], [sl_1427, sl_867, sl_906, sl_944, sl_945, sl_1050, sl_1443, sl_946, sl_1446, sl_947, sl_948, sl_949, sl_950, sl_951, sl_952, sl_953, sl_954], [], (27, []))
def nE_900_339 : aNd := ((nat_lit 39), [lcn_898, lcn_286, lcn_1768], [], [sl_1427, sl_867, sl_906, sl_944, sl_945, sl_1050, sl_1443, sl_946, sl_1446, sl_947, sl_948, sl_949, sl_950, sl_951, sl_952, sl_953, sl_954], [], (26, []))
def nE_900_340 : aNd := ((nat_lit 39), [lcn_898, lcn_286, lcn_1769], [], [sl_1427, sl_867, sl_906, sl_944, sl_945, sl_1050, sl_1443, sl_946, sl_1446, sl_947, sl_948, sl_949, sl_950, sl_951, sl_952, sl_953, sl_954], [], (25, []))
def nE_900_341 : aNd := ((nat_lit 39), [lcn_898, lcn_286, lcn_1770], [], [sl_1427, sl_867, sl_906, sl_944, sl_945, sl_1050, sl_1443, sl_946, sl_1446, sl_947, sl_948, sl_949, sl_950, sl_951, sl_952, sl_953, sl_954], [], (24, []))
def nE_900_342 : aNd := ((nat_lit 39), [lcn_898, lcn_286, lcn_1771], [], [sl_1427, sl_867, sl_906, sl_944, sl_945, sl_1050, sl_1443, sl_946, sl_1446, sl_947, sl_948, sl_949, sl_950, sl_951, sl_952, sl_953, sl_954], [], (23, []))
def nE_900_343 : aNd := ((nat_lit 39), [lcn_898, lcn_286, lcn_1772], [], [sl_1427, sl_867, sl_906, sl_944, sl_945, sl_1050, sl_1443, sl_946, sl_1446, sl_947, sl_948, sl_949, sl_950, sl_951, sl_952, sl_953, sl_954], [], (22, []))
def nE_900_344 : aNd := ((nat_lit 39), [lcn_898, lcn_286, lcn_1773], [], [sl_1427, sl_867, sl_906, sl_944, sl_945, sl_1050, sl_1443, sl_946, sl_1446, sl_947, sl_948, sl_949, sl_950, sl_951, sl_952, sl_953, sl_954], [], (21, []))
def nE_900_345 : aNd := ((nat_lit 39), [lcn_898, lcn_286, lcn_1774], [], [sl_1427, sl_867, sl_906, sl_944, sl_945, sl_1050, sl_1443, sl_946, sl_1446, sl_947, sl_948, sl_949, sl_950, sl_951, sl_952, sl_953, sl_954], [], (20, []))
def nE_900_346 : aNd := ((nat_lit 39), [lcn_898, lcn_286, lcn_1775], [], [sl_1427, sl_867, sl_906, sl_944, sl_945, sl_1050, sl_1443, sl_946, sl_1446, sl_947, sl_948, sl_949, sl_950, sl_951, sl_952, sl_953, sl_954], [], (19, []))
def nE_900_347 : aNd := ((nat_lit 39), [lcn_898, lcn_286, lcn_1776], [], [sl_1427, sl_867, sl_906, sl_944, sl_945, sl_1050, sl_1443, sl_946, sl_1446, sl_947, sl_948, sl_949, sl_950, sl_951, sl_952, sl_953, sl_954], [], (18, []))
def nE_900_348 : aNd := ((nat_lit 39), [lcn_898, lcn_286, lcn_1777], [], [sl_1427, sl_867, sl_906, sl_944, sl_945, sl_1050, sl_1443, sl_946, sl_1446, sl_947, sl_948, sl_949, sl_950, sl_951, sl_952, sl_953, sl_954], [], (17, []))
def nE_900_349 : aNd := ((nat_lit 39), [lcn_898, lcn_286, lcn_1778], [], [sl_1427, sl_867, sl_906, sl_944, sl_945, sl_1050, sl_1443, sl_946, sl_1446, sl_947, sl_948, sl_949, sl_950, sl_951, sl_952, sl_953, sl_954], [], (16, []))
def nE_900_350 : aNd := ((nat_lit 39), [lcn_898, lcn_286, lcn_1779], [], [sl_1427, sl_867, sl_906, sl_944, sl_945, sl_1050, sl_1443, sl_946, sl_1446, sl_947, sl_948, sl_949, sl_950, sl_951, sl_952, sl_953, sl_954], [], (15, []))
def nE_900_351 : aNd := ((nat_lit 39), [lcn_898, lcn_286, lcn_1780], [], [sl_1427, sl_867, sl_906, sl_944, sl_945, sl_1050, sl_1443, sl_946, sl_1446, sl_947, sl_948, sl_949, sl_950, sl_951, sl_952, sl_953, sl_954], [], (14, []))
def nE_900_352 : aNd := ((nat_lit 39), [lcn_898, lcn_286, lcn_1781], [], [sl_1427, sl_867, sl_906, sl_944, sl_945, sl_1050, sl_1443, sl_946, sl_1446, sl_947, sl_948, sl_949, sl_950, sl_951, sl_952, sl_953, sl_954], [], (13, []))
def nE_900_353 : aNd := ((nat_lit 39), [lcn_898, lcn_286, lcn_1782], [], [sl_1427, sl_867, sl_906, sl_944, sl_945, sl_1050, sl_1443, sl_946, sl_1446, sl_947, sl_948, sl_949, sl_950, sl_951, sl_952, sl_953, sl_954], [], (12, []))
def nE_900_354 : aNd := ((nat_lit 39), [lcn_898, lcn_286, lcn_1783], [], [sl_1427, sl_867, sl_906, sl_944, sl_945, sl_1050, sl_1443, sl_946, sl_1446, sl_947, sl_948, sl_949, sl_950, sl_951, sl_952, sl_953, sl_954], [], (11, []))
def nE_900_355 : aNd := ((nat_lit 39), [lcn_898, lcn_286, lcn_1784], [], [sl_1427, sl_867, sl_906, sl_944, sl_945, sl_1050, sl_1443, sl_946, sl_1446, sl_947, sl_948, sl_949, sl_950, sl_951, sl_952, sl_953, sl_954], [], (10, []))
def nE_900_356 : aNd := ((nat_lit 39), [lcn_898, lcn_286, lcn_1785], [], [sl_1427, sl_867, sl_906, sl_944, sl_945, sl_1050, sl_1443, sl_946, sl_1446, sl_947, sl_948, sl_949, sl_950, sl_951, sl_952, sl_953, sl_954], [], (9, []))
def nE_900_357 : aNd := ((nat_lit 39), [lcn_898, lcn_286, lcn_1786], [], [sl_1427, sl_867, sl_906, sl_944, sl_945, sl_1050, sl_1443, sl_946, sl_1446, sl_947, sl_948, sl_949, sl_950, sl_951, sl_952, sl_953, sl_954], [], (8, []))
def nE_900_358 : aNd := ((nat_lit 39), [lcn_898, lcn_286, lcn_1787], [], [sl_1427, sl_867, sl_906, sl_944, sl_945, sl_1050, sl_1443, sl_946, sl_1446, sl_947, sl_948, sl_949, sl_950, sl_951, sl_952, sl_953, sl_954], [], (7, []))
def nE_900_359 : aNd := ((nat_lit 39), [lcn_898, lcn_286, lcn_1788], [], [sl_1427, sl_867, sl_906, sl_944, sl_945, sl_1050, sl_1443, sl_946, sl_1446, sl_947, sl_948, sl_949, sl_950, sl_951, sl_952, sl_953, sl_954], [], (6, []))
def nE_900_360 : aNd := ((nat_lit 39), [lcn_898, lcn_286, lcn_1789], [], [sl_1427, sl_867, sl_906, sl_944, sl_945, sl_1050, sl_1443, sl_946, sl_1446, sl_947, sl_948, sl_949, sl_950, sl_951, sl_952, sl_953, sl_954], [], (5, []))
def nE_900_361 : aNd := ((nat_lit 39), [lcn_898, lcn_286, lcn_1790], [], [sl_1427, sl_867, sl_906, sl_944, sl_945, sl_1050, sl_1443, sl_946, sl_1446, sl_947, sl_948, sl_949, sl_950, sl_951, sl_952, sl_953, sl_954], [], (4, []))
def nE_900_362 : aNd := ((nat_lit 39), [lcn_898, lcn_286, lcn_1791], [], [sl_1427, sl_867, sl_906, sl_944, sl_945, sl_1050, sl_1443, sl_946, sl_1446, sl_947, sl_948, sl_949, sl_950, sl_951, sl_952, sl_953, sl_954], [], (3, []))
def nE_900_363 : aNd := ((nat_lit 39), [lcn_898, lcn_286, lcn_1792], [], [sl_1427, sl_867, sl_906, sl_944, sl_945, sl_1050, sl_1443, sl_946, sl_1446, sl_947, sl_948, sl_949, sl_950, sl_951, sl_952, sl_953, sl_954], [], (2, []))
def nE_900_364 : aNd := ((nat_lit 39), [lcn_898, lcn_286, lcn_1440], [], [sl_1427, sl_867, sl_906, sl_944, sl_945, sl_1050, sl_1443, sl_946, sl_1446, sl_947, sl_948, sl_949, sl_950, sl_951, sl_952, sl_953, sl_954], [], (1, []))
def nE_900 : List aNd := [nE_900_0, nE_900_1, nE_900_2, nE_900_3, nE_900_4, nE_900_5, nE_900_6, nE_900_7, nE_900_8, nE_900_9, nE_900_10, nE_900_11, nE_900_12, nE_900_13, nE_900_14, nE_900_15, nE_900_16, nE_900_17, nE_900_18, nE_900_19, nE_900_20, nE_900_21, nE_900_22, nE_900_23, nE_900_24, nE_900_25, nE_900_26, nE_900_27, nE_900_28, nE_900_29, nE_900_30, nE_900_31, nE_900_32, nE_900_33, nE_900_34, nE_900_35, nE_900_36, nE_900_37, nE_900_38, nE_900_39, nE_900_40, nE_900_41, nE_900_42, nE_900_43, nE_900_44, nE_900_45, nE_900_46, nE_900_47, nE_900_48, nE_900_49, nE_900_50, nE_900_51, nE_900_52, nE_900_53, nE_900_54, nE_900_55, nE_900_56, nE_900_57, nE_900_58, nE_900_59, nE_900_60, nE_900_61, nE_900_62, nE_900_63, nE_900_64, nE_900_65, nE_900_66, nE_900_67, nE_900_68, nE_900_69, nE_900_70, nE_900_71, nE_900_72, nE_900_73, nE_900_74, nE_900_75, nE_900_76, nE_900_77, nE_900_78, nE_900_79, nE_900_80, nE_900_81, nE_900_82, nE_900_83, nE_900_84, nE_900_85, nE_900_86, nE_900_87, nE_900_88, nE_900_89, nE_900_90, nE_900_91, nE_900_92, nE_900_93, nE_900_94, nE_900_95, nE_900_96, nE_900_97, nE_900_98, nE_900_99, nE_900_100, nE_900_101, nE_900_102, nE_900_103, nE_900_104, nE_900_105, nE_900_106, nE_900_107, nE_900_108, nE_900_109, nE_900_110, nE_900_111, nE_900_112, nE_900_113, nE_900_114, nE_900_115, nE_900_116, nE_900_117, nE_900_118, nE_900_119, nE_900_120, nE_900_121, nE_900_122, nE_900_123, nE_900_124, nE_900_125, nE_900_126, nE_900_127, nE_900_128, nE_900_129, nE_900_130, nE_900_131, nE_900_132, nE_900_133, nE_900_134, nE_900_135, nE_900_136, nE_900_137, nE_900_138, nE_900_139, nE_900_140, nE_900_141, nE_900_142, nE_900_143, nE_900_144, nE_900_145, nE_900_146, nE_900_147, nE_900_148, nE_900_149, nE_900_150, nE_900_151, nE_900_152, nE_900_153, nE_900_154, nE_900_155, nE_900_156, nE_900_157, nE_900_158, nE_900_159, nE_900_160, nE_900_161, nE_900_162, nE_900_163, nE_900_164, nE_900_165, nE_900_166, nE_900_167, nE_900_168, nE_900_169, nE_900_170, nE_900_171, nE_900_172, nE_900_173, nE_900_174, nE_900_175, nE_900_176, nE_900_177, nE_900_178, nE_900_179, nE_900_180, nE_900_181, nE_900_182, nE_900_183, nE_900_184, nE_900_185, nE_900_186, nE_900_187, nE_900_188, nE_900_189, nE_900_190, nE_900_191, nE_900_192, nE_900_193, nE_900_194, nE_900_195, nE_900_196, nE_900_197, nE_900_198, nE_900_199, nE_900_200, nE_900_201, nE_900_202, nE_900_203, nE_900_204, nE_900_205, nE_900_206, nE_900_207, nE_900_208, nE_900_209, nE_900_210, nE_900_211, nE_900_212, nE_900_213, nE_900_214, nE_900_215, nE_900_216, nE_900_217, nE_900_218, nE_900_219, nE_900_220, nE_900_221, nE_900_222, nE_900_223, nE_900_224, nE_900_225, nE_900_226, nE_900_227, nE_900_228, nE_900_229, nE_900_230, nE_900_231, nE_900_232, nE_900_233, nE_900_234, nE_900_235, nE_900_236, nE_900_237, nE_900_238, nE_900_239, nE_900_240, nE_900_241, nE_900_242, nE_900_243, nE_900_244, nE_900_245, nE_900_246, nE_900_247, nE_900_248, nE_900_249, nE_900_250, nE_900_251, nE_900_252, nE_900_253, nE_900_254, nE_900_255, nE_900_256, nE_900_257, nE_900_258, nE_900_259, nE_900_260, nE_900_261, nE_900_262, nE_900_263, nE_900_264, nE_900_265, nE_900_266, nE_900_267, nE_900_268, nE_900_269, nE_900_270, nE_900_271, nE_900_272, nE_900_273, nE_900_274, nE_900_275, nE_900_276, nE_900_277, nE_900_278, nE_900_279, nE_900_280, nE_900_281, nE_900_282, nE_900_283, nE_900_284, nE_900_285, nE_900_286, nE_900_287, nE_900_288, nE_900_289, nE_900_290, nE_900_291, nE_900_292, nE_900_293, nE_900_294, nE_900_295, nE_900_296, nE_900_297, nE_900_298, nE_900_299, nE_900_300, nE_900_301, nE_900_302, nE_900_303, nE_900_304, nE_900_305, nE_900_306, nE_900_307, nE_900_308, nE_900_309, nE_900_310, nE_900_311, nE_900_312, nE_900_313, nE_900_314, nE_900_315, nE_900_316, nE_900_317, nE_900_318, nE_900_319, nE_900_320, nE_900_321, nE_900_322, nE_900_323, nE_900_324, nE_900_325, nE_900_326, nE_900_327, nE_900_328, nE_900_329, nE_900_330, nE_900_331, nE_900_332, nE_900_333, nE_900_334, nE_900_335, nE_900_336, nE_900_337, nE_900_338, nE_900_339, nE_900_340, nE_900_341, nE_900_342, nE_900_343, nE_900_344, nE_900_345, nE_900_346, nE_900_347, nE_900_348, nE_900_349, nE_900_350, nE_900_351, nE_900_352, nE_900_353, nE_900_354, nE_900_355, nE_900_356, nE_900_357, nE_900_358, nE_900_359, nE_900_360, nE_900_361, nE_900_362, nE_900_363, nE_900_364]
set_option maxRecDepth 100000 in
theorem kT_900_0 : bSgk wd wx ct2_900 lk_900 tX12_post [] 57896044618710753882728178039239635995819985241810395231838488337439858360320 9000 (nT_900 ++ []) (nT_900_0) = true := by decide +kernel
set_option maxRecDepth 100000 in
theorem kT_900_1 : bSgk wd wx ct2_900 lk_900 tX12_post [] 57896044618710753882728178039239635995819985241810395231838488337439858360320 9000 (nT_900 ++ []) (nT_900_1) = true := by decide +kernel
set_option maxRecDepth 100000 in
theorem kT_900_2 : bSgk wd wx ct2_900 lk_900 tX12_post [] 57896044618710753882728178039239635995819985241810395231838488337439858360320 9000 (nT_900 ++ []) (nT_900_2) = true := by decide +kernel
set_option maxRecDepth 100000 in
theorem kA_900_0 : bSgk wd wx ct2_900 lk_900 tX12_post [] 57896044618710753882728178039239635995819985241810395231838488337439858360320 9000 (nT_900.map nd0) (nd1 nA_900_0) = true := by decide +kernel
set_option maxRecDepth 100000 in
theorem kA_900_1 : bSgk wd wx ct2_900 lk_900 tX12_post [] 57896044618710753882728178039239635995819985241810395231838488337439858360320 9000 (nT_900.map nd0) (nd1 nA_900_1) = true := by decide +kernel
set_option maxRecDepth 100000 in
theorem kA_900_2 : bSgk wd wx ct2_900 lk_900 tX12_post [] 57896044618710753882728178039239635995819985241810395231838488337439858360320 9000 (nT_900.map nd0) (nd1 nA_900_2) = true := by decide +kernel
set_option maxRecDepth 100000 in
theorem kA_900_3 : bSgk wd wx ct2_900 lk_900 tX12_post [] 57896044618710753882728178039239635995819985241810395231838488337439858360320 9000 (nT_900.map nd0) (nd1 nA_900_3) = true := by decide +kernel
set_option maxRecDepth 100000 in
theorem kA_900_4 : bSgk wd wx ct2_900 lk_900 tX12_post [] 57896044618710753882728178039239635995819985241810395231838488337439858360320 9000 (nT_900.map nd0) (nd1 nA_900_4) = true := by decide +kernel
set_option maxRecDepth 100000 in
theorem kA_900_5 : bSgk wd wx ct2_900 lk_900 tX12_post [] 57896044618710753882728178039239635995819985241810395231838488337439858360320 9000 (nT_900.map nd0) (nd1 nA_900_5) = true := by decide +kernel
set_option maxRecDepth 100000 in
theorem kA_900_6 : bSgk wd wx ct2_900 lk_900 tX12_post [] 57896044618710753882728178039239635995819985241810395231838488337439858360320 9000 (nT_900.map nd0) (nd1 nA_900_6) = true := by decide +kernel
set_option maxRecDepth 100000 in
theorem kA_900_7 : bSgk wd wx ct2_900 lk_900 tX12_post [] 57896044618710753882728178039239635995819985241810395231838488337439858360320 9000 (nT_900.map nd0) (nd1 nA_900_7) = true := by decide +kernel
set_option maxRecDepth 100000 in
theorem kB_900_0 : (aTok [(1, 3, 1)] nB_900_0 && bSgk wd wx ct2_900 lk_900 tX12_post [] 57896044618710753882728178039239635995819985241820298752152771379639051354112 9000 ((nT_900 ++ nC_900).map nd0) (nd1 nB_900_0)) = true := by decide +kernel
set_option maxRecDepth 100000 in
theorem kB_900_1 : (aTok [(1, 3, 1)] nB_900_1 && bSgk wd wx ct2_900 lk_900 tX12_post [] 57896044618710753882728178039239635995819985241820298752152771379639051354112 9000 ((nT_900 ++ nC_900).map nd0) (nd1 nB_900_1)) = true := by decide +kernel
set_option maxRecDepth 100000 in
theorem kB_900_2 : (aTok [(1, 3, 1)] nB_900_2 && bSgk wd wx ct2_900 lk_900 tX12_post [] 57896044618710753882728178039239635995819985241820298752152771379639051354112 9000 ((nT_900 ++ nC_900).map nd0) (nd1 nB_900_2)) = true := by decide +kernel
set_option maxRecDepth 100000 in
theorem kB_900_3 : (aTok [(1, 3, 1)] nB_900_3 && bSgk wd wx ct2_900 lk_900 tX12_post [] 57896044618710753882728178039239635995819985241820298752152771379639051354112 9000 ((nT_900 ++ nC_900).map nd0) (nd1 nB_900_3)) = true := by decide +kernel
set_option maxRecDepth 100000 in
theorem kB_900_4 : (aTok [(1, 3, 1)] nB_900_4 && bSgk wd wx ct2_900 lk_900 tX12_post [] 57896044618710753882728178039239635995819985241820298752152771379639051354112 9000 ((nT_900 ++ nC_900).map nd0) (nd1 nB_900_4)) = true := by decide +kernel
set_option maxRecDepth 100000 in
theorem kB_900_5 : (aTok [(1, 3, 1)] nB_900_5 && bSgk wd wx ct2_900 lk_900 tX12_post [] 57896044618710753882728178039239635995819985241820298752152771379639051354112 9000 ((nT_900 ++ nC_900).map nd0) (nd1 nB_900_5)) = true := by decide +kernel
set_option maxRecDepth 100000 in
theorem kB_900_6 : (aTok [(1, 3, 1)] nB_900_6 && bSgk wd wx ct2_900 lk_900 tX12_post [] 57896044618710753882728178039239635995819985241820298752152771379639051354112 9000 ((nT_900 ++ nC_900).map nd0) (nd1 nB_900_6)) = true := by decide +kernel
set_option maxRecDepth 100000 in
theorem kB_900_7 : (aTok [(1, 3, 1)] nB_900_7 && bSgk wd wx ct2_900 lk_900 tX12_post [] 57896044618710753882728178039239635995819985241820298752152771379639051354112 9000 ((nT_900 ++ nC_900).map nd0) (nd1 nB_900_7)) = true := by decide +kernel
set_option maxRecDepth 100000 in
theorem kB_900_8 : (aTok [(1, 3, 1)] nB_900_8 && bSgk wd wx ct2_900 lk_900 tX12_post [] 57896044618710753882728178039239635995819985241820298752152771379639051354112 9000 ((nT_900 ++ nC_900).map nd0) (nd1 nB_900_8)) = true := by decide +kernel
set_option maxRecDepth 100000 in
theorem kB_900_9 : (aTok [(1, 3, 1)] nB_900_9 && bSgk wd wx ct2_900 lk_900 tX12_post [] 57896044618710753882728178039239635995819985241820298752152771379639051354112 9000 ((nT_900 ++ nC_900).map nd0) (nd1 nB_900_9)) = true := by decide +kernel
set_option maxRecDepth 100000 in
theorem kB_900_10 : (aTok [(1, 3, 1)] nB_900_10 && bSgk wd wx ct2_900 lk_900 tX12_post [] 57896044618710753882728178039239635995819985241820298752152771379639051354112 9000 ((nT_900 ++ nC_900).map nd0) (nd1 nB_900_10)) = true := by decide +kernel
set_option maxRecDepth 100000 in
theorem kB_900_11 : (aTok [(1, 3, 1)] nB_900_11 && bSgk wd wx ct2_900 lk_900 tX12_post [] 57896044618710753882728178039239635995819985241820298752152771379639051354112 9000 ((nT_900 ++ nC_900).map nd0) (nd1 nB_900_11)) = true := by decide +kernel
set_option maxRecDepth 100000 in
theorem kB_900_12 : (aTok [(1, 3, 1)] nB_900_12 && bSgk wd wx ct2_900 lk_900 tX12_post [] 57896044618710753882728178039239635995819985241820298752152771379639051354112 9000 ((nT_900 ++ nC_900).map nd0) (nd1 nB_900_12)) = true := by decide +kernel
set_option maxRecDepth 100000 in
theorem kB_900_13 : (aTok [(1, 3, 1)] nB_900_13 && bSgk wd wx ct2_900 lk_900 tX12_post [] 57896044618710753882728178039239635995819985241820298752152771379639051354112 9000 ((nT_900 ++ nC_900).map nd0) (nd1 nB_900_13)) = true := by decide +kernel
set_option maxRecDepth 100000 in
theorem kB_900_14 : (aTok [(1, 3, 1)] nB_900_14 && bSgk wd wx ct2_900 lk_900 tX12_post [] 57896044618710753882728178039239635995819985241820298752152771379639051354112 9000 ((nT_900 ++ nC_900).map nd0) (nd1 nB_900_14)) = true := by decide +kernel
set_option maxRecDepth 100000 in
theorem kB_900_15 : (aTok [(1, 3, 1)] nB_900_15 && bSgk wd wx ct2_900 lk_900 tX12_post [] 57896044618710753882728178039239635995819985241820298752152771379639051354112 9000 ((nT_900 ++ nC_900).map nd0) (nd1 nB_900_15)) = true := by decide +kernel
set_option maxRecDepth 100000 in
theorem kC_900_0 : (aTok [(59, 59, 1)] nC_900_0 && bSgk wd wx ct2_900 lk_900 tX12_post [] 158456325028528675187087900672 9000 ((nA_900 ++ nB_900).map nd0) (nd1 nC_900_0)) = true := by decide +kernel
set_option maxRecDepth 100000 in
theorem kC_900_1 : (aTok [(59, 59, 1)] nC_900_1 && bSgk wd wx ct2_900 lk_900 tX12_post [] 158456325028528675187087900672 9000 ((nA_900 ++ nB_900).map nd0) (nd1 nC_900_1)) = true := by decide +kernel
set_option maxRecDepth 100000 in
theorem kC_900_2 : (aTok [(59, 59, 1)] nC_900_2 && bSgk wd wx ct2_900 lk_900 tX12_post [] 158456325028528675187087900672 9000 ((nA_900 ++ nB_900).map nd0) (nd1 nC_900_2)) = true := by decide +kernel
set_option maxRecDepth 100000 in
theorem kC_900_3 : (aTok [(59, 59, 1)] nC_900_3 && bSgk wd wx ct2_900 lk_900 tX12_post [] 158456325028528675187087900672 9000 ((nA_900 ++ nB_900).map nd0) (nd1 nC_900_3)) = true := by decide +kernel
set_option maxRecDepth 100000 in
theorem kC_900_4 : (aTok [(59, 59, 1)] nC_900_4 && bSgk wd wx ct2_900 lk_900 tX12_post [] 158456325028528675187087900672 9000 ((nA_900 ++ nB_900).map nd0) (nd1 nC_900_4)) = true := by decide +kernel
set_option maxRecDepth 100000 in
theorem kC_900_5 : (aTok [(59, 59, 1)] nC_900_5 && bSgk wd wx ct2_900 lk_900 tX12_post [] 158456325028528675187087900672 9000 ((nA_900 ++ nB_900).map nd0) (nd1 nC_900_5)) = true := by decide +kernel
set_option maxRecDepth 100000 in
theorem kC_900_6 : (aTok [(59, 59, 1)] nC_900_6 && bSgk wd wx ct2_900 lk_900 tX12_post [] 158456325028528675187087900672 9000 ((nA_900 ++ nB_900).map nd0) (nd1 nC_900_6)) = true := by decide +kernel
set_option maxRecDepth 100000 in
theorem kC_900_7 : (aTok [(59, 59, 1)] nC_900_7 && bSgk wd wx ct2_900 lk_900 tX12_post [] 158456325028528675187087900672 9000 ((nA_900 ++ nB_900).map nd0) (nd1 nC_900_7)) = true := by decide +kernel
set_option maxRecDepth 100000 in
theorem kE_900_0 : bSgk wd wx ctE_900 lk_900 tX12_post [] 57896044618710753882728178039239635995819985241820298752152771380188807168000 9000 (([nE_900_1] ++ (nT_900 ++ nC_900)).map nd0) (nd1 nE_900_0) = true := by decide +kernel
set_option maxRecDepth 100000 in
theorem kE_900_1 : bSgk wd wx ctE_900 lk_900 tX12_post [] 57896044618710753882728178039239635995819985241820298752152771380188807168000 9000 (([nE_900_2] ++ (nT_900 ++ nC_900)).map nd0) (nd1 nE_900_1) = true := by decide +kernel
set_option maxRecDepth 100000 in
theorem kE_900_2 : bSgk wd wx ctE_900 lk_900 tX12_post [] 57896044618710753882728178039239635995819985241820298752152771380188807168000 9000 (([nE_900_3] ++ (nT_900 ++ nC_900)).map nd0) (nd1 nE_900_2) = true := by decide +kernel
set_option maxRecDepth 100000 in
theorem kE_900_3 : bSgk wd wx ctE_900 lk_900 tX12_post [] 57896044618710753882728178039239635995819985241820298752152771380188807168000 9000 (([nE_900_4] ++ (nT_900 ++ nC_900)).map nd0) (nd1 nE_900_3) = true := by decide +kernel
set_option maxRecDepth 100000 in
theorem kE_900_4 : bSgk wd wx ctE_900 lk_900 tX12_post [] 57896044618710753882728178039239635995819985241820298752152771380188807168000 9000 (([nE_900_5] ++ (nT_900 ++ nC_900)).map nd0) (nd1 nE_900_4) = true := by decide +kernel
set_option maxRecDepth 100000 in
theorem kE_900_5 : bSgk wd wx ctE_900 lk_900 tX12_post [] 57896044618710753882728178039239635995819985241820298752152771380188807168000 9000 (([nE_900_6] ++ (nT_900 ++ nC_900)).map nd0) (nd1 nE_900_5) = true := by decide +kernel
set_option maxRecDepth 100000 in
theorem kE_900_6 : bSgk wd wx ctE_900 lk_900 tX12_post [] 57896044618710753882728178039239635995819985241820298752152771380188807168000 9000 (([nE_900_7] ++ (nT_900 ++ nC_900)).map nd0) (nd1 nE_900_6) = true := by decide +kernel
set_option maxRecDepth 100000 in
theorem kE_900_7 : bSgk wd wx ctE_900 lk_900 tX12_post [] 57896044618710753882728178039239635995819985241820298752152771380188807168000 9000 (([nE_900_8] ++ (nT_900 ++ nC_900)).map nd0) (nd1 nE_900_7) = true := by decide +kernel
set_option maxRecDepth 100000 in
theorem kE_900_8 : bSgk wd wx ctE_900 lk_900 tX12_post [] 57896044618710753882728178039239635995819985241820298752152771380188807168000 9000 (([nE_900_9] ++ (nT_900 ++ nC_900)).map nd0) (nd1 nE_900_8) = true := by decide +kernel
set_option maxRecDepth 100000 in
theorem kE_900_9 : bSgk wd wx ctE_900 lk_900 tX12_post [] 57896044618710753882728178039239635995819985241820298752152771380188807168000 9000 (([nE_900_10] ++ (nT_900 ++ nC_900)).map nd0) (nd1 nE_900_9) = true := by decide +kernel
set_option maxRecDepth 100000 in
theorem kE_900_10 : bSgk wd wx ctE_900 lk_900 tX12_post [] 57896044618710753882728178039239635995819985241820298752152771380188807168000 9000 (([nE_900_11] ++ (nT_900 ++ nC_900)).map nd0) (nd1 nE_900_10) = true := by decide +kernel
set_option maxRecDepth 100000 in
theorem kE_900_11 : bSgk wd wx ctE_900 lk_900 tX12_post [] 57896044618710753882728178039239635995819985241820298752152771380188807168000 9000 (([nE_900_12] ++ (nT_900 ++ nC_900)).map nd0) (nd1 nE_900_11) = true := by decide +kernel
set_option maxRecDepth 100000 in
theorem kE_900_12 : bSgk wd wx ctE_900 lk_900 tX12_post [] 57896044618710753882728178039239635995819985241820298752152771380188807168000 9000 (([nE_900_13] ++ (nT_900 ++ nC_900)).map nd0) (nd1 nE_900_12) = true := by decide +kernel
set_option maxRecDepth 100000 in
theorem kE_900_13 : bSgk wd wx ctE_900 lk_900 tX12_post [] 57896044618710753882728178039239635995819985241820298752152771380188807168000 9000 (([nE_900_14] ++ (nT_900 ++ nC_900)).map nd0) (nd1 nE_900_13) = true := by decide +kernel
set_option maxRecDepth 100000 in
theorem kE_900_14 : bSgk wd wx ctE_900 lk_900 tX12_post [] 57896044618710753882728178039239635995819985241820298752152771380188807168000 9000 (([nE_900_15] ++ (nT_900 ++ nC_900)).map nd0) (nd1 nE_900_14) = true := by decide +kernel
set_option maxRecDepth 100000 in
theorem kE_900_15 : bSgk wd wx ctE_900 lk_900 tX12_post [] 57896044618710753882728178039239635995819985241820298752152771380188807168000 9000 (([nE_900_16] ++ (nT_900 ++ nC_900)).map nd0) (nd1 nE_900_15) = true := by decide +kernel
set_option maxRecDepth 100000 in
theorem kE_900_16 : bSgk wd wx ctE_900 lk_900 tX12_post [] 57896044618710753882728178039239635995819985241820298752152771380188807168000 9000 (([nE_900_17] ++ (nT_900 ++ nC_900)).map nd0) (nd1 nE_900_16) = true := by decide +kernel
set_option maxRecDepth 100000 in
theorem kE_900_17 : bSgk wd wx ctE_900 lk_900 tX12_post [] 57896044618710753882728178039239635995819985241820298752152771380188807168000 9000 (([nE_900_18] ++ (nT_900 ++ nC_900)).map nd0) (nd1 nE_900_17) = true := by decide +kernel
set_option maxRecDepth 100000 in
theorem kE_900_18 : bSgk wd wx ctE_900 lk_900 tX12_post [] 57896044618710753882728178039239635995819985241820298752152771380188807168000 9000 (([nE_900_19] ++ (nT_900 ++ nC_900)).map nd0) (nd1 nE_900_18) = true := by decide +kernel
set_option maxRecDepth 100000 in
theorem kE_900_19 : bSgk wd wx ctE_900 lk_900 tX12_post [] 57896044618710753882728178039239635995819985241820298752152771380188807168000 9000 (([nE_900_20] ++ (nT_900 ++ nC_900)).map nd0) (nd1 nE_900_19) = true := by decide +kernel
set_option maxRecDepth 100000 in
theorem kE_900_20 : bSgk wd wx ctE_900 lk_900 tX12_post [] 57896044618710753882728178039239635995819985241820298752152771380188807168000 9000 (([nE_900_21] ++ (nT_900 ++ nC_900)).map nd0) (nd1 nE_900_20) = true := by decide +kernel
set_option maxRecDepth 100000 in
theorem kE_900_21 : bSgk wd wx ctE_900 lk_900 tX12_post [] 57896044618710753882728178039239635995819985241820298752152771380188807168000 9000 (([nE_900_22] ++ (nT_900 ++ nC_900)).map nd0) (nd1 nE_900_21) = true := by decide +kernel
set_option maxRecDepth 100000 in
theorem kE_900_22 : bSgk wd wx ctE_900 lk_900 tX12_post [] 57896044618710753882728178039239635995819985241820298752152771380188807168000 9000 (([nE_900_23] ++ (nT_900 ++ nC_900)).map nd0) (nd1 nE_900_22) = true := by decide +kernel
set_option maxRecDepth 100000 in
theorem kE_900_23 : bSgk wd wx ctE_900 lk_900 tX12_post [] 57896044618710753882728178039239635995819985241820298752152771380188807168000 9000 (([nE_900_24] ++ (nT_900 ++ nC_900)).map nd0) (nd1 nE_900_23) = true := by decide +kernel
set_option maxRecDepth 100000 in
theorem kE_900_24 : bSgk wd wx ctE_900 lk_900 tX12_post [] 57896044618710753882728178039239635995819985241820298752152771380188807168000 9000 (([nE_900_25] ++ (nT_900 ++ nC_900)).map nd0) (nd1 nE_900_24) = true := by decide +kernel
set_option maxRecDepth 100000 in
theorem kE_900_25 : bSgk wd wx ctE_900 lk_900 tX12_post [] 57896044618710753882728178039239635995819985241820298752152771380188807168000 9000 (([nE_900_26] ++ (nT_900 ++ nC_900)).map nd0) (nd1 nE_900_25) = true := by decide +kernel
set_option maxRecDepth 100000 in
theorem kE_900_26 : bSgk wd wx ctE_900 lk_900 tX12_post [] 57896044618710753882728178039239635995819985241820298752152771380188807168000 9000 (([nE_900_27] ++ (nT_900 ++ nC_900)).map nd0) (nd1 nE_900_26) = true := by decide +kernel
set_option maxRecDepth 100000 in
theorem kE_900_27 : bSgk wd wx ctE_900 lk_900 tX12_post [] 57896044618710753882728178039239635995819985241820298752152771380188807168000 9000 (([nE_900_28] ++ (nT_900 ++ nC_900)).map nd0) (nd1 nE_900_27) = true := by decide +kernel
set_option maxRecDepth 100000 in
theorem kE_900_28 : bSgk wd wx ctE_900 lk_900 tX12_post [] 57896044618710753882728178039239635995819985241820298752152771380188807168000 9000 (([nE_900_29] ++ (nT_900 ++ nC_900)).map nd0) (nd1 nE_900_28) = true := by decide +kernel
set_option maxRecDepth 100000 in
theorem kE_900_29 : bSgk wd wx ctE_900 lk_900 tX12_post [] 57896044618710753882728178039239635995819985241820298752152771380188807168000 9000 (([nE_900_30] ++ (nT_900 ++ nC_900)).map nd0) (nd1 nE_900_29) = true := by decide +kernel
set_option maxRecDepth 100000 in
theorem kE_900_30 : bSgk wd wx ctE_900 lk_900 tX12_post [] 57896044618710753882728178039239635995819985241820298752152771380188807168000 9000 (([nE_900_31] ++ (nT_900 ++ nC_900)).map nd0) (nd1 nE_900_30) = true := by decide +kernel
set_option maxRecDepth 100000 in
theorem kE_900_31 : bSgk wd wx ctE_900 lk_900 tX12_post [] 57896044618710753882728178039239635995819985241820298752152771380188807168000 9000 (([nE_900_32] ++ (nT_900 ++ nC_900)).map nd0) (nd1 nE_900_31) = true := by decide +kernel
set_option maxRecDepth 100000 in
theorem kE_900_32 : bSgk wd wx ctE_900 lk_900 tX12_post [] 57896044618710753882728178039239635995819985241820298752152771380188807168000 9000 (([nE_900_33] ++ (nT_900 ++ nC_900)).map nd0) (nd1 nE_900_32) = true := by decide +kernel
set_option maxRecDepth 100000 in
theorem kE_900_33 : bSgk wd wx ctE_900 lk_900 tX12_post [] 57896044618710753882728178039239635995819985241820298752152771380188807168000 9000 (([nE_900_34] ++ (nT_900 ++ nC_900)).map nd0) (nd1 nE_900_33) = true := by decide +kernel
set_option maxRecDepth 100000 in
theorem kE_900_34 : bSgk wd wx ctE_900 lk_900 tX12_post [] 57896044618710753882728178039239635995819985241820298752152771380188807168000 9000 (([nE_900_35] ++ (nT_900 ++ nC_900)).map nd0) (nd1 nE_900_34) = true := by decide +kernel
set_option maxRecDepth 100000 in
theorem kE_900_35 : bSgk wd wx ctE_900 lk_900 tX12_post [] 57896044618710753882728178039239635995819985241820298752152771380188807168000 9000 (([nE_900_36] ++ (nT_900 ++ nC_900)).map nd0) (nd1 nE_900_35) = true := by decide +kernel
set_option maxRecDepth 100000 in
theorem kE_900_36 : bSgk wd wx ctE_900 lk_900 tX12_post [] 57896044618710753882728178039239635995819985241820298752152771380188807168000 9000 (([nE_900_37] ++ (nT_900 ++ nC_900)).map nd0) (nd1 nE_900_36) = true := by decide +kernel
set_option maxRecDepth 100000 in
theorem kE_900_37 : bSgk wd wx ctE_900 lk_900 tX12_post [] 57896044618710753882728178039239635995819985241820298752152771380188807168000 9000 (([nE_900_38] ++ (nT_900 ++ nC_900)).map nd0) (nd1 nE_900_37) = true := by decide +kernel
set_option maxRecDepth 100000 in
theorem kE_900_38 : bSgk wd wx ctE_900 lk_900 tX12_post [] 57896044618710753882728178039239635995819985241820298752152771380188807168000 9000 (([nE_900_39] ++ (nT_900 ++ nC_900)).map nd0) (nd1 nE_900_38) = true := by decide +kernel
set_option maxRecDepth 100000 in
theorem kE_900_39 : bSgk wd wx ctE_900 lk_900 tX12_post [] 57896044618710753882728178039239635995819985241820298752152771380188807168000 9000 (([nE_900_40] ++ (nT_900 ++ nC_900)).map nd0) (nd1 nE_900_39) = true := by decide +kernel
set_option maxRecDepth 100000 in
theorem kE_900_40 : bSgk wd wx ctE_900 lk_900 tX12_post [] 57896044618710753882728178039239635995819985241820298752152771380188807168000 9000 (([nE_900_41] ++ (nT_900 ++ nC_900)).map nd0) (nd1 nE_900_40) = true := by decide +kernel
set_option maxRecDepth 100000 in
theorem kE_900_41 : bSgk wd wx ctE_900 lk_900 tX12_post [] 57896044618710753882728178039239635995819985241820298752152771380188807168000 9000 (([nE_900_42] ++ (nT_900 ++ nC_900)).map nd0) (nd1 nE_900_41) = true := by decide +kernel
set_option maxRecDepth 100000 in
theorem kE_900_42 : bSgk wd wx ctE_900 lk_900 tX12_post [] 57896044618710753882728178039239635995819985241820298752152771380188807168000 9000 (([nE_900_43] ++ (nT_900 ++ nC_900)).map nd0) (nd1 nE_900_42) = true := by decide +kernel
set_option maxRecDepth 100000 in
theorem kE_900_43 : bSgk wd wx ctE_900 lk_900 tX12_post [] 57896044618710753882728178039239635995819985241820298752152771380188807168000 9000 (([nE_900_44] ++ (nT_900 ++ nC_900)).map nd0) (nd1 nE_900_43) = true := by decide +kernel
set_option maxRecDepth 100000 in
theorem kE_900_44 : bSgk wd wx ctE_900 lk_900 tX12_post [] 57896044618710753882728178039239635995819985241820298752152771380188807168000 9000 (([nE_900_45] ++ (nT_900 ++ nC_900)).map nd0) (nd1 nE_900_44) = true := by decide +kernel
set_option maxRecDepth 100000 in
theorem kE_900_45 : bSgk wd wx ctE_900 lk_900 tX12_post [] 57896044618710753882728178039239635995819985241820298752152771380188807168000 9000 (([nE_900_46] ++ (nT_900 ++ nC_900)).map nd0) (nd1 nE_900_45) = true := by decide +kernel
set_option maxRecDepth 100000 in
theorem kE_900_46 : bSgk wd wx ctE_900 lk_900 tX12_post [] 57896044618710753882728178039239635995819985241820298752152771380188807168000 9000 (([nE_900_47] ++ (nT_900 ++ nC_900)).map nd0) (nd1 nE_900_46) = true := by decide +kernel
set_option maxRecDepth 100000 in
theorem kE_900_47 : bSgk wd wx ctE_900 lk_900 tX12_post [] 57896044618710753882728178039239635995819985241820298752152771380188807168000 9000 (([nE_900_48] ++ (nT_900 ++ nC_900)).map nd0) (nd1 nE_900_47) = true := by decide +kernel
set_option maxRecDepth 100000 in
theorem kE_900_48 : bSgk wd wx ctE_900 lk_900 tX12_post [] 57896044618710753882728178039239635995819985241820298752152771380188807168000 9000 (([nE_900_49] ++ (nT_900 ++ nC_900)).map nd0) (nd1 nE_900_48) = true := by decide +kernel
set_option maxRecDepth 100000 in
theorem kE_900_49 : bSgk wd wx ctE_900 lk_900 tX12_post [] 57896044618710753882728178039239635995819985241820298752152771380188807168000 9000 (([nE_900_50] ++ (nT_900 ++ nC_900)).map nd0) (nd1 nE_900_49) = true := by decide +kernel
set_option maxRecDepth 100000 in
theorem kE_900_50 : bSgk wd wx ctE_900 lk_900 tX12_post [] 57896044618710753882728178039239635995819985241820298752152771380188807168000 9000 (([nE_900_51] ++ (nT_900 ++ nC_900)).map nd0) (nd1 nE_900_50) = true := by decide +kernel
set_option maxRecDepth 100000 in
theorem kE_900_51 : bSgk wd wx ctE_900 lk_900 tX12_post [] 57896044618710753882728178039239635995819985241820298752152771380188807168000 9000 (([nE_900_52] ++ (nT_900 ++ nC_900)).map nd0) (nd1 nE_900_51) = true := by decide +kernel
set_option maxRecDepth 100000 in
theorem kE_900_52 : bSgk wd wx ctE_900 lk_900 tX12_post [] 57896044618710753882728178039239635995819985241820298752152771380188807168000 9000 (([nE_900_53] ++ (nT_900 ++ nC_900)).map nd0) (nd1 nE_900_52) = true := by decide +kernel
set_option maxRecDepth 100000 in
theorem kE_900_53 : bSgk wd wx ctE_900 lk_900 tX12_post [] 57896044618710753882728178039239635995819985241820298752152771380188807168000 9000 (([nE_900_54] ++ (nT_900 ++ nC_900)).map nd0) (nd1 nE_900_53) = true := by decide +kernel
set_option maxRecDepth 100000 in
theorem kE_900_54 : bSgk wd wx ctE_900 lk_900 tX12_post [] 57896044618710753882728178039239635995819985241820298752152771380188807168000 9000 (([nE_900_55] ++ (nT_900 ++ nC_900)).map nd0) (nd1 nE_900_54) = true := by decide +kernel
set_option maxRecDepth 100000 in
theorem kE_900_55 : bSgk wd wx ctE_900 lk_900 tX12_post [] 57896044618710753882728178039239635995819985241820298752152771380188807168000 9000 (([nE_900_56] ++ (nT_900 ++ nC_900)).map nd0) (nd1 nE_900_55) = true := by decide +kernel
set_option maxRecDepth 100000 in
theorem kE_900_56 : bSgk wd wx ctE_900 lk_900 tX12_post [] 57896044618710753882728178039239635995819985241820298752152771380188807168000 9000 (([nE_900_57] ++ (nT_900 ++ nC_900)).map nd0) (nd1 nE_900_56) = true := by decide +kernel
set_option maxRecDepth 100000 in
theorem kE_900_57 : bSgk wd wx ctE_900 lk_900 tX12_post [] 57896044618710753882728178039239635995819985241820298752152771380188807168000 9000 (([nE_900_58] ++ (nT_900 ++ nC_900)).map nd0) (nd1 nE_900_57) = true := by decide +kernel
set_option maxRecDepth 100000 in
theorem kE_900_58 : bSgk wd wx ctE_900 lk_900 tX12_post [] 57896044618710753882728178039239635995819985241820298752152771380188807168000 9000 (([nE_900_59] ++ (nT_900 ++ nC_900)).map nd0) (nd1 nE_900_58) = true := by decide +kernel
set_option maxRecDepth 100000 in
theorem kE_900_59 : bSgk wd wx ctE_900 lk_900 tX12_post [] 57896044618710753882728178039239635995819985241820298752152771380188807168000 9000 (([nE_900_60] ++ (nT_900 ++ nC_900)).map nd0) (nd1 nE_900_59) = true := by decide +kernel
set_option maxRecDepth 100000 in
theorem kE_900_60 : bSgk wd wx ctE_900 lk_900 tX12_post [] 57896044618710753882728178039239635995819985241820298752152771380188807168000 9000 (([nE_900_61] ++ (nT_900 ++ nC_900)).map nd0) (nd1 nE_900_60) = true := by decide +kernel
set_option maxRecDepth 100000 in
theorem kE_900_61 : bSgk wd wx ctE_900 lk_900 tX12_post [] 57896044618710753882728178039239635995819985241820298752152771380188807168000 9000 (([nE_900_62] ++ (nT_900 ++ nC_900)).map nd0) (nd1 nE_900_61) = true := by decide +kernel
set_option maxRecDepth 100000 in
theorem kE_900_62 : bSgk wd wx ctE_900 lk_900 tX12_post [] 57896044618710753882728178039239635995819985241820298752152771380188807168000 9000 (([nE_900_63] ++ (nT_900 ++ nC_900)).map nd0) (nd1 nE_900_62) = true := by decide +kernel
set_option maxRecDepth 100000 in
theorem kE_900_63 : bSgk wd wx ctE_900 lk_900 tX12_post [] 57896044618710753882728178039239635995819985241820298752152771380188807168000 9000 (([nE_900_64] ++ (nT_900 ++ nC_900)).map nd0) (nd1 nE_900_63) = true := by decide +kernel
set_option maxRecDepth 100000 in
theorem kE_900_64 : bSgk wd wx ctE_900 lk_900 tX12_post [] 57896044618710753882728178039239635995819985241820298752152771380188807168000 9000 (([nE_900_65] ++ (nT_900 ++ nC_900)).map nd0) (nd1 nE_900_64) = true := by decide +kernel
set_option maxRecDepth 100000 in
theorem kE_900_65 : bSgk wd wx ctE_900 lk_900 tX12_post [] 57896044618710753882728178039239635995819985241820298752152771380188807168000 9000 (([nE_900_66] ++ (nT_900 ++ nC_900)).map nd0) (nd1 nE_900_65) = true := by decide +kernel
set_option maxRecDepth 100000 in
theorem kE_900_66 : bSgk wd wx ctE_900 lk_900 tX12_post [] 57896044618710753882728178039239635995819985241820298752152771380188807168000 9000 (([nE_900_67] ++ (nT_900 ++ nC_900)).map nd0) (nd1 nE_900_66) = true := by decide +kernel
set_option maxRecDepth 100000 in
theorem kE_900_67 : bSgk wd wx ctE_900 lk_900 tX12_post [] 57896044618710753882728178039239635995819985241820298752152771380188807168000 9000 (([nE_900_68] ++ (nT_900 ++ nC_900)).map nd0) (nd1 nE_900_67) = true := by decide +kernel
set_option maxRecDepth 100000 in
theorem kE_900_68 : bSgk wd wx ctE_900 lk_900 tX12_post [] 57896044618710753882728178039239635995819985241820298752152771380188807168000 9000 (([nE_900_69] ++ (nT_900 ++ nC_900)).map nd0) (nd1 nE_900_68) = true := by decide +kernel
set_option maxRecDepth 100000 in
theorem kE_900_69 : bSgk wd wx ctE_900 lk_900 tX12_post [] 57896044618710753882728178039239635995819985241820298752152771380188807168000 9000 (([nE_900_70] ++ (nT_900 ++ nC_900)).map nd0) (nd1 nE_900_69) = true := by decide +kernel
set_option maxRecDepth 100000 in
theorem kE_900_70 : bSgk wd wx ctE_900 lk_900 tX12_post [] 57896044618710753882728178039239635995819985241820298752152771380188807168000 9000 (([nE_900_71] ++ (nT_900 ++ nC_900)).map nd0) (nd1 nE_900_70) = true := by decide +kernel
set_option maxRecDepth 100000 in
theorem kE_900_71 : bSgk wd wx ctE_900 lk_900 tX12_post [] 57896044618710753882728178039239635995819985241820298752152771380188807168000 9000 (([nE_900_72] ++ (nT_900 ++ nC_900)).map nd0) (nd1 nE_900_71) = true := by decide +kernel
set_option maxRecDepth 100000 in
theorem kE_900_72 : bSgk wd wx ctE_900 lk_900 tX12_post [] 57896044618710753882728178039239635995819985241820298752152771380188807168000 9000 (([nE_900_73] ++ (nT_900 ++ nC_900)).map nd0) (nd1 nE_900_72) = true := by decide +kernel
set_option maxRecDepth 100000 in
theorem kE_900_73 : bSgk wd wx ctE_900 lk_900 tX12_post [] 57896044618710753882728178039239635995819985241820298752152771380188807168000 9000 (([nE_900_74] ++ (nT_900 ++ nC_900)).map nd0) (nd1 nE_900_73) = true := by decide +kernel
set_option maxRecDepth 100000 in
theorem kE_900_74 : bSgk wd wx ctE_900 lk_900 tX12_post [] 57896044618710753882728178039239635995819985241820298752152771380188807168000 9000 (([nE_900_75] ++ (nT_900 ++ nC_900)).map nd0) (nd1 nE_900_74) = true := by decide +kernel
set_option maxRecDepth 100000 in
theorem kE_900_75 : bSgk wd wx ctE_900 lk_900 tX12_post [] 57896044618710753882728178039239635995819985241820298752152771380188807168000 9000 (([nE_900_76] ++ (nT_900 ++ nC_900)).map nd0) (nd1 nE_900_75) = true := by decide +kernel
set_option maxRecDepth 100000 in
theorem kE_900_76 : bSgk wd wx ctE_900 lk_900 tX12_post [] 57896044618710753882728178039239635995819985241820298752152771380188807168000 9000 (([nE_900_77] ++ (nT_900 ++ nC_900)).map nd0) (nd1 nE_900_76) = true := by decide +kernel
set_option maxRecDepth 100000 in
theorem kE_900_77 : bSgk wd wx ctE_900 lk_900 tX12_post [] 57896044618710753882728178039239635995819985241820298752152771380188807168000 9000 (([nE_900_78] ++ (nT_900 ++ nC_900)).map nd0) (nd1 nE_900_77) = true := by decide +kernel
set_option maxRecDepth 100000 in
theorem kE_900_78 : bSgk wd wx ctE_900 lk_900 tX12_post [] 57896044618710753882728178039239635995819985241820298752152771380188807168000 9000 (([nE_900_79] ++ (nT_900 ++ nC_900)).map nd0) (nd1 nE_900_78) = true := by decide +kernel
set_option maxRecDepth 100000 in
theorem kE_900_79 : bSgk wd wx ctE_900 lk_900 tX12_post [] 57896044618710753882728178039239635995819985241820298752152771380188807168000 9000 (([nE_900_80] ++ (nT_900 ++ nC_900)).map nd0) (nd1 nE_900_79) = true := by decide +kernel
set_option maxRecDepth 100000 in
theorem kE_900_80 : bSgk wd wx ctE_900 lk_900 tX12_post [] 57896044618710753882728178039239635995819985241820298752152771380188807168000 9000 (([nE_900_81] ++ (nT_900 ++ nC_900)).map nd0) (nd1 nE_900_80) = true := by decide +kernel
set_option maxRecDepth 100000 in
theorem kE_900_81 : bSgk wd wx ctE_900 lk_900 tX12_post [] 57896044618710753882728178039239635995819985241820298752152771380188807168000 9000 (([nE_900_82] ++ (nT_900 ++ nC_900)).map nd0) (nd1 nE_900_81) = true := by decide +kernel
set_option maxRecDepth 100000 in
theorem kE_900_82 : bSgk wd wx ctE_900 lk_900 tX12_post [] 57896044618710753882728178039239635995819985241820298752152771380188807168000 9000 (([nE_900_83] ++ (nT_900 ++ nC_900)).map nd0) (nd1 nE_900_82) = true := by decide +kernel
set_option maxRecDepth 100000 in
theorem kE_900_83 : bSgk wd wx ctE_900 lk_900 tX12_post [] 57896044618710753882728178039239635995819985241820298752152771380188807168000 9000 (([nE_900_84] ++ (nT_900 ++ nC_900)).map nd0) (nd1 nE_900_83) = true := by decide +kernel
set_option maxRecDepth 100000 in
theorem kE_900_84 : bSgk wd wx ctE_900 lk_900 tX12_post [] 57896044618710753882728178039239635995819985241820298752152771380188807168000 9000 (([nE_900_85] ++ (nT_900 ++ nC_900)).map nd0) (nd1 nE_900_84) = true := by decide +kernel
set_option maxRecDepth 100000 in
theorem kE_900_85 : bSgk wd wx ctE_900 lk_900 tX12_post [] 57896044618710753882728178039239635995819985241820298752152771380188807168000 9000 (([nE_900_86] ++ (nT_900 ++ nC_900)).map nd0) (nd1 nE_900_85) = true := by decide +kernel
set_option maxRecDepth 100000 in
theorem kE_900_86 : bSgk wd wx ctE_900 lk_900 tX12_post [] 57896044618710753882728178039239635995819985241820298752152771380188807168000 9000 (([nE_900_87] ++ (nT_900 ++ nC_900)).map nd0) (nd1 nE_900_86) = true := by decide +kernel
set_option maxRecDepth 100000 in
theorem kE_900_87 : bSgk wd wx ctE_900 lk_900 tX12_post [] 57896044618710753882728178039239635995819985241820298752152771380188807168000 9000 (([nE_900_88] ++ (nT_900 ++ nC_900)).map nd0) (nd1 nE_900_87) = true := by decide +kernel
set_option maxRecDepth 100000 in
theorem kE_900_88 : bSgk wd wx ctE_900 lk_900 tX12_post [] 57896044618710753882728178039239635995819985241820298752152771380188807168000 9000 (([nE_900_89] ++ (nT_900 ++ nC_900)).map nd0) (nd1 nE_900_88) = true := by decide +kernel
set_option maxRecDepth 100000 in
theorem kE_900_89 : bSgk wd wx ctE_900 lk_900 tX12_post [] 57896044618710753882728178039239635995819985241820298752152771380188807168000 9000 (([nE_900_90] ++ (nT_900 ++ nC_900)).map nd0) (nd1 nE_900_89) = true := by decide +kernel
set_option maxRecDepth 100000 in
theorem kE_900_90 : bSgk wd wx ctE_900 lk_900 tX12_post [] 57896044618710753882728178039239635995819985241820298752152771380188807168000 9000 (([nE_900_91] ++ (nT_900 ++ nC_900)).map nd0) (nd1 nE_900_90) = true := by decide +kernel
set_option maxRecDepth 100000 in
theorem kE_900_91 : bSgk wd wx ctE_900 lk_900 tX12_post [] 57896044618710753882728178039239635995819985241820298752152771380188807168000 9000 (([nE_900_92] ++ (nT_900 ++ nC_900)).map nd0) (nd1 nE_900_91) = true := by decide +kernel
set_option maxRecDepth 100000 in
theorem kE_900_92 : bSgk wd wx ctE_900 lk_900 tX12_post [] 57896044618710753882728178039239635995819985241820298752152771380188807168000 9000 (([nE_900_93] ++ (nT_900 ++ nC_900)).map nd0) (nd1 nE_900_92) = true := by decide +kernel
set_option maxRecDepth 100000 in
theorem kE_900_93 : bSgk wd wx ctE_900 lk_900 tX12_post [] 57896044618710753882728178039239635995819985241820298752152771380188807168000 9000 (([nE_900_94] ++ (nT_900 ++ nC_900)).map nd0) (nd1 nE_900_93) = true := by decide +kernel
set_option maxRecDepth 100000 in
theorem kE_900_94 : bSgk wd wx ctE_900 lk_900 tX12_post [] 57896044618710753882728178039239635995819985241820298752152771380188807168000 9000 (([nE_900_95] ++ (nT_900 ++ nC_900)).map nd0) (nd1 nE_900_94) = true := by decide +kernel
set_option maxRecDepth 100000 in
theorem kE_900_95 : bSgk wd wx ctE_900 lk_900 tX12_post [] 57896044618710753882728178039239635995819985241820298752152771380188807168000 9000 (([nE_900_96] ++ (nT_900 ++ nC_900)).map nd0) (nd1 nE_900_95) = true := by decide +kernel
set_option maxRecDepth 100000 in
theorem kE_900_96 : bSgk wd wx ctE_900 lk_900 tX12_post [] 57896044618710753882728178039239635995819985241820298752152771380188807168000 9000 (([nE_900_97] ++ (nT_900 ++ nC_900)).map nd0) (nd1 nE_900_96) = true := by decide +kernel
set_option maxRecDepth 100000 in
theorem kE_900_97 : bSgk wd wx ctE_900 lk_900 tX12_post [] 57896044618710753882728178039239635995819985241820298752152771380188807168000 9000 (([nE_900_98] ++ (nT_900 ++ nC_900)).map nd0) (nd1 nE_900_97) = true := by decide +kernel
set_option maxRecDepth 100000 in
theorem kE_900_98 : bSgk wd wx ctE_900 lk_900 tX12_post [] 57896044618710753882728178039239635995819985241820298752152771380188807168000 9000 (([nE_900_99] ++ (nT_900 ++ nC_900)).map nd0) (nd1 nE_900_98) = true := by decide +kernel
set_option maxRecDepth 100000 in
theorem kE_900_99 : bSgk wd wx ctE_900 lk_900 tX12_post [] 57896044618710753882728178039239635995819985241820298752152771380188807168000 9000 (([nE_900_100] ++ (nT_900 ++ nC_900)).map nd0) (nd1 nE_900_99) = true := by decide +kernel
set_option maxRecDepth 100000 in
theorem kE_900_100 : bSgk wd wx ctE_900 lk_900 tX12_post [] 57896044618710753882728178039239635995819985241820298752152771380188807168000 9000 (([nE_900_101] ++ (nT_900 ++ nC_900)).map nd0) (nd1 nE_900_100) = true := by decide +kernel
set_option maxRecDepth 100000 in
theorem kE_900_101 : bSgk wd wx ctE_900 lk_900 tX12_post [] 57896044618710753882728178039239635995819985241820298752152771380188807168000 9000 (([nE_900_102] ++ (nT_900 ++ nC_900)).map nd0) (nd1 nE_900_101) = true := by decide +kernel
set_option maxRecDepth 100000 in
theorem kE_900_102 : bSgk wd wx ctE_900 lk_900 tX12_post [] 57896044618710753882728178039239635995819985241820298752152771380188807168000 9000 (([nE_900_103] ++ (nT_900 ++ nC_900)).map nd0) (nd1 nE_900_102) = true := by decide +kernel
set_option maxRecDepth 100000 in
theorem kE_900_103 : bSgk wd wx ctE_900 lk_900 tX12_post [] 57896044618710753882728178039239635995819985241820298752152771380188807168000 9000 (([nE_900_104] ++ (nT_900 ++ nC_900)).map nd0) (nd1 nE_900_103) = true := by decide +kernel
set_option maxRecDepth 100000 in
theorem kE_900_104 : bSgk wd wx ctE_900 lk_900 tX12_post [] 57896044618710753882728178039239635995819985241820298752152771380188807168000 9000 (([nE_900_105] ++ (nT_900 ++ nC_900)).map nd0) (nd1 nE_900_104) = true := by decide +kernel
set_option maxRecDepth 100000 in
theorem kE_900_105 : bSgk wd wx ctE_900 lk_900 tX12_post [] 57896044618710753882728178039239635995819985241820298752152771380188807168000 9000 (([nE_900_106] ++ (nT_900 ++ nC_900)).map nd0) (nd1 nE_900_105) = true := by decide +kernel
set_option maxRecDepth 100000 in
theorem kE_900_106 : bSgk wd wx ctE_900 lk_900 tX12_post [] 57896044618710753882728178039239635995819985241820298752152771380188807168000 9000 (([nE_900_107] ++ (nT_900 ++ nC_900)).map nd0) (nd1 nE_900_106) = true := by decide +kernel
set_option maxRecDepth 100000 in
theorem kE_900_107 : bSgk wd wx ctE_900 lk_900 tX12_post [] 57896044618710753882728178039239635995819985241820298752152771380188807168000 9000 (([nE_900_108] ++ (nT_900 ++ nC_900)).map nd0) (nd1 nE_900_107) = true := by decide +kernel
set_option maxRecDepth 100000 in
theorem kE_900_108 : bSgk wd wx ctE_900 lk_900 tX12_post [] 57896044618710753882728178039239635995819985241820298752152771380188807168000 9000 (([nE_900_109] ++ (nT_900 ++ nC_900)).map nd0) (nd1 nE_900_108) = true := by decide +kernel
set_option maxRecDepth 100000 in
theorem kE_900_109 : bSgk wd wx ctE_900 lk_900 tX12_post [] 57896044618710753882728178039239635995819985241820298752152771380188807168000 9000 (([nE_900_110] ++ (nT_900 ++ nC_900)).map nd0) (nd1 nE_900_109) = true := by decide +kernel
set_option maxRecDepth 100000 in
theorem kE_900_110 : bSgk wd wx ctE_900 lk_900 tX12_post [] 57896044618710753882728178039239635995819985241820298752152771380188807168000 9000 (([nE_900_111] ++ (nT_900 ++ nC_900)).map nd0) (nd1 nE_900_110) = true := by decide +kernel
set_option maxRecDepth 100000 in
theorem kE_900_111 : bSgk wd wx ctE_900 lk_900 tX12_post [] 57896044618710753882728178039239635995819985241820298752152771380188807168000 9000 (([nE_900_112] ++ (nT_900 ++ nC_900)).map nd0) (nd1 nE_900_111) = true := by decide +kernel
set_option maxRecDepth 100000 in
theorem kE_900_112 : bSgk wd wx ctE_900 lk_900 tX12_post [] 57896044618710753882728178039239635995819985241820298752152771380188807168000 9000 (([nE_900_113] ++ (nT_900 ++ nC_900)).map nd0) (nd1 nE_900_112) = true := by decide +kernel
set_option maxRecDepth 100000 in
theorem kE_900_113 : bSgk wd wx ctE_900 lk_900 tX12_post [] 57896044618710753882728178039239635995819985241820298752152771380188807168000 9000 (([nE_900_114] ++ (nT_900 ++ nC_900)).map nd0) (nd1 nE_900_113) = true := by decide +kernel
set_option maxRecDepth 100000 in
theorem kE_900_114 : bSgk wd wx ctE_900 lk_900 tX12_post [] 57896044618710753882728178039239635995819985241820298752152771380188807168000 9000 (([nE_900_115] ++ (nT_900 ++ nC_900)).map nd0) (nd1 nE_900_114) = true := by decide +kernel
set_option maxRecDepth 100000 in
theorem kE_900_115 : bSgk wd wx ctE_900 lk_900 tX12_post [] 57896044618710753882728178039239635995819985241820298752152771380188807168000 9000 (([nE_900_116] ++ (nT_900 ++ nC_900)).map nd0) (nd1 nE_900_115) = true := by decide +kernel
set_option maxRecDepth 100000 in
theorem kE_900_116 : bSgk wd wx ctE_900 lk_900 tX12_post [] 57896044618710753882728178039239635995819985241820298752152771380188807168000 9000 (([nE_900_117] ++ (nT_900 ++ nC_900)).map nd0) (nd1 nE_900_116) = true := by decide +kernel
set_option maxRecDepth 100000 in
theorem kE_900_117 : bSgk wd wx ctE_900 lk_900 tX12_post [] 57896044618710753882728178039239635995819985241820298752152771380188807168000 9000 (([nE_900_118] ++ (nT_900 ++ nC_900)).map nd0) (nd1 nE_900_117) = true := by decide +kernel
set_option maxRecDepth 100000 in
theorem kE_900_118 : bSgk wd wx ctE_900 lk_900 tX12_post [] 57896044618710753882728178039239635995819985241820298752152771380188807168000 9000 (([nE_900_119] ++ (nT_900 ++ nC_900)).map nd0) (nd1 nE_900_118) = true := by decide +kernel
set_option maxRecDepth 100000 in
theorem kE_900_119 : bSgk wd wx ctE_900 lk_900 tX12_post [] 57896044618710753882728178039239635995819985241820298752152771380188807168000 9000 (([nE_900_120] ++ (nT_900 ++ nC_900)).map nd0) (nd1 nE_900_119) = true := by decide +kernel
set_option maxRecDepth 100000 in
theorem kE_900_120 : bSgk wd wx ctE_900 lk_900 tX12_post [] 57896044618710753882728178039239635995819985241820298752152771380188807168000 9000 (([nE_900_121] ++ (nT_900 ++ nC_900)).map nd0) (nd1 nE_900_120) = true := by decide +kernel
set_option maxRecDepth 100000 in
theorem kE_900_121 : bSgk wd wx ctE_900 lk_900 tX12_post [] 57896044618710753882728178039239635995819985241820298752152771380188807168000 9000 (([nE_900_122] ++ (nT_900 ++ nC_900)).map nd0) (nd1 nE_900_121) = true := by decide +kernel
set_option maxRecDepth 100000 in
theorem kE_900_122 : bSgk wd wx ctE_900 lk_900 tX12_post [] 57896044618710753882728178039239635995819985241820298752152771380188807168000 9000 (([nE_900_123] ++ (nT_900 ++ nC_900)).map nd0) (nd1 nE_900_122) = true := by decide +kernel
set_option maxRecDepth 100000 in
theorem kE_900_123 : bSgk wd wx ctE_900 lk_900 tX12_post [] 57896044618710753882728178039239635995819985241820298752152771380188807168000 9000 (([nE_900_124] ++ (nT_900 ++ nC_900)).map nd0) (nd1 nE_900_123) = true := by decide +kernel
set_option maxRecDepth 100000 in
theorem kE_900_124 : bSgk wd wx ctE_900 lk_900 tX12_post [] 57896044618710753882728178039239635995819985241820298752152771380188807168000 9000 (([nE_900_125] ++ (nT_900 ++ nC_900)).map nd0) (nd1 nE_900_124) = true := by decide +kernel
set_option maxRecDepth 100000 in
theorem kE_900_125 : bSgk wd wx ctE_900 lk_900 tX12_post [] 57896044618710753882728178039239635995819985241820298752152771380188807168000 9000 (([nE_900_126] ++ (nT_900 ++ nC_900)).map nd0) (nd1 nE_900_125) = true := by decide +kernel
set_option maxRecDepth 100000 in
theorem kE_900_126 : bSgk wd wx ctE_900 lk_900 tX12_post [] 57896044618710753882728178039239635995819985241820298752152771380188807168000 9000 (([nE_900_127] ++ (nT_900 ++ nC_900)).map nd0) (nd1 nE_900_126) = true := by decide +kernel
set_option maxRecDepth 100000 in
theorem kE_900_127 : bSgk wd wx ctE_900 lk_900 tX12_post [] 57896044618710753882728178039239635995819985241820298752152771380188807168000 9000 (([nE_900_128] ++ (nT_900 ++ nC_900)).map nd0) (nd1 nE_900_127) = true := by decide +kernel
set_option maxRecDepth 100000 in
theorem kE_900_128 : bSgk wd wx ctE_900 lk_900 tX12_post [] 57896044618710753882728178039239635995819985241820298752152771380188807168000 9000 (([nE_900_129] ++ (nT_900 ++ nC_900)).map nd0) (nd1 nE_900_128) = true := by decide +kernel
set_option maxRecDepth 100000 in
theorem kE_900_129 : bSgk wd wx ctE_900 lk_900 tX12_post [] 57896044618710753882728178039239635995819985241820298752152771380188807168000 9000 (([nE_900_130] ++ (nT_900 ++ nC_900)).map nd0) (nd1 nE_900_129) = true := by decide +kernel
set_option maxRecDepth 100000 in
theorem kE_900_130 : bSgk wd wx ctE_900 lk_900 tX12_post [] 57896044618710753882728178039239635995819985241820298752152771380188807168000 9000 (([nE_900_131] ++ (nT_900 ++ nC_900)).map nd0) (nd1 nE_900_130) = true := by decide +kernel
set_option maxRecDepth 100000 in
theorem kE_900_131 : bSgk wd wx ctE_900 lk_900 tX12_post [] 57896044618710753882728178039239635995819985241820298752152771380188807168000 9000 (([nE_900_132] ++ (nT_900 ++ nC_900)).map nd0) (nd1 nE_900_131) = true := by decide +kernel
set_option maxRecDepth 100000 in
theorem kE_900_132 : bSgk wd wx ctE_900 lk_900 tX12_post [] 57896044618710753882728178039239635995819985241820298752152771380188807168000 9000 (([nE_900_133] ++ (nT_900 ++ nC_900)).map nd0) (nd1 nE_900_132) = true := by decide +kernel
set_option maxRecDepth 100000 in
theorem kE_900_133 : bSgk wd wx ctE_900 lk_900 tX12_post [] 57896044618710753882728178039239635995819985241820298752152771380188807168000 9000 (([nE_900_134] ++ (nT_900 ++ nC_900)).map nd0) (nd1 nE_900_133) = true := by decide +kernel
set_option maxRecDepth 100000 in
theorem kE_900_134 : bSgk wd wx ctE_900 lk_900 tX12_post [] 57896044618710753882728178039239635995819985241820298752152771380188807168000 9000 (([nE_900_135] ++ (nT_900 ++ nC_900)).map nd0) (nd1 nE_900_134) = true := by decide +kernel
set_option maxRecDepth 100000 in
theorem kE_900_135 : bSgk wd wx ctE_900 lk_900 tX12_post [] 57896044618710753882728178039239635995819985241820298752152771380188807168000 9000 (([nE_900_136] ++ (nT_900 ++ nC_900)).map nd0) (nd1 nE_900_135) = true := by decide +kernel
set_option maxRecDepth 100000 in
theorem kE_900_136 : bSgk wd wx ctE_900 lk_900 tX12_post [] 57896044618710753882728178039239635995819985241820298752152771380188807168000 9000 (([nE_900_137] ++ (nT_900 ++ nC_900)).map nd0) (nd1 nE_900_136) = true := by decide +kernel
set_option maxRecDepth 100000 in
theorem kE_900_137 : bSgk wd wx ctE_900 lk_900 tX12_post [] 57896044618710753882728178039239635995819985241820298752152771380188807168000 9000 (([nE_900_138] ++ (nT_900 ++ nC_900)).map nd0) (nd1 nE_900_137) = true := by decide +kernel
set_option maxRecDepth 100000 in
theorem kE_900_138 : bSgk wd wx ctE_900 lk_900 tX12_post [] 57896044618710753882728178039239635995819985241820298752152771380188807168000 9000 (([nE_900_139] ++ (nT_900 ++ nC_900)).map nd0) (nd1 nE_900_138) = true := by decide +kernel
set_option maxRecDepth 100000 in
theorem kE_900_139 : bSgk wd wx ctE_900 lk_900 tX12_post [] 57896044618710753882728178039239635995819985241820298752152771380188807168000 9000 (([nE_900_140] ++ (nT_900 ++ nC_900)).map nd0) (nd1 nE_900_139) = true := by decide +kernel
set_option maxRecDepth 100000 in
theorem kE_900_140 : bSgk wd wx ctE_900 lk_900 tX12_post [] 57896044618710753882728178039239635995819985241820298752152771380188807168000 9000 (([nE_900_141] ++ (nT_900 ++ nC_900)).map nd0) (nd1 nE_900_140) = true := by decide +kernel
set_option maxRecDepth 100000 in
theorem kE_900_141 : bSgk wd wx ctE_900 lk_900 tX12_post [] 57896044618710753882728178039239635995819985241820298752152771380188807168000 9000 (([nE_900_142] ++ (nT_900 ++ nC_900)).map nd0) (nd1 nE_900_141) = true := by decide +kernel
set_option maxRecDepth 100000 in
theorem kE_900_142 : bSgk wd wx ctE_900 lk_900 tX12_post [] 57896044618710753882728178039239635995819985241820298752152771380188807168000 9000 (([nE_900_143] ++ (nT_900 ++ nC_900)).map nd0) (nd1 nE_900_142) = true := by decide +kernel
set_option maxRecDepth 100000 in
theorem kE_900_143 : bSgk wd wx ctE_900 lk_900 tX12_post [] 57896044618710753882728178039239635995819985241820298752152771380188807168000 9000 (([nE_900_144] ++ (nT_900 ++ nC_900)).map nd0) (nd1 nE_900_143) = true := by decide +kernel
set_option maxRecDepth 100000 in
theorem kE_900_144 : bSgk wd wx ctE_900 lk_900 tX12_post [] 57896044618710753882728178039239635995819985241820298752152771380188807168000 9000 (([nE_900_145] ++ (nT_900 ++ nC_900)).map nd0) (nd1 nE_900_144) = true := by decide +kernel
set_option maxRecDepth 100000 in
theorem kE_900_145 : bSgk wd wx ctE_900 lk_900 tX12_post [] 57896044618710753882728178039239635995819985241820298752152771380188807168000 9000 (([nE_900_146] ++ (nT_900 ++ nC_900)).map nd0) (nd1 nE_900_145) = true := by decide +kernel
set_option maxRecDepth 100000 in
theorem kE_900_146 : bSgk wd wx ctE_900 lk_900 tX12_post [] 57896044618710753882728178039239635995819985241820298752152771380188807168000 9000 (([nE_900_147] ++ (nT_900 ++ nC_900)).map nd0) (nd1 nE_900_146) = true := by decide +kernel
set_option maxRecDepth 100000 in
theorem kE_900_147 : bSgk wd wx ctE_900 lk_900 tX12_post [] 57896044618710753882728178039239635995819985241820298752152771380188807168000 9000 (([nE_900_148] ++ (nT_900 ++ nC_900)).map nd0) (nd1 nE_900_147) = true := by decide +kernel
set_option maxRecDepth 100000 in
theorem kE_900_148 : bSgk wd wx ctE_900 lk_900 tX12_post [] 57896044618710753882728178039239635995819985241820298752152771380188807168000 9000 (([nE_900_149] ++ (nT_900 ++ nC_900)).map nd0) (nd1 nE_900_148) = true := by decide +kernel
set_option maxRecDepth 100000 in
theorem kE_900_149 : bSgk wd wx ctE_900 lk_900 tX12_post [] 57896044618710753882728178039239635995819985241820298752152771380188807168000 9000 (([nE_900_150] ++ (nT_900 ++ nC_900)).map nd0) (nd1 nE_900_149) = true := by decide +kernel
set_option maxRecDepth 100000 in
theorem kE_900_150 : bSgk wd wx ctE_900 lk_900 tX12_post [] 57896044618710753882728178039239635995819985241820298752152771380188807168000 9000 (([nE_900_151] ++ (nT_900 ++ nC_900)).map nd0) (nd1 nE_900_150) = true := by decide +kernel
set_option maxRecDepth 100000 in
theorem kE_900_151 : bSgk wd wx ctE_900 lk_900 tX12_post [] 57896044618710753882728178039239635995819985241820298752152771380188807168000 9000 (([nE_900_152] ++ (nT_900 ++ nC_900)).map nd0) (nd1 nE_900_151) = true := by decide +kernel
set_option maxRecDepth 100000 in
theorem kE_900_152 : bSgk wd wx ctE_900 lk_900 tX12_post [] 57896044618710753882728178039239635995819985241820298752152771380188807168000 9000 (([nE_900_153] ++ (nT_900 ++ nC_900)).map nd0) (nd1 nE_900_152) = true := by decide +kernel
set_option maxRecDepth 100000 in
theorem kE_900_153 : bSgk wd wx ctE_900 lk_900 tX12_post [] 57896044618710753882728178039239635995819985241820298752152771380188807168000 9000 (([nE_900_154] ++ (nT_900 ++ nC_900)).map nd0) (nd1 nE_900_153) = true := by decide +kernel
set_option maxRecDepth 100000 in
theorem kE_900_154 : bSgk wd wx ctE_900 lk_900 tX12_post [] 57896044618710753882728178039239635995819985241820298752152771380188807168000 9000 (([nE_900_155] ++ (nT_900 ++ nC_900)).map nd0) (nd1 nE_900_154) = true := by decide +kernel
set_option maxRecDepth 100000 in
theorem kE_900_155 : bSgk wd wx ctE_900 lk_900 tX12_post [] 57896044618710753882728178039239635995819985241820298752152771380188807168000 9000 (([nE_900_156] ++ (nT_900 ++ nC_900)).map nd0) (nd1 nE_900_155) = true := by decide +kernel
set_option maxRecDepth 100000 in
theorem kE_900_156 : bSgk wd wx ctE_900 lk_900 tX12_post [] 57896044618710753882728178039239635995819985241820298752152771380188807168000 9000 (([nE_900_157] ++ (nT_900 ++ nC_900)).map nd0) (nd1 nE_900_156) = true := by decide +kernel
set_option maxRecDepth 100000 in
theorem kE_900_157 : bSgk wd wx ctE_900 lk_900 tX12_post [] 57896044618710753882728178039239635995819985241820298752152771380188807168000 9000 (([nE_900_158] ++ (nT_900 ++ nC_900)).map nd0) (nd1 nE_900_157) = true := by decide +kernel
set_option maxRecDepth 100000 in
theorem kE_900_158 : bSgk wd wx ctE_900 lk_900 tX12_post [] 57896044618710753882728178039239635995819985241820298752152771380188807168000 9000 (([nE_900_159] ++ (nT_900 ++ nC_900)).map nd0) (nd1 nE_900_158) = true := by decide +kernel
set_option maxRecDepth 100000 in
theorem kE_900_159 : bSgk wd wx ctE_900 lk_900 tX12_post [] 57896044618710753882728178039239635995819985241820298752152771380188807168000 9000 (([nE_900_160] ++ (nT_900 ++ nC_900)).map nd0) (nd1 nE_900_159) = true := by decide +kernel
set_option maxRecDepth 100000 in
theorem kE_900_160 : bSgk wd wx ctE_900 lk_900 tX12_post [] 57896044618710753882728178039239635995819985241820298752152771380188807168000 9000 (([nE_900_161] ++ (nT_900 ++ nC_900)).map nd0) (nd1 nE_900_160) = true := by decide +kernel
set_option maxRecDepth 100000 in
theorem kE_900_161 : bSgk wd wx ctE_900 lk_900 tX12_post [] 57896044618710753882728178039239635995819985241820298752152771380188807168000 9000 (([nE_900_162] ++ (nT_900 ++ nC_900)).map nd0) (nd1 nE_900_161) = true := by decide +kernel
set_option maxRecDepth 100000 in
theorem kE_900_162 : bSgk wd wx ctE_900 lk_900 tX12_post [] 57896044618710753882728178039239635995819985241820298752152771380188807168000 9000 (([nE_900_163] ++ (nT_900 ++ nC_900)).map nd0) (nd1 nE_900_162) = true := by decide +kernel
set_option maxRecDepth 100000 in
theorem kE_900_163 : bSgk wd wx ctE_900 lk_900 tX12_post [] 57896044618710753882728178039239635995819985241820298752152771380188807168000 9000 (([nE_900_164] ++ (nT_900 ++ nC_900)).map nd0) (nd1 nE_900_163) = true := by decide +kernel
set_option maxRecDepth 100000 in
theorem kE_900_164 : bSgk wd wx ctE_900 lk_900 tX12_post [] 57896044618710753882728178039239635995819985241820298752152771380188807168000 9000 (([nE_900_165] ++ (nT_900 ++ nC_900)).map nd0) (nd1 nE_900_164) = true := by decide +kernel
set_option maxRecDepth 100000 in
theorem kE_900_165 : bSgk wd wx ctE_900 lk_900 tX12_post [] 57896044618710753882728178039239635995819985241820298752152771380188807168000 9000 (([nE_900_166] ++ (nT_900 ++ nC_900)).map nd0) (nd1 nE_900_165) = true := by decide +kernel
set_option maxRecDepth 100000 in
theorem kE_900_166 : bSgk wd wx ctE_900 lk_900 tX12_post [] 57896044618710753882728178039239635995819985241820298752152771380188807168000 9000 (([nE_900_167] ++ (nT_900 ++ nC_900)).map nd0) (nd1 nE_900_166) = true := by decide +kernel
set_option maxRecDepth 100000 in
theorem kE_900_167 : bSgk wd wx ctE_900 lk_900 tX12_post [] 57896044618710753882728178039239635995819985241820298752152771380188807168000 9000 (([nE_900_168] ++ (nT_900 ++ nC_900)).map nd0) (nd1 nE_900_167) = true := by decide +kernel
set_option maxRecDepth 100000 in
theorem kE_900_168 : bSgk wd wx ctE_900 lk_900 tX12_post [] 57896044618710753882728178039239635995819985241820298752152771380188807168000 9000 (([nE_900_169] ++ (nT_900 ++ nC_900)).map nd0) (nd1 nE_900_168) = true := by decide +kernel
set_option maxRecDepth 100000 in
theorem kE_900_169 : bSgk wd wx ctE_900 lk_900 tX12_post [] 57896044618710753882728178039239635995819985241820298752152771380188807168000 9000 (([nE_900_170] ++ (nT_900 ++ nC_900)).map nd0) (nd1 nE_900_169) = true := by decide +kernel
set_option maxRecDepth 100000 in
theorem kE_900_170 : bSgk wd wx ctE_900 lk_900 tX12_post [] 57896044618710753882728178039239635995819985241820298752152771380188807168000 9000 (([nE_900_171] ++ (nT_900 ++ nC_900)).map nd0) (nd1 nE_900_170) = true := by decide +kernel
set_option maxRecDepth 100000 in
theorem kE_900_171 : bSgk wd wx ctE_900 lk_900 tX12_post [] 57896044618710753882728178039239635995819985241820298752152771380188807168000 9000 (([nE_900_172] ++ (nT_900 ++ nC_900)).map nd0) (nd1 nE_900_171) = true := by decide +kernel
set_option maxRecDepth 100000 in
theorem kE_900_172 : bSgk wd wx ctE_900 lk_900 tX12_post [] 57896044618710753882728178039239635995819985241820298752152771380188807168000 9000 (([nE_900_173] ++ (nT_900 ++ nC_900)).map nd0) (nd1 nE_900_172) = true := by decide +kernel
set_option maxRecDepth 100000 in
theorem kE_900_173 : bSgk wd wx ctE_900 lk_900 tX12_post [] 57896044618710753882728178039239635995819985241820298752152771380188807168000 9000 (([nE_900_174] ++ (nT_900 ++ nC_900)).map nd0) (nd1 nE_900_173) = true := by decide +kernel
set_option maxRecDepth 100000 in
theorem kE_900_174 : bSgk wd wx ctE_900 lk_900 tX12_post [] 57896044618710753882728178039239635995819985241820298752152771380188807168000 9000 (([nE_900_175] ++ (nT_900 ++ nC_900)).map nd0) (nd1 nE_900_174) = true := by decide +kernel
set_option maxRecDepth 100000 in
theorem kE_900_175 : bSgk wd wx ctE_900 lk_900 tX12_post [] 57896044618710753882728178039239635995819985241820298752152771380188807168000 9000 (([nE_900_176] ++ (nT_900 ++ nC_900)).map nd0) (nd1 nE_900_175) = true := by decide +kernel
set_option maxRecDepth 100000 in
theorem kE_900_176 : bSgk wd wx ctE_900 lk_900 tX12_post [] 57896044618710753882728178039239635995819985241820298752152771380188807168000 9000 (([nE_900_177] ++ (nT_900 ++ nC_900)).map nd0) (nd1 nE_900_176) = true := by decide +kernel
set_option maxRecDepth 100000 in
theorem kE_900_177 : bSgk wd wx ctE_900 lk_900 tX12_post [] 57896044618710753882728178039239635995819985241820298752152771380188807168000 9000 (([nE_900_178] ++ (nT_900 ++ nC_900)).map nd0) (nd1 nE_900_177) = true := by decide +kernel
set_option maxRecDepth 100000 in
theorem kE_900_178 : bSgk wd wx ctE_900 lk_900 tX12_post [] 57896044618710753882728178039239635995819985241820298752152771380188807168000 9000 (([nE_900_179] ++ (nT_900 ++ nC_900)).map nd0) (nd1 nE_900_178) = true := by decide +kernel
set_option maxRecDepth 100000 in
theorem kE_900_179 : bSgk wd wx ctE_900 lk_900 tX12_post [] 57896044618710753882728178039239635995819985241820298752152771380188807168000 9000 (([nE_900_180] ++ (nT_900 ++ nC_900)).map nd0) (nd1 nE_900_179) = true := by decide +kernel
set_option maxRecDepth 100000 in
theorem kE_900_180 : bSgk wd wx ctE_900 lk_900 tX12_post [] 57896044618710753882728178039239635995819985241820298752152771380188807168000 9000 (([nE_900_181] ++ (nT_900 ++ nC_900)).map nd0) (nd1 nE_900_180) = true := by decide +kernel
set_option maxRecDepth 100000 in
theorem kE_900_181 : bSgk wd wx ctE_900 lk_900 tX12_post [] 57896044618710753882728178039239635995819985241820298752152771380188807168000 9000 (([nE_900_182] ++ (nT_900 ++ nC_900)).map nd0) (nd1 nE_900_181) = true := by decide +kernel
set_option maxRecDepth 100000 in
theorem kE_900_182 : bSgk wd wx ctE_900 lk_900 tX12_post [] 57896044618710753882728178039239635995819985241820298752152771380188807168000 9000 (([nE_900_183] ++ (nT_900 ++ nC_900)).map nd0) (nd1 nE_900_182) = true := by decide +kernel
set_option maxRecDepth 100000 in
theorem kE_900_183 : bSgk wd wx ctE_900 lk_900 tX12_post [] 57896044618710753882728178039239635995819985241820298752152771380188807168000 9000 (([nE_900_184] ++ (nT_900 ++ nC_900)).map nd0) (nd1 nE_900_183) = true := by decide +kernel
set_option maxRecDepth 100000 in
theorem kE_900_184 : bSgk wd wx ctE_900 lk_900 tX12_post [] 57896044618710753882728178039239635995819985241820298752152771380188807168000 9000 (([nE_900_185] ++ (nT_900 ++ nC_900)).map nd0) (nd1 nE_900_184) = true := by decide +kernel
set_option maxRecDepth 100000 in
theorem kE_900_185 : bSgk wd wx ctE_900 lk_900 tX12_post [] 57896044618710753882728178039239635995819985241820298752152771380188807168000 9000 (([nE_900_186] ++ (nT_900 ++ nC_900)).map nd0) (nd1 nE_900_185) = true := by decide +kernel
set_option maxRecDepth 100000 in
theorem kE_900_186 : bSgk wd wx ctE_900 lk_900 tX12_post [] 57896044618710753882728178039239635995819985241820298752152771380188807168000 9000 (([nE_900_187] ++ (nT_900 ++ nC_900)).map nd0) (nd1 nE_900_186) = true := by decide +kernel
set_option maxRecDepth 100000 in
theorem kE_900_187 : bSgk wd wx ctE_900 lk_900 tX12_post [] 57896044618710753882728178039239635995819985241820298752152771380188807168000 9000 (([nE_900_188] ++ (nT_900 ++ nC_900)).map nd0) (nd1 nE_900_187) = true := by decide +kernel
set_option maxRecDepth 100000 in
theorem kE_900_188 : bSgk wd wx ctE_900 lk_900 tX12_post [] 57896044618710753882728178039239635995819985241820298752152771380188807168000 9000 (([nE_900_189] ++ (nT_900 ++ nC_900)).map nd0) (nd1 nE_900_188) = true := by decide +kernel
set_option maxRecDepth 100000 in
theorem kE_900_189 : bSgk wd wx ctE_900 lk_900 tX12_post [] 57896044618710753882728178039239635995819985241820298752152771380188807168000 9000 (([nE_900_190] ++ (nT_900 ++ nC_900)).map nd0) (nd1 nE_900_189) = true := by decide +kernel
set_option maxRecDepth 100000 in
theorem kE_900_190 : bSgk wd wx ctE_900 lk_900 tX12_post [] 57896044618710753882728178039239635995819985241820298752152771380188807168000 9000 (([nE_900_191] ++ (nT_900 ++ nC_900)).map nd0) (nd1 nE_900_190) = true := by decide +kernel
set_option maxRecDepth 100000 in
theorem kE_900_191 : bSgk wd wx ctE_900 lk_900 tX12_post [] 57896044618710753882728178039239635995819985241820298752152771380188807168000 9000 (([nE_900_192] ++ (nT_900 ++ nC_900)).map nd0) (nd1 nE_900_191) = true := by decide +kernel
set_option maxRecDepth 100000 in
theorem kE_900_192 : bSgk wd wx ctE_900 lk_900 tX12_post [] 57896044618710753882728178039239635995819985241820298752152771380188807168000 9000 (([nE_900_193] ++ (nT_900 ++ nC_900)).map nd0) (nd1 nE_900_192) = true := by decide +kernel
set_option maxRecDepth 100000 in
theorem kE_900_193 : bSgk wd wx ctE_900 lk_900 tX12_post [] 57896044618710753882728178039239635995819985241820298752152771380188807168000 9000 (([nE_900_194] ++ (nT_900 ++ nC_900)).map nd0) (nd1 nE_900_193) = true := by decide +kernel
set_option maxRecDepth 100000 in
theorem kE_900_194 : bSgk wd wx ctE_900 lk_900 tX12_post [] 57896044618710753882728178039239635995819985241820298752152771380188807168000 9000 (([nE_900_195] ++ (nT_900 ++ nC_900)).map nd0) (nd1 nE_900_194) = true := by decide +kernel
set_option maxRecDepth 100000 in
theorem kE_900_195 : bSgk wd wx ctE_900 lk_900 tX12_post [] 57896044618710753882728178039239635995819985241820298752152771380188807168000 9000 (([nE_900_196] ++ (nT_900 ++ nC_900)).map nd0) (nd1 nE_900_195) = true := by decide +kernel
set_option maxRecDepth 100000 in
theorem kE_900_196 : bSgk wd wx ctE_900 lk_900 tX12_post [] 57896044618710753882728178039239635995819985241820298752152771380188807168000 9000 (([nE_900_197] ++ (nT_900 ++ nC_900)).map nd0) (nd1 nE_900_196) = true := by decide +kernel
set_option maxRecDepth 100000 in
theorem kE_900_197 : bSgk wd wx ctE_900 lk_900 tX12_post [] 57896044618710753882728178039239635995819985241820298752152771380188807168000 9000 (([nE_900_198] ++ (nT_900 ++ nC_900)).map nd0) (nd1 nE_900_197) = true := by decide +kernel
set_option maxRecDepth 100000 in
theorem kE_900_198 : bSgk wd wx ctE_900 lk_900 tX12_post [] 57896044618710753882728178039239635995819985241820298752152771380188807168000 9000 (([nE_900_199] ++ (nT_900 ++ nC_900)).map nd0) (nd1 nE_900_198) = true := by decide +kernel
set_option maxRecDepth 100000 in
theorem kE_900_199 : bSgk wd wx ctE_900 lk_900 tX12_post [] 57896044618710753882728178039239635995819985241820298752152771380188807168000 9000 (([nE_900_200] ++ (nT_900 ++ nC_900)).map nd0) (nd1 nE_900_199) = true := by decide +kernel
set_option maxRecDepth 100000 in
theorem kE_900_200 : bSgk wd wx ctE_900 lk_900 tX12_post [] 57896044618710753882728178039239635995819985241820298752152771380188807168000 9000 (([nE_900_201] ++ (nT_900 ++ nC_900)).map nd0) (nd1 nE_900_200) = true := by decide +kernel
set_option maxRecDepth 100000 in
theorem kE_900_201 : bSgk wd wx ctE_900 lk_900 tX12_post [] 57896044618710753882728178039239635995819985241820298752152771380188807168000 9000 (([nE_900_202] ++ (nT_900 ++ nC_900)).map nd0) (nd1 nE_900_201) = true := by decide +kernel
set_option maxRecDepth 100000 in
theorem kE_900_202 : bSgk wd wx ctE_900 lk_900 tX12_post [] 57896044618710753882728178039239635995819985241820298752152771380188807168000 9000 (([nE_900_203] ++ (nT_900 ++ nC_900)).map nd0) (nd1 nE_900_202) = true := by decide +kernel
set_option maxRecDepth 100000 in
theorem kE_900_203 : bSgk wd wx ctE_900 lk_900 tX12_post [] 57896044618710753882728178039239635995819985241820298752152771380188807168000 9000 (([nE_900_204] ++ (nT_900 ++ nC_900)).map nd0) (nd1 nE_900_203) = true := by decide +kernel
set_option maxRecDepth 100000 in
theorem kE_900_204 : bSgk wd wx ctE_900 lk_900 tX12_post [] 57896044618710753882728178039239635995819985241820298752152771380188807168000 9000 (([nE_900_205] ++ (nT_900 ++ nC_900)).map nd0) (nd1 nE_900_204) = true := by decide +kernel
set_option maxRecDepth 100000 in
theorem kE_900_205 : bSgk wd wx ctE_900 lk_900 tX12_post [] 57896044618710753882728178039239635995819985241820298752152771380188807168000 9000 (([nE_900_206] ++ (nT_900 ++ nC_900)).map nd0) (nd1 nE_900_205) = true := by decide +kernel
set_option maxRecDepth 100000 in
theorem kE_900_206 : bSgk wd wx ctE_900 lk_900 tX12_post [] 57896044618710753882728178039239635995819985241820298752152771380188807168000 9000 (([nE_900_207] ++ (nT_900 ++ nC_900)).map nd0) (nd1 nE_900_206) = true := by decide +kernel
set_option maxRecDepth 100000 in
theorem kE_900_207 : bSgk wd wx ctE_900 lk_900 tX12_post [] 57896044618710753882728178039239635995819985241820298752152771380188807168000 9000 (([nE_900_208] ++ (nT_900 ++ nC_900)).map nd0) (nd1 nE_900_207) = true := by decide +kernel
set_option maxRecDepth 100000 in
theorem kE_900_208 : bSgk wd wx ctE_900 lk_900 tX12_post [] 57896044618710753882728178039239635995819985241820298752152771380188807168000 9000 (([nE_900_209] ++ (nT_900 ++ nC_900)).map nd0) (nd1 nE_900_208) = true := by decide +kernel
set_option maxRecDepth 100000 in
theorem kE_900_209 : bSgk wd wx ctE_900 lk_900 tX12_post [] 57896044618710753882728178039239635995819985241820298752152771380188807168000 9000 (([nE_900_210] ++ (nT_900 ++ nC_900)).map nd0) (nd1 nE_900_209) = true := by decide +kernel
set_option maxRecDepth 100000 in
theorem kE_900_210 : bSgk wd wx ctE_900 lk_900 tX12_post [] 57896044618710753882728178039239635995819985241820298752152771380188807168000 9000 (([nE_900_211] ++ (nT_900 ++ nC_900)).map nd0) (nd1 nE_900_210) = true := by decide +kernel
set_option maxRecDepth 100000 in
theorem kE_900_211 : bSgk wd wx ctE_900 lk_900 tX12_post [] 57896044618710753882728178039239635995819985241820298752152771380188807168000 9000 (([nE_900_212] ++ (nT_900 ++ nC_900)).map nd0) (nd1 nE_900_211) = true := by decide +kernel
set_option maxRecDepth 100000 in
theorem kE_900_212 : bSgk wd wx ctE_900 lk_900 tX12_post [] 57896044618710753882728178039239635995819985241820298752152771380188807168000 9000 (([nE_900_213] ++ (nT_900 ++ nC_900)).map nd0) (nd1 nE_900_212) = true := by decide +kernel
set_option maxRecDepth 100000 in
theorem kE_900_213 : bSgk wd wx ctE_900 lk_900 tX12_post [] 57896044618710753882728178039239635995819985241820298752152771380188807168000 9000 (([nE_900_214] ++ (nT_900 ++ nC_900)).map nd0) (nd1 nE_900_213) = true := by decide +kernel
set_option maxRecDepth 100000 in
theorem kE_900_214 : bSgk wd wx ctE_900 lk_900 tX12_post [] 57896044618710753882728178039239635995819985241820298752152771380188807168000 9000 (([nE_900_215] ++ (nT_900 ++ nC_900)).map nd0) (nd1 nE_900_214) = true := by decide +kernel
set_option maxRecDepth 100000 in
theorem kE_900_215 : bSgk wd wx ctE_900 lk_900 tX12_post [] 57896044618710753882728178039239635995819985241820298752152771380188807168000 9000 (([nE_900_216] ++ (nT_900 ++ nC_900)).map nd0) (nd1 nE_900_215) = true := by decide +kernel
set_option maxRecDepth 100000 in
theorem kE_900_216 : bSgk wd wx ctE_900 lk_900 tX12_post [] 57896044618710753882728178039239635995819985241820298752152771380188807168000 9000 (([nE_900_217] ++ (nT_900 ++ nC_900)).map nd0) (nd1 nE_900_216) = true := by decide +kernel
set_option maxRecDepth 100000 in
theorem kE_900_217 : bSgk wd wx ctE_900 lk_900 tX12_post [] 57896044618710753882728178039239635995819985241820298752152771380188807168000 9000 (([nE_900_218] ++ (nT_900 ++ nC_900)).map nd0) (nd1 nE_900_217) = true := by decide +kernel
set_option maxRecDepth 100000 in
theorem kE_900_218 : bSgk wd wx ctE_900 lk_900 tX12_post [] 57896044618710753882728178039239635995819985241820298752152771380188807168000 9000 (([nE_900_219] ++ (nT_900 ++ nC_900)).map nd0) (nd1 nE_900_218) = true := by decide +kernel
set_option maxRecDepth 100000 in
theorem kE_900_219 : bSgk wd wx ctE_900 lk_900 tX12_post [] 57896044618710753882728178039239635995819985241820298752152771380188807168000 9000 (([nE_900_220] ++ (nT_900 ++ nC_900)).map nd0) (nd1 nE_900_219) = true := by decide +kernel
set_option maxRecDepth 100000 in
theorem kE_900_220 : bSgk wd wx ctE_900 lk_900 tX12_post [] 57896044618710753882728178039239635995819985241820298752152771380188807168000 9000 (([nE_900_221] ++ (nT_900 ++ nC_900)).map nd0) (nd1 nE_900_220) = true := by decide +kernel
set_option maxRecDepth 100000 in
theorem kE_900_221 : bSgk wd wx ctE_900 lk_900 tX12_post [] 57896044618710753882728178039239635995819985241820298752152771380188807168000 9000 (([nE_900_222] ++ (nT_900 ++ nC_900)).map nd0) (nd1 nE_900_221) = true := by decide +kernel
set_option maxRecDepth 100000 in
theorem kE_900_222 : bSgk wd wx ctE_900 lk_900 tX12_post [] 57896044618710753882728178039239635995819985241820298752152771380188807168000 9000 (([nE_900_223] ++ (nT_900 ++ nC_900)).map nd0) (nd1 nE_900_222) = true := by decide +kernel
set_option maxRecDepth 100000 in
theorem kE_900_223 : bSgk wd wx ctE_900 lk_900 tX12_post [] 57896044618710753882728178039239635995819985241820298752152771380188807168000 9000 (([nE_900_224] ++ (nT_900 ++ nC_900)).map nd0) (nd1 nE_900_223) = true := by decide +kernel
set_option maxRecDepth 100000 in
theorem kE_900_224 : bSgk wd wx ctE_900 lk_900 tX12_post [] 57896044618710753882728178039239635995819985241820298752152771380188807168000 9000 (([nE_900_225] ++ (nT_900 ++ nC_900)).map nd0) (nd1 nE_900_224) = true := by decide +kernel
set_option maxRecDepth 100000 in
theorem kE_900_225 : bSgk wd wx ctE_900 lk_900 tX12_post [] 57896044618710753882728178039239635995819985241820298752152771380188807168000 9000 (([nE_900_226] ++ (nT_900 ++ nC_900)).map nd0) (nd1 nE_900_225) = true := by decide +kernel
set_option maxRecDepth 100000 in
theorem kE_900_226 : bSgk wd wx ctE_900 lk_900 tX12_post [] 57896044618710753882728178039239635995819985241820298752152771380188807168000 9000 (([nE_900_227] ++ (nT_900 ++ nC_900)).map nd0) (nd1 nE_900_226) = true := by decide +kernel
set_option maxRecDepth 100000 in
theorem kE_900_227 : bSgk wd wx ctE_900 lk_900 tX12_post [] 57896044618710753882728178039239635995819985241820298752152771380188807168000 9000 (([nE_900_228] ++ (nT_900 ++ nC_900)).map nd0) (nd1 nE_900_227) = true := by decide +kernel
set_option maxRecDepth 100000 in
theorem kE_900_228 : bSgk wd wx ctE_900 lk_900 tX12_post [] 57896044618710753882728178039239635995819985241820298752152771380188807168000 9000 (([nE_900_229] ++ (nT_900 ++ nC_900)).map nd0) (nd1 nE_900_228) = true := by decide +kernel
set_option maxRecDepth 100000 in
theorem kE_900_229 : bSgk wd wx ctE_900 lk_900 tX12_post [] 57896044618710753882728178039239635995819985241820298752152771380188807168000 9000 (([nE_900_230] ++ (nT_900 ++ nC_900)).map nd0) (nd1 nE_900_229) = true := by decide +kernel
set_option maxRecDepth 100000 in
theorem kE_900_230 : bSgk wd wx ctE_900 lk_900 tX12_post [] 57896044618710753882728178039239635995819985241820298752152771380188807168000 9000 (([nE_900_231] ++ (nT_900 ++ nC_900)).map nd0) (nd1 nE_900_230) = true := by decide +kernel
set_option maxRecDepth 100000 in
theorem kE_900_231 : bSgk wd wx ctE_900 lk_900 tX12_post [] 57896044618710753882728178039239635995819985241820298752152771380188807168000 9000 (([nE_900_232] ++ (nT_900 ++ nC_900)).map nd0) (nd1 nE_900_231) = true := by decide +kernel
set_option maxRecDepth 100000 in
theorem kE_900_232 : bSgk wd wx ctE_900 lk_900 tX12_post [] 57896044618710753882728178039239635995819985241820298752152771380188807168000 9000 (([nE_900_233] ++ (nT_900 ++ nC_900)).map nd0) (nd1 nE_900_232) = true := by decide +kernel
set_option maxRecDepth 100000 in
theorem kE_900_233 : bSgk wd wx ctE_900 lk_900 tX12_post [] 57896044618710753882728178039239635995819985241820298752152771380188807168000 9000 (([nE_900_234] ++ (nT_900 ++ nC_900)).map nd0) (nd1 nE_900_233) = true := by decide +kernel
set_option maxRecDepth 100000 in
theorem kE_900_234 : bSgk wd wx ctE_900 lk_900 tX12_post [] 57896044618710753882728178039239635995819985241820298752152771380188807168000 9000 (([nE_900_235] ++ (nT_900 ++ nC_900)).map nd0) (nd1 nE_900_234) = true := by decide +kernel
set_option maxRecDepth 100000 in
theorem kE_900_235 : bSgk wd wx ctE_900 lk_900 tX12_post [] 57896044618710753882728178039239635995819985241820298752152771380188807168000 9000 (([nE_900_236] ++ (nT_900 ++ nC_900)).map nd0) (nd1 nE_900_235) = true := by decide +kernel
set_option maxRecDepth 100000 in
theorem kE_900_236 : bSgk wd wx ctE_900 lk_900 tX12_post [] 57896044618710753882728178039239635995819985241820298752152771380188807168000 9000 (([nE_900_237] ++ (nT_900 ++ nC_900)).map nd0) (nd1 nE_900_236) = true := by decide +kernel
set_option maxRecDepth 100000 in
theorem kE_900_237 : bSgk wd wx ctE_900 lk_900 tX12_post [] 57896044618710753882728178039239635995819985241820298752152771380188807168000 9000 (([nE_900_238] ++ (nT_900 ++ nC_900)).map nd0) (nd1 nE_900_237) = true := by decide +kernel
set_option maxRecDepth 100000 in
theorem kE_900_238 : bSgk wd wx ctE_900 lk_900 tX12_post [] 57896044618710753882728178039239635995819985241820298752152771380188807168000 9000 (([nE_900_239] ++ (nT_900 ++ nC_900)).map nd0) (nd1 nE_900_238) = true := by decide +kernel
set_option maxRecDepth 100000 in
theorem kE_900_239 : bSgk wd wx ctE_900 lk_900 tX12_post [] 57896044618710753882728178039239635995819985241820298752152771380188807168000 9000 (([nE_900_240] ++ (nT_900 ++ nC_900)).map nd0) (nd1 nE_900_239) = true := by decide +kernel
set_option maxRecDepth 100000 in
theorem kE_900_240 : bSgk wd wx ctE_900 lk_900 tX12_post [] 57896044618710753882728178039239635995819985241820298752152771380188807168000 9000 (([nE_900_241] ++ (nT_900 ++ nC_900)).map nd0) (nd1 nE_900_240) = true := by decide +kernel
set_option maxRecDepth 100000 in
theorem kE_900_241 : bSgk wd wx ctE_900 lk_900 tX12_post [] 57896044618710753882728178039239635995819985241820298752152771380188807168000 9000 (([nE_900_242] ++ (nT_900 ++ nC_900)).map nd0) (nd1 nE_900_241) = true := by decide +kernel
set_option maxRecDepth 100000 in
theorem kE_900_242 : bSgk wd wx ctE_900 lk_900 tX12_post [] 57896044618710753882728178039239635995819985241820298752152771380188807168000 9000 (([nE_900_243] ++ (nT_900 ++ nC_900)).map nd0) (nd1 nE_900_242) = true := by decide +kernel
set_option maxRecDepth 100000 in
theorem kE_900_243 : bSgk wd wx ctE_900 lk_900 tX12_post [] 57896044618710753882728178039239635995819985241820298752152771380188807168000 9000 (([nE_900_244] ++ (nT_900 ++ nC_900)).map nd0) (nd1 nE_900_243) = true := by decide +kernel
set_option maxRecDepth 100000 in
theorem kE_900_244 : bSgk wd wx ctE_900 lk_900 tX12_post [] 57896044618710753882728178039239635995819985241820298752152771380188807168000 9000 (([nE_900_245] ++ (nT_900 ++ nC_900)).map nd0) (nd1 nE_900_244) = true := by decide +kernel
set_option maxRecDepth 100000 in
theorem kE_900_245 : bSgk wd wx ctE_900 lk_900 tX12_post [] 57896044618710753882728178039239635995819985241820298752152771380188807168000 9000 (([nE_900_246] ++ (nT_900 ++ nC_900)).map nd0) (nd1 nE_900_245) = true := by decide +kernel
set_option maxRecDepth 100000 in
theorem kE_900_246 : bSgk wd wx ctE_900 lk_900 tX12_post [] 57896044618710753882728178039239635995819985241820298752152771380188807168000 9000 (([nE_900_247] ++ (nT_900 ++ nC_900)).map nd0) (nd1 nE_900_246) = true := by decide +kernel
set_option maxRecDepth 100000 in
theorem kE_900_247 : bSgk wd wx ctE_900 lk_900 tX12_post [] 57896044618710753882728178039239635995819985241820298752152771380188807168000 9000 (([nE_900_248] ++ (nT_900 ++ nC_900)).map nd0) (nd1 nE_900_247) = true := by decide +kernel
set_option maxRecDepth 100000 in
theorem kE_900_248 : bSgk wd wx ctE_900 lk_900 tX12_post [] 57896044618710753882728178039239635995819985241820298752152771380188807168000 9000 (([nE_900_249] ++ (nT_900 ++ nC_900)).map nd0) (nd1 nE_900_248) = true := by decide +kernel
set_option maxRecDepth 100000 in
theorem kE_900_249 : bSgk wd wx ctE_900 lk_900 tX12_post [] 57896044618710753882728178039239635995819985241820298752152771380188807168000 9000 (([nE_900_250] ++ (nT_900 ++ nC_900)).map nd0) (nd1 nE_900_249) = true := by decide +kernel
set_option maxRecDepth 100000 in
theorem kE_900_250 : bSgk wd wx ctE_900 lk_900 tX12_post [] 57896044618710753882728178039239635995819985241820298752152771380188807168000 9000 (([nE_900_251] ++ (nT_900 ++ nC_900)).map nd0) (nd1 nE_900_250) = true := by decide +kernel
set_option maxRecDepth 100000 in
theorem kE_900_251 : bSgk wd wx ctE_900 lk_900 tX12_post [] 57896044618710753882728178039239635995819985241820298752152771380188807168000 9000 (([nE_900_252] ++ (nT_900 ++ nC_900)).map nd0) (nd1 nE_900_251) = true := by decide +kernel
set_option maxRecDepth 100000 in
theorem kE_900_252 : bSgk wd wx ctE_900 lk_900 tX12_post [] 57896044618710753882728178039239635995819985241820298752152771380188807168000 9000 (([nE_900_253] ++ (nT_900 ++ nC_900)).map nd0) (nd1 nE_900_252) = true := by decide +kernel
set_option maxRecDepth 100000 in
theorem kE_900_253 : bSgk wd wx ctE_900 lk_900 tX12_post [] 57896044618710753882728178039239635995819985241820298752152771380188807168000 9000 (([nE_900_254] ++ (nT_900 ++ nC_900)).map nd0) (nd1 nE_900_253) = true := by decide +kernel
set_option maxRecDepth 100000 in
theorem kE_900_254 : bSgk wd wx ctE_900 lk_900 tX12_post [] 57896044618710753882728178039239635995819985241820298752152771380188807168000 9000 (([nE_900_255] ++ (nT_900 ++ nC_900)).map nd0) (nd1 nE_900_254) = true := by decide +kernel
set_option maxRecDepth 100000 in
theorem kE_900_255 : bSgk wd wx ctE_900 lk_900 tX12_post [] 57896044618710753882728178039239635995819985241820298752152771380188807168000 9000 (([nE_900_256] ++ (nT_900 ++ nC_900)).map nd0) (nd1 nE_900_255) = true := by decide +kernel
set_option maxRecDepth 100000 in
theorem kE_900_256 : bSgk wd wx ctE_900 lk_900 tX12_post [] 57896044618710753882728178039239635995819985241820298752152771380188807168000 9000 (([nE_900_257] ++ (nT_900 ++ nC_900)).map nd0) (nd1 nE_900_256) = true := by decide +kernel
set_option maxRecDepth 100000 in
theorem kE_900_257 : bSgk wd wx ctE_900 lk_900 tX12_post [] 57896044618710753882728178039239635995819985241820298752152771380188807168000 9000 (([nE_900_258] ++ (nT_900 ++ nC_900)).map nd0) (nd1 nE_900_257) = true := by decide +kernel
set_option maxRecDepth 100000 in
theorem kE_900_258 : bSgk wd wx ctE_900 lk_900 tX12_post [] 57896044618710753882728178039239635995819985241820298752152771380188807168000 9000 (([nE_900_259] ++ (nT_900 ++ nC_900)).map nd0) (nd1 nE_900_258) = true := by decide +kernel
set_option maxRecDepth 100000 in
theorem kE_900_259 : bSgk wd wx ctE_900 lk_900 tX12_post [] 57896044618710753882728178039239635995819985241820298752152771380188807168000 9000 (([nE_900_260] ++ (nT_900 ++ nC_900)).map nd0) (nd1 nE_900_259) = true := by decide +kernel
set_option maxRecDepth 100000 in
theorem kE_900_260 : bSgk wd wx ctE_900 lk_900 tX12_post [] 57896044618710753882728178039239635995819985241820298752152771380188807168000 9000 (([nE_900_261] ++ (nT_900 ++ nC_900)).map nd0) (nd1 nE_900_260) = true := by decide +kernel
set_option maxRecDepth 100000 in
theorem kE_900_261 : bSgk wd wx ctE_900 lk_900 tX12_post [] 57896044618710753882728178039239635995819985241820298752152771380188807168000 9000 (([nE_900_262] ++ (nT_900 ++ nC_900)).map nd0) (nd1 nE_900_261) = true := by decide +kernel
set_option maxRecDepth 100000 in
theorem kE_900_262 : bSgk wd wx ctE_900 lk_900 tX12_post [] 57896044618710753882728178039239635995819985241820298752152771380188807168000 9000 (([nE_900_263] ++ (nT_900 ++ nC_900)).map nd0) (nd1 nE_900_262) = true := by decide +kernel
set_option maxRecDepth 100000 in
theorem kE_900_263 : bSgk wd wx ctE_900 lk_900 tX12_post [] 57896044618710753882728178039239635995819985241820298752152771380188807168000 9000 (([nE_900_264] ++ (nT_900 ++ nC_900)).map nd0) (nd1 nE_900_263) = true := by decide +kernel
set_option maxRecDepth 100000 in
theorem kE_900_264 : bSgk wd wx ctE_900 lk_900 tX12_post [] 57896044618710753882728178039239635995819985241820298752152771380188807168000 9000 (([nE_900_265] ++ (nT_900 ++ nC_900)).map nd0) (nd1 nE_900_264) = true := by decide +kernel
set_option maxRecDepth 100000 in
theorem kE_900_265 : bSgk wd wx ctE_900 lk_900 tX12_post [] 57896044618710753882728178039239635995819985241820298752152771380188807168000 9000 (([nE_900_266] ++ (nT_900 ++ nC_900)).map nd0) (nd1 nE_900_265) = true := by decide +kernel
set_option maxRecDepth 100000 in
theorem kE_900_266 : bSgk wd wx ctE_900 lk_900 tX12_post [] 57896044618710753882728178039239635995819985241820298752152771380188807168000 9000 (([nE_900_267] ++ (nT_900 ++ nC_900)).map nd0) (nd1 nE_900_266) = true := by decide +kernel
set_option maxRecDepth 100000 in
theorem kE_900_267 : bSgk wd wx ctE_900 lk_900 tX12_post [] 57896044618710753882728178039239635995819985241820298752152771380188807168000 9000 (([nE_900_268] ++ (nT_900 ++ nC_900)).map nd0) (nd1 nE_900_267) = true := by decide +kernel
set_option maxRecDepth 100000 in
theorem kE_900_268 : bSgk wd wx ctE_900 lk_900 tX12_post [] 57896044618710753882728178039239635995819985241820298752152771380188807168000 9000 (([nE_900_269] ++ (nT_900 ++ nC_900)).map nd0) (nd1 nE_900_268) = true := by decide +kernel
set_option maxRecDepth 100000 in
theorem kE_900_269 : bSgk wd wx ctE_900 lk_900 tX12_post [] 57896044618710753882728178039239635995819985241820298752152771380188807168000 9000 (([nE_900_270] ++ (nT_900 ++ nC_900)).map nd0) (nd1 nE_900_269) = true := by decide +kernel
set_option maxRecDepth 100000 in
theorem kE_900_270 : bSgk wd wx ctE_900 lk_900 tX12_post [] 57896044618710753882728178039239635995819985241820298752152771380188807168000 9000 (([nE_900_271] ++ (nT_900 ++ nC_900)).map nd0) (nd1 nE_900_270) = true := by decide +kernel
set_option maxRecDepth 100000 in
theorem kE_900_271 : bSgk wd wx ctE_900 lk_900 tX12_post [] 57896044618710753882728178039239635995819985241820298752152771380188807168000 9000 (([nE_900_272] ++ (nT_900 ++ nC_900)).map nd0) (nd1 nE_900_271) = true := by decide +kernel
set_option maxRecDepth 100000 in
theorem kE_900_272 : bSgk wd wx ctE_900 lk_900 tX12_post [] 57896044618710753882728178039239635995819985241820298752152771380188807168000 9000 (([nE_900_273] ++ (nT_900 ++ nC_900)).map nd0) (nd1 nE_900_272) = true := by decide +kernel
set_option maxRecDepth 100000 in
theorem kE_900_273 : bSgk wd wx ctE_900 lk_900 tX12_post [] 57896044618710753882728178039239635995819985241820298752152771380188807168000 9000 (([nE_900_274] ++ (nT_900 ++ nC_900)).map nd0) (nd1 nE_900_273) = true := by decide +kernel
set_option maxRecDepth 100000 in
theorem kE_900_274 : bSgk wd wx ctE_900 lk_900 tX12_post [] 57896044618710753882728178039239635995819985241820298752152771380188807168000 9000 (([nE_900_275] ++ (nT_900 ++ nC_900)).map nd0) (nd1 nE_900_274) = true := by decide +kernel
set_option maxRecDepth 100000 in
theorem kE_900_275 : bSgk wd wx ctE_900 lk_900 tX12_post [] 57896044618710753882728178039239635995819985241820298752152771380188807168000 9000 (([nE_900_276] ++ (nT_900 ++ nC_900)).map nd0) (nd1 nE_900_275) = true := by decide +kernel
set_option maxRecDepth 100000 in
theorem kE_900_276 : bSgk wd wx ctE_900 lk_900 tX12_post [] 57896044618710753882728178039239635995819985241820298752152771380188807168000 9000 (([nE_900_277] ++ (nT_900 ++ nC_900)).map nd0) (nd1 nE_900_276) = true := by decide +kernel
set_option maxRecDepth 100000 in
theorem kE_900_277 : bSgk wd wx ctE_900 lk_900 tX12_post [] 57896044618710753882728178039239635995819985241820298752152771380188807168000 9000 (([nE_900_278] ++ (nT_900 ++ nC_900)).map nd0) (nd1 nE_900_277) = true := by decide +kernel
set_option maxRecDepth 100000 in
theorem kE_900_278 : bSgk wd wx ctE_900 lk_900 tX12_post [] 57896044618710753882728178039239635995819985241820298752152771380188807168000 9000 (([nE_900_279] ++ (nT_900 ++ nC_900)).map nd0) (nd1 nE_900_278) = true := by decide +kernel
set_option maxRecDepth 100000 in
theorem kE_900_279 : bSgk wd wx ctE_900 lk_900 tX12_post [] 57896044618710753882728178039239635995819985241820298752152771380188807168000 9000 (([nE_900_280] ++ (nT_900 ++ nC_900)).map nd0) (nd1 nE_900_279) = true := by decide +kernel
set_option maxRecDepth 100000 in
theorem kE_900_280 : bSgk wd wx ctE_900 lk_900 tX12_post [] 57896044618710753882728178039239635995819985241820298752152771380188807168000 9000 (([nE_900_281] ++ (nT_900 ++ nC_900)).map nd0) (nd1 nE_900_280) = true := by decide +kernel
set_option maxRecDepth 100000 in
theorem kE_900_281 : bSgk wd wx ctE_900 lk_900 tX12_post [] 57896044618710753882728178039239635995819985241820298752152771380188807168000 9000 (([nE_900_282] ++ (nT_900 ++ nC_900)).map nd0) (nd1 nE_900_281) = true := by decide +kernel
set_option maxRecDepth 100000 in
theorem kE_900_282 : bSgk wd wx ctE_900 lk_900 tX12_post [] 57896044618710753882728178039239635995819985241820298752152771380188807168000 9000 (([nE_900_283] ++ (nT_900 ++ nC_900)).map nd0) (nd1 nE_900_282) = true := by decide +kernel
set_option maxRecDepth 100000 in
theorem kE_900_283 : bSgk wd wx ctE_900 lk_900 tX12_post [] 57896044618710753882728178039239635995819985241820298752152771380188807168000 9000 (([nE_900_284] ++ (nT_900 ++ nC_900)).map nd0) (nd1 nE_900_283) = true := by decide +kernel
set_option maxRecDepth 100000 in
theorem kE_900_284 : bSgk wd wx ctE_900 lk_900 tX12_post [] 57896044618710753882728178039239635995819985241820298752152771380188807168000 9000 (([nE_900_285] ++ (nT_900 ++ nC_900)).map nd0) (nd1 nE_900_284) = true := by decide +kernel
set_option maxRecDepth 100000 in
theorem kE_900_285 : bSgk wd wx ctE_900 lk_900 tX12_post [] 57896044618710753882728178039239635995819985241820298752152771380188807168000 9000 (([nE_900_286] ++ (nT_900 ++ nC_900)).map nd0) (nd1 nE_900_285) = true := by decide +kernel
set_option maxRecDepth 100000 in
theorem kE_900_286 : bSgk wd wx ctE_900 lk_900 tX12_post [] 57896044618710753882728178039239635995819985241820298752152771380188807168000 9000 (([nE_900_287] ++ (nT_900 ++ nC_900)).map nd0) (nd1 nE_900_286) = true := by decide +kernel
set_option maxRecDepth 100000 in
theorem kE_900_287 : bSgk wd wx ctE_900 lk_900 tX12_post [] 57896044618710753882728178039239635995819985241820298752152771380188807168000 9000 (([nE_900_288] ++ (nT_900 ++ nC_900)).map nd0) (nd1 nE_900_287) = true := by decide +kernel
set_option maxRecDepth 100000 in
theorem kE_900_288 : bSgk wd wx ctE_900 lk_900 tX12_post [] 57896044618710753882728178039239635995819985241820298752152771380188807168000 9000 (([nE_900_289] ++ (nT_900 ++ nC_900)).map nd0) (nd1 nE_900_288) = true := by decide +kernel
set_option maxRecDepth 100000 in
theorem kE_900_289 : bSgk wd wx ctE_900 lk_900 tX12_post [] 57896044618710753882728178039239635995819985241820298752152771380188807168000 9000 (([nE_900_290] ++ (nT_900 ++ nC_900)).map nd0) (nd1 nE_900_289) = true := by decide +kernel
set_option maxRecDepth 100000 in
theorem kE_900_290 : bSgk wd wx ctE_900 lk_900 tX12_post [] 57896044618710753882728178039239635995819985241820298752152771380188807168000 9000 (([nE_900_291] ++ (nT_900 ++ nC_900)).map nd0) (nd1 nE_900_290) = true := by decide +kernel
set_option maxRecDepth 100000 in
theorem kE_900_291 : bSgk wd wx ctE_900 lk_900 tX12_post [] 57896044618710753882728178039239635995819985241820298752152771380188807168000 9000 (([nE_900_292] ++ (nT_900 ++ nC_900)).map nd0) (nd1 nE_900_291) = true := by decide +kernel
set_option maxRecDepth 100000 in
theorem kE_900_292 : bSgk wd wx ctE_900 lk_900 tX12_post [] 57896044618710753882728178039239635995819985241820298752152771380188807168000 9000 (([nE_900_293] ++ (nT_900 ++ nC_900)).map nd0) (nd1 nE_900_292) = true := by decide +kernel
set_option maxRecDepth 100000 in
theorem kE_900_293 : bSgk wd wx ctE_900 lk_900 tX12_post [] 57896044618710753882728178039239635995819985241820298752152771380188807168000 9000 (([nE_900_294] ++ (nT_900 ++ nC_900)).map nd0) (nd1 nE_900_293) = true := by decide +kernel
set_option maxRecDepth 100000 in
theorem kE_900_294 : bSgk wd wx ctE_900 lk_900 tX12_post [] 57896044618710753882728178039239635995819985241820298752152771380188807168000 9000 (([nE_900_295] ++ (nT_900 ++ nC_900)).map nd0) (nd1 nE_900_294) = true := by decide +kernel
set_option maxRecDepth 100000 in
theorem kE_900_295 : bSgk wd wx ctE_900 lk_900 tX12_post [] 57896044618710753882728178039239635995819985241820298752152771380188807168000 9000 (([nE_900_296] ++ (nT_900 ++ nC_900)).map nd0) (nd1 nE_900_295) = true := by decide +kernel
set_option maxRecDepth 100000 in
theorem kE_900_296 : bSgk wd wx ctE_900 lk_900 tX12_post [] 57896044618710753882728178039239635995819985241820298752152771380188807168000 9000 (([nE_900_297] ++ (nT_900 ++ nC_900)).map nd0) (nd1 nE_900_296) = true := by decide +kernel
set_option maxRecDepth 100000 in
theorem kE_900_297 : bSgk wd wx ctE_900 lk_900 tX12_post [] 57896044618710753882728178039239635995819985241820298752152771380188807168000 9000 (([nE_900_298] ++ (nT_900 ++ nC_900)).map nd0) (nd1 nE_900_297) = true := by decide +kernel
set_option maxRecDepth 100000 in
theorem kE_900_298 : bSgk wd wx ctE_900 lk_900 tX12_post [] 57896044618710753882728178039239635995819985241820298752152771380188807168000 9000 (([nE_900_299] ++ (nT_900 ++ nC_900)).map nd0) (nd1 nE_900_298) = true := by decide +kernel
set_option maxRecDepth 100000 in
theorem kE_900_299 : bSgk wd wx ctE_900 lk_900 tX12_post [] 57896044618710753882728178039239635995819985241820298752152771380188807168000 9000 (([nE_900_300] ++ (nT_900 ++ nC_900)).map nd0) (nd1 nE_900_299) = true := by decide +kernel
set_option maxRecDepth 100000 in
theorem kE_900_300 : bSgk wd wx ctE_900 lk_900 tX12_post [] 57896044618710753882728178039239635995819985241820298752152771380188807168000 9000 (([nE_900_301] ++ (nT_900 ++ nC_900)).map nd0) (nd1 nE_900_300) = true := by decide +kernel
set_option maxRecDepth 100000 in
theorem kE_900_301 : bSgk wd wx ctE_900 lk_900 tX12_post [] 57896044618710753882728178039239635995819985241820298752152771380188807168000 9000 (([nE_900_302] ++ (nT_900 ++ nC_900)).map nd0) (nd1 nE_900_301) = true := by decide +kernel
set_option maxRecDepth 100000 in
theorem kE_900_302 : bSgk wd wx ctE_900 lk_900 tX12_post [] 57896044618710753882728178039239635995819985241820298752152771380188807168000 9000 (([nE_900_303] ++ (nT_900 ++ nC_900)).map nd0) (nd1 nE_900_302) = true := by decide +kernel
set_option maxRecDepth 100000 in
theorem kE_900_303 : bSgk wd wx ctE_900 lk_900 tX12_post [] 57896044618710753882728178039239635995819985241820298752152771380188807168000 9000 (([nE_900_304] ++ (nT_900 ++ nC_900)).map nd0) (nd1 nE_900_303) = true := by decide +kernel
set_option maxRecDepth 100000 in
theorem kE_900_304 : bSgk wd wx ctE_900 lk_900 tX12_post [] 57896044618710753882728178039239635995819985241820298752152771380188807168000 9000 (([nE_900_305] ++ (nT_900 ++ nC_900)).map nd0) (nd1 nE_900_304) = true := by decide +kernel
set_option maxRecDepth 100000 in
theorem kE_900_305 : bSgk wd wx ctE_900 lk_900 tX12_post [] 57896044618710753882728178039239635995819985241820298752152771380188807168000 9000 (([nE_900_306] ++ (nT_900 ++ nC_900)).map nd0) (nd1 nE_900_305) = true := by decide +kernel
set_option maxRecDepth 100000 in
theorem kE_900_306 : bSgk wd wx ctE_900 lk_900 tX12_post [] 57896044618710753882728178039239635995819985241820298752152771380188807168000 9000 (([nE_900_307] ++ (nT_900 ++ nC_900)).map nd0) (nd1 nE_900_306) = true := by decide +kernel
set_option maxRecDepth 100000 in
theorem kE_900_307 : bSgk wd wx ctE_900 lk_900 tX12_post [] 57896044618710753882728178039239635995819985241820298752152771380188807168000 9000 (([nE_900_308] ++ (nT_900 ++ nC_900)).map nd0) (nd1 nE_900_307) = true := by decide +kernel
set_option maxRecDepth 100000 in
theorem kE_900_308 : bSgk wd wx ctE_900 lk_900 tX12_post [] 57896044618710753882728178039239635995819985241820298752152771380188807168000 9000 (([nE_900_309] ++ (nT_900 ++ nC_900)).map nd0) (nd1 nE_900_308) = true := by decide +kernel
set_option maxRecDepth 100000 in
theorem kE_900_309 : bSgk wd wx ctE_900 lk_900 tX12_post [] 57896044618710753882728178039239635995819985241820298752152771380188807168000 9000 (([nE_900_310] ++ (nT_900 ++ nC_900)).map nd0) (nd1 nE_900_309) = true := by decide +kernel
set_option maxRecDepth 100000 in
theorem kE_900_310 : bSgk wd wx ctE_900 lk_900 tX12_post [] 57896044618710753882728178039239635995819985241820298752152771380188807168000 9000 (([nE_900_311] ++ (nT_900 ++ nC_900)).map nd0) (nd1 nE_900_310) = true := by decide +kernel
set_option maxRecDepth 100000 in
theorem kE_900_311 : bSgk wd wx ctE_900 lk_900 tX12_post [] 57896044618710753882728178039239635995819985241820298752152771380188807168000 9000 (([nE_900_312] ++ (nT_900 ++ nC_900)).map nd0) (nd1 nE_900_311) = true := by decide +kernel
set_option maxRecDepth 100000 in
theorem kE_900_312 : bSgk wd wx ctE_900 lk_900 tX12_post [] 57896044618710753882728178039239635995819985241820298752152771380188807168000 9000 (([nE_900_313] ++ (nT_900 ++ nC_900)).map nd0) (nd1 nE_900_312) = true := by decide +kernel
set_option maxRecDepth 100000 in
theorem kE_900_313 : bSgk wd wx ctE_900 lk_900 tX12_post [] 57896044618710753882728178039239635995819985241820298752152771380188807168000 9000 (([nE_900_314] ++ (nT_900 ++ nC_900)).map nd0) (nd1 nE_900_313) = true := by decide +kernel
set_option maxRecDepth 100000 in
theorem kE_900_314 : bSgk wd wx ctE_900 lk_900 tX12_post [] 57896044618710753882728178039239635995819985241820298752152771380188807168000 9000 (([nE_900_315] ++ (nT_900 ++ nC_900)).map nd0) (nd1 nE_900_314) = true := by decide +kernel
set_option maxRecDepth 100000 in
theorem kE_900_315 : bSgk wd wx ctE_900 lk_900 tX12_post [] 57896044618710753882728178039239635995819985241820298752152771380188807168000 9000 (([nE_900_316] ++ (nT_900 ++ nC_900)).map nd0) (nd1 nE_900_315) = true := by decide +kernel
set_option maxRecDepth 100000 in
theorem kE_900_316 : bSgk wd wx ctE_900 lk_900 tX12_post [] 57896044618710753882728178039239635995819985241820298752152771380188807168000 9000 (([nE_900_317] ++ (nT_900 ++ nC_900)).map nd0) (nd1 nE_900_316) = true := by decide +kernel
set_option maxRecDepth 100000 in
theorem kE_900_317 : bSgk wd wx ctE_900 lk_900 tX12_post [] 57896044618710753882728178039239635995819985241820298752152771380188807168000 9000 (([nE_900_318] ++ (nT_900 ++ nC_900)).map nd0) (nd1 nE_900_317) = true := by decide +kernel
set_option maxRecDepth 100000 in
theorem kE_900_318 : bSgk wd wx ctE_900 lk_900 tX12_post [] 57896044618710753882728178039239635995819985241820298752152771380188807168000 9000 (([nE_900_319] ++ (nT_900 ++ nC_900)).map nd0) (nd1 nE_900_318) = true := by decide +kernel
set_option maxRecDepth 100000 in
theorem kE_900_319 : bSgk wd wx ctE_900 lk_900 tX12_post [] 57896044618710753882728178039239635995819985241820298752152771380188807168000 9000 (([nE_900_320] ++ (nT_900 ++ nC_900)).map nd0) (nd1 nE_900_319) = true := by decide +kernel
set_option maxRecDepth 100000 in
theorem kE_900_320 : bSgk wd wx ctE_900 lk_900 tX12_post [] 57896044618710753882728178039239635995819985241820298752152771380188807168000 9000 (([nE_900_321] ++ (nT_900 ++ nC_900)).map nd0) (nd1 nE_900_320) = true := by decide +kernel
set_option maxRecDepth 100000 in
theorem kE_900_321 : bSgk wd wx ctE_900 lk_900 tX12_post [] 57896044618710753882728178039239635995819985241820298752152771380188807168000 9000 (([nE_900_322] ++ (nT_900 ++ nC_900)).map nd0) (nd1 nE_900_321) = true := by decide +kernel
set_option maxRecDepth 100000 in
theorem kE_900_322 : bSgk wd wx ctE_900 lk_900 tX12_post [] 57896044618710753882728178039239635995819985241820298752152771380188807168000 9000 (([nE_900_323] ++ (nT_900 ++ nC_900)).map nd0) (nd1 nE_900_322) = true := by decide +kernel
set_option maxRecDepth 100000 in
theorem kE_900_323 : bSgk wd wx ctE_900 lk_900 tX12_post [] 57896044618710753882728178039239635995819985241820298752152771380188807168000 9000 (([nE_900_324] ++ (nT_900 ++ nC_900)).map nd0) (nd1 nE_900_323) = true := by decide +kernel
set_option maxRecDepth 100000 in
theorem kE_900_324 : bSgk wd wx ctE_900 lk_900 tX12_post [] 57896044618710753882728178039239635995819985241820298752152771380188807168000 9000 (([nE_900_325] ++ (nT_900 ++ nC_900)).map nd0) (nd1 nE_900_324) = true := by decide +kernel
set_option maxRecDepth 100000 in
theorem kE_900_325 : bSgk wd wx ctE_900 lk_900 tX12_post [] 57896044618710753882728178039239635995819985241820298752152771380188807168000 9000 (([nE_900_326] ++ (nT_900 ++ nC_900)).map nd0) (nd1 nE_900_325) = true := by decide +kernel
set_option maxRecDepth 100000 in
theorem kE_900_326 : bSgk wd wx ctE_900 lk_900 tX12_post [] 57896044618710753882728178039239635995819985241820298752152771380188807168000 9000 (([nE_900_327] ++ (nT_900 ++ nC_900)).map nd0) (nd1 nE_900_326) = true := by decide +kernel
set_option maxRecDepth 100000 in
theorem kE_900_327 : bSgk wd wx ctE_900 lk_900 tX12_post [] 57896044618710753882728178039239635995819985241820298752152771380188807168000 9000 (([nE_900_328] ++ (nT_900 ++ nC_900)).map nd0) (nd1 nE_900_327) = true := by decide +kernel
set_option maxRecDepth 100000 in
theorem kE_900_328 : bSgk wd wx ctE_900 lk_900 tX12_post [] 57896044618710753882728178039239635995819985241820298752152771380188807168000 9000 (([nE_900_329] ++ (nT_900 ++ nC_900)).map nd0) (nd1 nE_900_328) = true := by decide +kernel
set_option maxRecDepth 100000 in
theorem kE_900_329 : bSgk wd wx ctE_900 lk_900 tX12_post [] 57896044618710753882728178039239635995819985241820298752152771380188807168000 9000 (([nE_900_330] ++ (nT_900 ++ nC_900)).map nd0) (nd1 nE_900_329) = true := by decide +kernel
set_option maxRecDepth 100000 in
theorem kE_900_330 : bSgk wd wx ctE_900 lk_900 tX12_post [] 57896044618710753882728178039239635995819985241820298752152771380188807168000 9000 (([nE_900_331] ++ (nT_900 ++ nC_900)).map nd0) (nd1 nE_900_330) = true := by decide +kernel
set_option maxRecDepth 100000 in
theorem kE_900_331 : bSgk wd wx ctE_900 lk_900 tX12_post [] 57896044618710753882728178039239635995819985241820298752152771380188807168000 9000 (([nE_900_332] ++ (nT_900 ++ nC_900)).map nd0) (nd1 nE_900_331) = true := by decide +kernel
set_option maxRecDepth 100000 in
theorem kE_900_332 : bSgk wd wx ctE_900 lk_900 tX12_post [] 57896044618710753882728178039239635995819985241820298752152771380188807168000 9000 (([nE_900_333] ++ (nT_900 ++ nC_900)).map nd0) (nd1 nE_900_332) = true := by decide +kernel
set_option maxRecDepth 100000 in
theorem kE_900_333 : bSgk wd wx ctE_900 lk_900 tX12_post [] 57896044618710753882728178039239635995819985241820298752152771380188807168000 9000 (([nE_900_334] ++ (nT_900 ++ nC_900)).map nd0) (nd1 nE_900_333) = true := by decide +kernel
set_option maxRecDepth 100000 in
theorem kE_900_334 : bSgk wd wx ctE_900 lk_900 tX12_post [] 57896044618710753882728178039239635995819985241820298752152771380188807168000 9000 (([nE_900_335] ++ (nT_900 ++ nC_900)).map nd0) (nd1 nE_900_334) = true := by decide +kernel
set_option maxRecDepth 100000 in
theorem kE_900_335 : bSgk wd wx ctE_900 lk_900 tX12_post [] 57896044618710753882728178039239635995819985241820298752152771380188807168000 9000 (([nE_900_336] ++ (nT_900 ++ nC_900)).map nd0) (nd1 nE_900_335) = true := by decide +kernel
set_option maxRecDepth 100000 in
theorem kE_900_336 : bSgk wd wx ctE_900 lk_900 tX12_post [] 57896044618710753882728178039239635995819985241820298752152771380188807168000 9000 (([nE_900_337] ++ (nT_900 ++ nC_900)).map nd0) (nd1 nE_900_336) = true := by decide +kernel
set_option maxRecDepth 100000 in
theorem kE_900_337 : bSgk wd wx ctE_900 lk_900 tX12_post [] 57896044618710753882728178039239635995819985241820298752152771380188807168000 9000 (([nE_900_338] ++ (nT_900 ++ nC_900)).map nd0) (nd1 nE_900_337) = true := by decide +kernel
set_option maxRecDepth 100000 in
theorem kE_900_338 : bSgk wd wx ctE_900 lk_900 tX12_post [] 57896044618710753882728178039239635995819985241820298752152771380188807168000 9000 (([nE_900_339] ++ (nT_900 ++ nC_900)).map nd0) (nd1 nE_900_338) = true := by decide +kernel
set_option maxRecDepth 100000 in
theorem kE_900_339 : bSgk wd wx ctE_900 lk_900 tX12_post [] 57896044618710753882728178039239635995819985241820298752152771380188807168000 9000 (([nE_900_340] ++ (nT_900 ++ nC_900)).map nd0) (nd1 nE_900_339) = true := by decide +kernel
set_option maxRecDepth 100000 in
theorem kE_900_340 : bSgk wd wx ctE_900 lk_900 tX12_post [] 57896044618710753882728178039239635995819985241820298752152771380188807168000 9000 (([nE_900_341] ++ (nT_900 ++ nC_900)).map nd0) (nd1 nE_900_340) = true := by decide +kernel
set_option maxRecDepth 100000 in
theorem kE_900_341 : bSgk wd wx ctE_900 lk_900 tX12_post [] 57896044618710753882728178039239635995819985241820298752152771380188807168000 9000 (([nE_900_342] ++ (nT_900 ++ nC_900)).map nd0) (nd1 nE_900_341) = true := by decide +kernel
set_option maxRecDepth 100000 in
theorem kE_900_342 : bSgk wd wx ctE_900 lk_900 tX12_post [] 57896044618710753882728178039239635995819985241820298752152771380188807168000 9000 (([nE_900_343] ++ (nT_900 ++ nC_900)).map nd0) (nd1 nE_900_342) = true := by decide +kernel
set_option maxRecDepth 100000 in
theorem kE_900_343 : bSgk wd wx ctE_900 lk_900 tX12_post [] 57896044618710753882728178039239635995819985241820298752152771380188807168000 9000 (([nE_900_344] ++ (nT_900 ++ nC_900)).map nd0) (nd1 nE_900_343) = true := by decide +kernel
set_option maxRecDepth 100000 in
theorem kE_900_344 : bSgk wd wx ctE_900 lk_900 tX12_post [] 57896044618710753882728178039239635995819985241820298752152771380188807168000 9000 (([nE_900_345] ++ (nT_900 ++ nC_900)).map nd0) (nd1 nE_900_344) = true := by decide +kernel
set_option maxRecDepth 100000 in
theorem kE_900_345 : bSgk wd wx ctE_900 lk_900 tX12_post [] 57896044618710753882728178039239635995819985241820298752152771380188807168000 9000 (([nE_900_346] ++ (nT_900 ++ nC_900)).map nd0) (nd1 nE_900_345) = true := by decide +kernel
set_option maxRecDepth 100000 in
theorem kE_900_346 : bSgk wd wx ctE_900 lk_900 tX12_post [] 57896044618710753882728178039239635995819985241820298752152771380188807168000 9000 (([nE_900_347] ++ (nT_900 ++ nC_900)).map nd0) (nd1 nE_900_346) = true := by decide +kernel
set_option maxRecDepth 100000 in
theorem kE_900_347 : bSgk wd wx ctE_900 lk_900 tX12_post [] 57896044618710753882728178039239635995819985241820298752152771380188807168000 9000 (([nE_900_348] ++ (nT_900 ++ nC_900)).map nd0) (nd1 nE_900_347) = true := by decide +kernel
set_option maxRecDepth 100000 in
theorem kE_900_348 : bSgk wd wx ctE_900 lk_900 tX12_post [] 57896044618710753882728178039239635995819985241820298752152771380188807168000 9000 (([nE_900_349] ++ (nT_900 ++ nC_900)).map nd0) (nd1 nE_900_348) = true := by decide +kernel
set_option maxRecDepth 100000 in
theorem kE_900_349 : bSgk wd wx ctE_900 lk_900 tX12_post [] 57896044618710753882728178039239635995819985241820298752152771380188807168000 9000 (([nE_900_350] ++ (nT_900 ++ nC_900)).map nd0) (nd1 nE_900_349) = true := by decide +kernel
set_option maxRecDepth 100000 in
theorem kE_900_350 : bSgk wd wx ctE_900 lk_900 tX12_post [] 57896044618710753882728178039239635995819985241820298752152771380188807168000 9000 (([nE_900_351] ++ (nT_900 ++ nC_900)).map nd0) (nd1 nE_900_350) = true := by decide +kernel
set_option maxRecDepth 100000 in
theorem kE_900_351 : bSgk wd wx ctE_900 lk_900 tX12_post [] 57896044618710753882728178039239635995819985241820298752152771380188807168000 9000 (([nE_900_352] ++ (nT_900 ++ nC_900)).map nd0) (nd1 nE_900_351) = true := by decide +kernel
set_option maxRecDepth 100000 in
theorem kE_900_352 : bSgk wd wx ctE_900 lk_900 tX12_post [] 57896044618710753882728178039239635995819985241820298752152771380188807168000 9000 (([nE_900_353] ++ (nT_900 ++ nC_900)).map nd0) (nd1 nE_900_352) = true := by decide +kernel
set_option maxRecDepth 100000 in
theorem kE_900_353 : bSgk wd wx ctE_900 lk_900 tX12_post [] 57896044618710753882728178039239635995819985241820298752152771380188807168000 9000 (([nE_900_354] ++ (nT_900 ++ nC_900)).map nd0) (nd1 nE_900_353) = true := by decide +kernel
set_option maxRecDepth 100000 in
theorem kE_900_354 : bSgk wd wx ctE_900 lk_900 tX12_post [] 57896044618710753882728178039239635995819985241820298752152771380188807168000 9000 (([nE_900_355] ++ (nT_900 ++ nC_900)).map nd0) (nd1 nE_900_354) = true := by decide +kernel
set_option maxRecDepth 100000 in
theorem kE_900_355 : bSgk wd wx ctE_900 lk_900 tX12_post [] 57896044618710753882728178039239635995819985241820298752152771380188807168000 9000 (([nE_900_356] ++ (nT_900 ++ nC_900)).map nd0) (nd1 nE_900_355) = true := by decide +kernel
set_option maxRecDepth 100000 in
theorem kE_900_356 : bSgk wd wx ctE_900 lk_900 tX12_post [] 57896044618710753882728178039239635995819985241820298752152771380188807168000 9000 (([nE_900_357] ++ (nT_900 ++ nC_900)).map nd0) (nd1 nE_900_356) = true := by decide +kernel
set_option maxRecDepth 100000 in
theorem kE_900_357 : bSgk wd wx ctE_900 lk_900 tX12_post [] 57896044618710753882728178039239635995819985241820298752152771380188807168000 9000 (([nE_900_358] ++ (nT_900 ++ nC_900)).map nd0) (nd1 nE_900_357) = true := by decide +kernel
set_option maxRecDepth 100000 in
theorem kE_900_358 : bSgk wd wx ctE_900 lk_900 tX12_post [] 57896044618710753882728178039239635995819985241820298752152771380188807168000 9000 (([nE_900_359] ++ (nT_900 ++ nC_900)).map nd0) (nd1 nE_900_358) = true := by decide +kernel
set_option maxRecDepth 100000 in
theorem kE_900_359 : bSgk wd wx ctE_900 lk_900 tX12_post [] 57896044618710753882728178039239635995819985241820298752152771380188807168000 9000 (([nE_900_360] ++ (nT_900 ++ nC_900)).map nd0) (nd1 nE_900_359) = true := by decide +kernel
set_option maxRecDepth 100000 in
theorem kE_900_360 : bSgk wd wx ctE_900 lk_900 tX12_post [] 57896044618710753882728178039239635995819985241820298752152771380188807168000 9000 (([nE_900_361] ++ (nT_900 ++ nC_900)).map nd0) (nd1 nE_900_360) = true := by decide +kernel
set_option maxRecDepth 100000 in
theorem kE_900_361 : bSgk wd wx ctE_900 lk_900 tX12_post [] 57896044618710753882728178039239635995819985241820298752152771380188807168000 9000 (([nE_900_362] ++ (nT_900 ++ nC_900)).map nd0) (nd1 nE_900_361) = true := by decide +kernel
set_option maxRecDepth 100000 in
theorem kE_900_362 : bSgk wd wx ctE_900 lk_900 tX12_post [] 57896044618710753882728178039239635995819985241820298752152771380188807168000 9000 (([nE_900_363] ++ (nT_900 ++ nC_900)).map nd0) (nd1 nE_900_362) = true := by decide +kernel
set_option maxRecDepth 100000 in
theorem kE_900_363 : bSgk wd wx ctE_900 lk_900 tX12_post [] 57896044618710753882728178039239635995819985241820298752152771380188807168000 9000 (([nE_900_364] ++ (nT_900 ++ nC_900)).map nd0) (nd1 nE_900_363) = true := by decide +kernel
set_option maxRecDepth 100000 in
theorem kE_900_364 : bSgk wd wx ctE_900 lk_900 tX12_post [] 57896044618710753882728178039239635995819985241820298752152771379639051354112 9000 (([] ++ (nT_900 ++ nC_900)).map nd0) (nd1 nE_900_364) = true := by decide +kernel
set_option maxRecDepth 100000 in
theorem SE_900 : ∀ d, ctE_900.2.2.2.2.2.2 ≤ d → ∀ vs, ∀ nd ∈ nE_900, aNok wd ctE_900 d vs nd := aPostN_ok (md' := [(196, 3, 12), (196, 13, 15), (196, 20, 22), (198, 0, 8), (199, 0, 363), (200, 0, 363), (201, 0, 76), (1000002, 0, 0)]) (T := nT_900) (A := nA_900) (B := nB_900) (C := nC_900) (lk := lk_900) (cd := oX12_post) (fk := []) (fuel := 9000) (List.forall_mem_cons.mpr ⟨⟨ml_12_173, S_555⟩, List.forall_mem_cons.mpr ⟨⟨ml_12_173, S_558⟩, List.forall_mem_cons.mpr ⟨⟨ml_12_173, S_700⟩, List.forall_mem_cons.mpr ⟨⟨ml_12_173, S_548⟩, List.forall_mem_cons.mpr ⟨⟨ml_12_173, S_694⟩, List.forall_mem_cons.mpr ⟨⟨ml_12_173, S_552⟩, List.forall_mem_cons.mpr ⟨⟨ml_12_173, S_697⟩, List.forall_mem_cons.mpr ⟨⟨ml_12_173, S_736⟩, List.forall_mem_cons.mpr ⟨⟨ml_12_173, S_734⟩, List.forall_mem_cons.mpr ⟨⟨ml_12_173, S_735⟩, List.forall_mem_cons.mpr ⟨⟨ml_12_173, S_766⟩, List.forall_mem_cons.mpr ⟨⟨ml_12_173, S_764⟩, List.forall_mem_cons.mpr ⟨⟨ml_12_173, S_765⟩, List.forall_mem_cons.mpr ⟨⟨ml_12_173, S_796⟩, List.forall_mem_cons.mpr ⟨⟨ml_12_173, S_794⟩, List.forall_mem_cons.mpr ⟨⟨ml_12_173, S_795⟩, List.forall_mem_cons.mpr ⟨⟨ml_12_173, S_826⟩, List.forall_mem_cons.mpr ⟨⟨ml_12_173, S_824⟩, List.forall_mem_cons.mpr ⟨⟨ml_12_173, S_825⟩, List.forall_mem_cons.mpr ⟨⟨ml_12_173, S_856⟩, List.forall_mem_cons.mpr ⟨⟨ml_12_173, S_854⟩, List.forall_mem_cons.mpr ⟨⟨ml_12_173, S_855⟩, List.forall_mem_cons.mpr ⟨⟨ml_12_173, S_886⟩, List.forall_mem_cons.mpr ⟨⟨ml_12_173, S_884⟩, List.forall_mem_cons.mpr ⟨⟨ml_12_173, S_885⟩, List.forall_mem_cons.mpr ⟨⟨ml_12_173, S_899⟩, List.forall_mem_cons.mpr ⟨⟨ml_12_173, S_897⟩, List.forall_mem_cons.mpr ⟨⟨ml_12_173, S_898⟩, List.forall_mem_cons.mpr ⟨⟨ml_12_121, S_X12_next_0⟩, List.forall_mem_cons.mpr ⟨⟨ml_12_170, S_549⟩, List.forall_mem_cons.mpr ⟨⟨ml_12_176, S_X12_copy_0⟩, List.forall_mem_cons.mpr ⟨⟨ml_12_176, S_X12_copy_2⟩, List.forall_mem_cons.mpr ⟨⟨ml_12_176, S_X12_copy_1⟩, List.forall_mem_cons.mpr ⟨⟨ml_12_176, S_X12_copy_3⟩, List.forall_mem_cons.mpr ⟨⟨ml_12_176, S_X12_copy_4⟩, List.forall_mem_cons.mpr ⟨⟨ml_12_176, S_X12_copy_5⟩, List.forall_mem_cons.mpr ⟨⟨ml_12_176, S_X12_copy_6⟩, List.forall_mem_cons.mpr ⟨⟨ml_12_176, S_X12_copy_7⟩, List.forall_mem_cons.mpr ⟨⟨ml_12_176, S_X12_copy_15⟩, List.forall_mem_cons.mpr ⟨⟨ml_12_127, S_460⟩, List.forall_mem_cons.mpr ⟨⟨ml_12_127, S_535⟩, fun _ h => nomatch h⟩⟩⟩⟩⟩⟩⟩⟩⟩⟩⟩⟩⟩⟩⟩⟩⟩⟩⟩⟩⟩⟩⟩⟩⟩⟩⟩⟩⟩⟩⟩⟩⟩⟩⟩⟩⟩⟩⟩⟩⟩) odX12_post (by decide +kernel) (by decide +kernel) (List.forall_mem_cons.mpr ⟨(bSgk_in wx_ok btX12_post kT_900_0), List.forall_mem_cons.mpr ⟨(bSgk_in wx_ok btX12_post kT_900_1), List.forall_mem_cons.mpr ⟨(bSgk_in wx_ok btX12_post kT_900_2), fun _ h => nomatch h⟩⟩⟩) (List.forall_mem_cons.mpr ⟨(bSgk_in wx_ok btX12_post kA_900_0), List.forall_mem_cons.mpr ⟨(bSgk_in wx_ok btX12_post kA_900_1), List.forall_mem_cons.mpr ⟨(bSgk_in wx_ok btX12_post kA_900_2), List.forall_mem_cons.mpr ⟨(bSgk_in wx_ok btX12_post kA_900_3), List.forall_mem_cons.mpr ⟨(bSgk_in wx_ok btX12_post kA_900_4), List.forall_mem_cons.mpr ⟨(bSgk_in wx_ok btX12_post kA_900_5), List.forall_mem_cons.mpr ⟨(bSgk_in wx_ok btX12_post kA_900_6), List.forall_mem_cons.mpr ⟨(bSgk_in wx_ok btX12_post kA_900_7), fun _ h => nomatch h⟩⟩⟩⟩⟩⟩⟩⟩) (List.forall_mem_cons.mpr ⟨(bTk_in wx_ok btX12_post kB_900_0), List.forall_mem_cons.mpr ⟨(bTk_in wx_ok btX12_post kB_900_1), List.forall_mem_cons.mpr ⟨(bTk_in wx_ok btX12_post kB_900_2), List.forall_mem_cons.mpr ⟨(bTk_in wx_ok btX12_post kB_900_3), List.forall_mem_cons.mpr ⟨(bTk_in wx_ok btX12_post kB_900_4), List.forall_mem_cons.mpr ⟨(bTk_in wx_ok btX12_post kB_900_5), List.forall_mem_cons.mpr ⟨(bTk_in wx_ok btX12_post kB_900_6), List.forall_mem_cons.mpr ⟨(bTk_in wx_ok btX12_post kB_900_7), List.forall_mem_cons.mpr ⟨(bTk_in wx_ok btX12_post kB_900_8), List.forall_mem_cons.mpr ⟨(bTk_in wx_ok btX12_post kB_900_9), List.forall_mem_cons.mpr ⟨(bTk_in wx_ok btX12_post kB_900_10), List.forall_mem_cons.mpr ⟨(bTk_in wx_ok btX12_post kB_900_11), List.forall_mem_cons.mpr ⟨(bTk_in wx_ok btX12_post kB_900_12), List.forall_mem_cons.mpr ⟨(bTk_in wx_ok btX12_post kB_900_13), List.forall_mem_cons.mpr ⟨(bTk_in wx_ok btX12_post kB_900_14), List.forall_mem_cons.mpr ⟨(bTk_in wx_ok btX12_post kB_900_15), fun _ h => nomatch h⟩⟩⟩⟩⟩⟩⟩⟩⟩⟩⟩⟩⟩⟩⟩⟩) (List.forall_mem_cons.mpr ⟨(bTk_in wx_ok btX12_post kC_900_0), List.forall_mem_cons.mpr ⟨(bTk_in wx_ok btX12_post kC_900_1), List.forall_mem_cons.mpr ⟨(bTk_in wx_ok btX12_post kC_900_2), List.forall_mem_cons.mpr ⟨(bTk_in wx_ok btX12_post kC_900_3), List.forall_mem_cons.mpr ⟨(bTk_in wx_ok btX12_post kC_900_4), List.forall_mem_cons.mpr ⟨(bTk_in wx_ok btX12_post kC_900_5), List.forall_mem_cons.mpr ⟨(bTk_in wx_ok btX12_post kC_900_6), List.forall_mem_cons.mpr ⟨(bTk_in wx_ok btX12_post kC_900_7), fun _ h => nomatch h⟩⟩⟩⟩⟩⟩⟩⟩) (⟨(bSgk_in wx_ok btX12_post kE_900_0), (bSgk_in wx_ok btX12_post kE_900_1), (bSgk_in wx_ok btX12_post kE_900_2), (bSgk_in wx_ok btX12_post kE_900_3), (bSgk_in wx_ok btX12_post kE_900_4), (bSgk_in wx_ok btX12_post kE_900_5), (bSgk_in wx_ok btX12_post kE_900_6), (bSgk_in wx_ok btX12_post kE_900_7), (bSgk_in wx_ok btX12_post kE_900_8), (bSgk_in wx_ok btX12_post kE_900_9), (bSgk_in wx_ok btX12_post kE_900_10), (bSgk_in wx_ok btX12_post kE_900_11), (bSgk_in wx_ok btX12_post kE_900_12), (bSgk_in wx_ok btX12_post kE_900_13), (bSgk_in wx_ok btX12_post kE_900_14), (bSgk_in wx_ok btX12_post kE_900_15), (bSgk_in wx_ok btX12_post kE_900_16), (bSgk_in wx_ok btX12_post kE_900_17), (bSgk_in wx_ok btX12_post kE_900_18), (bSgk_in wx_ok btX12_post kE_900_19), (bSgk_in wx_ok btX12_post kE_900_20), (bSgk_in wx_ok btX12_post kE_900_21), (bSgk_in wx_ok btX12_post kE_900_22), (bSgk_in wx_ok btX12_post kE_900_23), (bSgk_in wx_ok btX12_post kE_900_24), (bSgk_in wx_ok btX12_post kE_900_25), (bSgk_in wx_ok btX12_post kE_900_26), (bSgk_in wx_ok btX12_post kE_900_27), (bSgk_in wx_ok btX12_post kE_900_28), (bSgk_in wx_ok btX12_post kE_900_29), (bSgk_in wx_ok btX12_post kE_900_30), (bSgk_in wx_ok btX12_post kE_900_31), (bSgk_in wx_ok btX12_post kE_900_32), (bSgk_in wx_ok btX12_post kE_900_33), (bSgk_in wx_ok btX12_post kE_900_34), (bSgk_in wx_ok btX12_post kE_900_35), (bSgk_in wx_ok btX12_post kE_900_36), (bSgk_in wx_ok btX12_post kE_900_37), (bSgk_in wx_ok btX12_post kE_900_38), (bSgk_in wx_ok btX12_post kE_900_39), (bSgk_in wx_ok btX12_post kE_900_40), (bSgk_in wx_ok btX12_post kE_900_41), (bSgk_in wx_ok btX12_post kE_900_42), (bSgk_in wx_ok btX12_post kE_900_43), (bSgk_in wx_ok btX12_post kE_900_44), (bSgk_in wx_ok btX12_post kE_900_45), (bSgk_in wx_ok btX12_post kE_900_46), (bSgk_in wx_ok btX12_post kE_900_47), (bSgk_in wx_ok btX12_post kE_900_48), (bSgk_in wx_ok btX12_post kE_900_49), (bSgk_in wx_ok btX12_post kE_900_50), (bSgk_in wx_ok btX12_post kE_900_51), (bSgk_in wx_ok btX12_post kE_900_52), (bSgk_in wx_ok btX12_post kE_900_53), (bSgk_in wx_ok btX12_post kE_900_54), (bSgk_in wx_ok btX12_post kE_900_55), (bSgk_in wx_ok btX12_post kE_900_56), (bSgk_in wx_ok btX12_post kE_900_57), (bSgk_in wx_ok btX12_post kE_900_58), (bSgk_in wx_ok btX12_post kE_900_59), (bSgk_in wx_ok btX12_post kE_900_60), (bSgk_in wx_ok btX12_post kE_900_61), (bSgk_in wx_ok btX12_post kE_900_62), (bSgk_in wx_ok btX12_post kE_900_63), (bSgk_in wx_ok btX12_post kE_900_64), (bSgk_in wx_ok btX12_post kE_900_65), (bSgk_in wx_ok btX12_post kE_900_66), (bSgk_in wx_ok btX12_post kE_900_67), (bSgk_in wx_ok btX12_post kE_900_68), (bSgk_in wx_ok btX12_post kE_900_69), (bSgk_in wx_ok btX12_post kE_900_70), (bSgk_in wx_ok btX12_post kE_900_71), (bSgk_in wx_ok btX12_post kE_900_72), (bSgk_in wx_ok btX12_post kE_900_73), (bSgk_in wx_ok btX12_post kE_900_74), (bSgk_in wx_ok btX12_post kE_900_75), (bSgk_in wx_ok btX12_post kE_900_76), (bSgk_in wx_ok btX12_post kE_900_77), (bSgk_in wx_ok btX12_post kE_900_78), (bSgk_in wx_ok btX12_post kE_900_79), (bSgk_in wx_ok btX12_post kE_900_80), (bSgk_in wx_ok btX12_post kE_900_81), (bSgk_in wx_ok btX12_post kE_900_82), (bSgk_in wx_ok btX12_post kE_900_83), (bSgk_in wx_ok btX12_post kE_900_84), (bSgk_in wx_ok btX12_post kE_900_85), (bSgk_in wx_ok btX12_post kE_900_86), (bSgk_in wx_ok btX12_post kE_900_87), (bSgk_in wx_ok btX12_post kE_900_88), (bSgk_in wx_ok btX12_post kE_900_89), (bSgk_in wx_ok btX12_post kE_900_90), (bSgk_in wx_ok btX12_post kE_900_91), (bSgk_in wx_ok btX12_post kE_900_92), (bSgk_in wx_ok btX12_post kE_900_93), (bSgk_in wx_ok btX12_post kE_900_94), (bSgk_in wx_ok btX12_post kE_900_95), (bSgk_in wx_ok btX12_post kE_900_96), (bSgk_in wx_ok btX12_post kE_900_97), (bSgk_in wx_ok btX12_post kE_900_98), (bSgk_in wx_ok btX12_post kE_900_99), (bSgk_in wx_ok btX12_post kE_900_100), (bSgk_in wx_ok btX12_post kE_900_101), (bSgk_in wx_ok btX12_post kE_900_102), (bSgk_in wx_ok btX12_post kE_900_103), (bSgk_in wx_ok btX12_post kE_900_104), (bSgk_in wx_ok btX12_post kE_900_105), (bSgk_in wx_ok btX12_post kE_900_106), (bSgk_in wx_ok btX12_post kE_900_107), (bSgk_in wx_ok btX12_post kE_900_108), (bSgk_in wx_ok btX12_post kE_900_109), (bSgk_in wx_ok btX12_post kE_900_110), (bSgk_in wx_ok btX12_post kE_900_111), (bSgk_in wx_ok btX12_post kE_900_112), (bSgk_in wx_ok btX12_post kE_900_113), (bSgk_in wx_ok btX12_post kE_900_114), (bSgk_in wx_ok btX12_post kE_900_115), (bSgk_in wx_ok btX12_post kE_900_116), (bSgk_in wx_ok btX12_post kE_900_117), (bSgk_in wx_ok btX12_post kE_900_118), (bSgk_in wx_ok btX12_post kE_900_119), (bSgk_in wx_ok btX12_post kE_900_120), (bSgk_in wx_ok btX12_post kE_900_121), (bSgk_in wx_ok btX12_post kE_900_122), (bSgk_in wx_ok btX12_post kE_900_123), (bSgk_in wx_ok btX12_post kE_900_124), (bSgk_in wx_ok btX12_post kE_900_125), (bSgk_in wx_ok btX12_post kE_900_126), (bSgk_in wx_ok btX12_post kE_900_127), (bSgk_in wx_ok btX12_post kE_900_128), (bSgk_in wx_ok btX12_post kE_900_129), (bSgk_in wx_ok btX12_post kE_900_130), (bSgk_in wx_ok btX12_post kE_900_131), (bSgk_in wx_ok btX12_post kE_900_132), (bSgk_in wx_ok btX12_post kE_900_133), (bSgk_in wx_ok btX12_post kE_900_134), (bSgk_in wx_ok btX12_post kE_900_135), (bSgk_in wx_ok btX12_post kE_900_136), (bSgk_in wx_ok btX12_post kE_900_137), (bSgk_in wx_ok btX12_post kE_900_138), (bSgk_in wx_ok btX12_post kE_900_139), (bSgk_in wx_ok btX12_post kE_900_140), (bSgk_in wx_ok btX12_post kE_900_141), (bSgk_in wx_ok btX12_post kE_900_142), (bSgk_in wx_ok btX12_post kE_900_143), (bSgk_in wx_ok btX12_post kE_900_144), (bSgk_in wx_ok btX12_post kE_900_145), (bSgk_in wx_ok btX12_post kE_900_146), (bSgk_in wx_ok btX12_post kE_900_147), (bSgk_in wx_ok btX12_post kE_900_148), (bSgk_in wx_ok btX12_post kE_900_149), (bSgk_in wx_ok btX12_post kE_900_150), (bSgk_in wx_ok btX12_post kE_900_151), (bSgk_in wx_ok btX12_post kE_900_152), (bSgk_in wx_ok btX12_post kE_900_153), (bSgk_in wx_ok btX12_post kE_900_154), (bSgk_in wx_ok btX12_post kE_900_155), (bSgk_in wx_ok btX12_post kE_900_156), (bSgk_in wx_ok btX12_post kE_900_157), (bSgk_in wx_ok btX12_post kE_900_158), (bSgk_in wx_ok btX12_post kE_900_159), (bSgk_in wx_ok btX12_post kE_900_160), (bSgk_in wx_ok btX12_post kE_900_161), (bSgk_in wx_ok btX12_post kE_900_162), (bSgk_in wx_ok btX12_post kE_900_163), (bSgk_in wx_ok btX12_post kE_900_164), (bSgk_in wx_ok btX12_post kE_900_165), (bSgk_in wx_ok btX12_post kE_900_166), (bSgk_in wx_ok btX12_post kE_900_167), (bSgk_in wx_ok btX12_post kE_900_168), (bSgk_in wx_ok btX12_post kE_900_169), (bSgk_in wx_ok btX12_post kE_900_170), (bSgk_in wx_ok btX12_post kE_900_171), (bSgk_in wx_ok btX12_post kE_900_172), (bSgk_in wx_ok btX12_post kE_900_173), (bSgk_in wx_ok btX12_post kE_900_174), (bSgk_in wx_ok btX12_post kE_900_175), (bSgk_in wx_ok btX12_post kE_900_176), (bSgk_in wx_ok btX12_post kE_900_177), (bSgk_in wx_ok btX12_post kE_900_178), (bSgk_in wx_ok btX12_post kE_900_179), (bSgk_in wx_ok btX12_post kE_900_180), (bSgk_in wx_ok btX12_post kE_900_181), (bSgk_in wx_ok btX12_post kE_900_182), (bSgk_in wx_ok btX12_post kE_900_183), (bSgk_in wx_ok btX12_post kE_900_184), (bSgk_in wx_ok btX12_post kE_900_185), (bSgk_in wx_ok btX12_post kE_900_186), (bSgk_in wx_ok btX12_post kE_900_187), (bSgk_in wx_ok btX12_post kE_900_188), (bSgk_in wx_ok btX12_post kE_900_189), (bSgk_in wx_ok btX12_post kE_900_190), (bSgk_in wx_ok btX12_post kE_900_191), (bSgk_in wx_ok btX12_post kE_900_192), (bSgk_in wx_ok btX12_post kE_900_193), (bSgk_in wx_ok btX12_post kE_900_194), (bSgk_in wx_ok btX12_post kE_900_195), (bSgk_in wx_ok btX12_post kE_900_196), (bSgk_in wx_ok btX12_post kE_900_197), (bSgk_in wx_ok btX12_post kE_900_198), (bSgk_in wx_ok btX12_post kE_900_199), (bSgk_in wx_ok btX12_post kE_900_200), (bSgk_in wx_ok btX12_post kE_900_201), (bSgk_in wx_ok btX12_post kE_900_202), (bSgk_in wx_ok btX12_post kE_900_203), (bSgk_in wx_ok btX12_post kE_900_204), (bSgk_in wx_ok btX12_post kE_900_205), (bSgk_in wx_ok btX12_post kE_900_206), (bSgk_in wx_ok btX12_post kE_900_207), (bSgk_in wx_ok btX12_post kE_900_208), (bSgk_in wx_ok btX12_post kE_900_209), (bSgk_in wx_ok btX12_post kE_900_210), (bSgk_in wx_ok btX12_post kE_900_211), (bSgk_in wx_ok btX12_post kE_900_212), (bSgk_in wx_ok btX12_post kE_900_213), (bSgk_in wx_ok btX12_post kE_900_214), (bSgk_in wx_ok btX12_post kE_900_215), (bSgk_in wx_ok btX12_post kE_900_216), (bSgk_in wx_ok btX12_post kE_900_217), (bSgk_in wx_ok btX12_post kE_900_218), (bSgk_in wx_ok btX12_post kE_900_219), (bSgk_in wx_ok btX12_post kE_900_220), (bSgk_in wx_ok btX12_post kE_900_221), (bSgk_in wx_ok btX12_post kE_900_222), (bSgk_in wx_ok btX12_post kE_900_223), (bSgk_in wx_ok btX12_post kE_900_224), (bSgk_in wx_ok btX12_post kE_900_225), (bSgk_in wx_ok btX12_post kE_900_226), (bSgk_in wx_ok btX12_post kE_900_227), (bSgk_in wx_ok btX12_post kE_900_228), (bSgk_in wx_ok btX12_post kE_900_229), (bSgk_in wx_ok btX12_post kE_900_230), (bSgk_in wx_ok btX12_post kE_900_231), (bSgk_in wx_ok btX12_post kE_900_232), (bSgk_in wx_ok btX12_post kE_900_233), (bSgk_in wx_ok btX12_post kE_900_234), (bSgk_in wx_ok btX12_post kE_900_235), (bSgk_in wx_ok btX12_post kE_900_236), (bSgk_in wx_ok btX12_post kE_900_237), (bSgk_in wx_ok btX12_post kE_900_238), (bSgk_in wx_ok btX12_post kE_900_239), (bSgk_in wx_ok btX12_post kE_900_240), (bSgk_in wx_ok btX12_post kE_900_241), (bSgk_in wx_ok btX12_post kE_900_242), (bSgk_in wx_ok btX12_post kE_900_243), (bSgk_in wx_ok btX12_post kE_900_244), (bSgk_in wx_ok btX12_post kE_900_245), (bSgk_in wx_ok btX12_post kE_900_246), (bSgk_in wx_ok btX12_post kE_900_247), (bSgk_in wx_ok btX12_post kE_900_248), (bSgk_in wx_ok btX12_post kE_900_249), (bSgk_in wx_ok btX12_post kE_900_250), (bSgk_in wx_ok btX12_post kE_900_251), (bSgk_in wx_ok btX12_post kE_900_252), (bSgk_in wx_ok btX12_post kE_900_253), (bSgk_in wx_ok btX12_post kE_900_254), (bSgk_in wx_ok btX12_post kE_900_255), (bSgk_in wx_ok btX12_post kE_900_256), (bSgk_in wx_ok btX12_post kE_900_257), (bSgk_in wx_ok btX12_post kE_900_258), (bSgk_in wx_ok btX12_post kE_900_259), (bSgk_in wx_ok btX12_post kE_900_260), (bSgk_in wx_ok btX12_post kE_900_261), (bSgk_in wx_ok btX12_post kE_900_262), (bSgk_in wx_ok btX12_post kE_900_263), (bSgk_in wx_ok btX12_post kE_900_264), (bSgk_in wx_ok btX12_post kE_900_265), (bSgk_in wx_ok btX12_post kE_900_266), (bSgk_in wx_ok btX12_post kE_900_267), (bSgk_in wx_ok btX12_post kE_900_268), (bSgk_in wx_ok btX12_post kE_900_269), (bSgk_in wx_ok btX12_post kE_900_270), (bSgk_in wx_ok btX12_post kE_900_271), (bSgk_in wx_ok btX12_post kE_900_272), (bSgk_in wx_ok btX12_post kE_900_273), (bSgk_in wx_ok btX12_post kE_900_274), (bSgk_in wx_ok btX12_post kE_900_275), (bSgk_in wx_ok btX12_post kE_900_276), (bSgk_in wx_ok btX12_post kE_900_277), (bSgk_in wx_ok btX12_post kE_900_278), (bSgk_in wx_ok btX12_post kE_900_279), (bSgk_in wx_ok btX12_post kE_900_280), (bSgk_in wx_ok btX12_post kE_900_281), (bSgk_in wx_ok btX12_post kE_900_282), (bSgk_in wx_ok btX12_post kE_900_283), (bSgk_in wx_ok btX12_post kE_900_284), (bSgk_in wx_ok btX12_post kE_900_285), (bSgk_in wx_ok btX12_post kE_900_286), (bSgk_in wx_ok btX12_post kE_900_287), (bSgk_in wx_ok btX12_post kE_900_288), (bSgk_in wx_ok btX12_post kE_900_289), (bSgk_in wx_ok btX12_post kE_900_290), (bSgk_in wx_ok btX12_post kE_900_291), (bSgk_in wx_ok btX12_post kE_900_292), (bSgk_in wx_ok btX12_post kE_900_293), (bSgk_in wx_ok btX12_post kE_900_294), (bSgk_in wx_ok btX12_post kE_900_295), (bSgk_in wx_ok btX12_post kE_900_296), (bSgk_in wx_ok btX12_post kE_900_297), (bSgk_in wx_ok btX12_post kE_900_298), (bSgk_in wx_ok btX12_post kE_900_299), (bSgk_in wx_ok btX12_post kE_900_300), (bSgk_in wx_ok btX12_post kE_900_301), (bSgk_in wx_ok btX12_post kE_900_302), (bSgk_in wx_ok btX12_post kE_900_303), (bSgk_in wx_ok btX12_post kE_900_304), (bSgk_in wx_ok btX12_post kE_900_305), (bSgk_in wx_ok btX12_post kE_900_306), (bSgk_in wx_ok btX12_post kE_900_307), (bSgk_in wx_ok btX12_post kE_900_308), (bSgk_in wx_ok btX12_post kE_900_309), (bSgk_in wx_ok btX12_post kE_900_310), (bSgk_in wx_ok btX12_post kE_900_311), (bSgk_in wx_ok btX12_post kE_900_312), (bSgk_in wx_ok btX12_post kE_900_313), (bSgk_in wx_ok btX12_post kE_900_314), (bSgk_in wx_ok btX12_post kE_900_315), (bSgk_in wx_ok btX12_post kE_900_316), (bSgk_in wx_ok btX12_post kE_900_317), (bSgk_in wx_ok btX12_post kE_900_318), (bSgk_in wx_ok btX12_post kE_900_319), (bSgk_in wx_ok btX12_post kE_900_320), (bSgk_in wx_ok btX12_post kE_900_321), (bSgk_in wx_ok btX12_post kE_900_322), (bSgk_in wx_ok btX12_post kE_900_323), (bSgk_in wx_ok btX12_post kE_900_324), (bSgk_in wx_ok btX12_post kE_900_325), (bSgk_in wx_ok btX12_post kE_900_326), (bSgk_in wx_ok btX12_post kE_900_327), (bSgk_in wx_ok btX12_post kE_900_328), (bSgk_in wx_ok btX12_post kE_900_329), (bSgk_in wx_ok btX12_post kE_900_330), (bSgk_in wx_ok btX12_post kE_900_331), (bSgk_in wx_ok btX12_post kE_900_332), (bSgk_in wx_ok btX12_post kE_900_333), (bSgk_in wx_ok btX12_post kE_900_334), (bSgk_in wx_ok btX12_post kE_900_335), (bSgk_in wx_ok btX12_post kE_900_336), (bSgk_in wx_ok btX12_post kE_900_337), (bSgk_in wx_ok btX12_post kE_900_338), (bSgk_in wx_ok btX12_post kE_900_339), (bSgk_in wx_ok btX12_post kE_900_340), (bSgk_in wx_ok btX12_post kE_900_341), (bSgk_in wx_ok btX12_post kE_900_342), (bSgk_in wx_ok btX12_post kE_900_343), (bSgk_in wx_ok btX12_post kE_900_344), (bSgk_in wx_ok btX12_post kE_900_345), (bSgk_in wx_ok btX12_post kE_900_346), (bSgk_in wx_ok btX12_post kE_900_347), (bSgk_in wx_ok btX12_post kE_900_348), (bSgk_in wx_ok btX12_post kE_900_349), (bSgk_in wx_ok btX12_post kE_900_350), (bSgk_in wx_ok btX12_post kE_900_351), (bSgk_in wx_ok btX12_post kE_900_352), (bSgk_in wx_ok btX12_post kE_900_353), (bSgk_in wx_ok btX12_post kE_900_354), (bSgk_in wx_ok btX12_post kE_900_355), (bSgk_in wx_ok btX12_post kE_900_356), (bSgk_in wx_ok btX12_post kE_900_357), (bSgk_in wx_ok btX12_post kE_900_358), (bSgk_in wx_ok btX12_post kE_900_359), (bSgk_in wx_ok btX12_post kE_900_360), (bSgk_in wx_ok btX12_post kE_900_361), (bSgk_in wx_ok btX12_post kE_900_362), (bSgk_in wx_ok btX12_post kE_900_363), (bSgk_in wx_ok btX12_post kE_900_364), trivial⟩)
end Pk1
section Pk2
def mdn_1793 : List (Nat × Nat × Nat) := [((nat_lit 196), (nat_lit 0), (nat_lit 1))]
set_option maxRecDepth 100000 in
theorem btX12_fault : bTab oX12_fault tX12_fault := ⟨ofX12_fault, by decide +kernel⟩
def ct_901 : aCt := (mX12_fault, [ag_861], ([], []), [pon_417], mdn_1793, [], (nat_lit 0))
set_option maxRecDepth 100000 in
theorem S_901 : aSpec wd ct_901 := bChk_ok wx_ok btX12_fault (nds := []) (fk := []) (rk := (1, [])) (sp := 0) (fuel := 3000) (by decide +kernel) lk_n odX12_fault
def pon_1794 : aPo := (some (.inl aTop), [], [sl_971], [])
def sl_1795 : (Nat × Nat) × aI := (((nat_lit 196), (nat_lit 11)), [((.ofNat (nat_lit 0)), (.ofNat (nat_lit 3)), (nat_lit 1)), ((.ofNat (nat_lit 5)), (.ofNat (nat_lit 6)), (nat_lit 1))])
def pon_1796 : aPo := (some (.inl [((.negSucc (nat_lit 0)), (.negSucc (nat_lit 0)), (nat_lit 1))]), [], [sl_1795], [])
set_option maxRecDepth 100000 in
theorem btX12_where : bTab oX12_where tX12_where := ⟨ofX12_where, by decide +kernel⟩
def ct_902 : aCt := (mX12_where, [ag_861], ([], []), [pon_1794, pon_1796], mdn_1793, [], (nat_lit 0))
set_option maxRecDepth 100000 in
theorem S_902 : aSpec wd ct_902 := bChk_ok wx_ok btX12_where (nds := []) (fk := []) (rk := (1, [])) (sp := 0) (fuel := 3000) (by decide +kernel) lk_n odX12_where
def ag_1797 : aAg := .inl [((.negSucc (nat_lit 0)), (.ofNat (nat_lit 4)), (nat_lit 1))]
def pon_1798 : aPo := (some (.inl [((.ofNat (nat_lit 1)), (.ofNat (nat_lit 1)), (nat_lit 1))]), [some [((.ofNat (nat_lit 0)), (.ofNat (nat_lit 4)), (nat_lit 1))], none, some [((.ofNat (nat_lit 0)), (.ofNat (nat_lit 4)), (nat_lit 1))]], [], [])
def ct_903 : aCt := (mX12_in, [ag_1, ag_170, ag_1797], ([], []), [pon_1198, pon_1798], mdn_872, [], (nat_lit 0))
set_option maxRecDepth 100000 in
theorem S_903 : aSpec wd ct_903 := bChk_ok wx_ok btX12_in (nds := []) (fk := []) (rk := (1, [])) (sp := 0) (fuel := 3000) (by decide +kernel) lk_n odX12_in
def sl_1799 : (Nat × Nat) × aI := (((nat_lit 199), (nat_lit 6)), [((.ofNat (nat_lit 1)), (.ofNat (nat_lit 5)), (nat_lit 1))])
def pon_1800 : aPo := (some (.inl [((.ofNat (nat_lit 1)), (.ofNat (nat_lit 1)), (nat_lit 1))]), [none, some [((.ofNat (nat_lit 0)), (.ofNat (nat_lit 4)), (nat_lit 1))]], [sl_1428, sl_1431, sl_1432, sl_1799], [])
set_option maxRecDepth 100000 in
theorem btX12_isWhale : bTab oX12_isWhale tX12_isWhale := ⟨ofX12_isWhale, by decide +kernel⟩
def ct_904 : aCt := (mX12_isWhale, [ag_861, ag_1], ([], []), [pon_37, pon_1800], [], [], (nat_lit 1))
set_option maxRecDepth 100000 in
theorem S_904 : aSpec wd ct_904 := bChk_ok wx_ok btX12_isWhale (nds := []) (fk := []) (rk := (1, [])) (sp := 0) (fuel := 3000) (by decide +kernel) (lk_d S_903 ml_12_149 lk_n) odX12_isWhale
def pon_1801 : aPo := (some (.inl [((.ofNat (nat_lit 0)), (.ofNat (nat_lit 0)), (nat_lit 1))]), [some [((.negSucc (nat_lit 2147483647)), (.negSucc (nat_lit 0)), (nat_lit 1)), ((.ofNat (nat_lit 5)), (.ofNat (nat_lit 2147483647)), (nat_lit 1))], none, none], [], [])
def ct_905 : aCt := (mX12_in, [ag_1, ag_170, ag_159], ([], []), [pon_1801, pon_1369], mdn_872, [], (nat_lit 0))
set_option maxRecDepth 100000 in
theorem S_905 : aSpec wd ct_905 := bChk_ok wx_ok btX12_in (nds := []) (fk := []) (rk := (1, [])) (sp := 0) (fuel := 3000) (by decide +kernel) lk_n odX12_in
set_option maxRecDepth 100000 in
theorem btX12_ofWhale : bTab oX12_ofWhale tX12_ofWhale := ⟨ofX12_ofWhale, by decide +kernel⟩
def ct_906 : aCt := (mX12_ofWhale, [ag_861, ag_217, ag_170], ([sl_1431, sl_1432, sl_1799], []), [pon_346], [], [], (nat_lit 0))
set_option maxRecDepth 100000 in
theorem S_906 : aSpec wd ct_906 := bChk_ok wx_ok btX12_ofWhale (nds := []) (fk := []) (rk := (1, [])) (sp := 0) (fuel := 3000) (by decide +kernel) lk_n odX12_ofWhale
def ag_1802 : aAg := .inl [((.ofNat (nat_lit 2)), (.ofNat (nat_lit 3)), (nat_lit 1))]
def ct_907 : aCt := (mX12_ofWhale, [ag_861, ag_217, ag_1802], ([sl_1431, sl_1432, sl_1799], []), [pon_130], [], [], (nat_lit 0))
set_option maxRecDepth 100000 in
theorem S_907 : aSpec wd ct_907 := bChk_ok wx_ok btX12_ofWhale (nds := []) (fk := []) (rk := (1, [])) (sp := 0) (fuel := 3000) (by decide +kernel) lk_n odX12_ofWhale
def sl_1803 : (Nat × Nat) × aI := (((nat_lit 196), (nat_lit 11)), [((.ofNat (nat_lit 1)), (.ofNat (nat_lit 1)), (nat_lit 1))])
def pon_1804 : aPo := (some (.inl [((.negSucc (nat_lit 0)), (.negSucc (nat_lit 0)), (nat_lit 1))]), [], [sl_1803], [])
def ct_908 : aCt := (mX12_no, [ag_861, ag_53], ([sl_867], []), [pon_1804], mdn_875, [], (nat_lit 0))
set_option maxRecDepth 100000 in
theorem S_908 : aSpec wd ct_908 := bChk_ok wx_ok btX12_no (nds := []) (fk := []) (rk := (1, [])) (sp := 0) (fuel := 3000) (by decide +kernel) lk_n odX12_no
def pon_1805 : aPo := (some (.inl aTop), [none, some [((.ofNat (nat_lit 0)), (.ofNat (nat_lit 4)), (nat_lit 1))], some [((.ofNat (nat_lit 0)), (.ofNat (nat_lit 4)), (nat_lit 1))]], [sl_867, sl_1428, sl_1431, sl_1432, sl_1799], [])
set_option maxRecDepth 100000 in
theorem btX12_whale : bTab oX12_whale tX12_whale := ⟨ofX12_whale, by decide +kernel⟩
def ct_909 : aCt := (mX12_whale, [ag_861, ag_1, ag_1], ([], []), [pon_1805, pon_1804], mdn_869, [], (nat_lit 2))
set_option maxRecDepth 100000 in
theorem S_909 : aSpec wd ct_909 := bChk_ok wx_ok btX12_whale (nds := []) (fk := []) (rk := (1, [])) (sp := 0) (fuel := 3000) (by decide +kernel) (lk_d S_447 ml_12_167 (lk_d S_908 ml_12_170 (lk_d S_906 ml_12_271 (lk_d S_907 ml_12_271 (lk_d S_904 ml_12_268 (lk_d S_905 ml_12_149 lk_n)))))) odX12_whale
def ag_1806 : aAg := .inl [((.negSucc (nat_lit 0)), (.ofNat (nat_lit 7)), (nat_lit 1))]
def pon_1807 : aPo := (some (.inl [((.ofNat (nat_lit 1)), (.ofNat (nat_lit 1)), (nat_lit 1))]), [some [((.ofNat (nat_lit 0)), (.ofNat (nat_lit 7)), (nat_lit 1))], none, some [((.ofNat (nat_lit 0)), (.ofNat (nat_lit 7)), (nat_lit 1))]], [], [])
def ct_910 : aCt := (mX12_in, [ag_1, ag_170, ag_1806], ([], []), [pon_1198, pon_1807], mdn_872, [], (nat_lit 0))
set_option maxRecDepth 100000 in
theorem S_910 : aSpec wd ct_910 := bChk_ok wx_ok btX12_in (nds := []) (fk := []) (rk := (1, [])) (sp := 0) (fuel := 3000) (by decide +kernel) lk_n odX12_in
def sl_1808 : (Nat × Nat) × aI := (((nat_lit 199), (nat_lit 7)), [((.ofNat (nat_lit 1)), (.ofNat (nat_lit 8)), (nat_lit 1))])
def pon_1809 : aPo := (some (.inl [((.ofNat (nat_lit 1)), (.ofNat (nat_lit 1)), (nat_lit 1))]), [none, some [((.ofNat (nat_lit 0)), (.ofNat (nat_lit 7)), (nat_lit 1))]], [sl_1428, sl_1431, sl_1432, sl_1808], [])
set_option maxRecDepth 100000 in
theorem btX12_isBox : bTab oX12_isBox tX12_isBox := ⟨ofX12_isBox, by decide +kernel⟩
def ct_911 : aCt := (mX12_isBox, [ag_861, ag_1], ([], []), [pon_37, pon_1809], [], [], (nat_lit 1))
set_option maxRecDepth 100000 in
theorem S_911 : aSpec wd ct_911 := bChk_ok wx_ok btX12_isBox (nds := []) (fk := []) (rk := (1, [])) (sp := 0) (fuel := 3000) (by decide +kernel) (lk_d S_910 ml_12_149 lk_n) odX12_isBox
def pon_1810 : aPo := (some (.inl [((.ofNat (nat_lit 0)), (.ofNat (nat_lit 0)), (nat_lit 1))]), [some [((.negSucc (nat_lit 2147483647)), (.negSucc (nat_lit 0)), (nat_lit 1)), ((.ofNat (nat_lit 6)), (.ofNat (nat_lit 2147483647)), (nat_lit 1))], none, none], [], [])
def ct_912 : aCt := (mX12_in, [ag_1, ag_170, ag_150], ([], []), [pon_1810, pon_1403], mdn_872, [], (nat_lit 0))
set_option maxRecDepth 100000 in
theorem S_912 : aSpec wd ct_912 := bChk_ok wx_ok btX12_in (nds := []) (fk := []) (rk := (1, [])) (sp := 0) (fuel := 3000) (by decide +kernel) lk_n odX12_in
set_option maxRecDepth 100000 in
theorem btX12_ofBox : bTab oX12_ofBox tX12_ofBox := ⟨ofX12_ofBox, by decide +kernel⟩
def ct_913 : aCt := (mX12_ofBox, [ag_861, ag_190, ag_361], ([sl_1431, sl_1432, sl_1808], []), [pon_130], [], [], (nat_lit 0))
set_option maxRecDepth 100000 in
theorem S_913 : aSpec wd ct_913 := bChk_ok wx_ok btX12_ofBox (nds := []) (fk := []) (rk := (1, [])) (sp := 0) (fuel := 3000) (by decide +kernel) lk_n odX12_ofBox
def pon_1811 : aPo := (some (.inl aTop), [none, some [((.ofNat (nat_lit 0)), (.ofNat (nat_lit 7)), (nat_lit 1))], some [((.ofNat (nat_lit 0)), (.ofNat (nat_lit 5)), (nat_lit 1))]], [sl_867, sl_1428, sl_1431, sl_1432, sl_1808], [])
def pon_1812 : aPo := (some (.inl [((.negSucc (nat_lit 1)), (.negSucc (nat_lit 1)), (nat_lit 1))]), [none, some [((.ofNat (nat_lit 0)), (.ofNat (nat_lit 7)), (nat_lit 1))], some [((.ofNat (nat_lit 4)), (.ofNat (nat_lit 5)), (nat_lit 1))]], [sl_867, sl_1428, sl_1431, sl_1432, sl_1808], [])
set_option maxRecDepth 100000 in
theorem btX12_box : bTab oX12_box tX12_box := ⟨ofX12_box, by decide +kernel⟩
def ct_914 : aCt := (mX12_box, [ag_861, ag_1, ag_1], ([], []), [pon_1811, pon_1804, pon_1812], mdn_869, [], (nat_lit 2))
set_option maxRecDepth 100000 in
theorem S_914 : aSpec wd ct_914 := bChk_ok wx_ok btX12_box (nds := []) (fk := []) (rk := (1, [])) (sp := 0) (fuel := 3000) (by decide +kernel) (lk_d S_447 ml_12_167 (lk_d S_908 ml_12_170 (lk_d S_913 ml_12_262 (lk_d S_911 ml_12_274 (lk_d S_912 ml_12_149 lk_n))))) odX12_box
def ct_915 : aCt := (mX12_in, [ag_1, ag_170, ag_125], ([], []), [pon_870, pon_997], mdn_872, [], (nat_lit 0))
set_option maxRecDepth 100000 in
theorem S_915 : aSpec wd ct_915 := bChk_ok wx_ok btX12_in (nds := []) (fk := []) (rk := (1, [])) (sp := 0) (fuel := 3000) (by decide +kernel) lk_n odX12_in
def pon_1813 : aPo := (some (.inl [((.ofNat (nat_lit 1)), (.ofNat (nat_lit 1)), (nat_lit 1))]), [none, some [((.ofNat (nat_lit 0)), (.ofNat (nat_lit 6)), (nat_lit 1))]], [sl_1428, sl_1431, sl_1432], [])
set_option maxRecDepth 100000 in
theorem btX12_isIsland : bTab oX12_isIsland tX12_isIsland := ⟨ofX12_isIsland, by decide +kernel⟩
def ct_916 : aCt := (mX12_isIsland, [ag_861, ag_1], ([], []), [pon_37, pon_1813], [], [], (nat_lit 1))
set_option maxRecDepth 100000 in
theorem S_916 : aSpec wd ct_916 := bChk_ok wx_ok btX12_isIsland (nds := []) (fk := []) (rk := (1, [])) (sp := 0) (fuel := 3000) (by decide +kernel) (lk_d S_915 ml_12_149 lk_n) odX12_isIsland
set_option maxRecDepth 100000 in
theorem btX12_songLong : bTab oX12_songLong tX12_songLong := ⟨ofX12_songLong, by decide +kernel⟩
def ct_917 : aCt := (mX12_songLong, [ag_861, ag_125], ([], []), [pon_264], [], [], (nat_lit 0))
set_option maxRecDepth 100000 in
theorem S_917 : aSpec wd ct_917 := bChk_ok wx_ok btX12_songLong (nds := []) (fk := []) (rk := (1, [])) (sp := 0) (fuel := 3000) (by decide +kernel) lk_n odX12_songLong
def pon_1814 : aPo := (some (.inl [((.ofNat (nat_lit 0)), (.ofNat (nat_lit 6)), (nat_lit 1))]), [none, some [((.ofNat (nat_lit 0)), (.ofNat (nat_lit 6)), (nat_lit 1))]], [sl_867, sl_1428, sl_1431, sl_1432], [])
set_option maxRecDepth 100000 in
theorem btX12_length : bTab oX12_length tX12_length := ⟨ofX12_length, by decide +kernel⟩
def ct_918 : aCt := (mX12_length, [ag_861, ag_1], ([], []), [pon_1814, pon_1804], mdn_869, [], (nat_lit 2))
set_option maxRecDepth 100000 in
theorem S_918 : aSpec wd ct_918 := bChk_ok wx_ok btX12_length (nds := []) (fk := []) (rk := (1, [])) (sp := 0) (fuel := 3000) (by decide +kernel) (lk_d S_447 ml_12_167 (lk_d S_908 ml_12_170 (lk_d S_917 ml_12_265 (lk_d S_916 ml_12_277 lk_n)))) odX12_length
def ag_1815 : aAg := .inl [((.negSucc (nat_lit 0)), (.ofNat (nat_lit 5)), (nat_lit 1))]
def pon_1816 : aPo := (some (.inl [((.ofNat (nat_lit 1)), (.ofNat (nat_lit 1)), (nat_lit 1))]), [some [((.ofNat (nat_lit 0)), (.ofNat (nat_lit 5)), (nat_lit 1))], none, some [((.ofNat (nat_lit 0)), (.ofNat (nat_lit 5)), (nat_lit 1))]], [], [])
def ct_919 : aCt := (mX12_in, [ag_1, ag_170, ag_1815], ([], []), [pon_1198, pon_1816], mdn_872, [], (nat_lit 0))
set_option maxRecDepth 100000 in
theorem S_919 : aSpec wd ct_919 := bChk_ok wx_ok btX12_in (nds := []) (fk := []) (rk := (1, [])) (sp := 0) (fuel := 3000) (by decide +kernel) lk_n odX12_in
def pon_1817 : aPo := (some (.inl [((.negSucc (nat_lit 2)), (.ofNat (nat_lit 3)), (nat_lit 1))]), [], [], [])
set_option maxRecDepth 100000 in
theorem btX12_noteIn : bTab oX12_noteIn tX12_noteIn := ⟨ofX12_noteIn, by decide +kernel⟩
def ct_920 : aCt := (mX12_noteIn, [ag_861, ag_125, ag_410, ag_508], ([sl_1431], []), [pon_1817], [], [], (nat_lit 0))
set_option maxRecDepth 100000 in
theorem S_920 : aSpec wd ct_920 := bChk_ok wx_ok btX12_noteIn (nds := []) (fk := []) (rk := (1, [])) (sp := 0) (fuel := 3000) (by decide +kernel) lk_n odX12_noteIn
def pon_1818 : aPo := (some (.inl [((.negSucc (nat_lit 2)), (.ofNat (nat_lit 3)), (nat_lit 1))]), [none, some [((.ofNat (nat_lit 0)), (.ofNat (nat_lit 6)), (nat_lit 1))], some [((.ofNat (nat_lit 0)), (.ofNat (nat_lit 5)), (nat_lit 1))]], [sl_867, sl_1428, sl_1431, sl_1432], [])
set_option maxRecDepth 100000 in
theorem btX12_note : bTab oX12_note tX12_note := ⟨ofX12_note, by decide +kernel⟩
def ct_921 : aCt := (mX12_note, [ag_861, ag_1, ag_1], ([], []), [pon_1818, pon_1804], mdn_869, [], (nat_lit 2))
set_option maxRecDepth 100000 in
theorem S_921 : aSpec wd ct_921 := bChk_ok wx_ok btX12_note (nds := []) (fk := []) (rk := (1, [])) (sp := 0) (fuel := 3000) (by decide +kernel) (lk_d S_447 ml_12_167 (lk_d S_908 ml_12_170 (lk_d S_917 ml_12_265 (lk_d S_920 ml_12_280 (lk_d S_916 ml_12_277 (lk_d S_919 ml_12_149 lk_n)))))) odX12_note
def ct_922 : aCt := (mX12_ofBox, [ag_861, ag_190, ag_53], ([sl_1431, sl_1432, sl_1808], []), [pon_264], [], [], (nat_lit 0))
set_option maxRecDepth 100000 in
theorem S_922 : aSpec wd ct_922 := bChk_ok wx_ok btX12_ofBox (nds := []) (fk := []) (rk := (1, [])) (sp := 0) (fuel := 3000) (by decide +kernel) lk_n odX12_ofBox
set_option maxRecDepth 100000 in
theorem btX12_boxLong : bTab oX12_boxLong tX12_boxLong := ⟨ofX12_boxLong, by decide +kernel⟩
def ct_923 : aCt := (mX12_boxLong, [ag_861, ag_190], ([sl_1431, sl_1432, sl_1808], []), [pon_264], [], [], (nat_lit 1))
set_option maxRecDepth 100000 in
theorem S_923 : aSpec wd ct_923 := bChk_ok wx_ok btX12_boxLong (nds := []) (fk := [7]) (rk := (1, [])) (sp := 0) (fuel := 3000) (by decide +kernel) (lk_d S_917 ml_12_265 (lk_d S_922 ml_12_262 lk_n)) odX12_boxLong
set_option maxRecDepth 100000 in
theorem btX12_sung : bTab oX12_sung tX12_sung := ⟨ofX12_sung, by decide +kernel⟩
def ct_924 : aCt := (mX12_sung, [ag_861, ag_1, ag_1], ([], []), [pon_1811, pon_1804], mdn_869, [], (nat_lit 2))
set_option maxRecDepth 100000 in
theorem S_924 : aSpec wd ct_924 := bChk_ok wx_ok btX12_sung (nds := []) (fk := []) (rk := (1, [])) (sp := 0) (fuel := 3000) (by decide +kernel) (lk_d S_447 ml_12_167 (lk_d S_908 ml_12_170 (lk_d S_923 ml_12_284 (lk_d S_911 ml_12_274 (lk_d S_919 ml_12_149 lk_n))))) odX12_sung
def ct_925 : aCt := (mX12_ofBox, [ag_861, ag_190, ag_53], ([sl_1431, sl_1432], []), [pon_264], [], [], (nat_lit 0))
set_option maxRecDepth 100000 in
theorem S_925 : aSpec wd ct_925 := bChk_ok wx_ok btX12_ofBox (nds := []) (fk := []) (rk := (1, [])) (sp := 0) (fuel := 3000) (by decide +kernel) lk_n odX12_ofBox
def ct_926 : aCt := (mX12_boxLong, [ag_861, ag_190], ([sl_1431, sl_1432], []), [pon_264], [], [], (nat_lit 1))
set_option maxRecDepth 100000 in
theorem S_926 : aSpec wd ct_926 := bChk_ok wx_ok btX12_boxLong (nds := []) (fk := [7]) (rk := (1, [])) (sp := 0) (fuel := 3000) (by decide +kernel) (lk_d S_917 ml_12_265 (lk_d S_925 ml_12_262 lk_n)) odX12_boxLong
def ct_927 : aCt := (mX12_ofBox, [ag_861, ag_190, ag_53], ([sl_1431], []), [pon_264], [], [], (nat_lit 0))
set_option maxRecDepth 100000 in
theorem S_927 : aSpec wd ct_927 := bChk_ok wx_ok btX12_ofBox (nds := []) (fk := []) (rk := (1, [])) (sp := 0) (fuel := 3000) (by decide +kernel) lk_n odX12_ofBox
def ct_928 : aCt := (mX12_boxLong, [ag_861, ag_190], ([sl_1431], []), [pon_264], [], [], (nat_lit 1))
set_option maxRecDepth 100000 in
theorem S_928 : aSpec wd ct_928 := bChk_ok wx_ok btX12_boxLong (nds := []) (fk := [7]) (rk := (1, [])) (sp := 0) (fuel := 3000) (by decide +kernel) (lk_d S_917 ml_12_265 (lk_d S_927 ml_12_262 lk_n)) odX12_boxLong
def lcn_1819 : Nat × aAg := ((nat_lit 4), .inl [((.negSucc (nat_lit 0)), (.ofNat (nat_lit 5)), (nat_lit 1))])
def lcn_1820 : Nat × aAg := ((nat_lit 6), .inl aTop)
def lcn_1821 : Nat × aAg := ((nat_lit 7), .inl [((.ofNat (nat_lit 0)), (.ofNat (nat_lit 6)), (nat_lit 1))])
set_option maxRecDepth 100000 in
theorem btX12_unlike : bTab oX12_unlike tX12_unlike := ⟨ofX12_unlike, by decide +kernel⟩
def ct_929 : aCt := (mX12_unlike, [ag_861, ag_190, ag_125, ag_508, ag_1815, ag_361], ([sl_1431], []), [pon_130], [], [], (nat_lit 2))
set_option maxRecDepth 100000 in
theorem S_929 : aSpec wd ct_929 := bChk_ok wx_ok btX12_unlike (nds := [((nat_lit 6), [lcn_898, lcn_540, lcn_250, lcn_509, lcn_1819, lcn_1042, lcn_1820, lcn_1821], [], [sl_1431], [], (6, [(6, -1)]))]) (fk := []) (rk := (7, [])) (sp := 64) (fuel := 3000) (by decide +kernel) (lk_d S_928 ml_12_284 (lk_d S_920 ml_12_280 lk_n)) odX12_unlike
def lcn_1822 : Nat × aAg := ((nat_lit 2), .inl [((.ofNat (nat_lit 0)), (.ofNat (nat_lit 10098)), (nat_lit 1))])
def lcn_1823 : Nat × aAg := ((nat_lit 3), .inl [((.negSucc (nat_lit 0)), (.ofNat (nat_lit 5)), (nat_lit 1))])
def lcn_1824 : Nat × aAg := ((nat_lit 6), .inl [((.negSucc (nat_lit 2147483647)), (.ofNat (nat_lit 7)), (nat_lit 1))])
def lcn_1825 : Nat × aAg := ((nat_lit 7), .inl [((.ofNat (nat_lit 0)), (.ofNat (nat_lit 7)), (nat_lit 1))])
set_option maxRecDepth 100000 in
theorem btX12_hearsIn : bTab oX12_hearsIn tX12_hearsIn := ⟨ofX12_hearsIn, by decide +kernel⟩
def ct_930 : aCt := (mX12_hearsIn, [ag_861, ag_190, ag_508, ag_1815, ag_361], ([sl_1431], []), [pon_365, pon_52], [], [], (nat_lit 3))
set_option maxRecDepth 100000 in
theorem S_930 : aSpec wd ct_930 := bChk_ok wx_ok btX12_hearsIn (nds := [((nat_lit 11), [lcn_898, lcn_540, lcn_1822, lcn_1823, lcn_449, lcn_368, lcn_1824, lcn_1825], [], [sl_1431], [], (7, [(6, -1)]))]) (fk := []) (rk := (8, [])) (sp := 2048) (fuel := 3000) (by decide +kernel) (lk_d S_917 ml_12_265 (lk_d S_926 ml_12_284 (lk_d S_929 ml_12_287 lk_n))) odX12_hearsIn
set_option maxRecDepth 100000 in
theorem btX12_heardNow : bTab oX12_heardNow tX12_heardNow := ⟨ofX12_heardNow, by decide +kernel⟩
def ct_931 : aCt := (mX12_heardNow, [ag_861, ag_190], ([sl_1431, sl_1432, sl_1808], []), [pon_365, pon_52], [], [], (nat_lit 4))
set_option maxRecDepth 100000 in
theorem S_931 : aSpec wd ct_931 := bChk_ok wx_ok btX12_heardNow (nds := []) (fk := []) (rk := (1, [])) (sp := 0) (fuel := 3000) (by decide +kernel) (lk_d S_930 ml_12_291 lk_n) odX12_heardNow
def pon_1826 : aPo := (some (.inl [((.negSucc (nat_lit 1)), (.negSucc (nat_lit 1)), (nat_lit 1)), ((.ofNat (nat_lit 0)), (.ofNat (nat_lit 6)), (nat_lit 1))]), [none, some [((.ofNat (nat_lit 0)), (.ofNat (nat_lit 7)), (nat_lit 1))]], [sl_867, sl_1428, sl_1431, sl_1432, sl_1808], [])
def pon_1827 : aPo := (some (.inl [((.negSucc (nat_lit 1)), (.negSucc (nat_lit 1)), (nat_lit 1))]), [none, some [((.ofNat (nat_lit 0)), (.ofNat (nat_lit 7)), (nat_lit 1))]], [sl_867, sl_1428, sl_1431, sl_1432, sl_1808], [])
set_option maxRecDepth 100000 in
theorem btX12_heard : bTab oX12_heard tX12_heard := ⟨ofX12_heard, by decide +kernel⟩
def ct_932 : aCt := (mX12_heard, [ag_861, ag_1], ([], []), [pon_1826, pon_1804, pon_1827], mdn_869, [], (nat_lit 5))
set_option maxRecDepth 100000 in
theorem S_932 : aSpec wd ct_932 := bChk_ok wx_ok btX12_heard (nds := []) (fk := []) (rk := (1, [])) (sp := 0) (fuel := 3000) (by decide +kernel) (lk_d S_447 ml_12_167 (lk_d S_908 ml_12_170 (lk_d S_931 ml_12_295 (lk_d S_911 ml_12_274 lk_n)))) odX12_heard
def ct_933 : aCt := (mX12_isIsland, [ag_861, ag_1], ([sl_1428, sl_1431, sl_1432], []), [pon_37, pon_374], [], [], (nat_lit 1))
set_option maxRecDepth 100000 in
theorem S_933 : aSpec wd ct_933 := bChk_ok wx_ok btX12_isIsland (nds := []) (fk := []) (rk := (1, [])) (sp := 0) (fuel := 3000) (by decide +kernel) (lk_d S_915 ml_12_149 lk_n) odX12_isIsland
def ag_1828 : aAg := .inr (.inl [(nat_lit 199)])
def ct_934 : aCt := (mX12_joins, [ag_1828, ag_380, ag_125, ag_125], ([], []), [pon_37, pon_38], mdn_872, [], (nat_lit 0))
set_option maxRecDepth 100000 in
theorem S_934 : aSpec wd ct_934 := bChk_ok wx_ok btX12_joins (nds := []) (fk := []) (rk := (1, [])) (sp := 0) (fuel := 3000) (by decide +kernel) lk_n odX12_joins
set_option maxRecDepth 100000 in
theorem btX12_hasBit : bTab oX12_hasBit tX12_hasBit := ⟨ofX12_hasBit, by decide +kernel⟩
def ct_935 : aCt := (mX12_hasBit, [ag_1, ag_605], ([], []), [pon_37, pon_38], [], [], (nat_lit 0))
set_option maxRecDepth 100000 in
theorem S_935 : aSpec wd ct_935 := bChk_ok wx_ok btX12_hasBit (nds := []) (fk := []) (rk := (1, [])) (sp := 0) (fuel := 3000) (by decide +kernel) lk_n odX12_hasBit
set_option maxRecDepth 100000 in
theorem btX12_isClosed : bTab oX12_isClosed tX12_isClosed := ⟨ofX12_isClosed, by decide +kernel⟩
def ct_936 : aCt := (mX12_isClosed, [ag_861, ag_380], ([], []), [pon_37, pon_38], [], [], (nat_lit 1))
set_option maxRecDepth 100000 in
theorem S_936 : aSpec wd ct_936 := bChk_ok wx_ok btX12_isClosed (nds := []) (fk := []) (rk := (1, [])) (sp := 0) (fuel := 3000) (by decide +kernel) (lk_d S_935 ml_12_298 lk_n) odX12_isClosed
def sl_1829 : (Nat × Nat) × aI := (((nat_lit 199), (nat_lit 5)), [((.ofNat (nat_lit 1)), (.ofNat (nat_lit 12)), (nat_lit 1))])
def pon_1830 : aPo := (some (.inl [((.ofNat (nat_lit 0)), (.ofNat (nat_lit 11)), (nat_lit 1))]), [], [sl_1829], [])
set_option maxRecDepth 100000 in
theorem btX12_wayOf : bTab oX12_wayOf tX12_wayOf := ⟨ofX12_wayOf, by decide +kernel⟩
def ct_937 : aCt := (mX12_wayOf, [ag_861, ag_125, ag_125], ([sl_1431, sl_1432], []), [pon_1830, pon_878], [], [], (nat_lit 2))
set_option maxRecDepth 100000 in
theorem S_937 : aSpec wd ct_937 := bChk_ok wx_ok btX12_wayOf (nds := [((nat_lit 2), [lcn_898, lcn_249, lcn_250, lcn_379], [], [sl_1431, sl_1432], [], (12, [(2, -1)]))]) (fk := []) (rk := (13, [])) (sp := 4) (fuel := 3000) (by decide +kernel) (lk_d S_936 ml_12_302 (lk_d S_934 ml_12_230 lk_n)) odX12_wayOf
def pon_1831 : aPo := (some (.inl aTop), [none, some [((.ofNat (nat_lit 0)), (.ofNat (nat_lit 6)), (nat_lit 1))], some [((.ofNat (nat_lit 0)), (.ofNat (nat_lit 6)), (nat_lit 1))]], [sl_867, sl_1428, sl_1431, sl_1432, sl_1829], [])
def pon_1832 : aPo := (some (.inl [((.negSucc (nat_lit 1)), (.negSucc (nat_lit 1)), (nat_lit 1))]), [none, some [((.ofNat (nat_lit 0)), (.ofNat (nat_lit 6)), (nat_lit 1))], some [((.ofNat (nat_lit 0)), (.ofNat (nat_lit 6)), (nat_lit 1))]], [sl_867, sl_1428, sl_1431, sl_1432], [])
set_option maxRecDepth 100000 in
theorem btX12_way : bTab oX12_way tX12_way := ⟨ofX12_way, by decide +kernel⟩
def ct_938 : aCt := (mX12_way, [ag_861, ag_1, ag_1], ([], []), [pon_1831, pon_1804, pon_1832], mdn_869, [], (nat_lit 3))
set_option maxRecDepth 100000 in
theorem S_938 : aSpec wd ct_938 := bChk_ok wx_ok btX12_way (nds := []) (fk := []) (rk := (1, [])) (sp := 0) (fuel := 3000) (by decide +kernel) (lk_d S_447 ml_12_167 (lk_d S_908 ml_12_170 (lk_d S_937 ml_12_305 (lk_d S_933 ml_12_277 (lk_d S_916 ml_12_277 lk_n))))) odX12_way
def pon_1833 : aPo := (some (.inl [((.ofNat (nat_lit 0)), (.ofNat (nat_lit 0)), (nat_lit 1))]), [some [((.negSucc (nat_lit 2147483647)), (.negSucc (nat_lit 0)), (nat_lit 1)), ((.ofNat (nat_lit 100000)), (.ofNat (nat_lit 2147483647)), (nat_lit 1))], none, none], [], [])
def pon_1834 : aPo := (some (.inl [((.ofNat (nat_lit 1)), (.ofNat (nat_lit 1)), (nat_lit 1))]), [some [((.ofNat (nat_lit 0)), (.ofNat (nat_lit 99999)), (nat_lit 1))], none, none], [], [])
def ct_939 : aCt := (mX12_in, [ag_1, ag_170, ag_385], ([], []), [pon_1833, pon_1834], mdn_872, [], (nat_lit 0))
set_option maxRecDepth 100000 in
theorem S_939 : aSpec wd ct_939 := bChk_ok wx_ok btX12_in (nds := []) (fk := []) (rk := (1, [])) (sp := 0) (fuel := 3000) (by decide +kernel) lk_n odX12_in
set_option maxRecDepth 100000 in
theorem btX12_seasonOf : bTab oX12_seasonOf tX12_seasonOf := ⟨ofX12_seasonOf, by decide +kernel⟩
def ct_940 : aCt := (mX12_seasonOf, [ag_560], ([], []), [pon_346], [], [], (nat_lit 0))
set_option maxRecDepth 100000 in
theorem S_940 : aSpec wd ct_940 := bChk_ok wx_ok btX12_seasonOf (nds := []) (fk := []) (rk := (1, [])) (sp := 0) (fuel := 3000) (by decide +kernel) lk_n odX12_seasonOf
def pon_1835 : aPo := (some (.inl [((.ofNat (nat_lit 0)), (.ofNat (nat_lit 3)), (nat_lit 1))]), [none, some [((.ofNat (nat_lit 0)), (.ofNat (nat_lit 99999)), (nat_lit 1))]], [sl_867, sl_1428, sl_1431, sl_1432], [])
def sl_1836 : (Nat × Nat) × aI := (((nat_lit 196), (nat_lit 11)), [((.ofNat (nat_lit 1)), (.ofNat (nat_lit 2)), (nat_lit 1))])
def pon_1837 : aPo := (some (.inl [((.negSucc (nat_lit 0)), (.negSucc (nat_lit 0)), (nat_lit 1))]), [], [sl_1836], [])
set_option maxRecDepth 100000 in
theorem btX12_season : bTab oX12_season tX12_season := ⟨ofX12_season, by decide +kernel⟩
def ct_941 : aCt := (mX12_season, [ag_861, ag_1], ([], []), [pon_1835, pon_1837], mdn_869, [], (nat_lit 1))
set_option maxRecDepth 100000 in
theorem S_941 : aSpec wd ct_941 := bChk_ok wx_ok btX12_season (nds := []) (fk := []) (rk := (1, [])) (sp := 0) (fuel := 3000) (by decide +kernel) (lk_d S_447 ml_12_167 (lk_d S_908 ml_12_170 (lk_d S_449 ml_12_170 (lk_d S_940 ml_12_337 (lk_d S_939 ml_12_149 lk_n))))) odX12_season
def pon_1838 : aPo := (some (.inl [((.ofNat (nat_lit 0)), (.ofNat (nat_lit 0)), (nat_lit 1))]), [some [((.negSucc (nat_lit 2147483647)), (.negSucc (nat_lit 0)), (nat_lit 1)), ((.ofNat (nat_lit 12)), (.ofNat (nat_lit 2147483647)), (nat_lit 1))], none, none], [], [])
def pon_1839 : aPo := (some (.inl [((.ofNat (nat_lit 1)), (.ofNat (nat_lit 1)), (nat_lit 1))]), [some [((.ofNat (nat_lit 0)), (.ofNat (nat_lit 11)), (nat_lit 1))], none, none], [], [])
def ct_942 : aCt := (mX12_in, [ag_1, ag_170, ag_1192], ([], []), [pon_1838, pon_1839], mdn_872, [], (nat_lit 0))
set_option maxRecDepth 100000 in
theorem S_942 : aSpec wd ct_942 := bChk_ok wx_ok btX12_in (nds := []) (fk := []) (rk := (1, [])) (sp := 0) (fuel := 3000) (by decide +kernel) lk_n odX12_in
def sl_1840 : (Nat × Nat) × aI := (((nat_lit 199), (nat_lit 5)), [((.ofNat (nat_lit 12)), (.ofNat (nat_lit 12)), (nat_lit 1))])
def ct_943 : aCt := (mX12_ofWhale, [ag_861, ag_217, ag_170], ([sl_1431, sl_1432, sl_1840, sl_1799], []), [pon_346], [], [], (nat_lit 0))
set_option maxRecDepth 100000 in
theorem S_943 : aSpec wd ct_943 := bChk_ok wx_ok btX12_ofWhale (nds := []) (fk := []) (rk := (1, [])) (sp := 0) (fuel := 3000) (by decide +kernel) lk_n odX12_ofWhale
def ag_1841 : aAg := .inl [((.ofNat (nat_lit 10)), (.ofNat (nat_lit 10)), (nat_lit 1))]
def pon_1842 : aPo := (some (.inl [((.ofNat (nat_lit 0)), (.ofNat (nat_lit 0)), (nat_lit 1))]), [some [((.negSucc (nat_lit 2147483647)), (.negSucc (nat_lit 0)), (nat_lit 1)), ((.ofNat (nat_lit 11)), (.ofNat (nat_lit 2147483647)), (nat_lit 1))], none, none], [], [])
def pon_1843 : aPo := (some (.inl [((.ofNat (nat_lit 1)), (.ofNat (nat_lit 1)), (nat_lit 1))]), [some [((.ofNat (nat_lit 0)), (.ofNat (nat_lit 10)), (nat_lit 1))], none, none], [], [])
def ct_944 : aCt := (mX12_in, [ag_1, ag_170, ag_1841], ([], []), [pon_1842, pon_1843], mdn_872, [], (nat_lit 0))
set_option maxRecDepth 100000 in
theorem S_944 : aSpec wd ct_944 := bChk_ok wx_ok btX12_in (nds := []) (fk := []) (rk := (1, [])) (sp := 0) (fuel := 3000) (by decide +kernel) lk_n odX12_in
def sl_1844 : (Nat × Nat) × aI := (((nat_lit 199), (nat_lit 5)), [((.ofNat (nat_lit 11)), (.ofNat (nat_lit 11)), (nat_lit 1))])
def ct_945 : aCt := (mX12_ofWhale, [ag_861, ag_217, ag_170], ([sl_1431, sl_1432, sl_1844, sl_1799], []), [pon_346], [], [], (nat_lit 0))
set_option maxRecDepth 100000 in
theorem S_945 : aSpec wd ct_945 := bChk_ok wx_ok btX12_ofWhale (nds := []) (fk := []) (rk := (1, [])) (sp := 0) (fuel := 3000) (by decide +kernel) lk_n odX12_ofWhale
def ag_1845 : aAg := .inl [((.ofNat (nat_lit 9)), (.ofNat (nat_lit 9)), (nat_lit 1))]
def pon_1846 : aPo := (some (.inl [((.ofNat (nat_lit 0)), (.ofNat (nat_lit 0)), (nat_lit 1))]), [some [((.negSucc (nat_lit 2147483647)), (.negSucc (nat_lit 0)), (nat_lit 1)), ((.ofNat (nat_lit 10)), (.ofNat (nat_lit 2147483647)), (nat_lit 1))], none, none], [], [])
def pon_1847 : aPo := (some (.inl [((.ofNat (nat_lit 1)), (.ofNat (nat_lit 1)), (nat_lit 1))]), [some [((.ofNat (nat_lit 0)), (.ofNat (nat_lit 9)), (nat_lit 1))], none, none], [], [])
def ct_946 : aCt := (mX12_in, [ag_1, ag_170, ag_1845], ([], []), [pon_1846, pon_1847], mdn_872, [], (nat_lit 0))
set_option maxRecDepth 100000 in
theorem S_946 : aSpec wd ct_946 := bChk_ok wx_ok btX12_in (nds := []) (fk := []) (rk := (1, [])) (sp := 0) (fuel := 3000) (by decide +kernel) lk_n odX12_in
def sl_1848 : (Nat × Nat) × aI := (((nat_lit 199), (nat_lit 5)), [((.ofNat (nat_lit 10)), (.ofNat (nat_lit 10)), (nat_lit 1))])
def ct_947 : aCt := (mX12_ofWhale, [ag_861, ag_217, ag_170], ([sl_1431, sl_1432, sl_1848, sl_1799], []), [pon_346], [], [], (nat_lit 0))
set_option maxRecDepth 100000 in
theorem S_947 : aSpec wd ct_947 := bChk_ok wx_ok btX12_ofWhale (nds := []) (fk := []) (rk := (1, [])) (sp := 0) (fuel := 3000) (by decide +kernel) lk_n odX12_ofWhale
def ag_1849 : aAg := .inl [((.ofNat (nat_lit 8)), (.ofNat (nat_lit 8)), (nat_lit 1))]
def pon_1850 : aPo := (some (.inl [((.ofNat (nat_lit 0)), (.ofNat (nat_lit 0)), (nat_lit 1))]), [some [((.negSucc (nat_lit 2147483647)), (.negSucc (nat_lit 0)), (nat_lit 1)), ((.ofNat (nat_lit 9)), (.ofNat (nat_lit 2147483647)), (nat_lit 1))], none, none], [], [])
def pon_1851 : aPo := (some (.inl [((.ofNat (nat_lit 1)), (.ofNat (nat_lit 1)), (nat_lit 1))]), [some [((.ofNat (nat_lit 0)), (.ofNat (nat_lit 8)), (nat_lit 1))], none, none], [], [])
def ct_948 : aCt := (mX12_in, [ag_1, ag_170, ag_1849], ([], []), [pon_1850, pon_1851], mdn_872, [], (nat_lit 0))
set_option maxRecDepth 100000 in
theorem S_948 : aSpec wd ct_948 := bChk_ok wx_ok btX12_in (nds := []) (fk := []) (rk := (1, [])) (sp := 0) (fuel := 3000) (by decide +kernel) lk_n odX12_in
def sl_1852 : (Nat × Nat) × aI := (((nat_lit 199), (nat_lit 5)), [((.ofNat (nat_lit 9)), (.ofNat (nat_lit 9)), (nat_lit 1))])
def ct_949 : aCt := (mX12_ofWhale, [ag_861, ag_217, ag_170], ([sl_1431, sl_1432, sl_1852, sl_1799], []), [pon_346], [], [], (nat_lit 0))
set_option maxRecDepth 100000 in
theorem S_949 : aSpec wd ct_949 := bChk_ok wx_ok btX12_ofWhale (nds := []) (fk := []) (rk := (1, [])) (sp := 0) (fuel := 3000) (by decide +kernel) lk_n odX12_ofWhale
def pon_1853 : aPo := (some (.inl [((.ofNat (nat_lit 0)), (.ofNat (nat_lit 0)), (nat_lit 1))]), [some [((.negSucc (nat_lit 2147483647)), (.negSucc (nat_lit 0)), (nat_lit 1)), ((.ofNat (nat_lit 8)), (.ofNat (nat_lit 2147483647)), (nat_lit 1))], none, none], [], [])
def pon_1854 : aPo := (some (.inl [((.ofNat (nat_lit 1)), (.ofNat (nat_lit 1)), (nat_lit 1))]), [some [((.ofNat (nat_lit 0)), (.ofNat (nat_lit 7)), (nat_lit 1))], none, none], [], [])
def ct_950 : aCt := (mX12_in, [ag_1, ag_170, ag_133], ([], []), [pon_1853, pon_1854], mdn_872, [], (nat_lit 0))
set_option maxRecDepth 100000 in
theorem S_950 : aSpec wd ct_950 := bChk_ok wx_ok btX12_in (nds := []) (fk := []) (rk := (1, [])) (sp := 0) (fuel := 3000) (by decide +kernel) lk_n odX12_in
def sl_1855 : (Nat × Nat) × aI := (((nat_lit 199), (nat_lit 5)), [((.ofNat (nat_lit 8)), (.ofNat (nat_lit 8)), (nat_lit 1))])
def ct_951 : aCt := (mX12_ofWhale, [ag_861, ag_217, ag_170], ([sl_1431, sl_1432, sl_1855, sl_1799], []), [pon_346], [], [], (nat_lit 0))
set_option maxRecDepth 100000 in
theorem S_951 : aSpec wd ct_951 := bChk_ok wx_ok btX12_ofWhale (nds := []) (fk := []) (rk := (1, [])) (sp := 0) (fuel := 3000) (by decide +kernel) lk_n odX12_ofWhale
def pon_1856 : aPo := (some (.inl [((.ofNat (nat_lit 0)), (.ofNat (nat_lit 0)), (nat_lit 1))]), [some [((.negSucc (nat_lit 2147483647)), (.negSucc (nat_lit 0)), (nat_lit 1)), ((.ofNat (nat_lit 7)), (.ofNat (nat_lit 2147483647)), (nat_lit 1))], none, none], [], [])
def ct_952 : aCt := (mX12_in, [ag_1, ag_170, ag_153], ([], []), [pon_1856, pon_997], mdn_872, [], (nat_lit 0))
set_option maxRecDepth 100000 in
theorem S_952 : aSpec wd ct_952 := bChk_ok wx_ok btX12_in (nds := []) (fk := []) (rk := (1, [])) (sp := 0) (fuel := 3000) (by decide +kernel) lk_n odX12_in
def sl_1857 : (Nat × Nat) × aI := (((nat_lit 199), (nat_lit 5)), [((.ofNat (nat_lit 7)), (.ofNat (nat_lit 7)), (nat_lit 1))])
def ct_953 : aCt := (mX12_ofWhale, [ag_861, ag_217, ag_170], ([sl_1431, sl_1432, sl_1857, sl_1799], []), [pon_346], [], [], (nat_lit 0))
set_option maxRecDepth 100000 in
theorem S_953 : aSpec wd ct_953 := bChk_ok wx_ok btX12_ofWhale (nds := []) (fk := []) (rk := (1, [])) (sp := 0) (fuel := 3000) (by decide +kernel) lk_n odX12_ofWhale
def sl_1858 : (Nat × Nat) × aI := (((nat_lit 199), (nat_lit 5)), [((.ofNat (nat_lit 6)), (.ofNat (nat_lit 6)), (nat_lit 1))])
def ct_954 : aCt := (mX12_ofWhale, [ag_861, ag_217, ag_170], ([sl_1431, sl_1432, sl_1858, sl_1799], []), [pon_346], [], [], (nat_lit 0))
set_option maxRecDepth 100000 in
theorem S_954 : aSpec wd ct_954 := bChk_ok wx_ok btX12_ofWhale (nds := []) (fk := []) (rk := (1, [])) (sp := 0) (fuel := 3000) (by decide +kernel) lk_n odX12_ofWhale
def sl_1859 : (Nat × Nat) × aI := (((nat_lit 199), (nat_lit 5)), [((.ofNat (nat_lit 5)), (.ofNat (nat_lit 5)), (nat_lit 1))])
def ct_955 : aCt := (mX12_ofWhale, [ag_861, ag_217, ag_170], ([sl_1431, sl_1432, sl_1859, sl_1799], []), [pon_346], [], [], (nat_lit 0))
set_option maxRecDepth 100000 in
theorem S_955 : aSpec wd ct_955 := bChk_ok wx_ok btX12_ofWhale (nds := []) (fk := []) (rk := (1, [])) (sp := 0) (fuel := 3000) (by decide +kernel) lk_n odX12_ofWhale
def sl_1860 : (Nat × Nat) × aI := (((nat_lit 199), (nat_lit 5)), [((.ofNat (nat_lit 4)), (.ofNat (nat_lit 4)), (nat_lit 1))])
def ct_956 : aCt := (mX12_ofWhale, [ag_861, ag_217, ag_170], ([sl_1431, sl_1432, sl_1860, sl_1799], []), [pon_346], [], [], (nat_lit 0))
set_option maxRecDepth 100000 in
theorem S_956 : aSpec wd ct_956 := bChk_ok wx_ok btX12_ofWhale (nds := []) (fk := []) (rk := (1, [])) (sp := 0) (fuel := 3000) (by decide +kernel) lk_n odX12_ofWhale
def pon_1861 : aPo := (some (.inl [((.ofNat (nat_lit 0)), (.ofNat (nat_lit 0)), (nat_lit 1))]), [some [((.negSucc (nat_lit 2147483647)), (.negSucc (nat_lit 0)), (nat_lit 1)), ((.ofNat (nat_lit 3)), (.ofNat (nat_lit 2147483647)), (nat_lit 1))], none, none], [], [])
def ct_957 : aCt := (mX12_in, [ag_1, ag_170, ag_22], ([], []), [pon_1861, pon_1304], mdn_872, [], (nat_lit 0))
set_option maxRecDepth 100000 in
theorem S_957 : aSpec wd ct_957 := bChk_ok wx_ok btX12_in (nds := []) (fk := []) (rk := (1, [])) (sp := 0) (fuel := 3000) (by decide +kernel) lk_n odX12_in
def sl_1862 : (Nat × Nat) × aI := (((nat_lit 199), (nat_lit 5)), [((.ofNat (nat_lit 3)), (.ofNat (nat_lit 3)), (nat_lit 1))])
def ct_958 : aCt := (mX12_ofWhale, [ag_861, ag_217, ag_170], ([sl_1431, sl_1432, sl_1862, sl_1799], []), [pon_346], [], [], (nat_lit 0))
set_option maxRecDepth 100000 in
theorem S_958 : aSpec wd ct_958 := bChk_ok wx_ok btX12_ofWhale (nds := []) (fk := []) (rk := (1, [])) (sp := 0) (fuel := 3000) (by decide +kernel) lk_n odX12_ofWhale
def pon_1863 : aPo := (some (.inl [((.ofNat (nat_lit 0)), (.ofNat (nat_lit 0)), (nat_lit 1))]), [some [((.negSucc (nat_lit 2147483647)), (.negSucc (nat_lit 0)), (nat_lit 1)), ((.ofNat (nat_lit 2)), (.ofNat (nat_lit 2147483647)), (nat_lit 1))], none, none], [], [])
def ct_959 : aCt := (mX12_in, [ag_1, ag_170, ag_53], ([], []), [pon_1863, pon_1270], mdn_872, [], (nat_lit 0))
set_option maxRecDepth 100000 in
theorem S_959 : aSpec wd ct_959 := bChk_ok wx_ok btX12_in (nds := []) (fk := []) (rk := (1, [])) (sp := 0) (fuel := 3000) (by decide +kernel) lk_n odX12_in
def sl_1864 : (Nat × Nat) × aI := (((nat_lit 199), (nat_lit 5)), [((.ofNat (nat_lit 2)), (.ofNat (nat_lit 2)), (nat_lit 1))])
def ct_960 : aCt := (mX12_ofWhale, [ag_861, ag_217, ag_170], ([sl_1431, sl_1432, sl_1864, sl_1799], []), [pon_346], [], [], (nat_lit 0))
set_option maxRecDepth 100000 in
theorem S_960 : aSpec wd ct_960 := bChk_ok wx_ok btX12_ofWhale (nds := []) (fk := []) (rk := (1, [])) (sp := 0) (fuel := 3000) (by decide +kernel) lk_n odX12_ofWhale
def ct_961 : aCt := (mX12_in, [ag_1, ag_170, ag_170], ([], []), [pon_870, pon_1228], mdn_872, [], (nat_lit 0))
set_option maxRecDepth 100000 in
theorem S_961 : aSpec wd ct_961 := bChk_ok wx_ok btX12_in (nds := []) (fk := []) (rk := (1, [])) (sp := 0) (fuel := 3000) (by decide +kernel) lk_n odX12_in
def sl_1865 : (Nat × Nat) × aI := (((nat_lit 199), (nat_lit 5)), [((.ofNat (nat_lit 1)), (.ofNat (nat_lit 1)), (nat_lit 1))])
def ct_962 : aCt := (mX12_ofWhale, [ag_861, ag_217, ag_170], ([sl_1431, sl_1432, sl_1865, sl_1799], []), [pon_346], [], [], (nat_lit 0))
set_option maxRecDepth 100000 in
theorem S_962 : aSpec wd ct_962 := bChk_ok wx_ok btX12_ofWhale (nds := []) (fk := []) (rk := (1, [])) (sp := 0) (fuel := 3000) (by decide +kernel) lk_n odX12_ofWhale
def ct_963 : aCt := (mX12_in, [ag_1, ag_170, ag_885], ([], []), [pon_1198], mdn_872, [], (nat_lit 0))
set_option maxRecDepth 100000 in
theorem S_963 : aSpec wd ct_963 := bChk_ok wx_ok btX12_in (nds := []) (fk := []) (rk := (1, [])) (sp := 0) (fuel := 3000) (by decide +kernel) lk_n odX12_in
def pon_1866 : aPo := (some (.inl aTop), [none, some [((.ofNat (nat_lit 0)), (.ofNat (nat_lit 4)), (nat_lit 1))], some [((.ofNat (nat_lit 0)), (.ofNat (nat_lit 11)), (nat_lit 1))], some [((.ofNat (nat_lit 0)), (.ofNat (nat_lit 9999)), (nat_lit 1))]], [sl_867, sl_1428, sl_1431, sl_1432, sl_1829, sl_1799], [])
def pon_1867 : aPo := (some (.inl [((.negSucc (nat_lit 1)), (.negSucc (nat_lit 1)), (nat_lit 1))]), [none, some [((.ofNat (nat_lit 0)), (.ofNat (nat_lit 4)), (nat_lit 1))], some [((.ofNat (nat_lit 0)), (.ofNat (nat_lit 11)), (nat_lit 1))], some [((.ofNat (nat_lit 0)), (.ofNat (nat_lit 9999)), (nat_lit 1))]], [sl_867, sl_1428, sl_1431, sl_1432, sl_1829, sl_1799], [])
set_option maxRecDepth 100000 in
theorem btX12_sets : bTab oX12_sets tX12_sets := ⟨ofX12_sets, by decide +kernel⟩
def ct_964 : aCt := (mX12_sets, [ag_861, ag_1, ag_1, ag_1], ([], []), [pon_1866, pon_1837, pon_1867], mdn_869, [], (nat_lit 3))
set_option maxRecDepth 100000 in
theorem S_964 : aSpec wd ct_964 := bChk_ok wx_ok btX12_sets (nds := []) (fk := [20, 53]) (rk := (1, [])) (sp := 0) (fuel := 3000) (by decide +kernel) (lk_d S_447 ml_12_167 (lk_d S_449 ml_12_170 (lk_d S_908 ml_12_170 (lk_d S_943 ml_12_271 (lk_d S_945 ml_12_271 (lk_d S_947 ml_12_271 (lk_d S_949 ml_12_271 (lk_d S_951 ml_12_271 (lk_d S_953 ml_12_271 (lk_d S_954 ml_12_271 (lk_d S_955 ml_12_271 (lk_d S_956 ml_12_271 (lk_d S_958 ml_12_271 (lk_d S_960 ml_12_271 (lk_d S_962 ml_12_271 (lk_d S_936 ml_12_302 (lk_d S_904 ml_12_268 (lk_d S_942 ml_12_149 (lk_d S_725 ml_12_149 (lk_d S_944 ml_12_149 (lk_d S_946 ml_12_149 (lk_d S_948 ml_12_149 (lk_d S_950 ml_12_149 (lk_d S_952 ml_12_149 (lk_d S_912 ml_12_149 (lk_d S_905 ml_12_149 (lk_d S_469 ml_12_149 (lk_d S_957 ml_12_149 (lk_d S_959 ml_12_149 (lk_d S_961 ml_12_149 (lk_d S_963 ml_12_149 (lk_d S_X12_setsOut_0 ml_12_334 (lk_d S_X12_setsOut_1 ml_12_334 (lk_d S_X12_setsOut_2 ml_12_334 (lk_d S_X12_setsOut_3 ml_12_334 (lk_d S_X12_setsOut_4 ml_12_334 (lk_d S_X12_setsOut_5 ml_12_334 (lk_d S_X12_setsOut_6 ml_12_334 (lk_d S_X12_setsOut_7 ml_12_334 (lk_d S_X12_setsOut_8 ml_12_334 (lk_d S_X12_setsOut_9 ml_12_334 (lk_d S_X12_setsOut_10 ml_12_334 (lk_d S_X12_setsOut_11 ml_12_334 lk_n))))))))))))))))))))))))))))))))))))))))))) odX12_sets
def ct_965 : aCt := (mX12_ofBox, [ag_861, ag_190, ag_122], ([sl_1431, sl_1432, sl_1808], []), [pon_130], [], [], (nat_lit 0))
set_option maxRecDepth 100000 in
theorem S_965 : aSpec wd ct_965 := bChk_ok wx_ok btX12_ofBox (nds := []) (fk := []) (rk := (1, [])) (sp := 0) (fuel := 3000) (by decide +kernel) lk_n odX12_ofBox
def pon_1868 : aPo := (some (.inl aTop), [], [sl_867, sl_1428, sl_1431, sl_1432], [])
set_option maxRecDepth 100000 in
theorem btX12_sent : bTab oX12_sent tX12_sent := ⟨ofX12_sent, by decide +kernel⟩
def ct_966 : aCt := (mX12_sent, [ag_861, ag_1], ([], []), [pon_1868, pon_1804], mdn_869, [], (nat_lit 1))
set_option maxRecDepth 100000 in
theorem S_966 : aSpec wd ct_966 := bChk_ok wx_ok btX12_sent (nds := [((nat_lit 30), [lcn_898, lcn_397, lcn_132, lcn_408], [], [sl_867, sl_1428, sl_1431, sl_1432], [], (8, [(2, -1)]))]) (fk := []) (rk := (9, [])) (sp := 1073741824) (fuel := 3000) (by decide +kernel) (lk_d S_447 ml_12_167 (lk_d S_908 ml_12_170 (lk_d S_922 ml_12_262 (lk_d S_965 ml_12_262 (lk_d S_957 ml_12_149 lk_n))))) odX12_sent
set_option maxRecDepth 100000 in
theorem btX12_apartOf : bTab oX12_apartOf tX12_apartOf := ⟨ofX12_apartOf, by decide +kernel⟩
def ct_967 : aCt := (mX12_apartOf, [ag_861, ag_125, ag_125], ([sl_1431, sl_1432], []), [pon_130, pon_52], [], [], (nat_lit 1))
set_option maxRecDepth 100000 in
theorem S_967 : aSpec wd ct_967 := bChk_ok wx_ok btX12_apartOf (nds := [((nat_lit 21), [lcn_898, lcn_249, lcn_250, lcn_517, lcn_446], [], [sl_1431, sl_1432], [], (6, [(3, -1)]))]) (fk := []) (rk := (7, [])) (sp := 2097152) (fuel := 3000) (by decide +kernel) (lk_d S_917 ml_12_265 lk_n) odX12_apartOf
def pon_1869 : aPo := (some (.inl aTop), [none, some [((.ofNat (nat_lit 0)), (.ofNat (nat_lit 6)), (nat_lit 1))], some [((.ofNat (nat_lit 0)), (.ofNat (nat_lit 6)), (nat_lit 1))]], [sl_867, sl_1428, sl_1431, sl_1432], [])
set_option maxRecDepth 100000 in
theorem btX12_apart : bTab oX12_apart tX12_apart := ⟨ofX12_apart, by decide +kernel⟩
def ct_968 : aCt := (mX12_apart, [ag_861, ag_1, ag_1], ([], []), [pon_1869, pon_1804, pon_1832], mdn_869, [], (nat_lit 2))
set_option maxRecDepth 100000 in
theorem S_968 : aSpec wd ct_968 := bChk_ok wx_ok btX12_apart (nds := []) (fk := []) (rk := (1, [])) (sp := 0) (fuel := 3000) (by decide +kernel) (lk_d S_447 ml_12_167 (lk_d S_908 ml_12_170 (lk_d S_967 ml_12_312 (lk_d S_933 ml_12_277 (lk_d S_916 ml_12_277 lk_n))))) odX12_apart
def lcn_1870 : Nat × aAg := ((nat_lit 1), .inl [((.ofNat (nat_lit 1)), (.ofNat (nat_lit 6)), (nat_lit 1))])
def ct_969 : aCt := (mX12_apartOf, [ag_861, ag_409, ag_410], ([sl_1431, sl_1432], []), [pon_130, pon_52], [], [], (nat_lit 1))
set_option maxRecDepth 100000 in
theorem S_969 : aSpec wd ct_969 := bChk_ok wx_ok btX12_apartOf (nds := [((nat_lit 21), [lcn_898, lcn_1870, lcn_293, lcn_517, lcn_446], [], [sl_1431, sl_1432], [], (6, [(3, -1)]))]) (fk := []) (rk := (7, [])) (sp := 2097152) (fuel := 3000) (by decide +kernel) (lk_d S_917 ml_12_265 lk_n) odX12_apartOf
def sl_1871 : (Nat × Nat) × aI := (((nat_lit 196), (nat_lit 14)), [((.ofNat (nat_lit 0)), (.ofNat (nat_lit 0)), (nat_lit 1))])
def pon_1872 : aPo := (some (.inl [((.negSucc (nat_lit 0)), (.negSucc (nat_lit 0)), (nat_lit 1))]), [], [sl_1803, sl_1871], [])
def pon_1873 : aPo := (some (.inl [((.negSucc (nat_lit 1)), (.negSucc (nat_lit 1)), (nat_lit 1))]), [], [sl_867, sl_1428, sl_1431, sl_1432], [])
set_option maxRecDepth 100000 in
theorem btX12_bear : bTab oX12_bear tX12_bear := ⟨ofX12_bear, by decide +kernel⟩
def ct_970 : aCt := (mX12_bear, [ag_861], ([], []), [pon_1868, pon_1872, pon_1873], mdn_869, [], (nat_lit 2))
set_option maxRecDepth 100000 in
theorem S_970 : aSpec wd ct_970 := bChk_ok wx_ok btX12_bear (nds := [((nat_lit 22), [lcn_898, lcn_271, lcn_411], [], [sl_867, sl_1428, sl_1431, sl_1432], [], (63, [(1, -8)])), ((nat_lit 34), [lcn_898, lcn_271, lcn_250, lcn_144], [], [sl_867, sl_1428, sl_1431, sl_1432], [], (62, [(1, -8), (2, -1)]))]) (fk := []) (rk := (64, [])) (sp := 17184063488) (fuel := 3000) (by decide +kernel) (lk_d S_447 ml_12_167 (lk_d S_908 ml_12_170 (lk_d S_969 ml_12_312 lk_n))) odX12_bear
set_option maxRecDepth 100000 in
theorem btX12_mixed : bTab oX12_mixed tX12_mixed := ⟨ofX12_mixed, by decide +kernel⟩
def ct_971 : aCt := (mX12_mixed, [ag_861], ([], []), [pon_1868, pon_1872], mdn_869, [], (nat_lit 2))
set_option maxRecDepth 100000 in
theorem S_971 : aSpec wd ct_971 := bChk_ok wx_ok btX12_mixed (nds := [((nat_lit 21), [lcn_898, lcn_271, lcn_411], [], [sl_867, sl_1428, sl_1431, sl_1432], [], (63, [(1, -8)])), ((nat_lit 33), [lcn_898, lcn_271, lcn_250, lcn_144], [], [sl_867, sl_1428, sl_1431, sl_1432], [], (62, [(1, -8), (2, -1)]))]) (fk := []) (rk := (64, [])) (sp := 8592031744) (fuel := 3000) (by decide +kernel) (lk_d S_447 ml_12_167 (lk_d S_908 ml_12_170 (lk_d S_969 ml_12_312 lk_n))) odX12_mixed
def pon_1874 : aPo := (some (.inl [((.ofNat (nat_lit 0)), (.ofNat (nat_lit 0)), (nat_lit 1))]), [some [((.negSucc (nat_lit 2147483647)), (.ofNat (nat_lit 1)), (nat_lit 1)), ((.ofNat (nat_lit 6)), (.ofNat (nat_lit 2147483647)), (nat_lit 1))], none, none], [], [])
def pon_1875 : aPo := (some (.inl [((.ofNat (nat_lit 1)), (.ofNat (nat_lit 1)), (nat_lit 1))]), [some [((.ofNat (nat_lit 2)), (.ofNat (nat_lit 5)), (nat_lit 1))], none, none], [], [])
def ct_972 : aCt := (mX12_in, [ag_1, ag_22, ag_150], ([], []), [pon_1874, pon_1875], mdn_872, [], (nat_lit 0))
set_option maxRecDepth 100000 in
theorem S_972 : aSpec wd ct_972 := bChk_ok wx_ok btX12_in (nds := []) (fk := []) (rk := (1, [])) (sp := 0) (fuel := 3000) (by decide +kernel) lk_n odX12_in
def pon_1876 : aPo := (some (.inl [((.ofNat (nat_lit 0)), (.ofNat (nat_lit 0)), (nat_lit 1))]), [some [((.negSucc (nat_lit 2147483647)), (.ofNat (nat_lit 0)), (nat_lit 1)), ((.ofNat (nat_lit 6)), (.ofNat (nat_lit 2147483647)), (nat_lit 1))], none, none], [], [])
def pon_1877 : aPo := (some (.inl [((.ofNat (nat_lit 1)), (.ofNat (nat_lit 1)), (nat_lit 1))]), [some [((.ofNat (nat_lit 1)), (.ofNat (nat_lit 5)), (nat_lit 1))], none, none], [], [])
def ct_973 : aCt := (mX12_in, [ag_1, ag_53, ag_150], ([], []), [pon_1876, pon_1877], mdn_872, [], (nat_lit 0))
set_option maxRecDepth 100000 in
theorem S_973 : aSpec wd ct_973 := bChk_ok wx_ok btX12_in (nds := []) (fk := []) (rk := (1, [])) (sp := 0) (fuel := 3000) (by decide +kernel) lk_n odX12_in
def pon_1878 : aPo := (some (.inl [((.ofNat (nat_lit 2)), (.ofNat (nat_lit 2)), (nat_lit 1))]), [], [sl_1428, sl_1431, sl_1432], [])
def pon_1879 : aPo := (some (.inl [((.ofNat (nat_lit 0)), (.ofNat (nat_lit 0)), (nat_lit 1))]), [none, some [((.ofNat (nat_lit 2)), (.ofNat (nat_lit 5)), (nat_lit 1))], some [((.ofNat (nat_lit 1)), (.ofNat (nat_lit 5)), (nat_lit 1))]], [sl_1428, sl_1431, sl_1432], [])
def pon_1880 : aPo := (some (.inl [((.ofNat (nat_lit 1)), (.ofNat (nat_lit 1)), (nat_lit 1))]), [], [sl_1871], [])
set_option maxRecDepth 100000 in
theorem btX12_songWhy : bTab oX12_songWhy tX12_songWhy := ⟨ofX12_songWhy, by decide +kernel⟩
def ct_974 : aCt := (mX12_songWhy, [ag_861, ag_1, ag_1], ([], []), [pon_1878, pon_1879, pon_1880], [], [], (nat_lit 1))
set_option maxRecDepth 100000 in
theorem S_974 : aSpec wd ct_974 := bChk_ok wx_ok btX12_songWhy (nds := []) (fk := []) (rk := (1, [])) (sp := 0) (fuel := 3000) (by decide +kernel) (lk_d S_972 ml_12_149 (lk_d S_973 ml_12_149 lk_n)) odX12_songWhy
def pon_1881 : aPo := (some (.inl [((.ofNat (nat_lit 32)), (.ofNat (nat_lit 1024)), (nat_lit 1))]), [], [], [])
set_option maxRecDepth 100000 in
theorem btX12_power : bTab oX12_power tX12_power := ⟨ofX12_power, by decide +kernel⟩
def ct_975 : aCt := (mX12_power, [ag_861, ag_150], ([sl_1431, sl_1432], []), [pon_1881], [], [], (nat_lit 0))
set_option maxRecDepth 100000 in
theorem S_975 : aSpec wd ct_975 := bChk_ok wx_ok btX12_power (nds := []) (fk := []) (rk := (1, [])) (sp := 0) (fuel := 3000) (by decide +kernel) lk_n odX12_power
def lcn_1882 : Nat × aAg := ((nat_lit 5), .inl [((.ofNat (nat_lit 0)), (.ofNat (nat_lit 1023)), (nat_lit 1))])
def lcn_1883 : Nat × aAg := ((nat_lit 7), .inl [((.ofNat (nat_lit 0)), (.ofNat (nat_lit 5)), (nat_lit 1))])
set_option maxRecDepth 100000 in
theorem btX12_digitsApart : bTab oX12_digitsApart tX12_digitsApart := ⟨ofX12_digitsApart, by decide +kernel⟩
def ct_976 : aCt := (mX12_digitsApart, [ag_861, ag_441, ag_1, ag_150], ([sl_1431, sl_1432], []), [pon_130], [], [], (nat_lit 0))
set_option maxRecDepth 100000 in
theorem S_976 : aSpec wd ct_976 := bChk_ok wx_ok btX12_digitsApart (nds := [((nat_lit 12), [lcn_898, lcn_442, lcn_132, lcn_106, lcn_351, lcn_1882, lcn_1820, lcn_1883], [], [sl_1431, sl_1432], [], (5, [(5, -1)]))]) (fk := []) (rk := (6, [])) (sp := 4096) (fuel := 3000) (by decide +kernel) lk_n odX12_digitsApart
def pon_1884 : aPo := (some (.inl [((.ofNat (nat_lit 0)), (.ofNat (nat_lit 1023)), (nat_lit 1))]), [], [], [])
def mdn_1885 : List (Nat × Nat × Nat) := [((nat_lit 196), (nat_lit 23), (nat_lit 24)), ((nat_lit 204), (nat_lit 0), (nat_lit 7))]
def sl_1886 : (Nat × Nat) × aI := (((nat_lit 196), (nat_lit 23)), [((.ofNat (nat_lit 0)), (.ofNat (nat_lit 7)), (nat_lit 1))])
def sl_1887 : (Nat × Nat) × aI := (((nat_lit 196), (nat_lit 23)), [((.ofNat (nat_lit 0)), (.ofNat (nat_lit 6)), (nat_lit 1))])
def lcn_1888 : Nat × aAg := ((nat_lit 5), .inl [((.ofNat (nat_lit 0)), (.ofNat (nat_lit 1024)), (nat_lit 1))])
set_option maxRecDepth 100000 in
theorem btX12_newSongs : bTab oX12_newSongs tX12_newSongs := ⟨ofX12_newSongs, by decide +kernel⟩
def ct_977 : aCt := (mX12_newSongs, [ag_861, ag_150, ag_452, ag_170], ([sl_1431, sl_1432], []), [pon_1884, pon_52], mdn_1885, [], (nat_lit 1))
set_option maxRecDepth 100000 in
theorem S_977 : aSpec wd ct_977 := aChkF_ok (lk := [(318, 0, 2, ct_975), (265, 0, 2, ct_917), (280, 0, 4, ct_920), (321, 0, 4, ct_976)]) (cd := oX12_newSongs) (nds := [(((nat_lit 8), [lcn_898, lcn_978, lcn_455, lcn_101, lcn_445], [], [sl_1886, sl_1431, sl_1432], [], (17480, [(1, -7)])), [(.inl 4, .inr (196, 23), 0)]), (((nat_lit 38), [lcn_898, lcn_978, lcn_455, lcn_101, lcn_446, lcn_545, lcn_610], [], [sl_1887, sl_1431, sl_1432], [], (17479, [(1, -7), (3, -1)])), [(.inl 4, .inr (196, 23), 0)]), (((nat_lit 109), [lcn_898, lcn_978, lcn_455, lcn_101, lcn_421, lcn_1888], [], [sl_1886, sl_1431, sl_1432], [], (17424, [(1, -17)])), [(.inl 5, .inr (196, 23), 7)]), (((nat_lit 125), [lcn_898, lcn_978, lcn_455, lcn_101, lcn_421, lcn_1882, lcn_473, lcn_1825], [], [sl_1886, sl_1431, sl_1432], [], (17415, [(1, -17), (2, 8), (3, -1)])), [(.inl 5, .inr (196, 23), 7)])]) (fk := []) (rk := (17481, [])) (fuel := 3000) (by decide +kernel) (List.forall_mem_cons.mpr ⟨⟨ml_12_318, S_975⟩, List.forall_mem_cons.mpr ⟨⟨ml_12_265, S_917⟩, List.forall_mem_cons.mpr ⟨⟨ml_12_280, S_920⟩, List.forall_mem_cons.mpr ⟨⟨ml_12_321, S_976⟩, fun _ h => nomatch h⟩⟩⟩⟩) odX12_newSongs
def pon_1889 : aPo := (some (.inl [((.ofNat (nat_lit 16)), (.ofNat (nat_lit 256)), (nat_lit 1))]), [], [], [])
def ct_978 : aCt := (mX12_power, [ag_861, ag_159], ([sl_1431, sl_1432], []), [pon_1889], [], [], (nat_lit 0))
set_option maxRecDepth 100000 in
theorem S_978 : aSpec wd ct_978 := bChk_ok wx_ok btX12_power (nds := []) (fk := []) (rk := (1, [])) (sp := 0) (fuel := 3000) (by decide +kernel) lk_n odX12_power
def lcn_1890 : Nat × aAg := ((nat_lit 1), .inl [((.ofNat (nat_lit 0)), (.ofNat (nat_lit 255)), (nat_lit 1))])
def lcn_1891 : Nat × aAg := ((nat_lit 5), .inl [((.ofNat (nat_lit 0)), (.ofNat (nat_lit 255)), (nat_lit 1))])
def lcn_1892 : Nat × aAg := ((nat_lit 7), .inl [((.ofNat (nat_lit 0)), (.ofNat (nat_lit 4)), (nat_lit 1))])
def ct_979 : aCt := (mX12_digitsApart, [ag_861, ag_879, ag_1, ag_159], ([sl_1431, sl_1432], []), [pon_130], [], [], (nat_lit 0))
set_option maxRecDepth 100000 in
theorem S_979 : aSpec wd ct_979 := bChk_ok wx_ok btX12_digitsApart (nds := [((nat_lit 12), [lcn_898, lcn_1890, lcn_132, lcn_105, lcn_351, lcn_1891, lcn_1820, lcn_1892], [], [sl_1431, sl_1432], [], (4, [(5, -1)]))]) (fk := []) (rk := (5, [])) (sp := 4096) (fuel := 3000) (by decide +kernel) lk_n odX12_digitsApart
def lcn_1893 : Nat × aAg := ((nat_lit 5), .inl [((.ofNat (nat_lit 0)), (.ofNat (nat_lit 287)), (nat_lit 1))])
def ct_980 : aCt := (mX12_newSongs, [ag_861, ag_159, ag_452, ag_170], ([sl_1431, sl_1432], []), [pon_884, pon_52], mdn_1885, [], (nat_lit 1))
set_option maxRecDepth 100000 in
theorem S_980 : aSpec wd ct_980 := aChkF_ok (lk := [(318, 0, 2, ct_978), (265, 0, 2, ct_917), (280, 0, 4, ct_920), (321, 0, 4, ct_979)]) (cd := oX12_newSongs) (nds := [(((nat_lit 8), [lcn_898, lcn_977, lcn_455, lcn_101, lcn_445], [], [sl_1886, sl_1431, sl_1432], [], (4943, [(1, -6)])), [(.inl 4, .inr (196, 23), 0)]), (((nat_lit 38), [lcn_898, lcn_977, lcn_455, lcn_101, lcn_446, lcn_545, lcn_604], [], [sl_1887, sl_1431, sl_1432], [], (4942, [(1, -6), (3, -1)])), [(.inl 4, .inr (196, 23), 0)]), (((nat_lit 109), [lcn_898, lcn_977, lcn_455, lcn_101, lcn_421, lcn_1893], [], [sl_1886, sl_1431, sl_1432], [], (4895, [(1, -17)])), [(.inl 5, .inr (196, 23), 7)]), (((nat_lit 125), [lcn_898, lcn_977, lcn_455, lcn_101, lcn_421, lcn_1891, lcn_473, lcn_1825], [], [sl_1886, sl_1431, sl_1432], [], (4886, [(1, -17), (2, 8), (3, -1)])), [(.inl 5, .inr (196, 23), 7)])]) (fk := []) (rk := (4944, [])) (fuel := 3000) (by decide +kernel) (List.forall_mem_cons.mpr ⟨⟨ml_12_318, S_978⟩, List.forall_mem_cons.mpr ⟨⟨ml_12_265, S_917⟩, List.forall_mem_cons.mpr ⟨⟨ml_12_280, S_920⟩, List.forall_mem_cons.mpr ⟨⟨ml_12_321, S_979⟩, fun _ h => nomatch h⟩⟩⟩⟩) odX12_newSongs
def pon_1894 : aPo := (some (.inl [((.ofNat (nat_lit 8)), (.ofNat (nat_lit 64)), (nat_lit 1))]), [], [], [])
def ct_981 : aCt := (mX12_power, [ag_861, ag_122], ([sl_1431, sl_1432], []), [pon_1894], [], [], (nat_lit 0))
set_option maxRecDepth 100000 in
theorem S_981 : aSpec wd ct_981 := bChk_ok wx_ok btX12_power (nds := []) (fk := []) (rk := (1, [])) (sp := 0) (fuel := 3000) (by decide +kernel) lk_n odX12_power
def ag_1895 : aAg := .inl [((.ofNat (nat_lit 0)), (.ofNat (nat_lit 63)), (nat_lit 1))]
def lcn_1896 : Nat × aAg := ((nat_lit 1), .inl [((.ofNat (nat_lit 0)), (.ofNat (nat_lit 63)), (nat_lit 1))])
def lcn_1897 : Nat × aAg := ((nat_lit 5), .inl [((.ofNat (nat_lit 0)), (.ofNat (nat_lit 63)), (nat_lit 1))])
def lcn_1898 : Nat × aAg := ((nat_lit 7), .inl [((.ofNat (nat_lit 0)), (.ofNat (nat_lit 3)), (nat_lit 1))])
def ct_982 : aCt := (mX12_digitsApart, [ag_861, ag_1895, ag_1, ag_122], ([sl_1431, sl_1432], []), [pon_130], [], [], (nat_lit 0))
set_option maxRecDepth 100000 in
theorem S_982 : aSpec wd ct_982 := bChk_ok wx_ok btX12_digitsApart (nds := [((nat_lit 12), [lcn_898, lcn_1896, lcn_132, lcn_104, lcn_351, lcn_1897, lcn_1820, lcn_1898], [], [sl_1431, sl_1432], [], (3, [(5, -1)]))]) (fk := []) (rk := (4, [])) (sp := 4096) (fuel := 3000) (by decide +kernel) lk_n odX12_digitsApart
def lcn_1899 : Nat × aAg := ((nat_lit 5), .inl [((.ofNat (nat_lit 0)), (.ofNat (nat_lit 75)), (nat_lit 1))])
def ct_983 : aCt := (mX12_newSongs, [ag_861, ag_122, ag_452, ag_170], ([sl_1431, sl_1432], []), [pon_364, pon_52], mdn_1885, [], (nat_lit 1))
set_option maxRecDepth 100000 in
theorem S_983 : aSpec wd ct_983 := aChkF_ok (lk := [(318, 0, 2, ct_981), (265, 0, 2, ct_917), (280, 0, 4, ct_920), (321, 0, 4, ct_982)]) (cd := oX12_newSongs) (nds := [(((nat_lit 8), [lcn_898, lcn_976, lcn_455, lcn_101, lcn_445], [], [sl_1886, sl_1431, sl_1432], [], (1331, [(1, -5)])), [(.inl 4, .inr (196, 23), 0)]), (((nat_lit 38), [lcn_898, lcn_976, lcn_455, lcn_101, lcn_446, lcn_545, lcn_600], [], [sl_1887, sl_1431, sl_1432], [], (1330, [(1, -5), (3, -1)])), [(.inl 4, .inr (196, 23), 0)]), (((nat_lit 109), [lcn_898, lcn_976, lcn_455, lcn_101, lcn_421, lcn_1899], [], [sl_1886, sl_1431, sl_1432], [], (1291, [(1, -17)])), [(.inl 5, .inr (196, 23), 7)]), (((nat_lit 125), [lcn_898, lcn_976, lcn_455, lcn_101, lcn_421, lcn_1897, lcn_473, lcn_1825], [], [sl_1886, sl_1431, sl_1432], [], (1282, [(1, -17), (2, 8), (3, -1)])), [(.inl 5, .inr (196, 23), 7)])]) (fk := []) (rk := (1332, [])) (fuel := 3000) (by decide +kernel) (List.forall_mem_cons.mpr ⟨⟨ml_12_318, S_981⟩, List.forall_mem_cons.mpr ⟨⟨ml_12_265, S_917⟩, List.forall_mem_cons.mpr ⟨⟨ml_12_280, S_920⟩, List.forall_mem_cons.mpr ⟨⟨ml_12_321, S_982⟩, fun _ h => nomatch h⟩⟩⟩⟩) odX12_newSongs
def pon_1900 : aPo := (some (.inl [((.ofNat (nat_lit 4)), (.ofNat (nat_lit 16)), (nat_lit 1))]), [], [], [])
def ct_984 : aCt := (mX12_power, [ag_861, ag_22], ([sl_1431, sl_1432], []), [pon_1900], [], [], (nat_lit 0))
set_option maxRecDepth 100000 in
theorem S_984 : aSpec wd ct_984 := bChk_ok wx_ok btX12_power (nds := []) (fk := []) (rk := (1, [])) (sp := 0) (fuel := 3000) (by decide +kernel) lk_n odX12_power
def lcn_1901 : Nat × aAg := ((nat_lit 1), .inl [((.ofNat (nat_lit 0)), (.ofNat (nat_lit 15)), (nat_lit 1))])
def lcn_1902 : Nat × aAg := ((nat_lit 5), .inl [((.ofNat (nat_lit 0)), (.ofNat (nat_lit 15)), (nat_lit 1))])
def lcn_1903 : Nat × aAg := ((nat_lit 7), .inl [((.ofNat (nat_lit 0)), (.ofNat (nat_lit 2)), (nat_lit 1))])
def ct_985 : aCt := (mX12_digitsApart, [ag_861, ag_601, ag_1, ag_22], ([sl_1431, sl_1432], []), [pon_130], [], [], (nat_lit 0))
set_option maxRecDepth 100000 in
theorem S_985 : aSpec wd ct_985 := bChk_ok wx_ok btX12_digitsApart (nds := [((nat_lit 12), [lcn_898, lcn_1901, lcn_132, lcn_103, lcn_351, lcn_1902, lcn_1820, lcn_1903], [], [sl_1431, sl_1432], [], (2, [(5, -1)]))]) (fk := []) (rk := (3, [])) (sp := 4096) (fuel := 3000) (by decide +kernel) lk_n odX12_digitsApart
end Pk2
