def ct_1065 : aCt := (mX12_in, [ag_1, ag_170, ag_561], ([], []), [pon_877, pon_1841], mdn_879, [], (nat_lit 0))
set_option maxRecDepth 100000 in
theorem S_1065 : aSpec wd ct_1065 := bChk_ok wx_ok btX12_in (nds := []) (fk := []) (rk := (1, [])) (sp := 0) (fuel := 3000) (by decide +kernel) lk_n odX12_in
def pon_1977 : aPo := (some (.inl [((.ofNat (nat_lit 0)), (.ofNat (nat_lit 31)), (nat_lit 1))]), [], [sl_874, sl_1435, sl_1438, sl_1439, sl_1815], [])
set_option maxRecDepth 100000 in
theorem btX12_by : bTab oX12_by tX12_by := ⟨ofX12_by, by decide +kernel⟩
def ct_1066 : aCt := (mX12_by, [ag_868, ag_1, ag_1], ([], []), [pon_1977, pon_1844], mdn_1973, [], (nat_lit 9))
set_option maxRecDepth 100000 in
theorem S_1066 : aSpec wd ct_1066 := bChk_ok wx_ok btX12_by (nds := [((nat_lit 40), [lcn_905, lcn_541, lcn_564, lcn_565, lcn_450], [], [sl_874, sl_1435, sl_1438, sl_1439, sl_1815], [], (5, [(3, -1)]))]) (fk := []) (rk := (6, [])) (sp := 1099511627776) (fuel := 3000) (by decide +kernel) (lk_d S_468 ml_12_167 (lk_d S_470 ml_12_170 (lk_d S_929 ml_12_170 (lk_d S_1058 ml_12_367 (lk_d S_1064 ml_12_149 (lk_d S_932 ml_12_274 (lk_d S_960 ml_12_149 (lk_d S_1065 ml_12_149 lk_n)))))))) odX12_by
def sl_1978 : (Nat × Nat) × aI := (((nat_lit 196), (nat_lit 11)), [((.ofNat (nat_lit 6)), (.ofNat (nat_lit 6)), (nat_lit 1))])
def pon_1979 : aPo := (some (.inl [((.negSucc (nat_lit 0)), (.negSucc (nat_lit 0)), (nat_lit 1))]), [], [sl_1978], [])
def ct_1067 : aCt := (mX12_no, [ag_868, ag_153], ([sl_874], []), [pon_1979], mdn_882, [], (nat_lit 0))
set_option maxRecDepth 100000 in
theorem S_1067 : aSpec wd ct_1067 := bChk_ok wx_ok btX12_no (nds := []) (fk := []) (rk := (1, [])) (sp := 0) (fuel := 3000) (by decide +kernel) lk_n odX12_no
def ct_1068 : aCt := (mX12_surestBut, [ag_868, ag_190, ag_265], ([sl_1438, sl_1439, sl_1815], []), [pon_570], mdn_1970, [], (nat_lit 9))
set_option maxRecDepth 100000 in
theorem S_1068 : aSpec wd ct_1068 := bChk_ok wx_ok btX12_surestBut (nds := [((nat_lit 6), [lcn_905, lcn_541, lcn_571, lcn_556, lcn_450], [], [sl_1438, sl_1439, sl_1815], [], (5, [(3, -1)]))]) (fk := []) (rk := (6, [])) (sp := 64) (fuel := 3000) (by decide +kernel) (lk_d S_1061 ml_12_271 (lk_d S_1058 ml_12_367 lk_n)) odX12_surestBut
def ct_1069 : aCt := (mX12_ofWhale, [ag_868, ag_265, ag_122], ([sl_1438, sl_1439, sl_1815], []), [pon_130], [], [], (nat_lit 0))
set_option maxRecDepth 100000 in
theorem S_1069 : aSpec wd ct_1069 := bChk_ok wx_ok btX12_ofWhale (nds := []) (fk := []) (rk := (1, [])) (sp := 0) (fuel := 3000) (by decide +kernel) lk_n odX12_ofWhale
def sl_1980 : (Nat × Nat) × aI := (((nat_lit 196), (nat_lit 11)), [((.ofNat (nat_lit 0)), (.ofNat (nat_lit 1)), (nat_lit 1)), ((.ofNat (nat_lit 6)), (.ofNat (nat_lit 6)), (nat_lit 1))])
def pon_1981 : aPo := (some (.inr ()), [], [sl_1980], [])
set_option maxRecDepth 100000 in
theorem btX12_registered : bTab oX12_registered tX12_registered := ⟨ofX12_registered, by decide +kernel⟩
def ct_1070 : aCt := (mX12_registered, [ag_868, ag_1, ag_536], ([], []), [pon_1981], mdn_1973, [], (nat_lit 10))
set_option maxRecDepth 100000 in
theorem S_1070 : aSpec wd ct_1070 := bChk_ok wx_ok btX12_registered (nds := []) (fk := []) (rk := (1, [])) (sp := 0) (fuel := 3000) (by decide +kernel) (lk_d S_468 ml_12_167 (lk_d S_1067 ml_12_170 (lk_d S_929 ml_12_170 (lk_d S_X12_lowest_0 ml_12_375 (lk_d S_1069 ml_12_271 (lk_d S_1062 ml_12_370 (lk_d S_1068 ml_12_370 (lk_d S_932 ml_12_274 lk_n)))))))) odX12_registered
def sl_1982 : (Nat × Nat) × aI := (((nat_lit 199), (nat_lit 7)), [((.ofNat (nat_lit 8)), (.ofNat (nat_lit 8)), (nat_lit 1))])
def mdn_1983 : List (Nat × Nat × Nat) := [((nat_lit 196), (nat_lit 31), (nat_lit 33)), ((nat_lit 208), (nat_lit 0), (nat_lit 8))]
set_option maxRecDepth 100000 in
theorem btX12_tryMatch : bTab oX12_tryMatch tX12_tryMatch := ⟨ofX12_tryMatch, by decide +kernel⟩
def ct_1071 : aCt := (mX12_tryMatch, [ag_868, ag_1856, ag_608, ag_1, ag_1], ([sl_1982], []), [pon_49], mdn_1983, [], (nat_lit 2))
set_option maxRecDepth 100000 in
theorem S_1071 : aSpec wd ct_1071 := bChk_ok wx_ok btX12_tryMatch (nds := []) (fk := []) (rk := (1, [])) (sp := 0) (fuel := 3000) (by decide +kernel) (lk_d S_X12_copy_24 ml_12_176 lk_n) odX12_tryMatch
def sl_1984 : (Nat × Nat) × aI := (((nat_lit 199), (nat_lit 7)), [((.ofNat (nat_lit 7)), (.ofNat (nat_lit 8)), (nat_lit 1))])
def mdn_1985 : List (Nat × Nat × Nat) := [((nat_lit 196), (nat_lit 31), (nat_lit 33)), ((nat_lit 207), (nat_lit 7), (nat_lit 8)), ((nat_lit 208), (nat_lit 0), (nat_lit 8))]
def lcn_1986 : Nat × aAg := ((nat_lit 1), .inl [((.ofNat (nat_lit 7)), (.ofNat (nat_lit 7)), (nat_lit 1))])
def lcn_1987 : Nat × aAg := ((nat_lit 2), .inl [((.ofNat (nat_lit 0)), (.ofNat (nat_lit 31)), (nat_lit 1))])
def ct_1072 : aCt := (mX12_tryMatch, [ag_868, ag_133, ag_608, ag_1, ag_1], ([sl_1984], []), [pon_49], mdn_1985, [], (nat_lit 3))
set_option maxRecDepth 100000 in
theorem S_1072 : aSpec wd ct_1072 := bChk_ok wx_ok btX12_tryMatch (nds := [((nat_lit 66), [lcn_905, lcn_1986, lcn_1987, lcn_520, lcn_354, lcn_1044], [], [sl_1982], [], (5, [(3, -1)]))]) (fk := []) (rk := (6, [])) (sp := 73786976294838206464) (fuel := 3000) (by decide +kernel) (lk_d S_X12_copy_23 ml_12_176 (lk_d S_956 ml_12_298 (lk_d S_1071 ml_12_385 lk_n))) odX12_tryMatch
def sl_1988 : (Nat × Nat) × aI := (((nat_lit 199), (nat_lit 7)), [((.ofNat (nat_lit 6)), (.ofNat (nat_lit 8)), (nat_lit 1))])
def mdn_1989 : List (Nat × Nat × Nat) := [((nat_lit 196), (nat_lit 31), (nat_lit 33)), ((nat_lit 207), (nat_lit 6), (nat_lit 8)), ((nat_lit 208), (nat_lit 0), (nat_lit 8))]
def ct_1073 : aCt := (mX12_tryMatch, [ag_868, ag_153, ag_608, ag_1, ag_1], ([sl_1988], []), [pon_49], mdn_1989, [], (nat_lit 4))
set_option maxRecDepth 100000 in
theorem S_1073 : aSpec wd ct_1073 := bChk_ok wx_ok btX12_tryMatch (nds := [((nat_lit 66), [lcn_905, lcn_986, lcn_1987, lcn_520, lcn_354, lcn_1044], [], [sl_1984], [], (5, [(3, -1)]))]) (fk := []) (rk := (6, [])) (sp := 73786976294838206464) (fuel := 3000) (by decide +kernel) (lk_d S_X12_copy_22 ml_12_176 (lk_d S_956 ml_12_298 (lk_d S_1072 ml_12_385 lk_n))) odX12_tryMatch
def sl_1990 : (Nat × Nat) × aI := (((nat_lit 199), (nat_lit 7)), [((.ofNat (nat_lit 5)), (.ofNat (nat_lit 8)), (nat_lit 1))])
def mdn_1991 : List (Nat × Nat × Nat) := [((nat_lit 196), (nat_lit 31), (nat_lit 33)), ((nat_lit 207), (nat_lit 5), (nat_lit 8)), ((nat_lit 208), (nat_lit 0), (nat_lit 8))]
def ct_1074 : aCt := (mX12_tryMatch, [ag_868, ag_150, ag_608, ag_1, ag_1], ([sl_1990], []), [pon_49], mdn_1991, [], (nat_lit 5))
set_option maxRecDepth 100000 in
theorem S_1074 : aSpec wd ct_1074 := bChk_ok wx_ok btX12_tryMatch (nds := [((nat_lit 66), [lcn_905, lcn_985, lcn_1987, lcn_520, lcn_354, lcn_1044], [], [sl_1988], [], (5, [(3, -1)]))]) (fk := []) (rk := (6, [])) (sp := 73786976294838206464) (fuel := 3000) (by decide +kernel) (lk_d S_X12_copy_21 ml_12_176 (lk_d S_956 ml_12_298 (lk_d S_1073 ml_12_385 lk_n))) odX12_tryMatch
def sl_1992 : (Nat × Nat) × aI := (((nat_lit 199), (nat_lit 7)), [((.ofNat (nat_lit 4)), (.ofNat (nat_lit 8)), (nat_lit 1))])
def mdn_1993 : List (Nat × Nat × Nat) := [((nat_lit 196), (nat_lit 31), (nat_lit 33)), ((nat_lit 207), (nat_lit 4), (nat_lit 8)), ((nat_lit 208), (nat_lit 0), (nat_lit 8))]
def ct_1075 : aCt := (mX12_tryMatch, [ag_868, ag_159, ag_608, ag_1, ag_1], ([sl_1992], []), [pon_49], mdn_1993, [], (nat_lit 6))
set_option maxRecDepth 100000 in
theorem S_1075 : aSpec wd ct_1075 := bChk_ok wx_ok btX12_tryMatch (nds := [((nat_lit 66), [lcn_905, lcn_984, lcn_1987, lcn_520, lcn_354, lcn_1044], [], [sl_1990], [], (5, [(3, -1)]))]) (fk := []) (rk := (6, [])) (sp := 73786976294838206464) (fuel := 3000) (by decide +kernel) (lk_d S_X12_copy_20 ml_12_176 (lk_d S_956 ml_12_298 (lk_d S_1074 ml_12_385 lk_n))) odX12_tryMatch
def sl_1994 : (Nat × Nat) × aI := (((nat_lit 199), (nat_lit 7)), [((.ofNat (nat_lit 3)), (.ofNat (nat_lit 8)), (nat_lit 1))])
def mdn_1995 : List (Nat × Nat × Nat) := [((nat_lit 196), (nat_lit 31), (nat_lit 33)), ((nat_lit 207), (nat_lit 3), (nat_lit 8)), ((nat_lit 208), (nat_lit 0), (nat_lit 8))]
def ct_1076 : aCt := (mX12_tryMatch, [ag_868, ag_122, ag_608, ag_1, ag_1], ([sl_1994], []), [pon_49], mdn_1995, [], (nat_lit 7))
set_option maxRecDepth 100000 in
theorem S_1076 : aSpec wd ct_1076 := bChk_ok wx_ok btX12_tryMatch (nds := [((nat_lit 66), [lcn_905, lcn_983, lcn_1987, lcn_520, lcn_354, lcn_1044], [], [sl_1992], [], (5, [(3, -1)]))]) (fk := []) (rk := (6, [])) (sp := 73786976294838206464) (fuel := 3000) (by decide +kernel) (lk_d S_X12_copy_19 ml_12_176 (lk_d S_956 ml_12_298 (lk_d S_1075 ml_12_385 lk_n))) odX12_tryMatch
def sl_1996 : (Nat × Nat) × aI := (((nat_lit 199), (nat_lit 7)), [((.ofNat (nat_lit 2)), (.ofNat (nat_lit 8)), (nat_lit 1))])
def mdn_1997 : List (Nat × Nat × Nat) := [((nat_lit 196), (nat_lit 31), (nat_lit 33)), ((nat_lit 207), (nat_lit 2), (nat_lit 8)), ((nat_lit 208), (nat_lit 0), (nat_lit 8))]
def ct_1077 : aCt := (mX12_tryMatch, [ag_868, ag_22, ag_608, ag_1, ag_1], ([sl_1996], []), [pon_49], mdn_1997, [], (nat_lit 8))
set_option maxRecDepth 100000 in
theorem S_1077 : aSpec wd ct_1077 := bChk_ok wx_ok btX12_tryMatch (nds := [((nat_lit 66), [lcn_905, lcn_167, lcn_1987, lcn_520, lcn_354, lcn_1044], [], [sl_1994], [], (5, [(3, -1)]))]) (fk := []) (rk := (6, [])) (sp := 73786976294838206464) (fuel := 3000) (by decide +kernel) (lk_d S_X12_copy_18 ml_12_176 (lk_d S_956 ml_12_298 (lk_d S_1076 ml_12_385 lk_n))) odX12_tryMatch
def mdn_1998 : List (Nat × Nat × Nat) := [((nat_lit 196), (nat_lit 31), (nat_lit 33)), ((nat_lit 207), (nat_lit 1), (nat_lit 8)), ((nat_lit 208), (nat_lit 0), (nat_lit 8))]
def ct_1078 : aCt := (mX12_tryMatch, [ag_868, ag_53, ag_608, ag_1, ag_1], ([sl_1815], []), [pon_49], mdn_1998, [], (nat_lit 9))
set_option maxRecDepth 100000 in
theorem S_1078 : aSpec wd ct_1078 := bChk_ok wx_ok btX12_tryMatch (nds := [((nat_lit 66), [lcn_905, lcn_203, lcn_1987, lcn_520, lcn_354, lcn_1044], [], [sl_1996], [], (5, [(3, -1)]))]) (fk := []) (rk := (6, [])) (sp := 73786976294838206464) (fuel := 3000) (by decide +kernel) (lk_d S_X12_copy_17 ml_12_176 (lk_d S_956 ml_12_298 (lk_d S_1077 ml_12_385 lk_n))) odX12_tryMatch
def mdn_1999 : List (Nat × Nat × Nat) := [((nat_lit 196), (nat_lit 31), (nat_lit 33)), ((nat_lit 207), (nat_lit 0), (nat_lit 8)), ((nat_lit 208), (nat_lit 0), (nat_lit 8))]
def ct_1079 : aCt := (mX12_tryMatch, [ag_868, ag_170, ag_608, ag_1, ag_1], ([], []), [pon_49], mdn_1999, [], (nat_lit 10))
set_option maxRecDepth 100000 in
theorem S_1079 : aSpec wd ct_1079 := bChk_ok wx_ok btX12_tryMatch (nds := [((nat_lit 66), [lcn_905, lcn_175, lcn_1987, lcn_520, lcn_354, lcn_1044], [], [sl_1815], [], (5, [(3, -1)]))]) (fk := []) (rk := (6, [])) (sp := 73786976294838206464) (fuel := 3000) (by decide +kernel) (lk_d S_X12_copy_16 ml_12_176 (lk_d S_956 ml_12_298 (lk_d S_1078 ml_12_385 lk_n))) odX12_tryMatch
def mdn_2000 : List (Nat × Nat × Nat) := [((nat_lit 196), (nat_lit 26), (nat_lit 28)), ((nat_lit 196), (nat_lit 31), (nat_lit 33)), ((nat_lit 205), (nat_lit 0), (nat_lit 7)), ((nat_lit 206), (nat_lit 0), (nat_lit 7)), ((nat_lit 207), (nat_lit 0), (nat_lit 8)), ((nat_lit 208), (nat_lit 0), (nat_lit 8)), ((nat_lit 209), (nat_lit 0), (nat_lit 40))]
def lcn_2001 : Nat × aAg := ((nat_lit 1), .inl [((.ofNat (nat_lit 0)), (.ofNat (nat_lit 8)), (nat_lit 1))])
set_option maxRecDepth 100000 in
theorem btX12_seekMatch : bTab oX12_seekMatch tX12_seekMatch := ⟨ofX12_seekMatch, by decide +kernel⟩
def ct_1080 : aCt := (mX12_seekMatch, [ag_868], ([sl_1438, sl_1439], []), [pon_49], mdn_2000, [], (nat_lit 11))
set_option maxRecDepth 100000 in
theorem S_1080 : aSpec wd ct_1080 := bChk_ok wx_ok btX12_seekMatch (nds := [((nat_lit 2), [lcn_905, lcn_2001], [], [sl_1438, sl_1439], [], (62, [(0, -7)])), ((nat_lit 15), [lcn_905, lcn_541, lcn_296], [], [sl_1438, sl_1439, sl_1815], [], (61, [(0, -7), (1, -1)]))]) (fk := []) (rk := (63, [])) (sp := 32772) (fuel := 3000) (by decide +kernel) (lk_d S_1058 ml_12_367 (lk_d S_1079 ml_12_385 lk_n)) odX12_seekMatch
def mdn_2002 : List (Nat × Nat × Nat) := [((nat_lit 196), (nat_lit 0), (nat_lit 1)), ((nat_lit 196), (nat_lit 11), (nat_lit 12)), ((nat_lit 196), (nat_lit 26), (nat_lit 28)), ((nat_lit 196), (nat_lit 31), (nat_lit 33)), ((nat_lit 205), (nat_lit 0), (nat_lit 7)), ((nat_lit 206), (nat_lit 0), (nat_lit 7)), ((nat_lit 207), (nat_lit 0), (nat_lit 8)), ((nat_lit 208), (nat_lit 0), (nat_lit 8)), ((nat_lit 209), (nat_lit 0), (nat_lit 40))]
set_option maxRecDepth 100000 in
theorem btX12_match : bTab oX12_match tX12_match := ⟨ofX12_match, by decide +kernel⟩
def ct_1081 : aCt := (mX12_match, [ag_868], ([], []), [pon_1875, pon_1879], mdn_2002, [], (nat_lit 12))
set_option maxRecDepth 100000 in
theorem S_1081 : aSpec wd ct_1081 := bChk_ok wx_ok btX12_match (nds := []) (fk := []) (rk := (1, [])) (sp := 0) (fuel := 3000) (by decide +kernel) (lk_d S_1080 ml_12_389 (lk_d S_468 ml_12_167 (lk_d S_929 ml_12_170 lk_n))) odX12_match
set_option maxRecDepth 100000 in
theorem btX12_matchDays : bTab oX12_matchDays tX12_matchDays := ⟨ofX12_matchDays, by decide +kernel⟩
def ct_1082 : aCt := (mX12_matchDays, [ag_868], ([], []), [pon_1875, pon_1879], mdn_2002, [], (nat_lit 12))
set_option maxRecDepth 100000 in
theorem S_1082 : aSpec wd ct_1082 := bChk_ok wx_ok btX12_matchDays (nds := []) (fk := []) (rk := (1, [])) (sp := 0) (fuel := 3000) (by decide +kernel) (lk_d S_1080 ml_12_389 (lk_d S_468 ml_12_167 (lk_d S_929 ml_12_170 lk_n))) odX12_matchDays
def ct_1083 : aCt := (mX12_tryMatch, [ag_868, ag_170, ag_608, ag_1, ag_1], ([sl_1815], []), [pon_49], mdn_1999, [], (nat_lit 10))
set_option maxRecDepth 100000 in
theorem S_1083 : aSpec wd ct_1083 := bChk_ok wx_ok btX12_tryMatch (nds := [((nat_lit 66), [lcn_905, lcn_175, lcn_1987, lcn_520, lcn_354, lcn_1044], [], [sl_1815], [], (5, [(3, -1)]))]) (fk := []) (rk := (6, [])) (sp := 73786976294838206464) (fuel := 3000) (by decide +kernel) (lk_d S_956 ml_12_298 (lk_d S_1078 ml_12_385 lk_n)) odX12_tryMatch
def ct_1084 : aCt := (mX12_seekMatch, [ag_868], ([sl_1438, sl_1439, sl_1815], []), [pon_49], mdn_2000, [], (nat_lit 11))
set_option maxRecDepth 100000 in
theorem S_1084 : aSpec wd ct_1084 := bChk_ok wx_ok btX12_seekMatch (nds := [((nat_lit 2), [lcn_905, lcn_2001], [], [sl_1438, sl_1439, sl_1815], [], (62, [(0, -7)])), ((nat_lit 15), [lcn_905, lcn_541, lcn_296], [], [sl_1438, sl_1439, sl_1815], [], (61, [(0, -7), (1, -1)]))]) (fk := []) (rk := (63, [])) (sp := 32772) (fuel := 3000) (by decide +kernel) (lk_d S_1058 ml_12_367 (lk_d S_1083 ml_12_385 lk_n)) odX12_seekMatch
set_option maxRecDepth 100000 in
theorem btX12_matchOf : bTab oX12_matchOf tX12_matchOf := ⟨ofX12_matchOf, by decide +kernel⟩
def ct_1085 : aCt := (mX12_matchOf, [ag_868, ag_1], ([], []), [pon_1934, pon_1811], mdn_2002, [], (nat_lit 12))
set_option maxRecDepth 100000 in
theorem S_1085 : aSpec wd ct_1085 := bChk_ok wx_ok btX12_matchOf (nds := []) (fk := []) (rk := (1, [])) (sp := 0) (fuel := 3000) (by decide +kernel) (lk_d S_1084 ml_12_389 (lk_d S_468 ml_12_167 (lk_d S_929 ml_12_170 (lk_d S_932 ml_12_274 lk_n)))) odX12_matchOf
def ct_1086 : aCt := (mX12_in, [ag_1, ag_170, ag_190], ([], []), [pon_877, pon_1861], mdn_879, [], (nat_lit 0))
set_option maxRecDepth 100000 in
theorem S_1086 : aSpec wd ct_1086 := bChk_ok wx_ok btX12_in (nds := []) (fk := []) (rk := (1, [])) (sp := 0) (fuel := 3000) (by decide +kernel) lk_n odX12_in
def ct_1087 : aCt := (mX12_isBox, [ag_868, ag_1], ([sl_1435, sl_1438, sl_1439, sl_1815], []), [pon_37, pon_621], [], [], (nat_lit 1))
set_option maxRecDepth 100000 in
theorem S_1087 : aSpec wd ct_1087 := bChk_ok wx_ok btX12_isBox (nds := []) (fk := []) (rk := (1, [])) (sp := 0) (fuel := 3000) (by decide +kernel) (lk_d S_1086 ml_12_149 lk_n) odX12_isBox
def pon_2003 : aPo := (some (.inl [((.ofNat (nat_lit 1)), (.ofNat (nat_lit 1)), (nat_lit 1))]), [none, some [((.ofNat (nat_lit 0)), (.ofNat (nat_lit 4)), (nat_lit 1))]], [sl_1806], [])
def ct_1088 : aCt := (mX12_isWhale, [ag_868, ag_1], ([sl_1435, sl_1438, sl_1439, sl_1815], []), [pon_37, pon_2003], [], [], (nat_lit 1))
set_option maxRecDepth 100000 in
theorem S_1088 : aSpec wd ct_1088 := bChk_ok wx_ok btX12_isWhale (nds := []) (fk := []) (rk := (1, [])) (sp := 0) (fuel := 3000) (by decide +kernel) (lk_d S_924 ml_12_149 lk_n) odX12_isWhale
def ct_1089 : aCt := (mX12_in, [ag_1, ag_170, ag_265], ([], []), [pon_877, pon_1376], mdn_879, [], (nat_lit 0))
set_option maxRecDepth 100000 in
theorem S_1089 : aSpec wd ct_1089 := bChk_ok wx_ok btX12_in (nds := []) (fk := []) (rk := (1, [])) (sp := 0) (fuel := 3000) (by decide +kernel) lk_n odX12_in
def ct_1090 : aCt := (mX12_isWhale, [ag_868, ag_1], ([sl_1435, sl_1438, sl_1439, sl_1806, sl_1815], []), [pon_37, pon_623], [], [], (nat_lit 1))
set_option maxRecDepth 100000 in
theorem S_1090 : aSpec wd ct_1090 := bChk_ok wx_ok btX12_isWhale (nds := []) (fk := []) (rk := (1, [])) (sp := 0) (fuel := 3000) (by decide +kernel) (lk_d S_1089 ml_12_149 lk_n) odX12_isWhale
def ct_1091 : aCt := (mX12_later, [ag_1, ag_1], ([], []), [pon_130], [], [], (nat_lit 0))
set_option maxRecDepth 100000 in
theorem S_1091 : aSpec wd ct_1091 := bChk_ok wx_ok btX12_later (nds := []) (fk := []) (rk := (1, [])) (sp := 0) (fuel := 3000) (by decide +kernel) lk_n odX12_later
def pon_2004 : aPo := (some (.inl [((.negSucc (nat_lit 2147483647)), (.ofNat (nat_lit 2147483646)), (nat_lit 1))]), [none, some [((.ofNat (nat_lit 0)), (.ofNat (nat_lit 7)), (nat_lit 1))], some [((.ofNat (nat_lit 0)), (.ofNat (nat_lit 4)), (nat_lit 1))], some [((.ofNat (nat_lit 0)), (.ofNat (nat_lit 7)), (nat_lit 1))], some [((.ofNat (nat_lit 0)), (.ofNat (nat_lit 4)), (nat_lit 1))]], [sl_874, sl_1435, sl_1438, sl_1439, sl_1806, sl_1815], [])
def pon_2005 : aPo := (some (.inl [((.negSucc (nat_lit 1)), (.negSucc (nat_lit 1)), (nat_lit 1))]), [none, some [((.ofNat (nat_lit 0)), (.ofNat (nat_lit 7)), (nat_lit 1))], some [((.ofNat (nat_lit 0)), (.ofNat (nat_lit 4)), (nat_lit 1))], some [((.ofNat (nat_lit 0)), (.ofNat (nat_lit 7)), (nat_lit 1))], some [((.ofNat (nat_lit 0)), (.ofNat (nat_lit 4)), (nat_lit 1))]], [sl_874, sl_1435, sl_1438, sl_1439, sl_1806, sl_1815], [])
set_option maxRecDepth 100000 in
theorem btX12_meet : bTab oX12_meet tX12_meet := ⟨ofX12_meet, by decide +kernel⟩
def ct_1092 : aCt := (mX12_meet, [ag_868, ag_1, ag_1, ag_1, ag_1], ([], []), [pon_2004, pon_1811, pon_2005], mdn_1973, [], (nat_lit 8))
set_option maxRecDepth 100000 in
theorem S_1092 : aSpec wd ct_1092 := bChk_ok wx_ok btX12_meet (nds := []) (fk := []) (rk := (1, [])) (sp := 0) (fuel := 3000) (by decide +kernel) (lk_d S_468 ml_12_167 (lk_d S_929 ml_12_170 (lk_d S_1051 ml_12_295 (lk_d S_1053 ml_12_262 (lk_d S_1056 ml_12_364 (lk_d S_1090 ml_12_268 (lk_d S_1087 ml_12_274 (lk_d S_1088 ml_12_268 (lk_d S_932 ml_12_274 (lk_d S_1091 ml_12_355 lk_n)))))))))) odX12_meet
def ct_1093 : aCt := (mX12_ofWhale, [ag_868, ag_265, ag_53], ([sl_1438, sl_1439, sl_1806], []), [pon_267], [], [], (nat_lit 0))
set_option maxRecDepth 100000 in
theorem S_1093 : aSpec wd ct_1093 := bChk_ok wx_ok btX12_ofWhale (nds := []) (fk := []) (rk := (1, [])) (sp := 0) (fuel := 3000) (by decide +kernel) lk_n odX12_ofWhale
def sl_2006 : (Nat × Nat) × aI := (((nat_lit 199), (nat_lit 8)), [((.ofNat (nat_lit 1)), (.ofNat (nat_lit 8)), (nat_lit 1))])
def ct_1094 : aCt := (mX12_ofWhale, [ag_868, ag_265, ag_170], ([sl_1438, sl_1439, sl_1806, sl_2006], []), [pon_349], [], [], (nat_lit 0))
set_option maxRecDepth 100000 in
theorem S_1094 : aSpec wd ct_1094 := bChk_ok wx_ok btX12_ofWhale (nds := []) (fk := []) (rk := (1, [])) (sp := 0) (fuel := 3000) (by decide +kernel) lk_n odX12_ofWhale
def ct_1095 : aCt := (mX12_in, [ag_554, ag_170, ag_1], ([], []), [pon_37], mdn_879, [], (nat_lit 0))
set_option maxRecDepth 100000 in
theorem S_1095 : aSpec wd ct_1095 := bChk_ok wx_ok btX12_in (nds := []) (fk := []) (rk := (1, [])) (sp := 0) (fuel := 3000) (by decide +kernel) lk_n odX12_in
def pon_2007 : aPo := (some (.inl [((.ofNat (nat_lit 1)), (.ofNat (nat_lit 1)), (nat_lit 1))]), [some [((.ofNat (nat_lit 0)), (.ofNat (nat_lit 2147483647)), (nat_lit 1))], none, some [((.ofNat (nat_lit 0)), (.ofNat (nat_lit 2147483647)), (nat_lit 1))]], [], [])
def ct_1096 : aCt := (mX12_in, [ag_1, ag_170, ag_1], ([], []), [pon_1205, pon_2007], mdn_879, [], (nat_lit 0))
set_option maxRecDepth 100000 in
theorem S_1096 : aSpec wd ct_1096 := bChk_ok wx_ok btX12_in (nds := []) (fk := []) (rk := (1, [])) (sp := 0) (fuel := 3000) (by decide +kernel) lk_n odX12_in
def mdn_2008 : List (Nat × Nat × Nat) := [((nat_lit 196), (nat_lit 33), (nat_lit 35)), ((nat_lit 205), (nat_lit 0), (nat_lit 7)), ((nat_lit 206), (nat_lit 0), (nat_lit 7))]
set_option maxRecDepth 100000 in
theorem btX12_fitsAll : bTab oX12_fitsAll tX12_fitsAll := ⟨ofX12_fitsAll, by decide +kernel⟩
def ct_1097 : aCt := (mX12_fitsAll, [ag_868, ag_265], ([sl_1438, sl_1439, sl_1806], []), [pon_456], mdn_2008, [], (nat_lit 7))
set_option maxRecDepth 100000 in
theorem S_1097 : aSpec wd ct_1097 := bChk_ok wx_ok btX12_fitsAll (nds := [((nat_lit 19), [lcn_905, lcn_268, lcn_617, lcn_411], [], [sl_1438, sl_1439, sl_1806], [], (8, [(1, 9), (2, -1)]))]) (fk := []) (rk := (18, [])) (sp := 524288) (fuel := 3000) (by decide +kernel) (lk_d S_1094 ml_12_271 (lk_d S_1093 ml_12_271 (lk_d S_1095 ml_12_149 (lk_d S_1047 ml_12_352 (lk_d S_1096 ml_12_149 lk_n))))) odX12_fitsAll
def pon_2009 : aPo := (some (.inl [((.ofNat (nat_lit 0)), (.ofNat (nat_lit 31)), (nat_lit 1))]), [], [sl_874, sl_1435, sl_1438, sl_1439], [])
def mdn_2010 : List (Nat × Nat × Nat) := [((nat_lit 196), (nat_lit 0), (nat_lit 1)), ((nat_lit 196), (nat_lit 11), (nat_lit 12)), ((nat_lit 196), (nat_lit 33), (nat_lit 35)), ((nat_lit 205), (nat_lit 0), (nat_lit 7)), ((nat_lit 206), (nat_lit 0), (nat_lit 7))]
set_option maxRecDepth 100000 in
theorem btX12_fits : bTab oX12_fits tX12_fits := ⟨ofX12_fits, by decide +kernel⟩
def ct_1098 : aCt := (mX12_fits, [ag_868], ([], []), [pon_2009, pon_1879], mdn_2010, [], (nat_lit 8))
set_option maxRecDepth 100000 in
theorem S_1098 : aSpec wd ct_1098 := bChk_ok wx_ok btX12_fits (nds := [((nat_lit 21), [lcn_905, lcn_643, lcn_296], [], [sl_874, sl_1435, sl_1438, sl_1439], [], (5, [(1, -1)]))]) (fk := []) (rk := (6, [])) (sp := 2097152) (fuel := 3000) (by decide +kernel) (lk_d S_468 ml_12_167 (lk_d S_929 ml_12_170 (lk_d S_1097 ml_12_398 lk_n))) odX12_fits
def lcn_2011 : Nat × aAg := ((nat_lit 3), .inl [((.ofNat (nat_lit 0)), (.ofNat (nat_lit 127)), (nat_lit 1))])
set_option maxRecDepth 100000 in
theorem btX12_reachOf : bTab oX12_reachOf tX12_reachOf := ⟨ofX12_reachOf, by decide +kernel⟩
def ct_1099 : aCt := (mX12_reachOf, [ag_868, ag_265, ag_561], ([sl_1438, sl_1439, sl_1806], []), [pon_645], mdn_2008, [], (nat_lit 8))
set_option maxRecDepth 100000 in
theorem S_1099 : aSpec wd ct_1099 := bChk_ok wx_ok btX12_reachOf (nds := [((nat_lit 29), [lcn_905, lcn_268, lcn_564, lcn_2011, lcn_448], [], [sl_1438, sl_1439, sl_1806], [], (7, [(3, -1)]))]) (fk := []) (rk := (8, [])) (sp := 536870912) (fuel := 3000) (by decide +kernel) (lk_d S_1097 ml_12_398 (lk_d S_927 ml_12_271 (lk_d S_1046 ml_12_349 lk_n))) odX12_reachOf
def pon_2012 : aPo := (some (.inl [((.ofNat (nat_lit 0)), (.ofNat (nat_lit 127)), (nat_lit 1))]), [none, some [((.ofNat (nat_lit 0)), (.ofNat (nat_lit 4)), (nat_lit 1))], some [((.ofNat (nat_lit 0)), (.ofNat (nat_lit 99999)), (nat_lit 1))]], [sl_874, sl_1435, sl_1438, sl_1439, sl_1806], [])
set_option maxRecDepth 100000 in
theorem btX12_reach : bTab oX12_reach tX12_reach := ⟨ofX12_reach, by decide +kernel⟩
def ct_1100 : aCt := (mX12_reach, [ag_868, ag_1, ag_1], ([], []), [pon_2012, pon_1844], mdn_2010, [], (nat_lit 9))
set_option maxRecDepth 100000 in
theorem S_1100 : aSpec wd ct_1100 := bChk_ok wx_ok btX12_reach (nds := []) (fk := []) (rk := (1, [])) (sp := 0) (fuel := 3000) (by decide +kernel) (lk_d S_468 ml_12_167 (lk_d S_470 ml_12_170 (lk_d S_929 ml_12_170 (lk_d S_1099 ml_12_401 (lk_d S_925 ml_12_268 (lk_d S_960 ml_12_149 lk_n)))))) odX12_reach
def pon_2013 : aPo := (some (.inl [((.negSucc (nat_lit 0)), (.ofNat (nat_lit 6)), (nat_lit 1))]), [], [sl_874, sl_1435, sl_1438, sl_1439], [])
def lcn_2014 : Nat × aAg := ((nat_lit 3), .inl [((.negSucc (nat_lit 2147483647)), (.ofNat (nat_lit 1000000)), (nat_lit 1))])
set_option maxRecDepth 100000 in
theorem btX12_pier : bTab oX12_pier tX12_pier := ⟨ofX12_pier, by decide +kernel⟩
def ct_1101 : aCt := (mX12_pier, [ag_868, ag_1], ([], []), [pon_2013, pon_1844], mdn_2010, [], (nat_lit 9))
set_option maxRecDepth 100000 in
theorem S_1101 : aSpec wd ct_1101 := bChk_ok wx_ok btX12_pier (nds := [((nat_lit 43), [lcn_905, lcn_652, lcn_269, lcn_2014, lcn_448], [], [sl_874, sl_1435, sl_1438, sl_1439], [], (55, [(3, -7)])), ((nat_lit 63), [lcn_905, lcn_652, lcn_269, lcn_2014, lcn_449, lcn_546, lcn_1827, lcn_1890], [], [sl_874, sl_1435, sl_1438, sl_1439], [], (54, [(3, -7), (6, -1)]))]) (fk := []) (rk := (56, [])) (sp := 9223380832947798016) (fuel := 3000) (by decide +kernel) (lk_d S_468 ml_12_167 (lk_d S_929 ml_12_170 (lk_d S_470 ml_12_170 (lk_d S_1097 ml_12_398 (lk_d S_1099 ml_12_401 (lk_d S_960 ml_12_149 (lk_d S_956 ml_12_298 lk_n))))))) odX12_pier
def lcn_2015 : Nat × aAg := ((nat_lit 0), .inl [((.ofNat (nat_lit 0)), (.ofNat (nat_lit 4095)), (nat_lit 1))])
set_option maxRecDepth 100000 in
theorem btX12_ones : bTab oX12_ones tX12_ones := ⟨ofX12_ones, by decide +kernel⟩
def ct_1102 : aCt := (mX12_ones, [ag_662], ([], []), [pon_130], [], [], (nat_lit 0))
set_option maxRecDepth 100000 in
theorem S_1102 : aSpec wd ct_1102 := bChk_ok wx_ok btX12_ones (nds := [((nat_lit 4), [lcn_2015, lcn_274, lcn_673], [], [], [], (12, [(2, -1)]))]) (fk := []) (rk := (13, [])) (sp := 16) (fuel := 3000) (by decide +kernel) lk_n odX12_ones
def pon_2016 : aPo := (some (.inl [((.ofNat (nat_lit 0)), (.ofNat (nat_lit 4095)), (nat_lit 1))]), [], [sl_874, sl_1435, sl_1438, sl_1439], [])
def lcn_2017 : Nat × aAg := ((nat_lit 3), .inl [((.ofNat (nat_lit 0)), (.ofNat (nat_lit 4095)), (nat_lit 1))])
def lcn_2018 : Nat × aAg := ((nat_lit 4), .inl [((.ofNat (nat_lit 0)), (.ofNat (nat_lit 4096)), (nat_lit 1))])
set_option maxRecDepth 100000 in
theorem btX12_watch : bTab oX12_watch tX12_watch := ⟨ofX12_watch, by decide +kernel⟩
def ct_1103 : aCt := (mX12_watch, [ag_868, ag_1, ag_1], ([], []), [pon_2016, pon_1811], mdn_876, [], (nat_lit 4))
set_option maxRecDepth 100000 in
theorem S_1103 : aSpec wd ct_1103 := bChk_ok wx_ok btX12_watch (nds := [((nat_lit 45), [lcn_905, lcn_250, lcn_251, lcn_2017, lcn_2018], [], [sl_874, sl_1435, sl_1438, sl_1439], [], (4096, [(3, -1)]))]) (fk := []) (rk := (4097, [])) (sp := 35184372088832) (fuel := 3000) (by decide +kernel) (lk_d S_468 ml_12_167 (lk_d S_929 ml_12_170 (lk_d S_1102 ml_12_404 (lk_d S_954 ml_12_277 (lk_d S_937 ml_12_277 (lk_d S_X12_doLead_0 ml_12_407 lk_n)))))) odX12_watch
def mdn_2019 : List (Nat × Nat × Nat) := [((nat_lit 210), (nat_lit 0), (nat_lit 49))]
set_option maxRecDepth 100000 in
theorem btX12_layFar : bTab oX12_layFar tX12_layFar := ⟨ofX12_layFar, by decide +kernel⟩
def ct_1104 : aCt := (mX12_layFar, [ag_868], ([sl_1438, sl_1439], []), [pon_49], mdn_2019, [], (nat_lit 3))
set_option maxRecDepth 100000 in
theorem S_1104 : aSpec wd ct_1104 := bChk_ok wx_ok btX12_layFar (nds := [((nat_lit 2), [lcn_905, lcn_541], [], [sl_1438, sl_1439], [], (655, [(0, -9)])), ((nat_lit 10), [lcn_905, lcn_250, lcn_414], [], [sl_1438, sl_1439], [], (654, [(0, -9), (1, -1)])), ((nat_lit 109), [lcn_905, lcn_541], [], [sl_1438, sl_1439], [], (583, [(0, -73)])), ((nat_lit 117), [lcn_905, lcn_250, lcn_414], [], [sl_1438, sl_1439], [], (582, [(0, -73), (1, -9)])), ((nat_lit 125), [lcn_905, lcn_250, lcn_251, lcn_441], [], [sl_1438, sl_1439], [], (581, [(0, -73), (1, -9), (2, -1)]))]) (fk := []) (rk := (656, [])) (sp := 42702098401697739270488368123547223044) (fuel := 3000) (by decide +kernel) (lk_d S_958 ml_12_305 lk_n) odX12_layFar
def sl_2020 : (Nat × Nat) × aI := (((nat_lit 199), (nat_lit 4)), [((.ofNat (nat_lit 7)), (.ofNat (nat_lit 7)), (nat_lit 1))])
def mdn_2021 : List (Nat × Nat × Nat) := [((nat_lit 196), (nat_lit 38), (nat_lit 39)), ((nat_lit 212), (nat_lit 0), (nat_lit 7))]
set_option maxRecDepth 100000 in
theorem btX12_tryRound : bTab oX12_tryRound tX12_tryRound := ⟨ofX12_tryRound, by decide +kernel⟩
def ct_1105 : aCt := (mX12_tryRound, [ag_868, ag_133, ag_657, ag_1], ([sl_1438, sl_2020], []), [pon_49], mdn_2021, [], (nat_lit 2))
set_option maxRecDepth 100000 in
theorem S_1105 : aSpec wd ct_1105 := bChk_ok wx_ok btX12_tryRound (nds := []) (fk := []) (rk := (1, [])) (sp := 0) (fuel := 3000) (by decide +kernel) (lk_d S_X12_copy_31 ml_12_176 lk_n) odX12_tryRound
def sl_2022 : (Nat × Nat) × aI := (((nat_lit 199), (nat_lit 4)), [((.ofNat (nat_lit 6)), (.ofNat (nat_lit 7)), (nat_lit 1))])
def mdn_2023 : List (Nat × Nat × Nat) := [((nat_lit 196), (nat_lit 38), (nat_lit 39)), ((nat_lit 211), (nat_lit 6), (nat_lit 7)), ((nat_lit 212), (nat_lit 0), (nat_lit 7))]
def lcn_2024 : Nat × aAg := ((nat_lit 3), .inl [((.negSucc (nat_lit 2147483647)), (.ofNat (nat_lit 2147483646)), (nat_lit 1))])
def ct_1106 : aCt := (mX12_tryRound, [ag_868, ag_153, ag_657, ag_1], ([sl_1438, sl_2022], []), [pon_49], mdn_2023, [], (nat_lit 3))
set_option maxRecDepth 100000 in
theorem S_1106 : aSpec wd ct_1106 := bChk_ok wx_ok btX12_tryRound (nds := [((nat_lit 42), [lcn_905, lcn_986, lcn_677, lcn_2024, lcn_448], [], [sl_1438, sl_2020], [], (7, [(2, -1)]))]) (fk := []) (rk := (8, [])) (sp := 4398046511104) (fuel := 3000) (by decide +kernel) (lk_d S_X12_copy_30 ml_12_176 (lk_d S_956 ml_12_298 (lk_d S_1105 ml_12_413 lk_n))) odX12_tryRound
def sl_2025 : (Nat × Nat) × aI := (((nat_lit 199), (nat_lit 4)), [((.ofNat (nat_lit 5)), (.ofNat (nat_lit 7)), (nat_lit 1))])
def mdn_2026 : List (Nat × Nat × Nat) := [((nat_lit 196), (nat_lit 38), (nat_lit 39)), ((nat_lit 211), (nat_lit 5), (nat_lit 7)), ((nat_lit 212), (nat_lit 0), (nat_lit 7))]
def ct_1107 : aCt := (mX12_tryRound, [ag_868, ag_150, ag_657, ag_1], ([sl_1438, sl_2025], []), [pon_49], mdn_2026, [], (nat_lit 4))
set_option maxRecDepth 100000 in
theorem S_1107 : aSpec wd ct_1107 := bChk_ok wx_ok btX12_tryRound (nds := [((nat_lit 42), [lcn_905, lcn_985, lcn_677, lcn_2024, lcn_448], [], [sl_1438, sl_2022], [], (7, [(2, -1)]))]) (fk := []) (rk := (8, [])) (sp := 4398046511104) (fuel := 3000) (by decide +kernel) (lk_d S_X12_copy_29 ml_12_176 (lk_d S_956 ml_12_298 (lk_d S_1106 ml_12_413 lk_n))) odX12_tryRound
def sl_2027 : (Nat × Nat) × aI := (((nat_lit 199), (nat_lit 4)), [((.ofNat (nat_lit 4)), (.ofNat (nat_lit 7)), (nat_lit 1))])
def mdn_2028 : List (Nat × Nat × Nat) := [((nat_lit 196), (nat_lit 38), (nat_lit 39)), ((nat_lit 211), (nat_lit 4), (nat_lit 7)), ((nat_lit 212), (nat_lit 0), (nat_lit 7))]
def ct_1108 : aCt := (mX12_tryRound, [ag_868, ag_159, ag_657, ag_1], ([sl_1438, sl_2027], []), [pon_49], mdn_2028, [], (nat_lit 5))
set_option maxRecDepth 100000 in
theorem S_1108 : aSpec wd ct_1108 := bChk_ok wx_ok btX12_tryRound (nds := [((nat_lit 42), [lcn_905, lcn_984, lcn_677, lcn_2024, lcn_448], [], [sl_1438, sl_2025], [], (7, [(2, -1)]))]) (fk := []) (rk := (8, [])) (sp := 4398046511104) (fuel := 3000) (by decide +kernel) (lk_d S_X12_copy_28 ml_12_176 (lk_d S_956 ml_12_298 (lk_d S_1107 ml_12_413 lk_n))) odX12_tryRound
def sl_2029 : (Nat × Nat) × aI := (((nat_lit 199), (nat_lit 4)), [((.ofNat (nat_lit 3)), (.ofNat (nat_lit 7)), (nat_lit 1))])
def mdn_2030 : List (Nat × Nat × Nat) := [((nat_lit 196), (nat_lit 38), (nat_lit 39)), ((nat_lit 211), (nat_lit 3), (nat_lit 7)), ((nat_lit 212), (nat_lit 0), (nat_lit 7))]
def ct_1109 : aCt := (mX12_tryRound, [ag_868, ag_122, ag_657, ag_1], ([sl_1438, sl_2029], []), [pon_49], mdn_2030, [], (nat_lit 6))
set_option maxRecDepth 100000 in
theorem S_1109 : aSpec wd ct_1109 := bChk_ok wx_ok btX12_tryRound (nds := [((nat_lit 42), [lcn_905, lcn_983, lcn_677, lcn_2024, lcn_448], [], [sl_1438, sl_2027], [], (7, [(2, -1)]))]) (fk := []) (rk := (8, [])) (sp := 4398046511104) (fuel := 3000) (by decide +kernel) (lk_d S_X12_copy_27 ml_12_176 (lk_d S_956 ml_12_298 (lk_d S_1108 ml_12_413 lk_n))) odX12_tryRound
def sl_2031 : (Nat × Nat) × aI := (((nat_lit 199), (nat_lit 4)), [((.ofNat (nat_lit 2)), (.ofNat (nat_lit 7)), (nat_lit 1))])
def mdn_2032 : List (Nat × Nat × Nat) := [((nat_lit 196), (nat_lit 38), (nat_lit 39)), ((nat_lit 211), (nat_lit 2), (nat_lit 7)), ((nat_lit 212), (nat_lit 0), (nat_lit 7))]
def ct_1110 : aCt := (mX12_tryRound, [ag_868, ag_22, ag_657, ag_1], ([sl_1438, sl_2031], []), [pon_49], mdn_2032, [], (nat_lit 7))
set_option maxRecDepth 100000 in
theorem S_1110 : aSpec wd ct_1110 := bChk_ok wx_ok btX12_tryRound (nds := [((nat_lit 42), [lcn_905, lcn_167, lcn_677, lcn_2024, lcn_448], [], [sl_1438, sl_2029], [], (7, [(2, -1)]))]) (fk := []) (rk := (8, [])) (sp := 4398046511104) (fuel := 3000) (by decide +kernel) (lk_d S_X12_copy_26 ml_12_176 (lk_d S_956 ml_12_298 (lk_d S_1109 ml_12_413 lk_n))) odX12_tryRound
def ag_2033 : aAg := .inl [((.ofNat (nat_lit 1)), (.ofNat (nat_lit 64)), (nat_lit 1))]
def mdn_2034 : List (Nat × Nat × Nat) := [((nat_lit 196), (nat_lit 38), (nat_lit 39)), ((nat_lit 211), (nat_lit 1), (nat_lit 7)), ((nat_lit 212), (nat_lit 0), (nat_lit 7))]
def lcn_2035 : Nat × aAg := ((nat_lit 2), .inl [((.ofNat (nat_lit 1)), (.ofNat (nat_lit 64)), (nat_lit 1))])
def ct_1111 : aCt := (mX12_tryRound, [ag_868, ag_53, ag_2033, ag_170], ([sl_1438, sl_1439], []), [pon_49], mdn_2034, [], (nat_lit 8))
set_option maxRecDepth 100000 in
theorem S_1111 : aSpec wd ct_1111 := bChk_ok wx_ok btX12_tryRound (nds := [((nat_lit 42), [lcn_905, lcn_203, lcn_2035, lcn_101, lcn_448], [], [sl_1438, sl_2031], [], (7, [(1, -1)]))]) (fk := []) (rk := (8, [])) (sp := 4398046511104) (fuel := 3000) (by decide +kernel) (lk_d S_X12_copy_25 ml_12_176 (lk_d S_956 ml_12_298 (lk_d S_1110 ml_12_413 lk_n))) odX12_tryRound
def pon_2036 : aPo := (some (.inl [((.negSucc (nat_lit 2147483647)), (.ofNat (nat_lit 999999)), (nat_lit 1)), ((.ofNat (nat_lit 1000001)), (.ofNat (nat_lit 2147483647)), (nat_lit 1))]), [], [], [])
def mdn_2037 : List (Nat × Nat × Nat) := [((nat_lit 196), (nat_lit 38), (nat_lit 39)), ((nat_lit 210), (nat_lit 0), (nat_lit 49)), ((nat_lit 211), (nat_lit 0), (nat_lit 7)), ((nat_lit 212), (nat_lit 0), (nat_lit 7))]
set_option maxRecDepth 100000 in
theorem btX12_seekRound : bTab oX12_seekRound tX12_seekRound := ⟨ofX12_seekRound, by decide +kernel⟩
def ct_1112 : aCt := (mX12_seekRound, [ag_868, ag_125], ([sl_1438, sl_1439], []), [pon_2036, pon_52], mdn_2037, [], (nat_lit 9))
set_option maxRecDepth 100000 in
theorem S_1112 : aSpec wd ct_1112 := bChk_ok wx_ok btX12_seekRound (nds := []) (fk := []) (rk := (1, [])) (sp := 0) (fuel := 3000) (by decide +kernel) (lk_d S_1104 ml_12_416 (lk_d S_1111 ml_12_413 lk_n)) odX12_seekRound
def pon_2038 : aPo := (some (.inl [((.negSucc (nat_lit 2147483647)), (.ofNat (nat_lit 999999)), (nat_lit 1)), ((.ofNat (nat_lit 1000001)), (.ofNat (nat_lit 2147483647)), (nat_lit 1))]), [none, some [((.ofNat (nat_lit 0)), (.ofNat (nat_lit 6)), (nat_lit 1))]], [sl_874, sl_1435, sl_1438, sl_1439], [])
def pon_2039 : aPo := (some (.inl [((.negSucc (nat_lit 1)), (.negSucc (nat_lit 1)), (nat_lit 1))]), [none, some [((.ofNat (nat_lit 0)), (.ofNat (nat_lit 6)), (nat_lit 1))]], [sl_874, sl_1435, sl_1438, sl_1439], [])
def mdn_2040 : List (Nat × Nat × Nat) := [((nat_lit 196), (nat_lit 0), (nat_lit 1)), ((nat_lit 196), (nat_lit 11), (nat_lit 12)), ((nat_lit 196), (nat_lit 38), (nat_lit 39)), ((nat_lit 210), (nat_lit 0), (nat_lit 49)), ((nat_lit 211), (nat_lit 0), (nat_lit 7)), ((nat_lit 212), (nat_lit 0), (nat_lit 7))]
set_option maxRecDepth 100000 in
theorem btX12_round : bTab oX12_round tX12_round := ⟨ofX12_round, by decide +kernel⟩
def ct_1113 : aCt := (mX12_round, [ag_868, ag_1], ([], []), [pon_2038, pon_1811, pon_2039], mdn_2040, [], (nat_lit 10))
set_option maxRecDepth 100000 in
theorem S_1113 : aSpec wd ct_1113 := bChk_ok wx_ok btX12_round (nds := []) (fk := []) (rk := (1, [])) (sp := 0) (fuel := 3000) (by decide +kernel) (lk_d S_468 ml_12_167 (lk_d S_929 ml_12_170 (lk_d S_1112 ml_12_419 (lk_d S_937 ml_12_277 lk_n)))) odX12_round
def sl_2041 : (Nat × Nat) × aI := (((nat_lit 196), (nat_lit 11)), [((.ofNat (nat_lit 1)), (.ofNat (nat_lit 1)), (nat_lit 1)), ((.ofNat (nat_lit 6)), (.ofNat (nat_lit 6)), (nat_lit 1))])
def pon_2042 : aPo := (some (.inl [((.negSucc (nat_lit 0)), (.negSucc (nat_lit 0)), (nat_lit 1))]), [], [sl_2041], [])
set_option maxRecDepth 100000 in
theorem btX12_roundAt : bTab oX12_roundAt tX12_roundAt := ⟨ofX12_roundAt, by decide +kernel⟩
def ct_1114 : aCt := (mX12_roundAt, [ag_868, ag_1, ag_1], ([], []), [pon_1876, pon_2042], mdn_2040, [], (nat_lit 10))
set_option maxRecDepth 100000 in
theorem S_1114 : aSpec wd ct_1114 := bChk_ok wx_ok btX12_roundAt (nds := []) (fk := []) (rk := (1, [])) (sp := 0) (fuel := 3000) (by decide +kernel) (lk_d S_468 ml_12_167 (lk_d S_1067 ml_12_170 (lk_d S_929 ml_12_170 (lk_d S_1112 ml_12_419 (lk_d S_937 ml_12_277 (lk_d S_936 ml_12_149 lk_n)))))) odX12_roundAt
set_option maxRecDepth 100000 in
theorem btX12_decade : bTab oX12_decade tX12_decade := ⟨ofX12_decade, by decide +kernel⟩
def ct_1115 : aCt := (mX12_decade, [ag_868, ag_1, ag_1], ([sl_1878], []), [pon_1811], mdn_876, [], (nat_lit 1))
set_option maxRecDepth 100000 in
theorem S_1115 : aSpec wd ct_1115 := bChk_ok wx_ok btX12_decade (nds := []) (fk := []) (rk := (1, [])) (sp := 0) (fuel := 3000) (by decide +kernel) (lk_d S_468 ml_12_167 (lk_d S_929 ml_12_170 lk_n)) odX12_decade
def pon_2043 : aPo := (some (.inl [((.ofNat (nat_lit 0)), (.ofNat (nat_lit 0)), (nat_lit 1))]), [some [((.negSucc (nat_lit 2147483647)), (.negSucc (nat_lit 0)), (nat_lit 1)), ((.ofNat (nat_lit 65537)), (.ofNat (nat_lit 2147483647)), (nat_lit 1))], none, none], [], [])
def pon_2044 : aPo := (some (.inl [((.ofNat (nat_lit 1)), (.ofNat (nat_lit 1)), (nat_lit 1))]), [some [((.ofNat (nat_lit 0)), (.ofNat (nat_lit 65536)), (nat_lit 1))], none, none], [], [])
def ct_1116 : aCt := (mX12_in, [ag_1, ag_170, ag_688], ([], []), [pon_2043, pon_2044], mdn_879, [], (nat_lit 0))
set_option maxRecDepth 100000 in
theorem S_1116 : aSpec wd ct_1116 := bChk_ok wx_ok btX12_in (nds := []) (fk := []) (rk := (1, [])) (sp := 0) (fuel := 3000) (by decide +kernel) lk_n odX12_in
def sl_2045 : (Nat × Nat) × aI := (((nat_lit 199), (nat_lit 4)), [((.ofNat (nat_lit 1)), (.ofNat (nat_lit 1)), (nat_lit 1))])
def ct_1117 : aCt := (mX12_ofBox, [ag_868, ag_170, ag_53], ([sl_1438, sl_2045, sl_1815], []), [pon_37], [], [], (nat_lit 0))
set_option maxRecDepth 100000 in
theorem S_1117 : aSpec wd ct_1117 := bChk_ok wx_ok btX12_ofBox (nds := []) (fk := []) (rk := (1, [])) (sp := 0) (fuel := 3000) (by decide +kernel) lk_n odX12_ofBox
def pon_2046 : aPo := (some (.inl [((.ofNat (nat_lit 2)), (.ofNat (nat_lit 6)), (nat_lit 1))]), [], [], [])
def ct_1118 : aCt := (mX12_songLong, [ag_868, ag_170], ([sl_2045], []), [pon_2046], [], [], (nat_lit 0))
set_option maxRecDepth 100000 in
theorem S_1118 : aSpec wd ct_1118 := bChk_ok wx_ok btX12_songLong (nds := []) (fk := []) (rk := (1, [])) (sp := 0) (fuel := 3000) (by decide +kernel) lk_n odX12_songLong
def ct_1119 : aCt := (mX12_boxLong, [ag_868, ag_170], ([sl_1438, sl_2045, sl_1815], []), [pon_2046], [], [], (nat_lit 1))
set_option maxRecDepth 100000 in
theorem S_1119 : aSpec wd ct_1119 := bChk_ok wx_ok btX12_boxLong (nds := []) (fk := [7]) (rk := (1, [])) (sp := 0) (fuel := 3000) (by decide +kernel) (lk_d S_1118 ml_12_265 (lk_d S_1117 ml_12_262 lk_n)) odX12_boxLong
def ct_1120 : aCt := (mX12_ofBox, [ag_868, ag_53, ag_53], ([sl_1438, sl_2045, sl_1996], []), [pon_37], [], [], (nat_lit 0))
set_option maxRecDepth 100000 in
theorem S_1120 : aSpec wd ct_1120 := bChk_ok wx_ok btX12_ofBox (nds := []) (fk := []) (rk := (1, [])) (sp := 0) (fuel := 3000) (by decide +kernel) lk_n odX12_ofBox
def ct_1121 : aCt := (mX12_boxLong, [ag_868, ag_53], ([sl_1438, sl_2045, sl_1996], []), [pon_2046], [], [], (nat_lit 1))
set_option maxRecDepth 100000 in
theorem S_1121 : aSpec wd ct_1121 := bChk_ok wx_ok btX12_boxLong (nds := []) (fk := [7]) (rk := (1, [])) (sp := 0) (fuel := 3000) (by decide +kernel) (lk_d S_1118 ml_12_265 (lk_d S_1120 ml_12_262 lk_n)) odX12_boxLong
def ct_1122 : aCt := (mX12_ofBox, [ag_868, ag_22, ag_53], ([sl_1438, sl_2045, sl_1994], []), [pon_37], [], [], (nat_lit 0))
set_option maxRecDepth 100000 in
theorem S_1122 : aSpec wd ct_1122 := bChk_ok wx_ok btX12_ofBox (nds := []) (fk := []) (rk := (1, [])) (sp := 0) (fuel := 3000) (by decide +kernel) lk_n odX12_ofBox
def ct_1123 : aCt := (mX12_boxLong, [ag_868, ag_22], ([sl_1438, sl_2045, sl_1994], []), [pon_2046], [], [], (nat_lit 1))
set_option maxRecDepth 100000 in
theorem S_1123 : aSpec wd ct_1123 := bChk_ok wx_ok btX12_boxLong (nds := []) (fk := [7]) (rk := (1, [])) (sp := 0) (fuel := 3000) (by decide +kernel) (lk_d S_1118 ml_12_265 (lk_d S_1122 ml_12_262 lk_n)) odX12_boxLong
def ct_1124 : aCt := (mX12_ofBox, [ag_868, ag_122, ag_53], ([sl_1438, sl_2045, sl_1992], []), [pon_37], [], [], (nat_lit 0))
set_option maxRecDepth 100000 in
theorem S_1124 : aSpec wd ct_1124 := bChk_ok wx_ok btX12_ofBox (nds := []) (fk := []) (rk := (1, [])) (sp := 0) (fuel := 3000) (by decide +kernel) lk_n odX12_ofBox
def ct_1125 : aCt := (mX12_boxLong, [ag_868, ag_122], ([sl_1438, sl_2045, sl_1992], []), [pon_2046], [], [], (nat_lit 1))
set_option maxRecDepth 100000 in
theorem S_1125 : aSpec wd ct_1125 := bChk_ok wx_ok btX12_boxLong (nds := []) (fk := [7]) (rk := (1, [])) (sp := 0) (fuel := 3000) (by decide +kernel) (lk_d S_1118 ml_12_265 (lk_d S_1124 ml_12_262 lk_n)) odX12_boxLong
def ct_1126 : aCt := (mX12_ofBox, [ag_868, ag_159, ag_53], ([sl_1438, sl_2045, sl_1990], []), [pon_37], [], [], (nat_lit 0))
set_option maxRecDepth 100000 in
theorem S_1126 : aSpec wd ct_1126 := bChk_ok wx_ok btX12_ofBox (nds := []) (fk := []) (rk := (1, [])) (sp := 0) (fuel := 3000) (by decide +kernel) lk_n odX12_ofBox
def ct_1127 : aCt := (mX12_boxLong, [ag_868, ag_159], ([sl_1438, sl_2045, sl_1990], []), [pon_2046], [], [], (nat_lit 1))
set_option maxRecDepth 100000 in
theorem S_1127 : aSpec wd ct_1127 := bChk_ok wx_ok btX12_boxLong (nds := []) (fk := [7]) (rk := (1, [])) (sp := 0) (fuel := 3000) (by decide +kernel) (lk_d S_1118 ml_12_265 (lk_d S_1126 ml_12_262 lk_n)) odX12_boxLong
def ct_1128 : aCt := (mX12_ofBox, [ag_868, ag_150, ag_53], ([sl_1438, sl_2045, sl_1988], []), [pon_37], [], [], (nat_lit 0))
set_option maxRecDepth 100000 in
theorem S_1128 : aSpec wd ct_1128 := bChk_ok wx_ok btX12_ofBox (nds := []) (fk := []) (rk := (1, [])) (sp := 0) (fuel := 3000) (by decide +kernel) lk_n odX12_ofBox
def ct_1129 : aCt := (mX12_boxLong, [ag_868, ag_150], ([sl_1438, sl_2045, sl_1988], []), [pon_2046], [], [], (nat_lit 1))
set_option maxRecDepth 100000 in
theorem S_1129 : aSpec wd ct_1129 := bChk_ok wx_ok btX12_boxLong (nds := []) (fk := [7]) (rk := (1, [])) (sp := 0) (fuel := 3000) (by decide +kernel) (lk_d S_1118 ml_12_265 (lk_d S_1128 ml_12_262 lk_n)) odX12_boxLong
def ct_1130 : aCt := (mX12_ofBox, [ag_868, ag_153, ag_53], ([sl_1438, sl_2045, sl_1984], []), [pon_37], [], [], (nat_lit 0))
set_option maxRecDepth 100000 in
theorem S_1130 : aSpec wd ct_1130 := bChk_ok wx_ok btX12_ofBox (nds := []) (fk := []) (rk := (1, [])) (sp := 0) (fuel := 3000) (by decide +kernel) lk_n odX12_ofBox
def ct_1131 : aCt := (mX12_boxLong, [ag_868, ag_153], ([sl_1438, sl_2045, sl_1984], []), [pon_2046], [], [], (nat_lit 1))
set_option maxRecDepth 100000 in
theorem S_1131 : aSpec wd ct_1131 := bChk_ok wx_ok btX12_boxLong (nds := []) (fk := [7]) (rk := (1, [])) (sp := 0) (fuel := 3000) (by decide +kernel) (lk_d S_1118 ml_12_265 (lk_d S_1130 ml_12_262 lk_n)) odX12_boxLong
def ct_1132 : aCt := (mX12_ofBox, [ag_868, ag_133, ag_53], ([sl_1438, sl_2045, sl_1982], []), [pon_37], [], [], (nat_lit 0))
set_option maxRecDepth 100000 in
theorem S_1132 : aSpec wd ct_1132 := bChk_ok wx_ok btX12_ofBox (nds := []) (fk := []) (rk := (1, [])) (sp := 0) (fuel := 3000) (by decide +kernel) lk_n odX12_ofBox
def ct_1133 : aCt := (mX12_boxLong, [ag_868, ag_133], ([sl_1438, sl_2045, sl_1982], []), [pon_2046], [], [], (nat_lit 1))
set_option maxRecDepth 100000 in
theorem S_1133 : aSpec wd ct_1133 := bChk_ok wx_ok btX12_boxLong (nds := []) (fk := [7]) (rk := (1, [])) (sp := 0) (fuel := 3000) (by decide +kernel) (lk_d S_1118 ml_12_265 (lk_d S_1132 ml_12_262 lk_n)) odX12_boxLong
def pon_2047 : aPo := (some (.inl aTop), [], [sl_874, sl_1435, sl_1438], [])
def lcn_2048 : Nat × aAg := ((nat_lit 3), .inl [((.ofNat (nat_lit 0)), (.ofNat (nat_lit 65536)), (nat_lit 1))])
def lcn_2049 : Nat × aAg := ((nat_lit 2), .inl [((.ofNat (nat_lit 1)), (.ofNat (nat_lit 50)), (nat_lit 1))])
def lcn_2050 : Nat × aAg := ((nat_lit 7), .inl [((.negSucc (nat_lit 0)), (.ofNat (nat_lit 5)), (nat_lit 1))])
def lcn_2051 : Nat × aAg := ((nat_lit 8), .inl [((.ofNat (nat_lit 0)), (.ofNat (nat_lit 3)), (nat_lit 1))])
def ct_1134 : aCt := (mX12_decade, [ag_868, ag_1, ag_1], ([sl_2045], []), [pon_2047, pon_1844], mdn_876, [], (nat_lit 4))
set_option maxRecDepth 100000 in
theorem S_1134 : aSpec wd ct_1134 := bChk_ok wx_ok btX12_decade (nds := [((nat_lit 52), [lcn_905, lcn_702, lcn_703, lcn_2048, lcn_354, lcn_1906], [], [sl_874, sl_1435, sl_1438, sl_2045], [], (759, [(4, -10)])), ((nat_lit 61), [lcn_905, lcn_702, lcn_2049, lcn_2048, lcn_354, lcn_1904, lcn_599], [], [sl_874, sl_1435, sl_1438, sl_2045], [], (758, [(4, -10)])), ((nat_lit 61), [lcn_905, lcn_702, lcn_2049, lcn_2048, lcn_354, lcn_1904, lcn_1952, lcn_2050, lcn_2051], [], [sl_874, sl_1435, sl_1438, sl_2045, sl_1815], [], (757, [(4, -10)])), ((nat_lit 61), [lcn_905, lcn_702, lcn_2049, lcn_2048, lcn_354, lcn_1904, lcn_1953, lcn_2050, lcn_2051], [], [sl_874, sl_1435, sl_1438, sl_2045, sl_1996], [], (756, [(4, -10)])), ((nat_lit 61), [lcn_905, lcn_702, lcn_2049, lcn_2048, lcn_354, lcn_1904, lcn_1954, lcn_2050, lcn_2051], [], [sl_874, sl_1435, sl_1438, sl_2045, sl_1994], [], (755, [(4, -10)])), ((nat_lit 61), [lcn_905, lcn_702, lcn_2049, lcn_2048, lcn_354, lcn_1904, lcn_1955, lcn_2050, lcn_2051], [], [sl_874, sl_1435, sl_1438, sl_2045, sl_1992], [], (754, [(4, -10)])), ((nat_lit 61), [lcn_905, lcn_702, lcn_2049, lcn_2048, lcn_354, lcn_1904, lcn_1956, lcn_2050, lcn_2051], [], [sl_874, sl_1435, sl_1438, sl_2045, sl_1990], [], (753, [(4, -10)])), ((nat_lit 61), [lcn_905, lcn_702, lcn_2049, lcn_2048, lcn_354, lcn_1904, lcn_1957, lcn_2050, lcn_2051], [], [sl_874, sl_1435, sl_1438, sl_2045, sl_1988], [], (752, [(4, -10)])), ((nat_lit 61), [lcn_905, lcn_702, lcn_2049, lcn_2048, lcn_354, lcn_1904, lcn_1958, lcn_2050, lcn_2051], [], [sl_874, sl_1435, sl_1438, sl_2045, sl_1984], [], (751, [(4, -10)])), ((nat_lit 61), [lcn_905, lcn_702, lcn_2049, lcn_2048, lcn_354, lcn_1904, lcn_1959, lcn_2050, lcn_2051], [], [sl_874, sl_1435, sl_1438, sl_2045, sl_1982], [], (750, [(4, -10)]))]) (fk := []) (rk := (760, [])) (sp := 2310346608841064448) (fuel := 3000) (by decide +kernel) (lk_d S_468 ml_12_167 (lk_d S_1133 ml_12_284 (lk_d S_1131 ml_12_284 (lk_d S_1129 ml_12_284 (lk_d S_1127 ml_12_284 (lk_d S_1125 ml_12_284 (lk_d S_1123 ml_12_284 (lk_d S_1121 ml_12_284 (lk_d S_1119 ml_12_284 (lk_d S_929 ml_12_170 (lk_d S_470 ml_12_170 (lk_d S_1132 ml_12_262 (lk_d S_1130 ml_12_262 (lk_d S_1128 ml_12_262 (lk_d S_1126 ml_12_262 (lk_d S_1124 ml_12_262 (lk_d S_1122 ml_12_262 (lk_d S_1120 ml_12_262 (lk_d S_1117 ml_12_262 (lk_d S_951 ml_12_291 (lk_d S_1116 ml_12_149 (lk_d S_495 ml_12_149 lk_n)))))))))))))))))))))) odX12_decade
