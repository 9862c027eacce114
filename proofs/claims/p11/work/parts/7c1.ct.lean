section Pk0
def sl_2052 : (Nat × Nat) × aI := (((nat_lit 199), (nat_lit 4)), [((.ofNat (nat_lit 2)), (.ofNat (nat_lit 2)), (nat_lit 1))])
def ct_1135 : aCt := (mX12_ofBox, [ag_868, ag_170, ag_53], ([sl_1438, sl_2052, sl_1815], []), [pon_456], [], [], (nat_lit 0))
set_option maxRecDepth 100000 in
theorem S_1135 : aSpec wd ct_1135 := bChk_ok wx_ok btX12_ofBox (nds := []) (fk := []) (rk := (1, [])) (sp := 0) (fuel := 3000) (by decide +kernel) lk_n odX12_ofBox
def ct_1136 : aCt := (mX12_songLong, [ag_868, ag_170], ([sl_2052], []), [pon_2046], [], [], (nat_lit 0))
set_option maxRecDepth 100000 in
theorem S_1136 : aSpec wd ct_1136 := bChk_ok wx_ok btX12_songLong (nds := []) (fk := []) (rk := (1, [])) (sp := 0) (fuel := 3000) (by decide +kernel) lk_n odX12_songLong
def ct_1137 : aCt := (mX12_songLong, [ag_868, ag_53], ([sl_2052], []), [pon_2046], [], [], (nat_lit 0))
set_option maxRecDepth 100000 in
theorem S_1137 : aSpec wd ct_1137 := bChk_ok wx_ok btX12_songLong (nds := []) (fk := []) (rk := (1, [])) (sp := 0) (fuel := 3000) (by decide +kernel) lk_n odX12_songLong
def ct_1138 : aCt := (mX12_boxLong, [ag_868, ag_170], ([sl_1438, sl_2052, sl_1815], []), [pon_2046], [], [], (nat_lit 1))
set_option maxRecDepth 100000 in
theorem S_1138 : aSpec wd ct_1138 := bChk_ok wx_ok btX12_boxLong (nds := []) (fk := [7]) (rk := (1, [])) (sp := 0) (fuel := 3000) (by decide +kernel) (lk_d S_1136 ml_12_265 (lk_d S_1137 ml_12_265 (lk_d S_1135 ml_12_262 lk_n))) odX12_boxLong
def ct_1139 : aCt := (mX12_ofBox, [ag_868, ag_53, ag_53], ([sl_1438, sl_2052, sl_1996], []), [pon_456], [], [], (nat_lit 0))
set_option maxRecDepth 100000 in
theorem S_1139 : aSpec wd ct_1139 := bChk_ok wx_ok btX12_ofBox (nds := []) (fk := []) (rk := (1, [])) (sp := 0) (fuel := 3000) (by decide +kernel) lk_n odX12_ofBox
def ct_1140 : aCt := (mX12_boxLong, [ag_868, ag_53], ([sl_1438, sl_2052, sl_1996], []), [pon_2046], [], [], (nat_lit 1))
set_option maxRecDepth 100000 in
theorem S_1140 : aSpec wd ct_1140 := bChk_ok wx_ok btX12_boxLong (nds := []) (fk := [7]) (rk := (1, [])) (sp := 0) (fuel := 3000) (by decide +kernel) (lk_d S_1136 ml_12_265 (lk_d S_1137 ml_12_265 (lk_d S_1139 ml_12_262 lk_n))) odX12_boxLong
def ct_1141 : aCt := (mX12_ofBox, [ag_868, ag_22, ag_53], ([sl_1438, sl_2052, sl_1994], []), [pon_456], [], [], (nat_lit 0))
set_option maxRecDepth 100000 in
theorem S_1141 : aSpec wd ct_1141 := bChk_ok wx_ok btX12_ofBox (nds := []) (fk := []) (rk := (1, [])) (sp := 0) (fuel := 3000) (by decide +kernel) lk_n odX12_ofBox
def ct_1142 : aCt := (mX12_boxLong, [ag_868, ag_22], ([sl_1438, sl_2052, sl_1994], []), [pon_2046], [], [], (nat_lit 1))
set_option maxRecDepth 100000 in
theorem S_1142 : aSpec wd ct_1142 := bChk_ok wx_ok btX12_boxLong (nds := []) (fk := [7]) (rk := (1, [])) (sp := 0) (fuel := 3000) (by decide +kernel) (lk_d S_1136 ml_12_265 (lk_d S_1137 ml_12_265 (lk_d S_1141 ml_12_262 lk_n))) odX12_boxLong
def ct_1143 : aCt := (mX12_ofBox, [ag_868, ag_122, ag_53], ([sl_1438, sl_2052, sl_1992], []), [pon_456], [], [], (nat_lit 0))
set_option maxRecDepth 100000 in
theorem S_1143 : aSpec wd ct_1143 := bChk_ok wx_ok btX12_ofBox (nds := []) (fk := []) (rk := (1, [])) (sp := 0) (fuel := 3000) (by decide +kernel) lk_n odX12_ofBox
def ct_1144 : aCt := (mX12_boxLong, [ag_868, ag_122], ([sl_1438, sl_2052, sl_1992], []), [pon_2046], [], [], (nat_lit 1))
set_option maxRecDepth 100000 in
theorem S_1144 : aSpec wd ct_1144 := bChk_ok wx_ok btX12_boxLong (nds := []) (fk := [7]) (rk := (1, [])) (sp := 0) (fuel := 3000) (by decide +kernel) (lk_d S_1136 ml_12_265 (lk_d S_1137 ml_12_265 (lk_d S_1143 ml_12_262 lk_n))) odX12_boxLong
def ct_1145 : aCt := (mX12_ofBox, [ag_868, ag_159, ag_53], ([sl_1438, sl_2052, sl_1990], []), [pon_456], [], [], (nat_lit 0))
set_option maxRecDepth 100000 in
theorem S_1145 : aSpec wd ct_1145 := bChk_ok wx_ok btX12_ofBox (nds := []) (fk := []) (rk := (1, [])) (sp := 0) (fuel := 3000) (by decide +kernel) lk_n odX12_ofBox
def ct_1146 : aCt := (mX12_boxLong, [ag_868, ag_159], ([sl_1438, sl_2052, sl_1990], []), [pon_2046], [], [], (nat_lit 1))
set_option maxRecDepth 100000 in
theorem S_1146 : aSpec wd ct_1146 := bChk_ok wx_ok btX12_boxLong (nds := []) (fk := [7]) (rk := (1, [])) (sp := 0) (fuel := 3000) (by decide +kernel) (lk_d S_1136 ml_12_265 (lk_d S_1137 ml_12_265 (lk_d S_1145 ml_12_262 lk_n))) odX12_boxLong
def ct_1147 : aCt := (mX12_ofBox, [ag_868, ag_150, ag_53], ([sl_1438, sl_2052, sl_1988], []), [pon_456], [], [], (nat_lit 0))
set_option maxRecDepth 100000 in
theorem S_1147 : aSpec wd ct_1147 := bChk_ok wx_ok btX12_ofBox (nds := []) (fk := []) (rk := (1, [])) (sp := 0) (fuel := 3000) (by decide +kernel) lk_n odX12_ofBox
def ct_1148 : aCt := (mX12_boxLong, [ag_868, ag_150], ([sl_1438, sl_2052, sl_1988], []), [pon_2046], [], [], (nat_lit 1))
set_option maxRecDepth 100000 in
theorem S_1148 : aSpec wd ct_1148 := bChk_ok wx_ok btX12_boxLong (nds := []) (fk := [7]) (rk := (1, [])) (sp := 0) (fuel := 3000) (by decide +kernel) (lk_d S_1136 ml_12_265 (lk_d S_1137 ml_12_265 (lk_d S_1147 ml_12_262 lk_n))) odX12_boxLong
def ct_1149 : aCt := (mX12_ofBox, [ag_868, ag_153, ag_53], ([sl_1438, sl_2052, sl_1984], []), [pon_456], [], [], (nat_lit 0))
set_option maxRecDepth 100000 in
theorem S_1149 : aSpec wd ct_1149 := bChk_ok wx_ok btX12_ofBox (nds := []) (fk := []) (rk := (1, [])) (sp := 0) (fuel := 3000) (by decide +kernel) lk_n odX12_ofBox
def ct_1150 : aCt := (mX12_boxLong, [ag_868, ag_153], ([sl_1438, sl_2052, sl_1984], []), [pon_2046], [], [], (nat_lit 1))
set_option maxRecDepth 100000 in
theorem S_1150 : aSpec wd ct_1150 := bChk_ok wx_ok btX12_boxLong (nds := []) (fk := [7]) (rk := (1, [])) (sp := 0) (fuel := 3000) (by decide +kernel) (lk_d S_1136 ml_12_265 (lk_d S_1137 ml_12_265 (lk_d S_1149 ml_12_262 lk_n))) odX12_boxLong
def ct_1151 : aCt := (mX12_ofBox, [ag_868, ag_133, ag_53], ([sl_1438, sl_2052, sl_1982], []), [pon_456], [], [], (nat_lit 0))
set_option maxRecDepth 100000 in
theorem S_1151 : aSpec wd ct_1151 := bChk_ok wx_ok btX12_ofBox (nds := []) (fk := []) (rk := (1, [])) (sp := 0) (fuel := 3000) (by decide +kernel) lk_n odX12_ofBox
def ct_1152 : aCt := (mX12_boxLong, [ag_868, ag_133], ([sl_1438, sl_2052, sl_1982], []), [pon_2046], [], [], (nat_lit 1))
set_option maxRecDepth 100000 in
theorem S_1152 : aSpec wd ct_1152 := bChk_ok wx_ok btX12_boxLong (nds := []) (fk := [7]) (rk := (1, [])) (sp := 0) (fuel := 3000) (by decide +kernel) (lk_d S_1136 ml_12_265 (lk_d S_1137 ml_12_265 (lk_d S_1151 ml_12_262 lk_n))) odX12_boxLong
def ct_1153 : aCt := (mX12_decade, [ag_868, ag_1, ag_1], ([sl_2052], []), [pon_2047, pon_1844], mdn_876, [], (nat_lit 4))
set_option maxRecDepth 100000 in
theorem S_1153 : aSpec wd ct_1153 := bChk_ok wx_ok btX12_decade (nds := [((nat_lit 52), [lcn_905, lcn_702, lcn_703, lcn_2048, lcn_354, lcn_1906], [], [sl_874, sl_1435, sl_1438, sl_2052], [], (759, [(4, -10)])), ((nat_lit 61), [lcn_905, lcn_702, lcn_2049, lcn_2048, lcn_354, lcn_1904, lcn_599], [], [sl_874, sl_1435, sl_1438, sl_2052], [], (758, [(4, -10)])), ((nat_lit 61), [lcn_905, lcn_702, lcn_2049, lcn_2048, lcn_354, lcn_1904, lcn_1952, lcn_2050, lcn_2051], [], [sl_874, sl_1435, sl_1438, sl_2052, sl_1815], [], (757, [(4, -10)])), ((nat_lit 61), [lcn_905, lcn_702, lcn_2049, lcn_2048, lcn_354, lcn_1904, lcn_1953, lcn_2050, lcn_2051], [], [sl_874, sl_1435, sl_1438, sl_2052, sl_1996], [], (756, [(4, -10)])), ((nat_lit 61), [lcn_905, lcn_702, lcn_2049, lcn_2048, lcn_354, lcn_1904, lcn_1954, lcn_2050, lcn_2051], [], [sl_874, sl_1435, sl_1438, sl_2052, sl_1994], [], (755, [(4, -10)])), ((nat_lit 61), [lcn_905, lcn_702, lcn_2049, lcn_2048, lcn_354, lcn_1904, lcn_1955, lcn_2050, lcn_2051], [], [sl_874, sl_1435, sl_1438, sl_2052, sl_1992], [], (754, [(4, -10)])), ((nat_lit 61), [lcn_905, lcn_702, lcn_2049, lcn_2048, lcn_354, lcn_1904, lcn_1956, lcn_2050, lcn_2051], [], [sl_874, sl_1435, sl_1438, sl_2052, sl_1990], [], (753, [(4, -10)])), ((nat_lit 61), [lcn_905, lcn_702, lcn_2049, lcn_2048, lcn_354, lcn_1904, lcn_1957, lcn_2050, lcn_2051], [], [sl_874, sl_1435, sl_1438, sl_2052, sl_1988], [], (752, [(4, -10)])), ((nat_lit 61), [lcn_905, lcn_702, lcn_2049, lcn_2048, lcn_354, lcn_1904, lcn_1958, lcn_2050, lcn_2051], [], [sl_874, sl_1435, sl_1438, sl_2052, sl_1984], [], (751, [(4, -10)])), ((nat_lit 61), [lcn_905, lcn_702, lcn_2049, lcn_2048, lcn_354, lcn_1904, lcn_1959, lcn_2050, lcn_2051], [], [sl_874, sl_1435, sl_1438, sl_2052, sl_1982], [], (750, [(4, -10)]))]) (fk := []) (rk := (760, [])) (sp := 2310346608841064448) (fuel := 3000) (by decide +kernel) (lk_d S_468 ml_12_167 (lk_d S_1152 ml_12_284 (lk_d S_1150 ml_12_284 (lk_d S_1148 ml_12_284 (lk_d S_1146 ml_12_284 (lk_d S_1144 ml_12_284 (lk_d S_1142 ml_12_284 (lk_d S_1140 ml_12_284 (lk_d S_1138 ml_12_284 (lk_d S_929 ml_12_170 (lk_d S_470 ml_12_170 (lk_d S_1151 ml_12_262 (lk_d S_1149 ml_12_262 (lk_d S_1147 ml_12_262 (lk_d S_1145 ml_12_262 (lk_d S_1143 ml_12_262 (lk_d S_1141 ml_12_262 (lk_d S_1139 ml_12_262 (lk_d S_1135 ml_12_262 (lk_d S_951 ml_12_291 (lk_d S_1116 ml_12_149 (lk_d S_495 ml_12_149 lk_n)))))))))))))))))))))) odX12_decade
def sl_2053 : (Nat × Nat) × aI := (((nat_lit 199), (nat_lit 4)), [((.ofNat (nat_lit 3)), (.ofNat (nat_lit 3)), (nat_lit 1))])
def ct_1154 : aCt := (mX12_ofBox, [ag_868, ag_170, ag_53], ([sl_1438, sl_2053, sl_1815], []), [pon_602], [], [], (nat_lit 0))
set_option maxRecDepth 100000 in
theorem S_1154 : aSpec wd ct_1154 := bChk_ok wx_ok btX12_ofBox (nds := []) (fk := []) (rk := (1, [])) (sp := 0) (fuel := 3000) (by decide +kernel) lk_n odX12_ofBox
def ct_1155 : aCt := (mX12_songLong, [ag_868, ag_170], ([sl_2053], []), [pon_2046], [], [], (nat_lit 0))
set_option maxRecDepth 100000 in
theorem S_1155 : aSpec wd ct_1155 := bChk_ok wx_ok btX12_songLong (nds := []) (fk := []) (rk := (1, [])) (sp := 0) (fuel := 3000) (by decide +kernel) lk_n odX12_songLong
def ct_1156 : aCt := (mX12_songLong, [ag_868, ag_53], ([sl_2053], []), [pon_2046], [], [], (nat_lit 0))
set_option maxRecDepth 100000 in
theorem S_1156 : aSpec wd ct_1156 := bChk_ok wx_ok btX12_songLong (nds := []) (fk := []) (rk := (1, [])) (sp := 0) (fuel := 3000) (by decide +kernel) lk_n odX12_songLong
def ct_1157 : aCt := (mX12_songLong, [ag_868, ag_22], ([sl_2053], []), [pon_2046], [], [], (nat_lit 0))
set_option maxRecDepth 100000 in
theorem S_1157 : aSpec wd ct_1157 := bChk_ok wx_ok btX12_songLong (nds := []) (fk := []) (rk := (1, [])) (sp := 0) (fuel := 3000) (by decide +kernel) lk_n odX12_songLong
def ct_1158 : aCt := (mX12_boxLong, [ag_868, ag_170], ([sl_1438, sl_2053, sl_1815], []), [pon_2046], [], [], (nat_lit 1))
set_option maxRecDepth 100000 in
theorem S_1158 : aSpec wd ct_1158 := bChk_ok wx_ok btX12_boxLong (nds := []) (fk := [7]) (rk := (1, [])) (sp := 0) (fuel := 3000) (by decide +kernel) (lk_d S_1155 ml_12_265 (lk_d S_1156 ml_12_265 (lk_d S_1157 ml_12_265 (lk_d S_1154 ml_12_262 lk_n)))) odX12_boxLong
def ct_1159 : aCt := (mX12_ofBox, [ag_868, ag_53, ag_53], ([sl_1438, sl_2053, sl_1996], []), [pon_602], [], [], (nat_lit 0))
set_option maxRecDepth 100000 in
theorem S_1159 : aSpec wd ct_1159 := bChk_ok wx_ok btX12_ofBox (nds := []) (fk := []) (rk := (1, [])) (sp := 0) (fuel := 3000) (by decide +kernel) lk_n odX12_ofBox
def ct_1160 : aCt := (mX12_boxLong, [ag_868, ag_53], ([sl_1438, sl_2053, sl_1996], []), [pon_2046], [], [], (nat_lit 1))
set_option maxRecDepth 100000 in
theorem S_1160 : aSpec wd ct_1160 := bChk_ok wx_ok btX12_boxLong (nds := []) (fk := [7]) (rk := (1, [])) (sp := 0) (fuel := 3000) (by decide +kernel) (lk_d S_1155 ml_12_265 (lk_d S_1156 ml_12_265 (lk_d S_1157 ml_12_265 (lk_d S_1159 ml_12_262 lk_n)))) odX12_boxLong
def ct_1161 : aCt := (mX12_ofBox, [ag_868, ag_22, ag_53], ([sl_1438, sl_2053, sl_1994], []), [pon_602], [], [], (nat_lit 0))
set_option maxRecDepth 100000 in
theorem S_1161 : aSpec wd ct_1161 := bChk_ok wx_ok btX12_ofBox (nds := []) (fk := []) (rk := (1, [])) (sp := 0) (fuel := 3000) (by decide +kernel) lk_n odX12_ofBox
def ct_1162 : aCt := (mX12_boxLong, [ag_868, ag_22], ([sl_1438, sl_2053, sl_1994], []), [pon_2046], [], [], (nat_lit 1))
set_option maxRecDepth 100000 in
theorem S_1162 : aSpec wd ct_1162 := bChk_ok wx_ok btX12_boxLong (nds := []) (fk := [7]) (rk := (1, [])) (sp := 0) (fuel := 3000) (by decide +kernel) (lk_d S_1155 ml_12_265 (lk_d S_1156 ml_12_265 (lk_d S_1157 ml_12_265 (lk_d S_1161 ml_12_262 lk_n)))) odX12_boxLong
def ct_1163 : aCt := (mX12_ofBox, [ag_868, ag_122, ag_53], ([sl_1438, sl_2053, sl_1992], []), [pon_602], [], [], (nat_lit 0))
set_option maxRecDepth 100000 in
theorem S_1163 : aSpec wd ct_1163 := bChk_ok wx_ok btX12_ofBox (nds := []) (fk := []) (rk := (1, [])) (sp := 0) (fuel := 3000) (by decide +kernel) lk_n odX12_ofBox
def ct_1164 : aCt := (mX12_boxLong, [ag_868, ag_122], ([sl_1438, sl_2053, sl_1992], []), [pon_2046], [], [], (nat_lit 1))
set_option maxRecDepth 100000 in
theorem S_1164 : aSpec wd ct_1164 := bChk_ok wx_ok btX12_boxLong (nds := []) (fk := [7]) (rk := (1, [])) (sp := 0) (fuel := 3000) (by decide +kernel) (lk_d S_1155 ml_12_265 (lk_d S_1156 ml_12_265 (lk_d S_1157 ml_12_265 (lk_d S_1163 ml_12_262 lk_n)))) odX12_boxLong
def ct_1165 : aCt := (mX12_ofBox, [ag_868, ag_159, ag_53], ([sl_1438, sl_2053, sl_1990], []), [pon_602], [], [], (nat_lit 0))
set_option maxRecDepth 100000 in
theorem S_1165 : aSpec wd ct_1165 := bChk_ok wx_ok btX12_ofBox (nds := []) (fk := []) (rk := (1, [])) (sp := 0) (fuel := 3000) (by decide +kernel) lk_n odX12_ofBox
def ct_1166 : aCt := (mX12_boxLong, [ag_868, ag_159], ([sl_1438, sl_2053, sl_1990], []), [pon_2046], [], [], (nat_lit 1))
set_option maxRecDepth 100000 in
theorem S_1166 : aSpec wd ct_1166 := bChk_ok wx_ok btX12_boxLong (nds := []) (fk := [7]) (rk := (1, [])) (sp := 0) (fuel := 3000) (by decide +kernel) (lk_d S_1155 ml_12_265 (lk_d S_1156 ml_12_265 (lk_d S_1157 ml_12_265 (lk_d S_1165 ml_12_262 lk_n)))) odX12_boxLong
def ct_1167 : aCt := (mX12_ofBox, [ag_868, ag_150, ag_53], ([sl_1438, sl_2053, sl_1988], []), [pon_602], [], [], (nat_lit 0))
set_option maxRecDepth 100000 in
theorem S_1167 : aSpec wd ct_1167 := bChk_ok wx_ok btX12_ofBox (nds := []) (fk := []) (rk := (1, [])) (sp := 0) (fuel := 3000) (by decide +kernel) lk_n odX12_ofBox
def ct_1168 : aCt := (mX12_boxLong, [ag_868, ag_150], ([sl_1438, sl_2053, sl_1988], []), [pon_2046], [], [], (nat_lit 1))
set_option maxRecDepth 100000 in
theorem S_1168 : aSpec wd ct_1168 := bChk_ok wx_ok btX12_boxLong (nds := []) (fk := [7]) (rk := (1, [])) (sp := 0) (fuel := 3000) (by decide +kernel) (lk_d S_1155 ml_12_265 (lk_d S_1156 ml_12_265 (lk_d S_1157 ml_12_265 (lk_d S_1167 ml_12_262 lk_n)))) odX12_boxLong
def ct_1169 : aCt := (mX12_ofBox, [ag_868, ag_153, ag_53], ([sl_1438, sl_2053, sl_1984], []), [pon_602], [], [], (nat_lit 0))
set_option maxRecDepth 100000 in
theorem S_1169 : aSpec wd ct_1169 := bChk_ok wx_ok btX12_ofBox (nds := []) (fk := []) (rk := (1, [])) (sp := 0) (fuel := 3000) (by decide +kernel) lk_n odX12_ofBox
def ct_1170 : aCt := (mX12_boxLong, [ag_868, ag_153], ([sl_1438, sl_2053, sl_1984], []), [pon_2046], [], [], (nat_lit 1))
set_option maxRecDepth 100000 in
theorem S_1170 : aSpec wd ct_1170 := bChk_ok wx_ok btX12_boxLong (nds := []) (fk := [7]) (rk := (1, [])) (sp := 0) (fuel := 3000) (by decide +kernel) (lk_d S_1155 ml_12_265 (lk_d S_1156 ml_12_265 (lk_d S_1157 ml_12_265 (lk_d S_1169 ml_12_262 lk_n)))) odX12_boxLong
def ct_1171 : aCt := (mX12_ofBox, [ag_868, ag_133, ag_53], ([sl_1438, sl_2053, sl_1982], []), [pon_602], [], [], (nat_lit 0))
set_option maxRecDepth 100000 in
theorem S_1171 : aSpec wd ct_1171 := bChk_ok wx_ok btX12_ofBox (nds := []) (fk := []) (rk := (1, [])) (sp := 0) (fuel := 3000) (by decide +kernel) lk_n odX12_ofBox
def ct_1172 : aCt := (mX12_boxLong, [ag_868, ag_133], ([sl_1438, sl_2053, sl_1982], []), [pon_2046], [], [], (nat_lit 1))
set_option maxRecDepth 100000 in
theorem S_1172 : aSpec wd ct_1172 := bChk_ok wx_ok btX12_boxLong (nds := []) (fk := [7]) (rk := (1, [])) (sp := 0) (fuel := 3000) (by decide +kernel) (lk_d S_1155 ml_12_265 (lk_d S_1156 ml_12_265 (lk_d S_1157 ml_12_265 (lk_d S_1171 ml_12_262 lk_n)))) odX12_boxLong
def ct_1173 : aCt := (mX12_decade, [ag_868, ag_1, ag_1], ([sl_2053], []), [pon_2047, pon_1844], mdn_876, [], (nat_lit 4))
set_option maxRecDepth 100000 in
theorem S_1173 : aSpec wd ct_1173 := bChk_ok wx_ok btX12_decade (nds := [((nat_lit 52), [lcn_905, lcn_702, lcn_703, lcn_2048, lcn_354, lcn_1906], [], [sl_874, sl_1435, sl_1438, sl_2053], [], (759, [(4, -10)])), ((nat_lit 61), [lcn_905, lcn_702, lcn_2049, lcn_2048, lcn_354, lcn_1904, lcn_599], [], [sl_874, sl_1435, sl_1438, sl_2053], [], (758, [(4, -10)])), ((nat_lit 61), [lcn_905, lcn_702, lcn_2049, lcn_2048, lcn_354, lcn_1904, lcn_1952, lcn_2050, lcn_2051], [], [sl_874, sl_1435, sl_1438, sl_2053, sl_1815], [], (757, [(4, -10)])), ((nat_lit 61), [lcn_905, lcn_702, lcn_2049, lcn_2048, lcn_354, lcn_1904, lcn_1953, lcn_2050, lcn_2051], [], [sl_874, sl_1435, sl_1438, sl_2053, sl_1996], [], (756, [(4, -10)])), ((nat_lit 61), [lcn_905, lcn_702, lcn_2049, lcn_2048, lcn_354, lcn_1904, lcn_1954, lcn_2050, lcn_2051], [], [sl_874, sl_1435, sl_1438, sl_2053, sl_1994], [], (755, [(4, -10)])), ((nat_lit 61), [lcn_905, lcn_702, lcn_2049, lcn_2048, lcn_354, lcn_1904, lcn_1955, lcn_2050, lcn_2051], [], [sl_874, sl_1435, sl_1438, sl_2053, sl_1992], [], (754, [(4, -10)])), ((nat_lit 61), [lcn_905, lcn_702, lcn_2049, lcn_2048, lcn_354, lcn_1904, lcn_1956, lcn_2050, lcn_2051], [], [sl_874, sl_1435, sl_1438, sl_2053, sl_1990], [], (753, [(4, -10)])), ((nat_lit 61), [lcn_905, lcn_702, lcn_2049, lcn_2048, lcn_354, lcn_1904, lcn_1957, lcn_2050, lcn_2051], [], [sl_874, sl_1435, sl_1438, sl_2053, sl_1988], [], (752, [(4, -10)])), ((nat_lit 61), [lcn_905, lcn_702, lcn_2049, lcn_2048, lcn_354, lcn_1904, lcn_1958, lcn_2050, lcn_2051], [], [sl_874, sl_1435, sl_1438, sl_2053, sl_1984], [], (751, [(4, -10)])), ((nat_lit 61), [lcn_905, lcn_702, lcn_2049, lcn_2048, lcn_354, lcn_1904, lcn_1959, lcn_2050, lcn_2051], [], [sl_874, sl_1435, sl_1438, sl_2053, sl_1982], [], (750, [(4, -10)]))]) (fk := []) (rk := (760, [])) (sp := 2310346608841064448) (fuel := 3000) (by decide +kernel) (lk_d S_468 ml_12_167 (lk_d S_1172 ml_12_284 (lk_d S_1170 ml_12_284 (lk_d S_1168 ml_12_284 (lk_d S_1166 ml_12_284 (lk_d S_1164 ml_12_284 (lk_d S_1162 ml_12_284 (lk_d S_1160 ml_12_284 (lk_d S_1158 ml_12_284 (lk_d S_929 ml_12_170 (lk_d S_470 ml_12_170 (lk_d S_1171 ml_12_262 (lk_d S_1169 ml_12_262 (lk_d S_1167 ml_12_262 (lk_d S_1165 ml_12_262 (lk_d S_1163 ml_12_262 (lk_d S_1161 ml_12_262 (lk_d S_1159 ml_12_262 (lk_d S_1154 ml_12_262 (lk_d S_951 ml_12_291 (lk_d S_1116 ml_12_149 (lk_d S_495 ml_12_149 lk_n)))))))))))))))))))))) odX12_decade
def sl_2054 : (Nat × Nat) × aI := (((nat_lit 199), (nat_lit 4)), [((.ofNat (nat_lit 4)), (.ofNat (nat_lit 4)), (nat_lit 1))])
def ct_1174 : aCt := (mX12_ofBox, [ag_868, ag_170, ag_53], ([sl_1438, sl_2054, sl_1815], []), [pon_349], [], [], (nat_lit 0))
set_option maxRecDepth 100000 in
theorem S_1174 : aSpec wd ct_1174 := bChk_ok wx_ok btX12_ofBox (nds := []) (fk := []) (rk := (1, [])) (sp := 0) (fuel := 3000) (by decide +kernel) lk_n odX12_ofBox
def ct_1175 : aCt := (mX12_songLong, [ag_868, ag_170], ([sl_2054], []), [pon_2046], [], [], (nat_lit 0))
set_option maxRecDepth 100000 in
theorem S_1175 : aSpec wd ct_1175 := bChk_ok wx_ok btX12_songLong (nds := []) (fk := []) (rk := (1, [])) (sp := 0) (fuel := 3000) (by decide +kernel) lk_n odX12_songLong
def ct_1176 : aCt := (mX12_songLong, [ag_868, ag_53], ([sl_2054], []), [pon_2046], [], [], (nat_lit 0))
set_option maxRecDepth 100000 in
theorem S_1176 : aSpec wd ct_1176 := bChk_ok wx_ok btX12_songLong (nds := []) (fk := []) (rk := (1, [])) (sp := 0) (fuel := 3000) (by decide +kernel) lk_n odX12_songLong
def ct_1177 : aCt := (mX12_songLong, [ag_868, ag_22], ([sl_2054], []), [pon_2046], [], [], (nat_lit 0))
set_option maxRecDepth 100000 in
theorem S_1177 : aSpec wd ct_1177 := bChk_ok wx_ok btX12_songLong (nds := []) (fk := []) (rk := (1, [])) (sp := 0) (fuel := 3000) (by decide +kernel) lk_n odX12_songLong
def ct_1178 : aCt := (mX12_songLong, [ag_868, ag_122], ([sl_2054], []), [pon_2046], [], [], (nat_lit 0))
set_option maxRecDepth 100000 in
theorem S_1178 : aSpec wd ct_1178 := bChk_ok wx_ok btX12_songLong (nds := []) (fk := []) (rk := (1, [])) (sp := 0) (fuel := 3000) (by decide +kernel) lk_n odX12_songLong
def ct_1179 : aCt := (mX12_boxLong, [ag_868, ag_170], ([sl_1438, sl_2054, sl_1815], []), [pon_2046], [], [], (nat_lit 1))
set_option maxRecDepth 100000 in
theorem S_1179 : aSpec wd ct_1179 := bChk_ok wx_ok btX12_boxLong (nds := []) (fk := [7]) (rk := (1, [])) (sp := 0) (fuel := 3000) (by decide +kernel) (lk_d S_1175 ml_12_265 (lk_d S_1176 ml_12_265 (lk_d S_1177 ml_12_265 (lk_d S_1178 ml_12_265 (lk_d S_1174 ml_12_262 lk_n))))) odX12_boxLong
def ct_1180 : aCt := (mX12_ofBox, [ag_868, ag_53, ag_53], ([sl_1438, sl_2054, sl_1996], []), [pon_349], [], [], (nat_lit 0))
set_option maxRecDepth 100000 in
theorem S_1180 : aSpec wd ct_1180 := bChk_ok wx_ok btX12_ofBox (nds := []) (fk := []) (rk := (1, [])) (sp := 0) (fuel := 3000) (by decide +kernel) lk_n odX12_ofBox
def ct_1181 : aCt := (mX12_boxLong, [ag_868, ag_53], ([sl_1438, sl_2054, sl_1996], []), [pon_2046], [], [], (nat_lit 1))
set_option maxRecDepth 100000 in
theorem S_1181 : aSpec wd ct_1181 := bChk_ok wx_ok btX12_boxLong (nds := []) (fk := [7]) (rk := (1, [])) (sp := 0) (fuel := 3000) (by decide +kernel) (lk_d S_1175 ml_12_265 (lk_d S_1176 ml_12_265 (lk_d S_1177 ml_12_265 (lk_d S_1178 ml_12_265 (lk_d S_1180 ml_12_262 lk_n))))) odX12_boxLong
def ct_1182 : aCt := (mX12_ofBox, [ag_868, ag_22, ag_53], ([sl_1438, sl_2054, sl_1994], []), [pon_349], [], [], (nat_lit 0))
set_option maxRecDepth 100000 in
theorem S_1182 : aSpec wd ct_1182 := bChk_ok wx_ok btX12_ofBox (nds := []) (fk := []) (rk := (1, [])) (sp := 0) (fuel := 3000) (by decide +kernel) lk_n odX12_ofBox
def ct_1183 : aCt := (mX12_boxLong, [ag_868, ag_22], ([sl_1438, sl_2054, sl_1994], []), [pon_2046], [], [], (nat_lit 1))
set_option maxRecDepth 100000 in
theorem S_1183 : aSpec wd ct_1183 := bChk_ok wx_ok btX12_boxLong (nds := []) (fk := [7]) (rk := (1, [])) (sp := 0) (fuel := 3000) (by decide +kernel) (lk_d S_1175 ml_12_265 (lk_d S_1176 ml_12_265 (lk_d S_1177 ml_12_265 (lk_d S_1178 ml_12_265 (lk_d S_1182 ml_12_262 lk_n))))) odX12_boxLong
def ct_1184 : aCt := (mX12_ofBox, [ag_868, ag_122, ag_53], ([sl_1438, sl_2054, sl_1992], []), [pon_349], [], [], (nat_lit 0))
set_option maxRecDepth 100000 in
theorem S_1184 : aSpec wd ct_1184 := bChk_ok wx_ok btX12_ofBox (nds := []) (fk := []) (rk := (1, [])) (sp := 0) (fuel := 3000) (by decide +kernel) lk_n odX12_ofBox
def ct_1185 : aCt := (mX12_boxLong, [ag_868, ag_122], ([sl_1438, sl_2054, sl_1992], []), [pon_2046], [], [], (nat_lit 1))
set_option maxRecDepth 100000 in
theorem S_1185 : aSpec wd ct_1185 := bChk_ok wx_ok btX12_boxLong (nds := []) (fk := [7]) (rk := (1, [])) (sp := 0) (fuel := 3000) (by decide +kernel) (lk_d S_1175 ml_12_265 (lk_d S_1176 ml_12_265 (lk_d S_1177 ml_12_265 (lk_d S_1178 ml_12_265 (lk_d S_1184 ml_12_262 lk_n))))) odX12_boxLong
def ct_1186 : aCt := (mX12_ofBox, [ag_868, ag_159, ag_53], ([sl_1438, sl_2054, sl_1990], []), [pon_349], [], [], (nat_lit 0))
set_option maxRecDepth 100000 in
theorem S_1186 : aSpec wd ct_1186 := bChk_ok wx_ok btX12_ofBox (nds := []) (fk := []) (rk := (1, [])) (sp := 0) (fuel := 3000) (by decide +kernel) lk_n odX12_ofBox
def ct_1187 : aCt := (mX12_boxLong, [ag_868, ag_159], ([sl_1438, sl_2054, sl_1990], []), [pon_2046], [], [], (nat_lit 1))
set_option maxRecDepth 100000 in
theorem S_1187 : aSpec wd ct_1187 := bChk_ok wx_ok btX12_boxLong (nds := []) (fk := [7]) (rk := (1, [])) (sp := 0) (fuel := 3000) (by decide +kernel) (lk_d S_1175 ml_12_265 (lk_d S_1176 ml_12_265 (lk_d S_1177 ml_12_265 (lk_d S_1178 ml_12_265 (lk_d S_1186 ml_12_262 lk_n))))) odX12_boxLong
def ct_1188 : aCt := (mX12_ofBox, [ag_868, ag_150, ag_53], ([sl_1438, sl_2054, sl_1988], []), [pon_349], [], [], (nat_lit 0))
set_option maxRecDepth 100000 in
theorem S_1188 : aSpec wd ct_1188 := bChk_ok wx_ok btX12_ofBox (nds := []) (fk := []) (rk := (1, [])) (sp := 0) (fuel := 3000) (by decide +kernel) lk_n odX12_ofBox
def ct_1189 : aCt := (mX12_boxLong, [ag_868, ag_150], ([sl_1438, sl_2054, sl_1988], []), [pon_2046], [], [], (nat_lit 1))
set_option maxRecDepth 100000 in
theorem S_1189 : aSpec wd ct_1189 := bChk_ok wx_ok btX12_boxLong (nds := []) (fk := [7]) (rk := (1, [])) (sp := 0) (fuel := 3000) (by decide +kernel) (lk_d S_1175 ml_12_265 (lk_d S_1176 ml_12_265 (lk_d S_1177 ml_12_265 (lk_d S_1178 ml_12_265 (lk_d S_1188 ml_12_262 lk_n))))) odX12_boxLong
def ct_1190 : aCt := (mX12_ofBox, [ag_868, ag_153, ag_53], ([sl_1438, sl_2054, sl_1984], []), [pon_349], [], [], (nat_lit 0))
set_option maxRecDepth 100000 in
theorem S_1190 : aSpec wd ct_1190 := bChk_ok wx_ok btX12_ofBox (nds := []) (fk := []) (rk := (1, [])) (sp := 0) (fuel := 3000) (by decide +kernel) lk_n odX12_ofBox
def ct_1191 : aCt := (mX12_boxLong, [ag_868, ag_153], ([sl_1438, sl_2054, sl_1984], []), [pon_2046], [], [], (nat_lit 1))
set_option maxRecDepth 100000 in
theorem S_1191 : aSpec wd ct_1191 := bChk_ok wx_ok btX12_boxLong (nds := []) (fk := [7]) (rk := (1, [])) (sp := 0) (fuel := 3000) (by decide +kernel) (lk_d S_1175 ml_12_265 (lk_d S_1176 ml_12_265 (lk_d S_1177 ml_12_265 (lk_d S_1178 ml_12_265 (lk_d S_1190 ml_12_262 lk_n))))) odX12_boxLong
def ct_1192 : aCt := (mX12_ofBox, [ag_868, ag_133, ag_53], ([sl_1438, sl_2054, sl_1982], []), [pon_349], [], [], (nat_lit 0))
set_option maxRecDepth 100000 in
theorem S_1192 : aSpec wd ct_1192 := bChk_ok wx_ok btX12_ofBox (nds := []) (fk := []) (rk := (1, [])) (sp := 0) (fuel := 3000) (by decide +kernel) lk_n odX12_ofBox
def ct_1193 : aCt := (mX12_boxLong, [ag_868, ag_133], ([sl_1438, sl_2054, sl_1982], []), [pon_2046], [], [], (nat_lit 1))
set_option maxRecDepth 100000 in
theorem S_1193 : aSpec wd ct_1193 := bChk_ok wx_ok btX12_boxLong (nds := []) (fk := [7]) (rk := (1, [])) (sp := 0) (fuel := 3000) (by decide +kernel) (lk_d S_1175 ml_12_265 (lk_d S_1176 ml_12_265 (lk_d S_1177 ml_12_265 (lk_d S_1178 ml_12_265 (lk_d S_1192 ml_12_262 lk_n))))) odX12_boxLong
def ct_1194 : aCt := (mX12_decade, [ag_868, ag_1, ag_1], ([sl_2054], []), [pon_2047, pon_1844], mdn_876, [], (nat_lit 4))
set_option maxRecDepth 100000 in
theorem S_1194 : aSpec wd ct_1194 := bChk_ok wx_ok btX12_decade (nds := [((nat_lit 52), [lcn_905, lcn_702, lcn_703, lcn_2048, lcn_354, lcn_1906], [], [sl_874, sl_1435, sl_1438, sl_2054], [], (759, [(4, -10)])), ((nat_lit 61), [lcn_905, lcn_702, lcn_2049, lcn_2048, lcn_354, lcn_1904, lcn_599], [], [sl_874, sl_1435, sl_1438, sl_2054], [], (758, [(4, -10)])), ((nat_lit 61), [lcn_905, lcn_702, lcn_2049, lcn_2048, lcn_354, lcn_1904, lcn_1952, lcn_2050, lcn_2051], [], [sl_874, sl_1435, sl_1438, sl_2054, sl_1815], [], (757, [(4, -10)])), ((nat_lit 61), [lcn_905, lcn_702, lcn_2049, lcn_2048, lcn_354, lcn_1904, lcn_1953, lcn_2050, lcn_2051], [], [sl_874, sl_1435, sl_1438, sl_2054, sl_1996], [], (756, [(4, -10)])), ((nat_lit 61), [lcn_905, lcn_702, lcn_2049, lcn_2048, lcn_354, lcn_1904, lcn_1954, lcn_2050, lcn_2051], [], [sl_874, sl_1435, sl_1438, sl_2054, sl_1994], [], (755, [(4, -10)])), ((nat_lit 61), [lcn_905, lcn_702, lcn_2049, lcn_2048, lcn_354, lcn_1904, lcn_1955, lcn_2050, lcn_2051], [], [sl_874, sl_1435, sl_1438, sl_2054, sl_1992], [], (754, [(4, -10)])), ((nat_lit 61), [lcn_905, lcn_702, lcn_2049, lcn_2048, lcn_354, lcn_1904, lcn_1956, lcn_2050, lcn_2051], [], [sl_874, sl_1435, sl_1438, sl_2054, sl_1990], [], (753, [(4, -10)])), ((nat_lit 61), [lcn_905, lcn_702, lcn_2049, lcn_2048, lcn_354, lcn_1904, lcn_1957, lcn_2050, lcn_2051], [], [sl_874, sl_1435, sl_1438, sl_2054, sl_1988], [], (752, [(4, -10)])), ((nat_lit 61), [lcn_905, lcn_702, lcn_2049, lcn_2048, lcn_354, lcn_1904, lcn_1958, lcn_2050, lcn_2051], [], [sl_874, sl_1435, sl_1438, sl_2054, sl_1984], [], (751, [(4, -10)])), ((nat_lit 61), [lcn_905, lcn_702, lcn_2049, lcn_2048, lcn_354, lcn_1904, lcn_1959, lcn_2050, lcn_2051], [], [sl_874, sl_1435, sl_1438, sl_2054, sl_1982], [], (750, [(4, -10)]))]) (fk := []) (rk := (760, [])) (sp := 2310346608841064448) (fuel := 3000) (by decide +kernel) (lk_d S_468 ml_12_167 (lk_d S_1193 ml_12_284 (lk_d S_1191 ml_12_284 (lk_d S_1189 ml_12_284 (lk_d S_1187 ml_12_284 (lk_d S_1185 ml_12_284 (lk_d S_1183 ml_12_284 (lk_d S_1181 ml_12_284 (lk_d S_1179 ml_12_284 (lk_d S_929 ml_12_170 (lk_d S_470 ml_12_170 (lk_d S_1192 ml_12_262 (lk_d S_1190 ml_12_262 (lk_d S_1188 ml_12_262 (lk_d S_1186 ml_12_262 (lk_d S_1184 ml_12_262 (lk_d S_1182 ml_12_262 (lk_d S_1180 ml_12_262 (lk_d S_1174 ml_12_262 (lk_d S_951 ml_12_291 (lk_d S_1116 ml_12_149 (lk_d S_495 ml_12_149 lk_n)))))))))))))))))))))) odX12_decade
def sl_2055 : (Nat × Nat) × aI := (((nat_lit 199), (nat_lit 4)), [((.ofNat (nat_lit 5)), (.ofNat (nat_lit 5)), (nat_lit 1))])
def ct_1195 : aCt := (mX12_ofBox, [ag_868, ag_170, ag_53], ([sl_1438, sl_2055, sl_1815], []), [pon_609], [], [], (nat_lit 0))
set_option maxRecDepth 100000 in
theorem S_1195 : aSpec wd ct_1195 := bChk_ok wx_ok btX12_ofBox (nds := []) (fk := []) (rk := (1, [])) (sp := 0) (fuel := 3000) (by decide +kernel) lk_n odX12_ofBox
def ct_1196 : aCt := (mX12_songLong, [ag_868, ag_170], ([sl_2055], []), [pon_2046], [], [], (nat_lit 0))
set_option maxRecDepth 100000 in
theorem S_1196 : aSpec wd ct_1196 := bChk_ok wx_ok btX12_songLong (nds := []) (fk := []) (rk := (1, [])) (sp := 0) (fuel := 3000) (by decide +kernel) lk_n odX12_songLong
def ct_1197 : aCt := (mX12_songLong, [ag_868, ag_53], ([sl_2055], []), [pon_2046], [], [], (nat_lit 0))
set_option maxRecDepth 100000 in
theorem S_1197 : aSpec wd ct_1197 := bChk_ok wx_ok btX12_songLong (nds := []) (fk := []) (rk := (1, [])) (sp := 0) (fuel := 3000) (by decide +kernel) lk_n odX12_songLong
def ct_1198 : aCt := (mX12_songLong, [ag_868, ag_22], ([sl_2055], []), [pon_2046], [], [], (nat_lit 0))
set_option maxRecDepth 100000 in
theorem S_1198 : aSpec wd ct_1198 := bChk_ok wx_ok btX12_songLong (nds := []) (fk := []) (rk := (1, [])) (sp := 0) (fuel := 3000) (by decide +kernel) lk_n odX12_songLong
def ct_1199 : aCt := (mX12_songLong, [ag_868, ag_122], ([sl_2055], []), [pon_2046], [], [], (nat_lit 0))
set_option maxRecDepth 100000 in
theorem S_1199 : aSpec wd ct_1199 := bChk_ok wx_ok btX12_songLong (nds := []) (fk := []) (rk := (1, [])) (sp := 0) (fuel := 3000) (by decide +kernel) lk_n odX12_songLong
def ct_1200 : aCt := (mX12_songLong, [ag_868, ag_159], ([sl_2055], []), [pon_2046], [], [], (nat_lit 0))
set_option maxRecDepth 100000 in
theorem S_1200 : aSpec wd ct_1200 := bChk_ok wx_ok btX12_songLong (nds := []) (fk := []) (rk := (1, [])) (sp := 0) (fuel := 3000) (by decide +kernel) lk_n odX12_songLong
def ct_1201 : aCt := (mX12_boxLong, [ag_868, ag_170], ([sl_1438, sl_2055, sl_1815], []), [pon_2046], [], [], (nat_lit 1))
set_option maxRecDepth 100000 in
theorem S_1201 : aSpec wd ct_1201 := bChk_ok wx_ok btX12_boxLong (nds := []) (fk := [7]) (rk := (1, [])) (sp := 0) (fuel := 3000) (by decide +kernel) (lk_d S_1196 ml_12_265 (lk_d S_1197 ml_12_265 (lk_d S_1198 ml_12_265 (lk_d S_1199 ml_12_265 (lk_d S_1200 ml_12_265 (lk_d S_1195 ml_12_262 lk_n)))))) odX12_boxLong
def ct_1202 : aCt := (mX12_ofBox, [ag_868, ag_53, ag_53], ([sl_1438, sl_2055, sl_1996], []), [pon_609], [], [], (nat_lit 0))
set_option maxRecDepth 100000 in
theorem S_1202 : aSpec wd ct_1202 := bChk_ok wx_ok btX12_ofBox (nds := []) (fk := []) (rk := (1, [])) (sp := 0) (fuel := 3000) (by decide +kernel) lk_n odX12_ofBox
def ct_1203 : aCt := (mX12_boxLong, [ag_868, ag_53], ([sl_1438, sl_2055, sl_1996], []), [pon_2046], [], [], (nat_lit 1))
set_option maxRecDepth 100000 in
theorem S_1203 : aSpec wd ct_1203 := bChk_ok wx_ok btX12_boxLong (nds := []) (fk := [7]) (rk := (1, [])) (sp := 0) (fuel := 3000) (by decide +kernel) (lk_d S_1196 ml_12_265 (lk_d S_1197 ml_12_265 (lk_d S_1198 ml_12_265 (lk_d S_1199 ml_12_265 (lk_d S_1200 ml_12_265 (lk_d S_1202 ml_12_262 lk_n)))))) odX12_boxLong
def ct_1204 : aCt := (mX12_ofBox, [ag_868, ag_22, ag_53], ([sl_1438, sl_2055, sl_1994], []), [pon_609], [], [], (nat_lit 0))
set_option maxRecDepth 100000 in
theorem S_1204 : aSpec wd ct_1204 := bChk_ok wx_ok btX12_ofBox (nds := []) (fk := []) (rk := (1, [])) (sp := 0) (fuel := 3000) (by decide +kernel) lk_n odX12_ofBox
end Pk0
section Pk1
def ct_1205 : aCt := (mX12_boxLong, [ag_868, ag_22], ([sl_1438, sl_2055, sl_1994], []), [pon_2046], [], [], (nat_lit 1))
set_option maxRecDepth 100000 in
theorem S_1205 : aSpec wd ct_1205 := bChk_ok wx_ok btX12_boxLong (nds := []) (fk := [7]) (rk := (1, [])) (sp := 0) (fuel := 3000) (by decide +kernel) (lk_d S_1196 ml_12_265 (lk_d S_1197 ml_12_265 (lk_d S_1198 ml_12_265 (lk_d S_1199 ml_12_265 (lk_d S_1200 ml_12_265 (lk_d S_1204 ml_12_262 lk_n)))))) odX12_boxLong
def ct_1206 : aCt := (mX12_ofBox, [ag_868, ag_122, ag_53], ([sl_1438, sl_2055, sl_1992], []), [pon_609], [], [], (nat_lit 0))
set_option maxRecDepth 100000 in
theorem S_1206 : aSpec wd ct_1206 := bChk_ok wx_ok btX12_ofBox (nds := []) (fk := []) (rk := (1, [])) (sp := 0) (fuel := 3000) (by decide +kernel) lk_n odX12_ofBox
def ct_1207 : aCt := (mX12_boxLong, [ag_868, ag_122], ([sl_1438, sl_2055, sl_1992], []), [pon_2046], [], [], (nat_lit 1))
set_option maxRecDepth 100000 in
theorem S_1207 : aSpec wd ct_1207 := bChk_ok wx_ok btX12_boxLong (nds := []) (fk := [7]) (rk := (1, [])) (sp := 0) (fuel := 3000) (by decide +kernel) (lk_d S_1196 ml_12_265 (lk_d S_1197 ml_12_265 (lk_d S_1198 ml_12_265 (lk_d S_1199 ml_12_265 (lk_d S_1200 ml_12_265 (lk_d S_1206 ml_12_262 lk_n)))))) odX12_boxLong
def ct_1208 : aCt := (mX12_ofBox, [ag_868, ag_159, ag_53], ([sl_1438, sl_2055, sl_1990], []), [pon_609], [], [], (nat_lit 0))
set_option maxRecDepth 100000 in
theorem S_1208 : aSpec wd ct_1208 := bChk_ok wx_ok btX12_ofBox (nds := []) (fk := []) (rk := (1, [])) (sp := 0) (fuel := 3000) (by decide +kernel) lk_n odX12_ofBox
def ct_1209 : aCt := (mX12_boxLong, [ag_868, ag_159], ([sl_1438, sl_2055, sl_1990], []), [pon_2046], [], [], (nat_lit 1))
set_option maxRecDepth 100000 in
theorem S_1209 : aSpec wd ct_1209 := bChk_ok wx_ok btX12_boxLong (nds := []) (fk := [7]) (rk := (1, [])) (sp := 0) (fuel := 3000) (by decide +kernel) (lk_d S_1196 ml_12_265 (lk_d S_1197 ml_12_265 (lk_d S_1198 ml_12_265 (lk_d S_1199 ml_12_265 (lk_d S_1200 ml_12_265 (lk_d S_1208 ml_12_262 lk_n)))))) odX12_boxLong
def ct_1210 : aCt := (mX12_ofBox, [ag_868, ag_150, ag_53], ([sl_1438, sl_2055, sl_1988], []), [pon_609], [], [], (nat_lit 0))
set_option maxRecDepth 100000 in
theorem S_1210 : aSpec wd ct_1210 := bChk_ok wx_ok btX12_ofBox (nds := []) (fk := []) (rk := (1, [])) (sp := 0) (fuel := 3000) (by decide +kernel) lk_n odX12_ofBox
def ct_1211 : aCt := (mX12_boxLong, [ag_868, ag_150], ([sl_1438, sl_2055, sl_1988], []), [pon_2046], [], [], (nat_lit 1))
set_option maxRecDepth 100000 in
theorem S_1211 : aSpec wd ct_1211 := bChk_ok wx_ok btX12_boxLong (nds := []) (fk := [7]) (rk := (1, [])) (sp := 0) (fuel := 3000) (by decide +kernel) (lk_d S_1196 ml_12_265 (lk_d S_1197 ml_12_265 (lk_d S_1198 ml_12_265 (lk_d S_1199 ml_12_265 (lk_d S_1200 ml_12_265 (lk_d S_1210 ml_12_262 lk_n)))))) odX12_boxLong
def ct_1212 : aCt := (mX12_ofBox, [ag_868, ag_153, ag_53], ([sl_1438, sl_2055, sl_1984], []), [pon_609], [], [], (nat_lit 0))
set_option maxRecDepth 100000 in
theorem S_1212 : aSpec wd ct_1212 := bChk_ok wx_ok btX12_ofBox (nds := []) (fk := []) (rk := (1, [])) (sp := 0) (fuel := 3000) (by decide +kernel) lk_n odX12_ofBox
def ct_1213 : aCt := (mX12_boxLong, [ag_868, ag_153], ([sl_1438, sl_2055, sl_1984], []), [pon_2046], [], [], (nat_lit 1))
set_option maxRecDepth 100000 in
theorem S_1213 : aSpec wd ct_1213 := bChk_ok wx_ok btX12_boxLong (nds := []) (fk := [7]) (rk := (1, [])) (sp := 0) (fuel := 3000) (by decide +kernel) (lk_d S_1196 ml_12_265 (lk_d S_1197 ml_12_265 (lk_d S_1198 ml_12_265 (lk_d S_1199 ml_12_265 (lk_d S_1200 ml_12_265 (lk_d S_1212 ml_12_262 lk_n)))))) odX12_boxLong
def ct_1214 : aCt := (mX12_ofBox, [ag_868, ag_133, ag_53], ([sl_1438, sl_2055, sl_1982], []), [pon_609], [], [], (nat_lit 0))
set_option maxRecDepth 100000 in
theorem S_1214 : aSpec wd ct_1214 := bChk_ok wx_ok btX12_ofBox (nds := []) (fk := []) (rk := (1, [])) (sp := 0) (fuel := 3000) (by decide +kernel) lk_n odX12_ofBox
def ct_1215 : aCt := (mX12_boxLong, [ag_868, ag_133], ([sl_1438, sl_2055, sl_1982], []), [pon_2046], [], [], (nat_lit 1))
set_option maxRecDepth 100000 in
theorem S_1215 : aSpec wd ct_1215 := bChk_ok wx_ok btX12_boxLong (nds := []) (fk := [7]) (rk := (1, [])) (sp := 0) (fuel := 3000) (by decide +kernel) (lk_d S_1196 ml_12_265 (lk_d S_1197 ml_12_265 (lk_d S_1198 ml_12_265 (lk_d S_1199 ml_12_265 (lk_d S_1200 ml_12_265 (lk_d S_1214 ml_12_262 lk_n)))))) odX12_boxLong
def ct_1216 : aCt := (mX12_decade, [ag_868, ag_1, ag_1], ([sl_2055], []), [pon_2047, pon_1844], mdn_876, [], (nat_lit 4))
set_option maxRecDepth 100000 in
theorem S_1216 : aSpec wd ct_1216 := bChk_ok wx_ok btX12_decade (nds := [((nat_lit 52), [lcn_905, lcn_702, lcn_703, lcn_2048, lcn_354, lcn_1906], [], [sl_874, sl_1435, sl_1438, sl_2055], [], (759, [(4, -10)])), ((nat_lit 61), [lcn_905, lcn_702, lcn_2049, lcn_2048, lcn_354, lcn_1904, lcn_599], [], [sl_874, sl_1435, sl_1438, sl_2055], [], (758, [(4, -10)])), ((nat_lit 61), [lcn_905, lcn_702, lcn_2049, lcn_2048, lcn_354, lcn_1904, lcn_1952, lcn_2050, lcn_2051], [], [sl_874, sl_1435, sl_1438, sl_2055, sl_1815], [], (757, [(4, -10)])), ((nat_lit 61), [lcn_905, lcn_702, lcn_2049, lcn_2048, lcn_354, lcn_1904, lcn_1953, lcn_2050, lcn_2051], [], [sl_874, sl_1435, sl_1438, sl_2055, sl_1996], [], (756, [(4, -10)])), ((nat_lit 61), [lcn_905, lcn_702, lcn_2049, lcn_2048, lcn_354, lcn_1904, lcn_1954, lcn_2050, lcn_2051], [], [sl_874, sl_1435, sl_1438, sl_2055, sl_1994], [], (755, [(4, -10)])), ((nat_lit 61), [lcn_905, lcn_702, lcn_2049, lcn_2048, lcn_354, lcn_1904, lcn_1955, lcn_2050, lcn_2051], [], [sl_874, sl_1435, sl_1438, sl_2055, sl_1992], [], (754, [(4, -10)])), ((nat_lit 61), [lcn_905, lcn_702, lcn_2049, lcn_2048, lcn_354, lcn_1904, lcn_1956, lcn_2050, lcn_2051], [], [sl_874, sl_1435, sl_1438, sl_2055, sl_1990], [], (753, [(4, -10)])), ((nat_lit 61), [lcn_905, lcn_702, lcn_2049, lcn_2048, lcn_354, lcn_1904, lcn_1957, lcn_2050, lcn_2051], [], [sl_874, sl_1435, sl_1438, sl_2055, sl_1988], [], (752, [(4, -10)])), ((nat_lit 61), [lcn_905, lcn_702, lcn_2049, lcn_2048, lcn_354, lcn_1904, lcn_1958, lcn_2050, lcn_2051], [], [sl_874, sl_1435, sl_1438, sl_2055, sl_1984], [], (751, [(4, -10)])), ((nat_lit 61), [lcn_905, lcn_702, lcn_2049, lcn_2048, lcn_354, lcn_1904, lcn_1959, lcn_2050, lcn_2051], [], [sl_874, sl_1435, sl_1438, sl_2055, sl_1982], [], (750, [(4, -10)]))]) (fk := []) (rk := (760, [])) (sp := 2310346608841064448) (fuel := 3000) (by decide +kernel) (lk_d S_468 ml_12_167 (lk_d S_1215 ml_12_284 (lk_d S_1213 ml_12_284 (lk_d S_1211 ml_12_284 (lk_d S_1209 ml_12_284 (lk_d S_1207 ml_12_284 (lk_d S_1205 ml_12_284 (lk_d S_1203 ml_12_284 (lk_d S_1201 ml_12_284 (lk_d S_929 ml_12_170 (lk_d S_470 ml_12_170 (lk_d S_1214 ml_12_262 (lk_d S_1212 ml_12_262 (lk_d S_1210 ml_12_262 (lk_d S_1208 ml_12_262 (lk_d S_1206 ml_12_262 (lk_d S_1204 ml_12_262 (lk_d S_1202 ml_12_262 (lk_d S_1195 ml_12_262 (lk_d S_951 ml_12_291 (lk_d S_1116 ml_12_149 (lk_d S_495 ml_12_149 lk_n)))))))))))))))))))))) odX12_decade
def sl_2056 : (Nat × Nat) × aI := (((nat_lit 199), (nat_lit 4)), [((.ofNat (nat_lit 6)), (.ofNat (nat_lit 6)), (nat_lit 1))])
def pon_2057 : aPo := (some (.inl [((.ofNat (nat_lit 0)), (.ofNat (nat_lit 5)), (nat_lit 1))]), [], [], [])
def ct_1217 : aCt := (mX12_ofBox, [ag_868, ag_170, ag_53], ([sl_1438, sl_2056, sl_1815], []), [pon_2057], [], [], (nat_lit 0))
set_option maxRecDepth 100000 in
theorem S_1217 : aSpec wd ct_1217 := bChk_ok wx_ok btX12_ofBox (nds := []) (fk := []) (rk := (1, [])) (sp := 0) (fuel := 3000) (by decide +kernel) lk_n odX12_ofBox
def ct_1218 : aCt := (mX12_songLong, [ag_868, ag_170], ([sl_2056], []), [pon_2046], [], [], (nat_lit 0))
set_option maxRecDepth 100000 in
theorem S_1218 : aSpec wd ct_1218 := bChk_ok wx_ok btX12_songLong (nds := []) (fk := []) (rk := (1, [])) (sp := 0) (fuel := 3000) (by decide +kernel) lk_n odX12_songLong
def ct_1219 : aCt := (mX12_songLong, [ag_868, ag_53], ([sl_2056], []), [pon_2046], [], [], (nat_lit 0))
set_option maxRecDepth 100000 in
theorem S_1219 : aSpec wd ct_1219 := bChk_ok wx_ok btX12_songLong (nds := []) (fk := []) (rk := (1, [])) (sp := 0) (fuel := 3000) (by decide +kernel) lk_n odX12_songLong
def ct_1220 : aCt := (mX12_songLong, [ag_868, ag_22], ([sl_2056], []), [pon_2046], [], [], (nat_lit 0))
set_option maxRecDepth 100000 in
theorem S_1220 : aSpec wd ct_1220 := bChk_ok wx_ok btX12_songLong (nds := []) (fk := []) (rk := (1, [])) (sp := 0) (fuel := 3000) (by decide +kernel) lk_n odX12_songLong
def ct_1221 : aCt := (mX12_songLong, [ag_868, ag_122], ([sl_2056], []), [pon_2046], [], [], (nat_lit 0))
set_option maxRecDepth 100000 in
theorem S_1221 : aSpec wd ct_1221 := bChk_ok wx_ok btX12_songLong (nds := []) (fk := []) (rk := (1, [])) (sp := 0) (fuel := 3000) (by decide +kernel) lk_n odX12_songLong
def ct_1222 : aCt := (mX12_songLong, [ag_868, ag_159], ([sl_2056], []), [pon_2046], [], [], (nat_lit 0))
set_option maxRecDepth 100000 in
theorem S_1222 : aSpec wd ct_1222 := bChk_ok wx_ok btX12_songLong (nds := []) (fk := []) (rk := (1, [])) (sp := 0) (fuel := 3000) (by decide +kernel) lk_n odX12_songLong
def ct_1223 : aCt := (mX12_songLong, [ag_868, ag_150], ([sl_2056], []), [pon_2046], [], [], (nat_lit 0))
set_option maxRecDepth 100000 in
theorem S_1223 : aSpec wd ct_1223 := bChk_ok wx_ok btX12_songLong (nds := []) (fk := []) (rk := (1, [])) (sp := 0) (fuel := 3000) (by decide +kernel) lk_n odX12_songLong
def ct_1224 : aCt := (mX12_boxLong, [ag_868, ag_170], ([sl_1438, sl_2056, sl_1815], []), [pon_2046], [], [], (nat_lit 1))
set_option maxRecDepth 100000 in
theorem S_1224 : aSpec wd ct_1224 := bChk_ok wx_ok btX12_boxLong (nds := []) (fk := [7]) (rk := (1, [])) (sp := 0) (fuel := 3000) (by decide +kernel) (lk_d S_1218 ml_12_265 (lk_d S_1219 ml_12_265 (lk_d S_1220 ml_12_265 (lk_d S_1221 ml_12_265 (lk_d S_1222 ml_12_265 (lk_d S_1223 ml_12_265 (lk_d S_1217 ml_12_262 lk_n))))))) odX12_boxLong
def ct_1225 : aCt := (mX12_ofBox, [ag_868, ag_53, ag_53], ([sl_1438, sl_2056, sl_1996], []), [pon_2057], [], [], (nat_lit 0))
set_option maxRecDepth 100000 in
theorem S_1225 : aSpec wd ct_1225 := bChk_ok wx_ok btX12_ofBox (nds := []) (fk := []) (rk := (1, [])) (sp := 0) (fuel := 3000) (by decide +kernel) lk_n odX12_ofBox
def ct_1226 : aCt := (mX12_boxLong, [ag_868, ag_53], ([sl_1438, sl_2056, sl_1996], []), [pon_2046], [], [], (nat_lit 1))
set_option maxRecDepth 100000 in
theorem S_1226 : aSpec wd ct_1226 := bChk_ok wx_ok btX12_boxLong (nds := []) (fk := [7]) (rk := (1, [])) (sp := 0) (fuel := 3000) (by decide +kernel) (lk_d S_1218 ml_12_265 (lk_d S_1219 ml_12_265 (lk_d S_1220 ml_12_265 (lk_d S_1221 ml_12_265 (lk_d S_1222 ml_12_265 (lk_d S_1223 ml_12_265 (lk_d S_1225 ml_12_262 lk_n))))))) odX12_boxLong
def ct_1227 : aCt := (mX12_ofBox, [ag_868, ag_22, ag_53], ([sl_1438, sl_2056, sl_1994], []), [pon_2057], [], [], (nat_lit 0))
set_option maxRecDepth 100000 in
theorem S_1227 : aSpec wd ct_1227 := bChk_ok wx_ok btX12_ofBox (nds := []) (fk := []) (rk := (1, [])) (sp := 0) (fuel := 3000) (by decide +kernel) lk_n odX12_ofBox
def ct_1228 : aCt := (mX12_boxLong, [ag_868, ag_22], ([sl_1438, sl_2056, sl_1994], []), [pon_2046], [], [], (nat_lit 1))
set_option maxRecDepth 100000 in
theorem S_1228 : aSpec wd ct_1228 := bChk_ok wx_ok btX12_boxLong (nds := []) (fk := [7]) (rk := (1, [])) (sp := 0) (fuel := 3000) (by decide +kernel) (lk_d S_1218 ml_12_265 (lk_d S_1219 ml_12_265 (lk_d S_1220 ml_12_265 (lk_d S_1221 ml_12_265 (lk_d S_1222 ml_12_265 (lk_d S_1223 ml_12_265 (lk_d S_1227 ml_12_262 lk_n))))))) odX12_boxLong
def ct_1229 : aCt := (mX12_ofBox, [ag_868, ag_122, ag_53], ([sl_1438, sl_2056, sl_1992], []), [pon_2057], [], [], (nat_lit 0))
set_option maxRecDepth 100000 in
theorem S_1229 : aSpec wd ct_1229 := bChk_ok wx_ok btX12_ofBox (nds := []) (fk := []) (rk := (1, [])) (sp := 0) (fuel := 3000) (by decide +kernel) lk_n odX12_ofBox
def ct_1230 : aCt := (mX12_boxLong, [ag_868, ag_122], ([sl_1438, sl_2056, sl_1992], []), [pon_2046], [], [], (nat_lit 1))
set_option maxRecDepth 100000 in
theorem S_1230 : aSpec wd ct_1230 := bChk_ok wx_ok btX12_boxLong (nds := []) (fk := [7]) (rk := (1, [])) (sp := 0) (fuel := 3000) (by decide +kernel) (lk_d S_1218 ml_12_265 (lk_d S_1219 ml_12_265 (lk_d S_1220 ml_12_265 (lk_d S_1221 ml_12_265 (lk_d S_1222 ml_12_265 (lk_d S_1223 ml_12_265 (lk_d S_1229 ml_12_262 lk_n))))))) odX12_boxLong
def ct_1231 : aCt := (mX12_ofBox, [ag_868, ag_159, ag_53], ([sl_1438, sl_2056, sl_1990], []), [pon_2057], [], [], (nat_lit 0))
set_option maxRecDepth 100000 in
theorem S_1231 : aSpec wd ct_1231 := bChk_ok wx_ok btX12_ofBox (nds := []) (fk := []) (rk := (1, [])) (sp := 0) (fuel := 3000) (by decide +kernel) lk_n odX12_ofBox
def ct_1232 : aCt := (mX12_boxLong, [ag_868, ag_159], ([sl_1438, sl_2056, sl_1990], []), [pon_2046], [], [], (nat_lit 1))
set_option maxRecDepth 100000 in
theorem S_1232 : aSpec wd ct_1232 := bChk_ok wx_ok btX12_boxLong (nds := []) (fk := [7]) (rk := (1, [])) (sp := 0) (fuel := 3000) (by decide +kernel) (lk_d S_1218 ml_12_265 (lk_d S_1219 ml_12_265 (lk_d S_1220 ml_12_265 (lk_d S_1221 ml_12_265 (lk_d S_1222 ml_12_265 (lk_d S_1223 ml_12_265 (lk_d S_1231 ml_12_262 lk_n))))))) odX12_boxLong
def ct_1233 : aCt := (mX12_ofBox, [ag_868, ag_150, ag_53], ([sl_1438, sl_2056, sl_1988], []), [pon_2057], [], [], (nat_lit 0))
set_option maxRecDepth 100000 in
theorem S_1233 : aSpec wd ct_1233 := bChk_ok wx_ok btX12_ofBox (nds := []) (fk := []) (rk := (1, [])) (sp := 0) (fuel := 3000) (by decide +kernel) lk_n odX12_ofBox
def ct_1234 : aCt := (mX12_boxLong, [ag_868, ag_150], ([sl_1438, sl_2056, sl_1988], []), [pon_2046], [], [], (nat_lit 1))
set_option maxRecDepth 100000 in
theorem S_1234 : aSpec wd ct_1234 := bChk_ok wx_ok btX12_boxLong (nds := []) (fk := [7]) (rk := (1, [])) (sp := 0) (fuel := 3000) (by decide +kernel) (lk_d S_1218 ml_12_265 (lk_d S_1219 ml_12_265 (lk_d S_1220 ml_12_265 (lk_d S_1221 ml_12_265 (lk_d S_1222 ml_12_265 (lk_d S_1223 ml_12_265 (lk_d S_1233 ml_12_262 lk_n))))))) odX12_boxLong
def ct_1235 : aCt := (mX12_ofBox, [ag_868, ag_153, ag_53], ([sl_1438, sl_2056, sl_1984], []), [pon_2057], [], [], (nat_lit 0))
set_option maxRecDepth 100000 in
theorem S_1235 : aSpec wd ct_1235 := bChk_ok wx_ok btX12_ofBox (nds := []) (fk := []) (rk := (1, [])) (sp := 0) (fuel := 3000) (by decide +kernel) lk_n odX12_ofBox
def ct_1236 : aCt := (mX12_boxLong, [ag_868, ag_153], ([sl_1438, sl_2056, sl_1984], []), [pon_2046], [], [], (nat_lit 1))
set_option maxRecDepth 100000 in
theorem S_1236 : aSpec wd ct_1236 := bChk_ok wx_ok btX12_boxLong (nds := []) (fk := [7]) (rk := (1, [])) (sp := 0) (fuel := 3000) (by decide +kernel) (lk_d S_1218 ml_12_265 (lk_d S_1219 ml_12_265 (lk_d S_1220 ml_12_265 (lk_d S_1221 ml_12_265 (lk_d S_1222 ml_12_265 (lk_d S_1223 ml_12_265 (lk_d S_1235 ml_12_262 lk_n))))))) odX12_boxLong
def ct_1237 : aCt := (mX12_ofBox, [ag_868, ag_133, ag_53], ([sl_1438, sl_2056, sl_1982], []), [pon_2057], [], [], (nat_lit 0))
set_option maxRecDepth 100000 in
theorem S_1237 : aSpec wd ct_1237 := bChk_ok wx_ok btX12_ofBox (nds := []) (fk := []) (rk := (1, [])) (sp := 0) (fuel := 3000) (by decide +kernel) lk_n odX12_ofBox
def ct_1238 : aCt := (mX12_boxLong, [ag_868, ag_133], ([sl_1438, sl_2056, sl_1982], []), [pon_2046], [], [], (nat_lit 1))
set_option maxRecDepth 100000 in
theorem S_1238 : aSpec wd ct_1238 := bChk_ok wx_ok btX12_boxLong (nds := []) (fk := [7]) (rk := (1, [])) (sp := 0) (fuel := 3000) (by decide +kernel) (lk_d S_1218 ml_12_265 (lk_d S_1219 ml_12_265 (lk_d S_1220 ml_12_265 (lk_d S_1221 ml_12_265 (lk_d S_1222 ml_12_265 (lk_d S_1223 ml_12_265 (lk_d S_1237 ml_12_262 lk_n))))))) odX12_boxLong
def ct_1239 : aCt := (mX12_decade, [ag_868, ag_1, ag_1], ([sl_2056], []), [pon_2047, pon_1844], mdn_876, [], (nat_lit 4))
set_option maxRecDepth 100000 in
theorem S_1239 : aSpec wd ct_1239 := bChk_ok wx_ok btX12_decade (nds := [((nat_lit 52), [lcn_905, lcn_702, lcn_703, lcn_2048, lcn_354, lcn_1906], [], [sl_874, sl_1435, sl_1438, sl_2056], [], (759, [(4, -10)])), ((nat_lit 61), [lcn_905, lcn_702, lcn_2049, lcn_2048, lcn_354, lcn_1904, lcn_599], [], [sl_874, sl_1435, sl_1438, sl_2056], [], (758, [(4, -10)])), ((nat_lit 61), [lcn_905, lcn_702, lcn_2049, lcn_2048, lcn_354, lcn_1904, lcn_1952, lcn_2050, lcn_2051], [], [sl_874, sl_1435, sl_1438, sl_2056, sl_1815], [], (757, [(4, -10)])), ((nat_lit 61), [lcn_905, lcn_702, lcn_2049, lcn_2048, lcn_354, lcn_1904, lcn_1953, lcn_2050, lcn_2051], [], [sl_874, sl_1435, sl_1438, sl_2056, sl_1996], [], (756, [(4, -10)])), ((nat_lit 61), [lcn_905, lcn_702, lcn_2049, lcn_2048, lcn_354, lcn_1904, lcn_1954, lcn_2050, lcn_2051], [], [sl_874, sl_1435, sl_1438, sl_2056, sl_1994], [], (755, [(4, -10)])), ((nat_lit 61), [lcn_905, lcn_702, lcn_2049, lcn_2048, lcn_354, lcn_1904, lcn_1955, lcn_2050, lcn_2051], [], [sl_874, sl_1435, sl_1438, sl_2056, sl_1992], [], (754, [(4, -10)])), ((nat_lit 61), [lcn_905, lcn_702, lcn_2049, lcn_2048, lcn_354, lcn_1904, lcn_1956, lcn_2050, lcn_2051], [], [sl_874, sl_1435, sl_1438, sl_2056, sl_1990], [], (753, [(4, -10)])), ((nat_lit 61), [lcn_905, lcn_702, lcn_2049, lcn_2048, lcn_354, lcn_1904, lcn_1957, lcn_2050, lcn_2051], [], [sl_874, sl_1435, sl_1438, sl_2056, sl_1988], [], (752, [(4, -10)])), ((nat_lit 61), [lcn_905, lcn_702, lcn_2049, lcn_2048, lcn_354, lcn_1904, lcn_1958, lcn_2050, lcn_2051], [], [sl_874, sl_1435, sl_1438, sl_2056, sl_1984], [], (751, [(4, -10)])), ((nat_lit 61), [lcn_905, lcn_702, lcn_2049, lcn_2048, lcn_354, lcn_1904, lcn_1959, lcn_2050, lcn_2051], [], [sl_874, sl_1435, sl_1438, sl_2056, sl_1982], [], (750, [(4, -10)]))]) (fk := []) (rk := (760, [])) (sp := 2310346608841064448) (fuel := 3000) (by decide +kernel) (lk_d S_468 ml_12_167 (lk_d S_1238 ml_12_284 (lk_d S_1236 ml_12_284 (lk_d S_1234 ml_12_284 (lk_d S_1232 ml_12_284 (lk_d S_1230 ml_12_284 (lk_d S_1228 ml_12_284 (lk_d S_1226 ml_12_284 (lk_d S_1224 ml_12_284 (lk_d S_929 ml_12_170 (lk_d S_470 ml_12_170 (lk_d S_1237 ml_12_262 (lk_d S_1235 ml_12_262 (lk_d S_1233 ml_12_262 (lk_d S_1231 ml_12_262 (lk_d S_1229 ml_12_262 (lk_d S_1227 ml_12_262 (lk_d S_1225 ml_12_262 (lk_d S_1217 ml_12_262 (lk_d S_951 ml_12_291 (lk_d S_1116 ml_12_149 (lk_d S_495 ml_12_149 lk_n)))))))))))))))))))))) odX12_decade
def ct_1240 : aCt := (mX12_ofBox, [ag_868, ag_170, ag_53], ([sl_1438, sl_2020, sl_1815], []), [pon_267], [], [], (nat_lit 0))
set_option maxRecDepth 100000 in
theorem S_1240 : aSpec wd ct_1240 := bChk_ok wx_ok btX12_ofBox (nds := []) (fk := []) (rk := (1, [])) (sp := 0) (fuel := 3000) (by decide +kernel) lk_n odX12_ofBox
def ct_1241 : aCt := (mX12_songLong, [ag_868, ag_170], ([sl_2020], []), [pon_2046], [], [], (nat_lit 0))
set_option maxRecDepth 100000 in
theorem S_1241 : aSpec wd ct_1241 := bChk_ok wx_ok btX12_songLong (nds := []) (fk := []) (rk := (1, [])) (sp := 0) (fuel := 3000) (by decide +kernel) lk_n odX12_songLong
def ct_1242 : aCt := (mX12_songLong, [ag_868, ag_53], ([sl_2020], []), [pon_2046], [], [], (nat_lit 0))
set_option maxRecDepth 100000 in
theorem S_1242 : aSpec wd ct_1242 := bChk_ok wx_ok btX12_songLong (nds := []) (fk := []) (rk := (1, [])) (sp := 0) (fuel := 3000) (by decide +kernel) lk_n odX12_songLong
def ct_1243 : aCt := (mX12_songLong, [ag_868, ag_22], ([sl_2020], []), [pon_2046], [], [], (nat_lit 0))
set_option maxRecDepth 100000 in
theorem S_1243 : aSpec wd ct_1243 := bChk_ok wx_ok btX12_songLong (nds := []) (fk := []) (rk := (1, [])) (sp := 0) (fuel := 3000) (by decide +kernel) lk_n odX12_songLong
def ct_1244 : aCt := (mX12_songLong, [ag_868, ag_122], ([sl_2020], []), [pon_2046], [], [], (nat_lit 0))
set_option maxRecDepth 100000 in
theorem S_1244 : aSpec wd ct_1244 := bChk_ok wx_ok btX12_songLong (nds := []) (fk := []) (rk := (1, [])) (sp := 0) (fuel := 3000) (by decide +kernel) lk_n odX12_songLong
def ct_1245 : aCt := (mX12_songLong, [ag_868, ag_159], ([sl_2020], []), [pon_2046], [], [], (nat_lit 0))
set_option maxRecDepth 100000 in
theorem S_1245 : aSpec wd ct_1245 := bChk_ok wx_ok btX12_songLong (nds := []) (fk := []) (rk := (1, [])) (sp := 0) (fuel := 3000) (by decide +kernel) lk_n odX12_songLong
def ct_1246 : aCt := (mX12_songLong, [ag_868, ag_150], ([sl_2020], []), [pon_2046], [], [], (nat_lit 0))
set_option maxRecDepth 100000 in
theorem S_1246 : aSpec wd ct_1246 := bChk_ok wx_ok btX12_songLong (nds := []) (fk := []) (rk := (1, [])) (sp := 0) (fuel := 3000) (by decide +kernel) lk_n odX12_songLong
def ct_1247 : aCt := (mX12_songLong, [ag_868, ag_153], ([sl_2020], []), [pon_2046], [], [], (nat_lit 0))
set_option maxRecDepth 100000 in
theorem S_1247 : aSpec wd ct_1247 := bChk_ok wx_ok btX12_songLong (nds := []) (fk := []) (rk := (1, [])) (sp := 0) (fuel := 3000) (by decide +kernel) lk_n odX12_songLong
def ct_1248 : aCt := (mX12_boxLong, [ag_868, ag_170], ([sl_1438, sl_2020, sl_1815], []), [pon_2046], [], [], (nat_lit 1))
set_option maxRecDepth 100000 in
theorem S_1248 : aSpec wd ct_1248 := bChk_ok wx_ok btX12_boxLong (nds := []) (fk := [7]) (rk := (1, [])) (sp := 0) (fuel := 3000) (by decide +kernel) (lk_d S_1241 ml_12_265 (lk_d S_1242 ml_12_265 (lk_d S_1243 ml_12_265 (lk_d S_1244 ml_12_265 (lk_d S_1245 ml_12_265 (lk_d S_1246 ml_12_265 (lk_d S_1247 ml_12_265 (lk_d S_1240 ml_12_262 lk_n)))))))) odX12_boxLong
def ct_1249 : aCt := (mX12_ofBox, [ag_868, ag_53, ag_53], ([sl_1438, sl_2020, sl_1996], []), [pon_267], [], [], (nat_lit 0))
set_option maxRecDepth 100000 in
theorem S_1249 : aSpec wd ct_1249 := bChk_ok wx_ok btX12_ofBox (nds := []) (fk := []) (rk := (1, [])) (sp := 0) (fuel := 3000) (by decide +kernel) lk_n odX12_ofBox
def ct_1250 : aCt := (mX12_boxLong, [ag_868, ag_53], ([sl_1438, sl_2020, sl_1996], []), [pon_2046], [], [], (nat_lit 1))
set_option maxRecDepth 100000 in
theorem S_1250 : aSpec wd ct_1250 := bChk_ok wx_ok btX12_boxLong (nds := []) (fk := [7]) (rk := (1, [])) (sp := 0) (fuel := 3000) (by decide +kernel) (lk_d S_1241 ml_12_265 (lk_d S_1242 ml_12_265 (lk_d S_1243 ml_12_265 (lk_d S_1244 ml_12_265 (lk_d S_1245 ml_12_265 (lk_d S_1246 ml_12_265 (lk_d S_1247 ml_12_265 (lk_d S_1249 ml_12_262 lk_n)))))))) odX12_boxLong
def ct_1251 : aCt := (mX12_ofBox, [ag_868, ag_22, ag_53], ([sl_1438, sl_2020, sl_1994], []), [pon_267], [], [], (nat_lit 0))
set_option maxRecDepth 100000 in
theorem S_1251 : aSpec wd ct_1251 := bChk_ok wx_ok btX12_ofBox (nds := []) (fk := []) (rk := (1, [])) (sp := 0) (fuel := 3000) (by decide +kernel) lk_n odX12_ofBox
def ct_1252 : aCt := (mX12_boxLong, [ag_868, ag_22], ([sl_1438, sl_2020, sl_1994], []), [pon_2046], [], [], (nat_lit 1))
set_option maxRecDepth 100000 in
theorem S_1252 : aSpec wd ct_1252 := bChk_ok wx_ok btX12_boxLong (nds := []) (fk := [7]) (rk := (1, [])) (sp := 0) (fuel := 3000) (by decide +kernel) (lk_d S_1241 ml_12_265 (lk_d S_1242 ml_12_265 (lk_d S_1243 ml_12_265 (lk_d S_1244 ml_12_265 (lk_d S_1245 ml_12_265 (lk_d S_1246 ml_12_265 (lk_d S_1247 ml_12_265 (lk_d S_1251 ml_12_262 lk_n)))))))) odX12_boxLong
def ct_1253 : aCt := (mX12_ofBox, [ag_868, ag_122, ag_53], ([sl_1438, sl_2020, sl_1992], []), [pon_267], [], [], (nat_lit 0))
set_option maxRecDepth 100000 in
theorem S_1253 : aSpec wd ct_1253 := bChk_ok wx_ok btX12_ofBox (nds := []) (fk := []) (rk := (1, [])) (sp := 0) (fuel := 3000) (by decide +kernel) lk_n odX12_ofBox
def ct_1254 : aCt := (mX12_boxLong, [ag_868, ag_122], ([sl_1438, sl_2020, sl_1992], []), [pon_2046], [], [], (nat_lit 1))
set_option maxRecDepth 100000 in
theorem S_1254 : aSpec wd ct_1254 := bChk_ok wx_ok btX12_boxLong (nds := []) (fk := [7]) (rk := (1, [])) (sp := 0) (fuel := 3000) (by decide +kernel) (lk_d S_1241 ml_12_265 (lk_d S_1242 ml_12_265 (lk_d S_1243 ml_12_265 (lk_d S_1244 ml_12_265 (lk_d S_1245 ml_12_265 (lk_d S_1246 ml_12_265 (lk_d S_1247 ml_12_265 (lk_d S_1253 ml_12_262 lk_n)))))))) odX12_boxLong
def ct_1255 : aCt := (mX12_ofBox, [ag_868, ag_159, ag_53], ([sl_1438, sl_2020, sl_1990], []), [pon_267], [], [], (nat_lit 0))
set_option maxRecDepth 100000 in
theorem S_1255 : aSpec wd ct_1255 := bChk_ok wx_ok btX12_ofBox (nds := []) (fk := []) (rk := (1, [])) (sp := 0) (fuel := 3000) (by decide +kernel) lk_n odX12_ofBox
def ct_1256 : aCt := (mX12_boxLong, [ag_868, ag_159], ([sl_1438, sl_2020, sl_1990], []), [pon_2046], [], [], (nat_lit 1))
set_option maxRecDepth 100000 in
theorem S_1256 : aSpec wd ct_1256 := bChk_ok wx_ok btX12_boxLong (nds := []) (fk := [7]) (rk := (1, [])) (sp := 0) (fuel := 3000) (by decide +kernel) (lk_d S_1241 ml_12_265 (lk_d S_1242 ml_12_265 (lk_d S_1243 ml_12_265 (lk_d S_1244 ml_12_265 (lk_d S_1245 ml_12_265 (lk_d S_1246 ml_12_265 (lk_d S_1247 ml_12_265 (lk_d S_1255 ml_12_262 lk_n)))))))) odX12_boxLong
def ct_1257 : aCt := (mX12_ofBox, [ag_868, ag_150, ag_53], ([sl_1438, sl_2020, sl_1988], []), [pon_267], [], [], (nat_lit 0))
set_option maxRecDepth 100000 in
theorem S_1257 : aSpec wd ct_1257 := bChk_ok wx_ok btX12_ofBox (nds := []) (fk := []) (rk := (1, [])) (sp := 0) (fuel := 3000) (by decide +kernel) lk_n odX12_ofBox
def ct_1258 : aCt := (mX12_boxLong, [ag_868, ag_150], ([sl_1438, sl_2020, sl_1988], []), [pon_2046], [], [], (nat_lit 1))
set_option maxRecDepth 100000 in
theorem S_1258 : aSpec wd ct_1258 := bChk_ok wx_ok btX12_boxLong (nds := []) (fk := [7]) (rk := (1, [])) (sp := 0) (fuel := 3000) (by decide +kernel) (lk_d S_1241 ml_12_265 (lk_d S_1242 ml_12_265 (lk_d S_1243 ml_12_265 (lk_d S_1244 ml_12_265 (lk_d S_1245 ml_12_265 (lk_d S_1246 ml_12_265 (lk_d S_1247 ml_12_265 (lk_d S_1257 ml_12_262 lk_n)))))))) odX12_boxLong
def ct_1259 : aCt := (mX12_ofBox, [ag_868, ag_153, ag_53], ([sl_1438, sl_2020, sl_1984], []), [pon_267], [], [], (nat_lit 0))
set_option maxRecDepth 100000 in
theorem S_1259 : aSpec wd ct_1259 := bChk_ok wx_ok btX12_ofBox (nds := []) (fk := []) (rk := (1, [])) (sp := 0) (fuel := 3000) (by decide +kernel) lk_n odX12_ofBox
def ct_1260 : aCt := (mX12_boxLong, [ag_868, ag_153], ([sl_1438, sl_2020, sl_1984], []), [pon_2046], [], [], (nat_lit 1))
set_option maxRecDepth 100000 in
theorem S_1260 : aSpec wd ct_1260 := bChk_ok wx_ok btX12_boxLong (nds := []) (fk := [7]) (rk := (1, [])) (sp := 0) (fuel := 3000) (by decide +kernel) (lk_d S_1241 ml_12_265 (lk_d S_1242 ml_12_265 (lk_d S_1243 ml_12_265 (lk_d S_1244 ml_12_265 (lk_d S_1245 ml_12_265 (lk_d S_1246 ml_12_265 (lk_d S_1247 ml_12_265 (lk_d S_1259 ml_12_262 lk_n)))))))) odX12_boxLong
def ct_1261 : aCt := (mX12_ofBox, [ag_868, ag_133, ag_53], ([sl_1438, sl_2020, sl_1982], []), [pon_267], [], [], (nat_lit 0))
set_option maxRecDepth 100000 in
theorem S_1261 : aSpec wd ct_1261 := bChk_ok wx_ok btX12_ofBox (nds := []) (fk := []) (rk := (1, [])) (sp := 0) (fuel := 3000) (by decide +kernel) lk_n odX12_ofBox
def ct_1262 : aCt := (mX12_boxLong, [ag_868, ag_133], ([sl_1438, sl_2020, sl_1982], []), [pon_2046], [], [], (nat_lit 1))
set_option maxRecDepth 100000 in
theorem S_1262 : aSpec wd ct_1262 := bChk_ok wx_ok btX12_boxLong (nds := []) (fk := [7]) (rk := (1, [])) (sp := 0) (fuel := 3000) (by decide +kernel) (lk_d S_1241 ml_12_265 (lk_d S_1242 ml_12_265 (lk_d S_1243 ml_12_265 (lk_d S_1244 ml_12_265 (lk_d S_1245 ml_12_265 (lk_d S_1246 ml_12_265 (lk_d S_1247 ml_12_265 (lk_d S_1261 ml_12_262 lk_n)))))))) odX12_boxLong
def ct_1263 : aCt := (mX12_decade, [ag_868, ag_1, ag_1], ([sl_2020], []), [pon_2047, pon_1844], mdn_876, [], (nat_lit 4))
set_option maxRecDepth 100000 in
theorem S_1263 : aSpec wd ct_1263 := bChk_ok wx_ok btX12_decade (nds := [((nat_lit 52), [lcn_905, lcn_702, lcn_703, lcn_2048, lcn_354, lcn_1906], [], [sl_874, sl_1435, sl_1438, sl_2020], [], (759, [(4, -10)])), ((nat_lit 61), [lcn_905, lcn_702, lcn_2049, lcn_2048, lcn_354, lcn_1904, lcn_599], [], [sl_874, sl_1435, sl_1438, sl_2020], [], (758, [(4, -10)])), ((nat_lit 61), [lcn_905, lcn_702, lcn_2049, lcn_2048, lcn_354, lcn_1904, lcn_1952, lcn_2050, lcn_2051], [], [sl_874, sl_1435, sl_1438, sl_2020, sl_1815], [], (757, [(4, -10)])), ((nat_lit 61), [lcn_905, lcn_702, lcn_2049, lcn_2048, lcn_354, lcn_1904, lcn_1953, lcn_2050, lcn_2051], [], [sl_874, sl_1435, sl_1438, sl_2020, sl_1996], [], (756, [(4, -10)])), ((nat_lit 61), [lcn_905, lcn_702, lcn_2049, lcn_2048, lcn_354, lcn_1904, lcn_1954, lcn_2050, lcn_2051], [], [sl_874, sl_1435, sl_1438, sl_2020, sl_1994], [], (755, [(4, -10)])), ((nat_lit 61), [lcn_905, lcn_702, lcn_2049, lcn_2048, lcn_354, lcn_1904, lcn_1955, lcn_2050, lcn_2051], [], [sl_874, sl_1435, sl_1438, sl_2020, sl_1992], [], (754, [(4, -10)])), ((nat_lit 61), [lcn_905, lcn_702, lcn_2049, lcn_2048, lcn_354, lcn_1904, lcn_1956, lcn_2050, lcn_2051], [], [sl_874, sl_1435, sl_1438, sl_2020, sl_1990], [], (753, [(4, -10)])), ((nat_lit 61), [lcn_905, lcn_702, lcn_2049, lcn_2048, lcn_354, lcn_1904, lcn_1957, lcn_2050, lcn_2051], [], [sl_874, sl_1435, sl_1438, sl_2020, sl_1988], [], (752, [(4, -10)])), ((nat_lit 61), [lcn_905, lcn_702, lcn_2049, lcn_2048, lcn_354, lcn_1904, lcn_1958, lcn_2050, lcn_2051], [], [sl_874, sl_1435, sl_1438, sl_2020, sl_1984], [], (751, [(4, -10)])), ((nat_lit 61), [lcn_905, lcn_702, lcn_2049, lcn_2048, lcn_354, lcn_1904, lcn_1959, lcn_2050, lcn_2051], [], [sl_874, sl_1435, sl_1438, sl_2020, sl_1982], [], (750, [(4, -10)]))]) (fk := []) (rk := (760, [])) (sp := 2310346608841064448) (fuel := 3000) (by decide +kernel) (lk_d S_468 ml_12_167 (lk_d S_1262 ml_12_284 (lk_d S_1260 ml_12_284 (lk_d S_1258 ml_12_284 (lk_d S_1256 ml_12_284 (lk_d S_1254 ml_12_284 (lk_d S_1252 ml_12_284 (lk_d S_1250 ml_12_284 (lk_d S_1248 ml_12_284 (lk_d S_929 ml_12_170 (lk_d S_470 ml_12_170 (lk_d S_1261 ml_12_262 (lk_d S_1259 ml_12_262 (lk_d S_1257 ml_12_262 (lk_d S_1255 ml_12_262 (lk_d S_1253 ml_12_262 (lk_d S_1251 ml_12_262 (lk_d S_1249 ml_12_262 (lk_d S_1240 ml_12_262 (lk_d S_951 ml_12_291 (lk_d S_1116 ml_12_149 (lk_d S_495 ml_12_149 lk_n)))))))))))))))))))))) odX12_decade
def ct_1264 : aCt := (mX12_in, [ag_1, ag_170, ag_523], ([], []), [pon_1870, pon_937], mdn_879, [], (nat_lit 0))
set_option maxRecDepth 100000 in
theorem S_1264 : aSpec wd ct_1264 := bChk_ok wx_ok btX12_in (nds := []) (fk := []) (rk := (1, [])) (sp := 0) (fuel := 3000) (by decide +kernel) lk_n odX12_in
def sl_2058 : (Nat × Nat) × aI := (((nat_lit 196), (nat_lit 11)), [((.ofNat (nat_lit 5)), (.ofNat (nat_lit 5)), (nat_lit 1))])
def pon_2059 : aPo := (some (.inl [((.ofNat (nat_lit 0)), (.ofNat (nat_lit 0)), (nat_lit 1))]), [], [sl_2058], [])
set_option maxRecDepth 100000 in
theorem btX12_isNot : bTab oX12_isNot tX12_isNot := ⟨ofX12_isNot, by decide +kernel⟩
def ct_1265 : aCt := (mX12_isNot, [ag_868, ag_150], ([sl_874], []), [pon_2059], mdn_882, [], (nat_lit 0))
set_option maxRecDepth 100000 in
theorem S_1265 : aSpec wd ct_1265 := bChk_ok wx_ok btX12_isNot (nds := []) (fk := []) (rk := (1, [])) (sp := 0) (fuel := 3000) (by decide +kernel) lk_n odX12_isNot
def pon_2060 : aPo := (some (.inl [((.ofNat (nat_lit 0)), (.ofNat (nat_lit 0)), (nat_lit 1))]), [], [sl_880], [])
def ct_1266 : aCt := (mX12_isNot, [ag_868, ag_22], ([sl_874], []), [pon_2060], mdn_882, [], (nat_lit 0))
set_option maxRecDepth 100000 in
theorem S_1266 : aSpec wd ct_1266 := bChk_ok wx_ok btX12_isNot (nds := []) (fk := []) (rk := (1, [])) (sp := 0) (fuel := 3000) (by decide +kernel) lk_n odX12_isNot
def pon_2061 : aPo := (some (.inl [((.ofNat (nat_lit 0)), (.ofNat (nat_lit 0)), (nat_lit 1))]), [], [sl_1810], [])
def ct_1267 : aCt := (mX12_isNot, [ag_868, ag_53], ([sl_874], []), [pon_2061], mdn_882, [], (nat_lit 0))
set_option maxRecDepth 100000 in
theorem S_1267 : aSpec wd ct_1267 := bChk_ok wx_ok btX12_isNot (nds := []) (fk := []) (rk := (1, [])) (sp := 0) (fuel := 3000) (by decide +kernel) lk_n odX12_isNot
def sl_2062 : (Nat × Nat) × aI := (((nat_lit 196), (nat_lit 11)), [((.ofNat (nat_lit 1)), (.ofNat (nat_lit 2)), (nat_lit 1)), ((.ofNat (nat_lit 5)), (.ofNat (nat_lit 5)), (nat_lit 1))])
def pon_2063 : aPo := (some (.inl [((.ofNat (nat_lit 0)), (.ofNat (nat_lit 0)), (nat_lit 1))]), [], [sl_2062], [])
def sl_2064 : (Nat × Nat) × aI := (((nat_lit 196), (nat_lit 20)), [((.ofNat (nat_lit 1)), (.ofNat (nat_lit 12)), (nat_lit 1))])
def pon_2065 : aPo := (some (.inl [((.ofNat (nat_lit 1)), (.ofNat (nat_lit 1)), (nat_lit 1))]), [none, some [((.ofNat (nat_lit 0)), (.ofNat (nat_lit 7)), (nat_lit 1))], some [((.ofNat (nat_lit 0)), (.ofNat (nat_lit 5)), (nat_lit 1))], some [((.ofNat (nat_lit 0)), (.ofNat (nat_lit 3)), (nat_lit 1))]], [sl_874, sl_1435, sl_2064, sl_1438, sl_1439, sl_1815], [])
def mdn_2066 : List (Nat × Nat × Nat) := [((nat_lit 196), (nat_lit 0), (nat_lit 1)), ((nat_lit 196), (nat_lit 11), (nat_lit 12)), ((nat_lit 196), (nat_lit 20), (nat_lit 21)), ((nat_lit 201), (nat_lit 28), (nat_lit 76)), ((nat_lit 202), (nat_lit 0), (nat_lit 912))]
set_option maxRecDepth 100000 in
theorem btX12_tune : bTab oX12_tune tX12_tune := ⟨ofX12_tune, by decide +kernel⟩
def ct_1268 : aCt := (mX12_tune, [ag_868, ag_1, ag_1, ag_1], ([], []), [pon_2063, pon_2065], mdn_2066, [], (nat_lit 3))
set_option maxRecDepth 100000 in
theorem S_1268 : aSpec wd ct_1268 := bChk_ok wx_ok btX12_tune (nds := []) (fk := []) (rk := (1, [])) (sp := 0) (fuel := 3000) (by decide +kernel) (lk_d S_468 ml_12_167 (lk_d S_X12_note1_0 ml_12_424 (lk_d S_1265 ml_12_427 (lk_d S_1266 ml_12_427 (lk_d S_1267 ml_12_427 (lk_d S_944 ml_12_284 (lk_d S_932 ml_12_274 (lk_d S_1264 ml_12_149 (lk_d S_940 ml_12_149 lk_n))))))))) odX12_tune
def sl_2067 : (Nat × Nat) × aI := (((nat_lit 196), (nat_lit 11)), [((.ofNat (nat_lit 3)), (.ofNat (nat_lit 3)), (nat_lit 1))])
def pon_2068 : aPo := (some (.inl [((.negSucc (nat_lit 0)), (.negSucc (nat_lit 0)), (nat_lit 1))]), [], [sl_2067], [])
def ct_1269 : aCt := (mX12_no, [ag_868, ag_122], ([sl_874], []), [pon_2068], mdn_882, [], (nat_lit 0))
set_option maxRecDepth 100000 in
theorem S_1269 : aSpec wd ct_1269 := bChk_ok wx_ok btX12_no (nds := []) (fk := []) (rk := (1, [])) (sp := 0) (fuel := 3000) (by decide +kernel) lk_n odX12_no
def pon_2069 : aPo := (some (.inl [((.ofNat (nat_lit 1)), (.ofNat (nat_lit 9999)), (nat_lit 1))]), [none, some [((.ofNat (nat_lit 1)), (.ofNat (nat_lit 99)), (nat_lit 1))]], [sl_874, sl_1435, sl_2064, sl_1438, sl_1439], [])
def sl_2070 : (Nat × Nat) × aI := (((nat_lit 196), (nat_lit 11)), [((.ofNat (nat_lit 1)), (.ofNat (nat_lit 3)), (nat_lit 1))])
def pon_2071 : aPo := (some (.inl [((.negSucc (nat_lit 0)), (.negSucc (nat_lit 0)), (nat_lit 1))]), [], [sl_2070], [])
def mdn_2072 : List (Nat × Nat × Nat) := [((nat_lit 196), (nat_lit 0), (nat_lit 1)), ((nat_lit 196), (nat_lit 11), (nat_lit 12)), ((nat_lit 196), (nat_lit 20), (nat_lit 21)), ((nat_lit 201), (nat_lit 0), (nat_lit 1)), ((nat_lit 202), (nat_lit 0), (nat_lit 912))]
set_option maxRecDepth 100000 in
theorem btX12_years : bTab oX12_years tX12_years := ⟨ofX12_years, by decide +kernel⟩
def ct_1270 : aCt := (mX12_years, [ag_868, ag_1], ([], []), [pon_2069, pon_2071], mdn_2072, [], (nat_lit 3))
set_option maxRecDepth 100000 in
theorem S_1270 : aSpec wd ct_1270 := bChk_ok wx_ok btX12_years (nds := []) (fk := [40]) (rk := (1, [])) (sp := 0) (fuel := 3000) (by decide +kernel) (lk_d S_468 ml_12_167 (lk_d S_X12_note1_0 ml_12_424 (lk_d S_929 ml_12_170 (lk_d S_1269 ml_12_170 (lk_d S_470 ml_12_170 (lk_d S_610 ml_12_149 lk_n)))))) odX12_years
end Pk1
section Pk2
def ag_2073 : aAg := .inl [((.negSucc (nat_lit 0)), (.ofNat (nat_lit 11)), (nat_lit 1))]
def pon_2074 : aPo := (some (.inl [((.ofNat (nat_lit 1)), (.ofNat (nat_lit 1)), (nat_lit 1))]), [some [((.ofNat (nat_lit 0)), (.ofNat (nat_lit 11)), (nat_lit 1))], none, some [((.ofNat (nat_lit 0)), (.ofNat (nat_lit 11)), (nat_lit 1))]], [], [])
def ct_1271 : aCt := (mX12_in, [ag_1, ag_170, ag_2073], ([], []), [pon_1205, pon_2074], mdn_879, [], (nat_lit 0))
set_option maxRecDepth 100000 in
theorem S_1271 : aSpec wd ct_1271 := bChk_ok wx_ok btX12_in (nds := []) (fk := []) (rk := (1, [])) (sp := 0) (fuel := 3000) (by decide +kernel) lk_n odX12_in
def sl_2075 : (Nat × Nat) × aI := (((nat_lit 196), (nat_lit 11)), [((.ofNat (nat_lit 1)), (.ofNat (nat_lit 1)), (nat_lit 1)), ((.ofNat (nat_lit 5)), (.ofNat (nat_lit 5)), (nat_lit 1))])
def pon_2076 : aPo := (some (.inl [((.ofNat (nat_lit 0)), (.ofNat (nat_lit 0)), (nat_lit 1))]), [], [sl_2075], [])
def pon_2077 : aPo := (some (.inl [((.ofNat (nat_lit 1)), (.ofNat (nat_lit 1)), (nat_lit 1))]), [none, some [((.ofNat (nat_lit 0)), (.ofNat (nat_lit 11)), (nat_lit 1))], some [((.ofNat (nat_lit 0)), (.ofNat (nat_lit 1)), (nat_lit 1))]], [sl_874, sl_1435, sl_2064, sl_1438, sl_1439, sl_1836], [])
def mdn_2078 : List (Nat × Nat × Nat) := [((nat_lit 196), (nat_lit 0), (nat_lit 1)), ((nat_lit 196), (nat_lit 11), (nat_lit 12)), ((nat_lit 196), (nat_lit 20), (nat_lit 21)), ((nat_lit 201), (nat_lit 1), (nat_lit 2)), ((nat_lit 202), (nat_lit 0), (nat_lit 912))]
set_option maxRecDepth 100000 in
theorem btX12_close : bTab oX12_close tX12_close := ⟨ofX12_close, by decide +kernel⟩
def ct_1272 : aCt := (mX12_close, [ag_868, ag_1, ag_536], ([], []), [pon_2076, pon_2077], mdn_2078, [], (nat_lit 3))
set_option maxRecDepth 100000 in
theorem S_1272 : aSpec wd ct_1272 := bChk_ok wx_ok btX12_close (nds := []) (fk := []) (rk := (1, [])) (sp := 0) (fuel := 3000) (by decide +kernel) (lk_d S_468 ml_12_167 (lk_d S_X12_note1_0 ml_12_424 (lk_d S_1265 ml_12_427 (lk_d S_1267 ml_12_427 (lk_d S_957 ml_12_302 (lk_d S_1271 ml_12_149 lk_n)))))) odX12_close
def pon_2079 : aPo := (some (.inl [((.ofNat (nat_lit 0)), (.ofNat (nat_lit 0)), (nat_lit 1))]), [], [sl_1978], [])
def ct_1273 : aCt := (mX12_isNot, [ag_868, ag_153], ([sl_874], []), [pon_2079], mdn_882, [], (nat_lit 0))
set_option maxRecDepth 100000 in
theorem S_1273 : aSpec wd ct_1273 := bChk_ok wx_ok btX12_isNot (nds := []) (fk := []) (rk := (1, [])) (sp := 0) (fuel := 3000) (by decide +kernel) lk_n odX12_isNot
def pon_2080 : aPo := (some (.inl [((.ofNat (nat_lit 0)), (.ofNat (nat_lit 0)), (nat_lit 1))]), [], [sl_1978, sl_1436], [])
def sl_2081 : (Nat × Nat) × aI := (((nat_lit 196), (nat_lit 20)), [((.ofNat (nat_lit 0)), (.ofNat (nat_lit 11)), (nat_lit 1))])
def pon_2082 : aPo := (some (.inl [((.ofNat (nat_lit 1)), (.ofNat (nat_lit 1)), (nat_lit 1))]), [], [sl_874, sl_2081], [])
def mdn_2083 : List (Nat × Nat × Nat) := [((nat_lit 196), (nat_lit 0), (nat_lit 1)), ((nat_lit 196), (nat_lit 11), (nat_lit 12)), ((nat_lit 196), (nat_lit 20), (nat_lit 21)), ((nat_lit 201), (nat_lit 0), (nat_lit 76))]
set_option maxRecDepth 100000 in
theorem btX12_undo : bTab oX12_undo tX12_undo := ⟨ofX12_undo, by decide +kernel⟩
def ct_1274 : aCt := (mX12_undo, [ag_868], ([], []), [pon_2080, pon_2082], mdn_2083, [], (nat_lit 2))
set_option maxRecDepth 100000 in
theorem S_1274 : aSpec wd ct_1274 := bChk_ok wx_ok btX12_undo (nds := []) (fk := []) (rk := (1, [])) (sp := 0) (fuel := 3000) (by decide +kernel) (lk_d S_468 ml_12_167 (lk_d S_1273 ml_12_427 (lk_d S_X12_copy_32 ml_12_176 lk_n))) odX12_undo
def sl_2084 : (Nat × Nat) × aI := (((nat_lit 196), (nat_lit 21)), [((.ofNat (nat_lit 1)), (.ofNat (nat_lit 3)), (nat_lit 1))])
def pon_2085 : aPo := (some (.inl [((.ofNat (nat_lit 0)), (.ofNat (nat_lit 2)), (nat_lit 1))]), [], [sl_874, sl_1435, sl_2084, sl_1438, sl_1439], [])
def sl_2086 : (Nat × Nat) × aI := (((nat_lit 196), (nat_lit 11)), [((.ofNat (nat_lit 1)), (.ofNat (nat_lit 1)), (nat_lit 1)), ((.ofNat (nat_lit 3)), (.ofNat (nat_lit 3)), (nat_lit 1))])
def pon_2087 : aPo := (some (.inl [((.negSucc (nat_lit 0)), (.negSucc (nat_lit 0)), (nat_lit 1))]), [], [sl_2086], [])
def mdn_2088 : List (Nat × Nat × Nat) := [((nat_lit 196), (nat_lit 0), (nat_lit 1)), ((nat_lit 196), (nat_lit 11), (nat_lit 12)), ((nat_lit 196), (nat_lit 21), (nat_lit 22)), ((nat_lit 203), (nat_lit 0), (nat_lit 228))]
set_option maxRecDepth 100000 in
theorem btX12_image : bTab oX12_image tX12_image := ⟨ofX12_image, by decide +kernel⟩
def ct_1275 : aCt := (mX12_image, [ag_868], ([], []), [pon_2085, pon_2087], mdn_2088, [], (nat_lit 2))
set_option maxRecDepth 100000 in
theorem S_1275 : aSpec wd ct_1275 := bChk_ok wx_ok btX12_image (nds := []) (fk := []) (rk := (1, [])) (sp := 0) (fuel := 3000) (by decide +kernel) (lk_d S_468 ml_12_167 (lk_d S_929 ml_12_170 (lk_d S_1269 ml_12_170 (lk_d S_X12_copy_33 ml_12_176 lk_n)))) odX12_image
def ag_2089 : aAg := .inl [((.negSucc (nat_lit 0)), (.ofNat (nat_lit 2)), (nat_lit 1))]
def pon_2090 : aPo := (some (.inl [((.ofNat (nat_lit 1)), (.ofNat (nat_lit 1)), (nat_lit 1))]), [some [((.ofNat (nat_lit 0)), (.ofNat (nat_lit 2)), (nat_lit 1))], none, some [((.ofNat (nat_lit 0)), (.ofNat (nat_lit 2)), (nat_lit 1))]], [], [])
def ct_1276 : aCt := (mX12_in, [ag_1, ag_170, ag_2089], ([], []), [pon_1205, pon_2090], mdn_879, [], (nat_lit 0))
set_option maxRecDepth 100000 in
theorem S_1276 : aSpec wd ct_1276 := bChk_ok wx_ok btX12_in (nds := []) (fk := []) (rk := (1, [])) (sp := 0) (fuel := 3000) (by decide +kernel) lk_n odX12_in
def pon_2091 : aPo := (some (.inl [((.ofNat (nat_lit 1)), (.ofNat (nat_lit 1)), (nat_lit 1))]), [none, some [((.ofNat (nat_lit 0)), (.ofNat (nat_lit 2)), (nat_lit 1))]], [sl_874, sl_1436, sl_2084], [])
set_option maxRecDepth 100000 in
theorem btX12_back : bTab oX12_back tX12_back := ⟨ofX12_back, by decide +kernel⟩
def ct_1277 : aCt := (mX12_back, [ag_868, ag_1], ([], []), [pon_2061, pon_2091], mdn_2083, [], (nat_lit 2))
set_option maxRecDepth 100000 in
theorem S_1277 : aSpec wd ct_1277 := bChk_ok wx_ok btX12_back (nds := []) (fk := []) (rk := (1, [])) (sp := 0) (fuel := 3000) (by decide +kernel) (lk_d S_468 ml_12_167 (lk_d S_1267 ml_12_427 (lk_d S_X12_copy_34 ml_12_176 (lk_d S_1276 ml_12_149 lk_n)))) odX12_back
def ag_2092 : aAg := .inl [((.negSucc (nat_lit 2147483647)), (.ofNat (nat_lit 11)), (nat_lit 1)), ((.ofNat (nat_lit 13)), (.ofNat (nat_lit 2147483647)), (nat_lit 1))]
def pon_2093 : aPo := (some (.inl [((.ofNat (nat_lit 0)), (.ofNat (nat_lit 0)), (nat_lit 1))]), [some [((.negSucc (nat_lit 2147483647)), (.negSucc (nat_lit 0)), (nat_lit 1)), ((.ofNat (nat_lit 13)), (.ofNat (nat_lit 2147483647)), (nat_lit 1))], none, none], [], [])
def ct_1278 : aCt := (mX12_in, [ag_2092, ag_170, ag_1199], ([], []), [pon_2093, pon_1846], mdn_879, [], (nat_lit 0))
set_option maxRecDepth 100000 in
theorem S_1278 : aSpec wd ct_1278 := bChk_ok wx_ok btX12_in (nds := []) (fk := []) (rk := (1, [])) (sp := 0) (fuel := 3000) (by decide +kernel) lk_n odX12_in
def pon_2094 : aPo := (some (.inl [((.ofNat (nat_lit 0)), (.ofNat (nat_lit 0)), (nat_lit 1))]), [some [((.negSucc (nat_lit 2147483647)), (.negSucc (nat_lit 0)), (nat_lit 1)), ((.ofNat (nat_lit 9)), (.ofNat (nat_lit 11)), (nat_lit 1)), ((.ofNat (nat_lit 13)), (.ofNat (nat_lit 2147483647)), (nat_lit 1))], none, none], [], [])
def ct_1279 : aCt := (mX12_in, [ag_2092, ag_170, ag_1856], ([], []), [pon_2094, pon_1858], mdn_879, [], (nat_lit 0))
set_option maxRecDepth 100000 in
theorem S_1279 : aSpec wd ct_1279 := bChk_ok wx_ok btX12_in (nds := []) (fk := []) (rk := (1, [])) (sp := 0) (fuel := 3000) (by decide +kernel) lk_n odX12_in
def pon_2095 : aPo := (some (.inl [((.negSucc (nat_lit 0)), (.negSucc (nat_lit 0)), (nat_lit 1))]), [none, some [((.negSucc (nat_lit 2147483647)), (.ofNat (nat_lit 11)), (nat_lit 1)), ((.ofNat (nat_lit 13)), (.ofNat (nat_lit 2147483647)), (nat_lit 1))]], [], [])
def pon_2096 : aPo := (some (.inl [((.ofNat (nat_lit 0)), (.ofNat (nat_lit 0)), (nat_lit 1))]), [none, some [((.ofNat (nat_lit 0)), (.ofNat (nat_lit 11)), (nat_lit 1))]], [sl_1878], [])
set_option maxRecDepth 100000 in
theorem btX12_size : bTab oX12_size tX12_size := ⟨ofX12_size, by decide +kernel⟩
def ct_1280 : aCt := (mX12_size, [ag_868, ag_1], ([], []), [pon_746, pon_2095, pon_2096], mdn_1800, [], (nat_lit 1))
set_option maxRecDepth 100000 in
theorem S_1280 : aSpec wd ct_1280 := bChk_ok wx_ok btX12_size (nds := []) (fk := []) (rk := (1, [])) (sp := 0) (fuel := 3000) (by decide +kernel) (lk_d S_1278 ml_12_149 (lk_d S_1279 ml_12_149 lk_n)) odX12_size
set_option maxRecDepth 100000 in
theorem btX12_trouble : bTab oX12_trouble tX12_trouble := ⟨ofX12_trouble, by decide +kernel⟩
def ct_1281 : aCt := (mX12_trouble, [ag_868], ([], []), [pon_267], mdn_1800, [], (nat_lit 0))
set_option maxRecDepth 100000 in
theorem S_1281 : aSpec wd ct_1281 := bChk_ok wx_ok btX12_trouble (nds := []) (fk := []) (rk := (1, [])) (sp := 0) (fuel := 3000) (by decide +kernel) lk_n odX12_trouble
def pon_2097 : aPo := (some (.inl [((.ofNat (nat_lit 0)), (.ofNat (nat_lit 7)), (nat_lit 1))]), [], [sl_1435, sl_1438, sl_1439, sl_1815], [])
set_option maxRecDepth 100000 in
theorem btX12_led : bTab oX12_led tX12_led := ⟨ofX12_led, by decide +kernel⟩
def ct_1282 : aCt := (mX12_led, [ag_868, ag_1], ([], []), [pon_2097, pon_37], mdn_1800, [], (nat_lit 0))
set_option maxRecDepth 100000 in
theorem S_1282 : aSpec wd ct_1282 := bChk_ok wx_ok btX12_led (nds := [((nat_lit 4), [lcn_905, lcn_274, lcn_132, lcn_411], [], [], [], (8, [(2, -1)]))]) (fk := []) (rk := (9, [])) (sp := 16) (fuel := 3000) (by decide +kernel) lk_n odX12_led
def pon_2098 : aPo := (some (.inl [((.negSucc (nat_lit 0)), (.negSucc (nat_lit 0)), (nat_lit 1))]), [], [sl_2058], [])
def ct_1283 : aCt := (mX12_no, [ag_868, ag_150], ([sl_874], []), [pon_2098], mdn_882, [], (nat_lit 0))
set_option maxRecDepth 100000 in
theorem S_1283 : aSpec wd ct_1283 := bChk_ok wx_ok btX12_no (nds := []) (fk := []) (rk := (1, [])) (sp := 0) (fuel := 3000) (by decide +kernel) lk_n odX12_no
end Pk2
