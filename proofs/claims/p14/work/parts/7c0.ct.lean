def sl_2047 : (Nat × Nat) × aI := (((nat_lit 199), (nat_lit 4)), [((.ofNat (nat_lit 2)), (.ofNat (nat_lit 2)), (nat_lit 1))])
def ct_1114 : aCt := (mX12_ofBox, [ag_861, ag_170, ag_53], ([sl_1431, sl_2047, sl_1808], []), [pon_453], [], [], (nat_lit 0))
set_option maxRecDepth 100000 in
theorem S_1114 : aSpec wd ct_1114 := bChk_ok wx_ok btX12_ofBox (nds := []) (fk := []) (rk := (1, [])) (sp := 0) (fuel := 3000) (by decide +kernel) lk_n odX12_ofBox
def ct_1115 : aCt := (mX12_songLong, [ag_861, ag_170], ([sl_2047], []), [pon_2041], [], [], (nat_lit 0))
set_option maxRecDepth 100000 in
theorem S_1115 : aSpec wd ct_1115 := bChk_ok wx_ok btX12_songLong (nds := []) (fk := []) (rk := (1, [])) (sp := 0) (fuel := 3000) (by decide +kernel) lk_n odX12_songLong
def ct_1116 : aCt := (mX12_songLong, [ag_861, ag_53], ([sl_2047], []), [pon_2041], [], [], (nat_lit 0))
set_option maxRecDepth 100000 in
theorem S_1116 : aSpec wd ct_1116 := bChk_ok wx_ok btX12_songLong (nds := []) (fk := []) (rk := (1, [])) (sp := 0) (fuel := 3000) (by decide +kernel) lk_n odX12_songLong
def ct_1117 : aCt := (mX12_boxLong, [ag_861, ag_170], ([sl_1431, sl_2047, sl_1808], []), [pon_2041], [], [], (nat_lit 1))
set_option maxRecDepth 100000 in
theorem S_1117 : aSpec wd ct_1117 := bChk_ok wx_ok btX12_boxLong (nds := []) (fk := [7]) (rk := (1, [])) (sp := 0) (fuel := 3000) (by decide +kernel) (lk_d S_1115 ml_12_265 (lk_d S_1116 ml_12_265 (lk_d S_1114 ml_12_262 lk_n))) odX12_boxLong
def ct_1118 : aCt := (mX12_ofBox, [ag_861, ag_53, ag_53], ([sl_1431, sl_2047, sl_1991], []), [pon_453], [], [], (nat_lit 0))
set_option maxRecDepth 100000 in
theorem S_1118 : aSpec wd ct_1118 := bChk_ok wx_ok btX12_ofBox (nds := []) (fk := []) (rk := (1, [])) (sp := 0) (fuel := 3000) (by decide +kernel) lk_n odX12_ofBox
def ct_1119 : aCt := (mX12_boxLong, [ag_861, ag_53], ([sl_1431, sl_2047, sl_1991], []), [pon_2041], [], [], (nat_lit 1))
set_option maxRecDepth 100000 in
theorem S_1119 : aSpec wd ct_1119 := bChk_ok wx_ok btX12_boxLong (nds := []) (fk := [7]) (rk := (1, [])) (sp := 0) (fuel := 3000) (by decide +kernel) (lk_d S_1115 ml_12_265 (lk_d S_1116 ml_12_265 (lk_d S_1118 ml_12_262 lk_n))) odX12_boxLong
def ct_1120 : aCt := (mX12_ofBox, [ag_861, ag_22, ag_53], ([sl_1431, sl_2047, sl_1989], []), [pon_453], [], [], (nat_lit 0))
set_option maxRecDepth 100000 in
theorem S_1120 : aSpec wd ct_1120 := bChk_ok wx_ok btX12_ofBox (nds := []) (fk := []) (rk := (1, [])) (sp := 0) (fuel := 3000) (by decide +kernel) lk_n odX12_ofBox
def ct_1121 : aCt := (mX12_boxLong, [ag_861, ag_22], ([sl_1431, sl_2047, sl_1989], []), [pon_2041], [], [], (nat_lit 1))
set_option maxRecDepth 100000 in
theorem S_1121 : aSpec wd ct_1121 := bChk_ok wx_ok btX12_boxLong (nds := []) (fk := [7]) (rk := (1, [])) (sp := 0) (fuel := 3000) (by decide +kernel) (lk_d S_1115 ml_12_265 (lk_d S_1116 ml_12_265 (lk_d S_1120 ml_12_262 lk_n))) odX12_boxLong
def ct_1122 : aCt := (mX12_ofBox, [ag_861, ag_122, ag_53], ([sl_1431, sl_2047, sl_1987], []), [pon_453], [], [], (nat_lit 0))
set_option maxRecDepth 100000 in
theorem S_1122 : aSpec wd ct_1122 := bChk_ok wx_ok btX12_ofBox (nds := []) (fk := []) (rk := (1, [])) (sp := 0) (fuel := 3000) (by decide +kernel) lk_n odX12_ofBox
def ct_1123 : aCt := (mX12_boxLong, [ag_861, ag_122], ([sl_1431, sl_2047, sl_1987], []), [pon_2041], [], [], (nat_lit 1))
set_option maxRecDepth 100000 in
theorem S_1123 : aSpec wd ct_1123 := bChk_ok wx_ok btX12_boxLong (nds := []) (fk := [7]) (rk := (1, [])) (sp := 0) (fuel := 3000) (by decide +kernel) (lk_d S_1115 ml_12_265 (lk_d S_1116 ml_12_265 (lk_d S_1122 ml_12_262 lk_n))) odX12_boxLong
def ct_1124 : aCt := (mX12_ofBox, [ag_861, ag_159, ag_53], ([sl_1431, sl_2047, sl_1985], []), [pon_453], [], [], (nat_lit 0))
set_option maxRecDepth 100000 in
theorem S_1124 : aSpec wd ct_1124 := bChk_ok wx_ok btX12_ofBox (nds := []) (fk := []) (rk := (1, [])) (sp := 0) (fuel := 3000) (by decide +kernel) lk_n odX12_ofBox
def ct_1125 : aCt := (mX12_boxLong, [ag_861, ag_159], ([sl_1431, sl_2047, sl_1985], []), [pon_2041], [], [], (nat_lit 1))
set_option maxRecDepth 100000 in
theorem S_1125 : aSpec wd ct_1125 := bChk_ok wx_ok btX12_boxLong (nds := []) (fk := [7]) (rk := (1, [])) (sp := 0) (fuel := 3000) (by decide +kernel) (lk_d S_1115 ml_12_265 (lk_d S_1116 ml_12_265 (lk_d S_1124 ml_12_262 lk_n))) odX12_boxLong
def ct_1126 : aCt := (mX12_ofBox, [ag_861, ag_150, ag_53], ([sl_1431, sl_2047, sl_1983], []), [pon_453], [], [], (nat_lit 0))
set_option maxRecDepth 100000 in
theorem S_1126 : aSpec wd ct_1126 := bChk_ok wx_ok btX12_ofBox (nds := []) (fk := []) (rk := (1, [])) (sp := 0) (fuel := 3000) (by decide +kernel) lk_n odX12_ofBox
def ct_1127 : aCt := (mX12_boxLong, [ag_861, ag_150], ([sl_1431, sl_2047, sl_1983], []), [pon_2041], [], [], (nat_lit 1))
set_option maxRecDepth 100000 in
theorem S_1127 : aSpec wd ct_1127 := bChk_ok wx_ok btX12_boxLong (nds := []) (fk := [7]) (rk := (1, [])) (sp := 0) (fuel := 3000) (by decide +kernel) (lk_d S_1115 ml_12_265 (lk_d S_1116 ml_12_265 (lk_d S_1126 ml_12_262 lk_n))) odX12_boxLong
def ct_1128 : aCt := (mX12_ofBox, [ag_861, ag_153, ag_53], ([sl_1431, sl_2047, sl_1979], []), [pon_453], [], [], (nat_lit 0))
set_option maxRecDepth 100000 in
theorem S_1128 : aSpec wd ct_1128 := bChk_ok wx_ok btX12_ofBox (nds := []) (fk := []) (rk := (1, [])) (sp := 0) (fuel := 3000) (by decide +kernel) lk_n odX12_ofBox
def ct_1129 : aCt := (mX12_boxLong, [ag_861, ag_153], ([sl_1431, sl_2047, sl_1979], []), [pon_2041], [], [], (nat_lit 1))
set_option maxRecDepth 100000 in
theorem S_1129 : aSpec wd ct_1129 := bChk_ok wx_ok btX12_boxLong (nds := []) (fk := [7]) (rk := (1, [])) (sp := 0) (fuel := 3000) (by decide +kernel) (lk_d S_1115 ml_12_265 (lk_d S_1116 ml_12_265 (lk_d S_1128 ml_12_262 lk_n))) odX12_boxLong
def ct_1130 : aCt := (mX12_ofBox, [ag_861, ag_133, ag_53], ([sl_1431, sl_2047, sl_1977], []), [pon_453], [], [], (nat_lit 0))
set_option maxRecDepth 100000 in
theorem S_1130 : aSpec wd ct_1130 := bChk_ok wx_ok btX12_ofBox (nds := []) (fk := []) (rk := (1, [])) (sp := 0) (fuel := 3000) (by decide +kernel) lk_n odX12_ofBox
def ct_1131 : aCt := (mX12_boxLong, [ag_861, ag_133], ([sl_1431, sl_2047, sl_1977], []), [pon_2041], [], [], (nat_lit 1))
set_option maxRecDepth 100000 in
theorem S_1131 : aSpec wd ct_1131 := bChk_ok wx_ok btX12_boxLong (nds := []) (fk := [7]) (rk := (1, [])) (sp := 0) (fuel := 3000) (by decide +kernel) (lk_d S_1115 ml_12_265 (lk_d S_1116 ml_12_265 (lk_d S_1130 ml_12_262 lk_n))) odX12_boxLong
def ct_1132 : aCt := (mX12_decade, [ag_861, ag_1, ag_1], ([sl_2047], []), [pon_2042, pon_1837], mdn_869, [], (nat_lit 4))
set_option maxRecDepth 100000 in
theorem S_1132 : aSpec wd ct_1132 := bChk_ok wx_ok btX12_decade (nds := [((nat_lit 52), [lcn_898, lcn_695, lcn_696, lcn_2043, lcn_351, lcn_1899], [], [sl_867, sl_1428, sl_1431, sl_2047], [], (759, [(4, -10)])), ((nat_lit 61), [lcn_898, lcn_695, lcn_2044, lcn_2043, lcn_351, lcn_1897, lcn_596], [], [sl_867, sl_1428, sl_1431, sl_2047], [], (758, [(4, -10)])), ((nat_lit 61), [lcn_898, lcn_695, lcn_2044, lcn_2043, lcn_351, lcn_1897, lcn_1945, lcn_2045, lcn_2046], [], [sl_867, sl_1428, sl_1431, sl_2047, sl_1808], [], (757, [(4, -10)])), ((nat_lit 61), [lcn_898, lcn_695, lcn_2044, lcn_2043, lcn_351, lcn_1897, lcn_1946, lcn_2045, lcn_2046], [], [sl_867, sl_1428, sl_1431, sl_2047, sl_1991], [], (756, [(4, -10)])), ((nat_lit 61), [lcn_898, lcn_695, lcn_2044, lcn_2043, lcn_351, lcn_1897, lcn_1947, lcn_2045, lcn_2046], [], [sl_867, sl_1428, sl_1431, sl_2047, sl_1989], [], (755, [(4, -10)])), ((nat_lit 61), [lcn_898, lcn_695, lcn_2044, lcn_2043, lcn_351, lcn_1897, lcn_1948, lcn_2045, lcn_2046], [], [sl_867, sl_1428, sl_1431, sl_2047, sl_1987], [], (754, [(4, -10)])), ((nat_lit 61), [lcn_898, lcn_695, lcn_2044, lcn_2043, lcn_351, lcn_1897, lcn_1949, lcn_2045, lcn_2046], [], [sl_867, sl_1428, sl_1431, sl_2047, sl_1985], [], (753, [(4, -10)])), ((nat_lit 61), [lcn_898, lcn_695, lcn_2044, lcn_2043, lcn_351, lcn_1897, lcn_1950, lcn_2045, lcn_2046], [], [sl_867, sl_1428, sl_1431, sl_2047, sl_1983], [], (752, [(4, -10)])), ((nat_lit 61), [lcn_898, lcn_695, lcn_2044, lcn_2043, lcn_351, lcn_1897, lcn_1951, lcn_2045, lcn_2046], [], [sl_867, sl_1428, sl_1431, sl_2047, sl_1979], [], (751, [(4, -10)])), ((nat_lit 61), [lcn_898, lcn_695, lcn_2044, lcn_2043, lcn_351, lcn_1897, lcn_1952, lcn_2045, lcn_2046], [], [sl_867, sl_1428, sl_1431, sl_2047, sl_1977], [], (750, [(4, -10)]))]) (fk := []) (rk := (760, [])) (sp := 2310346608841064448) (fuel := 3000) (by decide +kernel) (lk_d S_447 ml_12_167 (lk_d S_1131 ml_12_284 (lk_d S_1129 ml_12_284 (lk_d S_1127 ml_12_284 (lk_d S_1125 ml_12_284 (lk_d S_1123 ml_12_284 (lk_d S_1121 ml_12_284 (lk_d S_1119 ml_12_284 (lk_d S_1117 ml_12_284 (lk_d S_908 ml_12_170 (lk_d S_449 ml_12_170 (lk_d S_1130 ml_12_262 (lk_d S_1128 ml_12_262 (lk_d S_1126 ml_12_262 (lk_d S_1124 ml_12_262 (lk_d S_1122 ml_12_262 (lk_d S_1120 ml_12_262 (lk_d S_1118 ml_12_262 (lk_d S_1114 ml_12_262 (lk_d S_930 ml_12_291 (lk_d S_1095 ml_12_149 (lk_d S_474 ml_12_149 lk_n)))))))))))))))))))))) odX12_decade
def sl_2048 : (Nat × Nat) × aI := (((nat_lit 199), (nat_lit 4)), [((.ofNat (nat_lit 3)), (.ofNat (nat_lit 3)), (nat_lit 1))])
def ct_1133 : aCt := (mX12_ofBox, [ag_861, ag_170, ag_53], ([sl_1431, sl_2048, sl_1808], []), [pon_599], [], [], (nat_lit 0))
set_option maxRecDepth 100000 in
theorem S_1133 : aSpec wd ct_1133 := bChk_ok wx_ok btX12_ofBox (nds := []) (fk := []) (rk := (1, [])) (sp := 0) (fuel := 3000) (by decide +kernel) lk_n odX12_ofBox
def ct_1134 : aCt := (mX12_songLong, [ag_861, ag_170], ([sl_2048], []), [pon_2041], [], [], (nat_lit 0))
set_option maxRecDepth 100000 in
theorem S_1134 : aSpec wd ct_1134 := bChk_ok wx_ok btX12_songLong (nds := []) (fk := []) (rk := (1, [])) (sp := 0) (fuel := 3000) (by decide +kernel) lk_n odX12_songLong
def ct_1135 : aCt := (mX12_songLong, [ag_861, ag_53], ([sl_2048], []), [pon_2041], [], [], (nat_lit 0))
set_option maxRecDepth 100000 in
theorem S_1135 : aSpec wd ct_1135 := bChk_ok wx_ok btX12_songLong (nds := []) (fk := []) (rk := (1, [])) (sp := 0) (fuel := 3000) (by decide +kernel) lk_n odX12_songLong
def ct_1136 : aCt := (mX12_songLong, [ag_861, ag_22], ([sl_2048], []), [pon_2041], [], [], (nat_lit 0))
set_option maxRecDepth 100000 in
theorem S_1136 : aSpec wd ct_1136 := bChk_ok wx_ok btX12_songLong (nds := []) (fk := []) (rk := (1, [])) (sp := 0) (fuel := 3000) (by decide +kernel) lk_n odX12_songLong
def ct_1137 : aCt := (mX12_boxLong, [ag_861, ag_170], ([sl_1431, sl_2048, sl_1808], []), [pon_2041], [], [], (nat_lit 1))
set_option maxRecDepth 100000 in
theorem S_1137 : aSpec wd ct_1137 := bChk_ok wx_ok btX12_boxLong (nds := []) (fk := [7]) (rk := (1, [])) (sp := 0) (fuel := 3000) (by decide +kernel) (lk_d S_1134 ml_12_265 (lk_d S_1135 ml_12_265 (lk_d S_1136 ml_12_265 (lk_d S_1133 ml_12_262 lk_n)))) odX12_boxLong
def ct_1138 : aCt := (mX12_ofBox, [ag_861, ag_53, ag_53], ([sl_1431, sl_2048, sl_1991], []), [pon_599], [], [], (nat_lit 0))
set_option maxRecDepth 100000 in
theorem S_1138 : aSpec wd ct_1138 := bChk_ok wx_ok btX12_ofBox (nds := []) (fk := []) (rk := (1, [])) (sp := 0) (fuel := 3000) (by decide +kernel) lk_n odX12_ofBox
def ct_1139 : aCt := (mX12_boxLong, [ag_861, ag_53], ([sl_1431, sl_2048, sl_1991], []), [pon_2041], [], [], (nat_lit 1))
set_option maxRecDepth 100000 in
theorem S_1139 : aSpec wd ct_1139 := bChk_ok wx_ok btX12_boxLong (nds := []) (fk := [7]) (rk := (1, [])) (sp := 0) (fuel := 3000) (by decide +kernel) (lk_d S_1134 ml_12_265 (lk_d S_1135 ml_12_265 (lk_d S_1136 ml_12_265 (lk_d S_1138 ml_12_262 lk_n)))) odX12_boxLong
def ct_1140 : aCt := (mX12_ofBox, [ag_861, ag_22, ag_53], ([sl_1431, sl_2048, sl_1989], []), [pon_599], [], [], (nat_lit 0))
set_option maxRecDepth 100000 in
theorem S_1140 : aSpec wd ct_1140 := bChk_ok wx_ok btX12_ofBox (nds := []) (fk := []) (rk := (1, [])) (sp := 0) (fuel := 3000) (by decide +kernel) lk_n odX12_ofBox
def ct_1141 : aCt := (mX12_boxLong, [ag_861, ag_22], ([sl_1431, sl_2048, sl_1989], []), [pon_2041], [], [], (nat_lit 1))
set_option maxRecDepth 100000 in
theorem S_1141 : aSpec wd ct_1141 := bChk_ok wx_ok btX12_boxLong (nds := []) (fk := [7]) (rk := (1, [])) (sp := 0) (fuel := 3000) (by decide +kernel) (lk_d S_1134 ml_12_265 (lk_d S_1135 ml_12_265 (lk_d S_1136 ml_12_265 (lk_d S_1140 ml_12_262 lk_n)))) odX12_boxLong
def ct_1142 : aCt := (mX12_ofBox, [ag_861, ag_122, ag_53], ([sl_1431, sl_2048, sl_1987], []), [pon_599], [], [], (nat_lit 0))
set_option maxRecDepth 100000 in
theorem S_1142 : aSpec wd ct_1142 := bChk_ok wx_ok btX12_ofBox (nds := []) (fk := []) (rk := (1, [])) (sp := 0) (fuel := 3000) (by decide +kernel) lk_n odX12_ofBox
def ct_1143 : aCt := (mX12_boxLong, [ag_861, ag_122], ([sl_1431, sl_2048, sl_1987], []), [pon_2041], [], [], (nat_lit 1))
set_option maxRecDepth 100000 in
theorem S_1143 : aSpec wd ct_1143 := bChk_ok wx_ok btX12_boxLong (nds := []) (fk := [7]) (rk := (1, [])) (sp := 0) (fuel := 3000) (by decide +kernel) (lk_d S_1134 ml_12_265 (lk_d S_1135 ml_12_265 (lk_d S_1136 ml_12_265 (lk_d S_1142 ml_12_262 lk_n)))) odX12_boxLong
def ct_1144 : aCt := (mX12_ofBox, [ag_861, ag_159, ag_53], ([sl_1431, sl_2048, sl_1985], []), [pon_599], [], [], (nat_lit 0))
set_option maxRecDepth 100000 in
theorem S_1144 : aSpec wd ct_1144 := bChk_ok wx_ok btX12_ofBox (nds := []) (fk := []) (rk := (1, [])) (sp := 0) (fuel := 3000) (by decide +kernel) lk_n odX12_ofBox
def ct_1145 : aCt := (mX12_boxLong, [ag_861, ag_159], ([sl_1431, sl_2048, sl_1985], []), [pon_2041], [], [], (nat_lit 1))
set_option maxRecDepth 100000 in
theorem S_1145 : aSpec wd ct_1145 := bChk_ok wx_ok btX12_boxLong (nds := []) (fk := [7]) (rk := (1, [])) (sp := 0) (fuel := 3000) (by decide +kernel) (lk_d S_1134 ml_12_265 (lk_d S_1135 ml_12_265 (lk_d S_1136 ml_12_265 (lk_d S_1144 ml_12_262 lk_n)))) odX12_boxLong
def ct_1146 : aCt := (mX12_ofBox, [ag_861, ag_150, ag_53], ([sl_1431, sl_2048, sl_1983], []), [pon_599], [], [], (nat_lit 0))
set_option maxRecDepth 100000 in
theorem S_1146 : aSpec wd ct_1146 := bChk_ok wx_ok btX12_ofBox (nds := []) (fk := []) (rk := (1, [])) (sp := 0) (fuel := 3000) (by decide +kernel) lk_n odX12_ofBox
def ct_1147 : aCt := (mX12_boxLong, [ag_861, ag_150], ([sl_1431, sl_2048, sl_1983], []), [pon_2041], [], [], (nat_lit 1))
set_option maxRecDepth 100000 in
theorem S_1147 : aSpec wd ct_1147 := bChk_ok wx_ok btX12_boxLong (nds := []) (fk := [7]) (rk := (1, [])) (sp := 0) (fuel := 3000) (by decide +kernel) (lk_d S_1134 ml_12_265 (lk_d S_1135 ml_12_265 (lk_d S_1136 ml_12_265 (lk_d S_1146 ml_12_262 lk_n)))) odX12_boxLong
def ct_1148 : aCt := (mX12_ofBox, [ag_861, ag_153, ag_53], ([sl_1431, sl_2048, sl_1979], []), [pon_599], [], [], (nat_lit 0))
set_option maxRecDepth 100000 in
theorem S_1148 : aSpec wd ct_1148 := bChk_ok wx_ok btX12_ofBox (nds := []) (fk := []) (rk := (1, [])) (sp := 0) (fuel := 3000) (by decide +kernel) lk_n odX12_ofBox
def ct_1149 : aCt := (mX12_boxLong, [ag_861, ag_153], ([sl_1431, sl_2048, sl_1979], []), [pon_2041], [], [], (nat_lit 1))
set_option maxRecDepth 100000 in
theorem S_1149 : aSpec wd ct_1149 := bChk_ok wx_ok btX12_boxLong (nds := []) (fk := [7]) (rk := (1, [])) (sp := 0) (fuel := 3000) (by decide +kernel) (lk_d S_1134 ml_12_265 (lk_d S_1135 ml_12_265 (lk_d S_1136 ml_12_265 (lk_d S_1148 ml_12_262 lk_n)))) odX12_boxLong
def ct_1150 : aCt := (mX12_ofBox, [ag_861, ag_133, ag_53], ([sl_1431, sl_2048, sl_1977], []), [pon_599], [], [], (nat_lit 0))
set_option maxRecDepth 100000 in
theorem S_1150 : aSpec wd ct_1150 := bChk_ok wx_ok btX12_ofBox (nds := []) (fk := []) (rk := (1, [])) (sp := 0) (fuel := 3000) (by decide +kernel) lk_n odX12_ofBox
def ct_1151 : aCt := (mX12_boxLong, [ag_861, ag_133], ([sl_1431, sl_2048, sl_1977], []), [pon_2041], [], [], (nat_lit 1))
set_option maxRecDepth 100000 in
theorem S_1151 : aSpec wd ct_1151 := bChk_ok wx_ok btX12_boxLong (nds := []) (fk := [7]) (rk := (1, [])) (sp := 0) (fuel := 3000) (by decide +kernel) (lk_d S_1134 ml_12_265 (lk_d S_1135 ml_12_265 (lk_d S_1136 ml_12_265 (lk_d S_1150 ml_12_262 lk_n)))) odX12_boxLong
def ct_1152 : aCt := (mX12_decade, [ag_861, ag_1, ag_1], ([sl_2048], []), [pon_2042, pon_1837], mdn_869, [], (nat_lit 4))
set_option maxRecDepth 100000 in
theorem S_1152 : aSpec wd ct_1152 := bChk_ok wx_ok btX12_decade (nds := [((nat_lit 52), [lcn_898, lcn_695, lcn_696, lcn_2043, lcn_351, lcn_1899], [], [sl_867, sl_1428, sl_1431, sl_2048], [], (759, [(4, -10)])), ((nat_lit 61), [lcn_898, lcn_695, lcn_2044, lcn_2043, lcn_351, lcn_1897, lcn_596], [], [sl_867, sl_1428, sl_1431, sl_2048], [], (758, [(4, -10)])), ((nat_lit 61), [lcn_898, lcn_695, lcn_2044, lcn_2043, lcn_351, lcn_1897, lcn_1945, lcn_2045, lcn_2046], [], [sl_867, sl_1428, sl_1431, sl_2048, sl_1808], [], (757, [(4, -10)])), ((nat_lit 61), [lcn_898, lcn_695, lcn_2044, lcn_2043, lcn_351, lcn_1897, lcn_1946, lcn_2045, lcn_2046], [], [sl_867, sl_1428, sl_1431, sl_2048, sl_1991], [], (756, [(4, -10)])), ((nat_lit 61), [lcn_898, lcn_695, lcn_2044, lcn_2043, lcn_351, lcn_1897, lcn_1947, lcn_2045, lcn_2046], [], [sl_867, sl_1428, sl_1431, sl_2048, sl_1989], [], (755, [(4, -10)])), ((nat_lit 61), [lcn_898, lcn_695, lcn_2044, lcn_2043, lcn_351, lcn_1897, lcn_1948, lcn_2045, lcn_2046], [], [sl_867, sl_1428, sl_1431, sl_2048, sl_1987], [], (754, [(4, -10)])), ((nat_lit 61), [lcn_898, lcn_695, lcn_2044, lcn_2043, lcn_351, lcn_1897, lcn_1949, lcn_2045, lcn_2046], [], [sl_867, sl_1428, sl_1431, sl_2048, sl_1985], [], (753, [(4, -10)])), ((nat_lit 61), [lcn_898, lcn_695, lcn_2044, lcn_2043, lcn_351, lcn_1897, lcn_1950, lcn_2045, lcn_2046], [], [sl_867, sl_1428, sl_1431, sl_2048, sl_1983], [], (752, [(4, -10)])), ((nat_lit 61), [lcn_898, lcn_695, lcn_2044, lcn_2043, lcn_351, lcn_1897, lcn_1951, lcn_2045, lcn_2046], [], [sl_867, sl_1428, sl_1431, sl_2048, sl_1979], [], (751, [(4, -10)])), ((nat_lit 61), [lcn_898, lcn_695, lcn_2044, lcn_2043, lcn_351, lcn_1897, lcn_1952, lcn_2045, lcn_2046], [], [sl_867, sl_1428, sl_1431, sl_2048, sl_1977], [], (750, [(4, -10)]))]) (fk := []) (rk := (760, [])) (sp := 2310346608841064448) (fuel := 3000) (by decide +kernel) (lk_d S_447 ml_12_167 (lk_d S_1151 ml_12_284 (lk_d S_1149 ml_12_284 (lk_d S_1147 ml_12_284 (lk_d S_1145 ml_12_284 (lk_d S_1143 ml_12_284 (lk_d S_1141 ml_12_284 (lk_d S_1139 ml_12_284 (lk_d S_1137 ml_12_284 (lk_d S_908 ml_12_170 (lk_d S_449 ml_12_170 (lk_d S_1150 ml_12_262 (lk_d S_1148 ml_12_262 (lk_d S_1146 ml_12_262 (lk_d S_1144 ml_12_262 (lk_d S_1142 ml_12_262 (lk_d S_1140 ml_12_262 (lk_d S_1138 ml_12_262 (lk_d S_1133 ml_12_262 (lk_d S_930 ml_12_291 (lk_d S_1095 ml_12_149 (lk_d S_474 ml_12_149 lk_n)))))))))))))))))))))) odX12_decade
def sl_2049 : (Nat × Nat) × aI := (((nat_lit 199), (nat_lit 4)), [((.ofNat (nat_lit 4)), (.ofNat (nat_lit 4)), (nat_lit 1))])
def ct_1153 : aCt := (mX12_ofBox, [ag_861, ag_170, ag_53], ([sl_1431, sl_2049, sl_1808], []), [pon_346], [], [], (nat_lit 0))
set_option maxRecDepth 100000 in
theorem S_1153 : aSpec wd ct_1153 := bChk_ok wx_ok btX12_ofBox (nds := []) (fk := []) (rk := (1, [])) (sp := 0) (fuel := 3000) (by decide +kernel) lk_n odX12_ofBox
def ct_1154 : aCt := (mX12_songLong, [ag_861, ag_170], ([sl_2049], []), [pon_2041], [], [], (nat_lit 0))
set_option maxRecDepth 100000 in
theorem S_1154 : aSpec wd ct_1154 := bChk_ok wx_ok btX12_songLong (nds := []) (fk := []) (rk := (1, [])) (sp := 0) (fuel := 3000) (by decide +kernel) lk_n odX12_songLong
def ct_1155 : aCt := (mX12_songLong, [ag_861, ag_53], ([sl_2049], []), [pon_2041], [], [], (nat_lit 0))
set_option maxRecDepth 100000 in
theorem S_1155 : aSpec wd ct_1155 := bChk_ok wx_ok btX12_songLong (nds := []) (fk := []) (rk := (1, [])) (sp := 0) (fuel := 3000) (by decide +kernel) lk_n odX12_songLong
def ct_1156 : aCt := (mX12_songLong, [ag_861, ag_22], ([sl_2049], []), [pon_2041], [], [], (nat_lit 0))
set_option maxRecDepth 100000 in
theorem S_1156 : aSpec wd ct_1156 := bChk_ok wx_ok btX12_songLong (nds := []) (fk := []) (rk := (1, [])) (sp := 0) (fuel := 3000) (by decide +kernel) lk_n odX12_songLong
def ct_1157 : aCt := (mX12_songLong, [ag_861, ag_122], ([sl_2049], []), [pon_2041], [], [], (nat_lit 0))
set_option maxRecDepth 100000 in
theorem S_1157 : aSpec wd ct_1157 := bChk_ok wx_ok btX12_songLong (nds := []) (fk := []) (rk := (1, [])) (sp := 0) (fuel := 3000) (by decide +kernel) lk_n odX12_songLong
def ct_1158 : aCt := (mX12_boxLong, [ag_861, ag_170], ([sl_1431, sl_2049, sl_1808], []), [pon_2041], [], [], (nat_lit 1))
set_option maxRecDepth 100000 in
theorem S_1158 : aSpec wd ct_1158 := bChk_ok wx_ok btX12_boxLong (nds := []) (fk := [7]) (rk := (1, [])) (sp := 0) (fuel := 3000) (by decide +kernel) (lk_d S_1154 ml_12_265 (lk_d S_1155 ml_12_265 (lk_d S_1156 ml_12_265 (lk_d S_1157 ml_12_265 (lk_d S_1153 ml_12_262 lk_n))))) odX12_boxLong
def ct_1159 : aCt := (mX12_ofBox, [ag_861, ag_53, ag_53], ([sl_1431, sl_2049, sl_1991], []), [pon_346], [], [], (nat_lit 0))
set_option maxRecDepth 100000 in
theorem S_1159 : aSpec wd ct_1159 := bChk_ok wx_ok btX12_ofBox (nds := []) (fk := []) (rk := (1, [])) (sp := 0) (fuel := 3000) (by decide +kernel) lk_n odX12_ofBox
def ct_1160 : aCt := (mX12_boxLong, [ag_861, ag_53], ([sl_1431, sl_2049, sl_1991], []), [pon_2041], [], [], (nat_lit 1))
set_option maxRecDepth 100000 in
theorem S_1160 : aSpec wd ct_1160 := bChk_ok wx_ok btX12_boxLong (nds := []) (fk := [7]) (rk := (1, [])) (sp := 0) (fuel := 3000) (by decide +kernel) (lk_d S_1154 ml_12_265 (lk_d S_1155 ml_12_265 (lk_d S_1156 ml_12_265 (lk_d S_1157 ml_12_265 (lk_d S_1159 ml_12_262 lk_n))))) odX12_boxLong
def ct_1161 : aCt := (mX12_ofBox, [ag_861, ag_22, ag_53], ([sl_1431, sl_2049, sl_1989], []), [pon_346], [], [], (nat_lit 0))
set_option maxRecDepth 100000 in
theorem S_1161 : aSpec wd ct_1161 := bChk_ok wx_ok btX12_ofBox (nds := []) (fk := []) (rk := (1, [])) (sp := 0) (fuel := 3000) (by decide +kernel) lk_n odX12_ofBox
def ct_1162 : aCt := (mX12_boxLong, [ag_861, ag_22], ([sl_1431, sl_2049, sl_1989], []), [pon_2041], [], [], (nat_lit 1))
set_option maxRecDepth 100000 in
theorem S_1162 : aSpec wd ct_1162 := bChk_ok wx_ok btX12_boxLong (nds := []) (fk := [7]) (rk := (1, [])) (sp := 0) (fuel := 3000) (by decide +kernel) (lk_d S_1154 ml_12_265 (lk_d S_1155 ml_12_265 (lk_d S_1156 ml_12_265 (lk_d S_1157 ml_12_265 (lk_d S_1161 ml_12_262 lk_n))))) odX12_boxLong
def ct_1163 : aCt := (mX12_ofBox, [ag_861, ag_122, ag_53], ([sl_1431, sl_2049, sl_1987], []), [pon_346], [], [], (nat_lit 0))
set_option maxRecDepth 100000 in
theorem S_1163 : aSpec wd ct_1163 := bChk_ok wx_ok btX12_ofBox (nds := []) (fk := []) (rk := (1, [])) (sp := 0) (fuel := 3000) (by decide +kernel) lk_n odX12_ofBox
def ct_1164 : aCt := (mX12_boxLong, [ag_861, ag_122], ([sl_1431, sl_2049, sl_1987], []), [pon_2041], [], [], (nat_lit 1))
set_option maxRecDepth 100000 in
theorem S_1164 : aSpec wd ct_1164 := bChk_ok wx_ok btX12_boxLong (nds := []) (fk := [7]) (rk := (1, [])) (sp := 0) (fuel := 3000) (by decide +kernel) (lk_d S_1154 ml_12_265 (lk_d S_1155 ml_12_265 (lk_d S_1156 ml_12_265 (lk_d S_1157 ml_12_265 (lk_d S_1163 ml_12_262 lk_n))))) odX12_boxLong
def ct_1165 : aCt := (mX12_ofBox, [ag_861, ag_159, ag_53], ([sl_1431, sl_2049, sl_1985], []), [pon_346], [], [], (nat_lit 0))
set_option maxRecDepth 100000 in
theorem S_1165 : aSpec wd ct_1165 := bChk_ok wx_ok btX12_ofBox (nds := []) (fk := []) (rk := (1, [])) (sp := 0) (fuel := 3000) (by decide +kernel) lk_n odX12_ofBox
def ct_1166 : aCt := (mX12_boxLong, [ag_861, ag_159], ([sl_1431, sl_2049, sl_1985], []), [pon_2041], [], [], (nat_lit 1))
set_option maxRecDepth 100000 in
theorem S_1166 : aSpec wd ct_1166 := bChk_ok wx_ok btX12_boxLong (nds := []) (fk := [7]) (rk := (1, [])) (sp := 0) (fuel := 3000) (by decide +kernel) (lk_d S_1154 ml_12_265 (lk_d S_1155 ml_12_265 (lk_d S_1156 ml_12_265 (lk_d S_1157 ml_12_265 (lk_d S_1165 ml_12_262 lk_n))))) odX12_boxLong
def ct_1167 : aCt := (mX12_ofBox, [ag_861, ag_150, ag_53], ([sl_1431, sl_2049, sl_1983], []), [pon_346], [], [], (nat_lit 0))
set_option maxRecDepth 100000 in
theorem S_1167 : aSpec wd ct_1167 := bChk_ok wx_ok btX12_ofBox (nds := []) (fk := []) (rk := (1, [])) (sp := 0) (fuel := 3000) (by decide +kernel) lk_n odX12_ofBox
def ct_1168 : aCt := (mX12_boxLong, [ag_861, ag_150], ([sl_1431, sl_2049, sl_1983], []), [pon_2041], [], [], (nat_lit 1))
set_option maxRecDepth 100000 in
theorem S_1168 : aSpec wd ct_1168 := bChk_ok wx_ok btX12_boxLong (nds := []) (fk := [7]) (rk := (1, [])) (sp := 0) (fuel := 3000) (by decide +kernel) (lk_d S_1154 ml_12_265 (lk_d S_1155 ml_12_265 (lk_d S_1156 ml_12_265 (lk_d S_1157 ml_12_265 (lk_d S_1167 ml_12_262 lk_n))))) odX12_boxLong
def ct_1169 : aCt := (mX12_ofBox, [ag_861, ag_153, ag_53], ([sl_1431, sl_2049, sl_1979], []), [pon_346], [], [], (nat_lit 0))
set_option maxRecDepth 100000 in
theorem S_1169 : aSpec wd ct_1169 := bChk_ok wx_ok btX12_ofBox (nds := []) (fk := []) (rk := (1, [])) (sp := 0) (fuel := 3000) (by decide +kernel) lk_n odX12_ofBox
def ct_1170 : aCt := (mX12_boxLong, [ag_861, ag_153], ([sl_1431, sl_2049, sl_1979], []), [pon_2041], [], [], (nat_lit 1))
set_option maxRecDepth 100000 in
theorem S_1170 : aSpec wd ct_1170 := bChk_ok wx_ok btX12_boxLong (nds := []) (fk := [7]) (rk := (1, [])) (sp := 0) (fuel := 3000) (by decide +kernel) (lk_d S_1154 ml_12_265 (lk_d S_1155 ml_12_265 (lk_d S_1156 ml_12_265 (lk_d S_1157 ml_12_265 (lk_d S_1169 ml_12_262 lk_n))))) odX12_boxLong
def ct_1171 : aCt := (mX12_ofBox, [ag_861, ag_133, ag_53], ([sl_1431, sl_2049, sl_1977], []), [pon_346], [], [], (nat_lit 0))
set_option maxRecDepth 100000 in
theorem S_1171 : aSpec wd ct_1171 := bChk_ok wx_ok btX12_ofBox (nds := []) (fk := []) (rk := (1, [])) (sp := 0) (fuel := 3000) (by decide +kernel) lk_n odX12_ofBox
def ct_1172 : aCt := (mX12_boxLong, [ag_861, ag_133], ([sl_1431, sl_2049, sl_1977], []), [pon_2041], [], [], (nat_lit 1))
set_option maxRecDepth 100000 in
theorem S_1172 : aSpec wd ct_1172 := bChk_ok wx_ok btX12_boxLong (nds := []) (fk := [7]) (rk := (1, [])) (sp := 0) (fuel := 3000) (by decide +kernel) (lk_d S_1154 ml_12_265 (lk_d S_1155 ml_12_265 (lk_d S_1156 ml_12_265 (lk_d S_1157 ml_12_265 (lk_d S_1171 ml_12_262 lk_n))))) odX12_boxLong
def ct_1173 : aCt := (mX12_decade, [ag_861, ag_1, ag_1], ([sl_2049], []), [pon_2042, pon_1837], mdn_869, [], (nat_lit 4))
set_option maxRecDepth 100000 in
theorem S_1173 : aSpec wd ct_1173 := bChk_ok wx_ok btX12_decade (nds := [((nat_lit 52), [lcn_898, lcn_695, lcn_696, lcn_2043, lcn_351, lcn_1899], [], [sl_867, sl_1428, sl_1431, sl_2049], [], (759, [(4, -10)])), ((nat_lit 61), [lcn_898, lcn_695, lcn_2044, lcn_2043, lcn_351, lcn_1897, lcn_596], [], [sl_867, sl_1428, sl_1431, sl_2049], [], (758, [(4, -10)])), ((nat_lit 61), [lcn_898, lcn_695, lcn_2044, lcn_2043, lcn_351, lcn_1897, lcn_1945, lcn_2045, lcn_2046], [], [sl_867, sl_1428, sl_1431, sl_2049, sl_1808], [], (757, [(4, -10)])), ((nat_lit 61), [lcn_898, lcn_695, lcn_2044, lcn_2043, lcn_351, lcn_1897, lcn_1946, lcn_2045, lcn_2046], [], [sl_867, sl_1428, sl_1431, sl_2049, sl_1991], [], (756, [(4, -10)])), ((nat_lit 61), [lcn_898, lcn_695, lcn_2044, lcn_2043, lcn_351, lcn_1897, lcn_1947, lcn_2045, lcn_2046], [], [sl_867, sl_1428, sl_1431, sl_2049, sl_1989], [], (755, [(4, -10)])), ((nat_lit 61), [lcn_898, lcn_695, lcn_2044, lcn_2043, lcn_351, lcn_1897, lcn_1948, lcn_2045, lcn_2046], [], [sl_867, sl_1428, sl_1431, sl_2049, sl_1987], [], (754, [(4, -10)])), ((nat_lit 61), [lcn_898, lcn_695, lcn_2044, lcn_2043, lcn_351, lcn_1897, lcn_1949, lcn_2045, lcn_2046], [], [sl_867, sl_1428, sl_1431, sl_2049, sl_1985], [], (753, [(4, -10)])), ((nat_lit 61), [lcn_898, lcn_695, lcn_2044, lcn_2043, lcn_351, lcn_1897, lcn_1950, lcn_2045, lcn_2046], [], [sl_867, sl_1428, sl_1431, sl_2049, sl_1983], [], (752, [(4, -10)])), ((nat_lit 61), [lcn_898, lcn_695, lcn_2044, lcn_2043, lcn_351, lcn_1897, lcn_1951, lcn_2045, lcn_2046], [], [sl_867, sl_1428, sl_1431, sl_2049, sl_1979], [], (751, [(4, -10)])), ((nat_lit 61), [lcn_898, lcn_695, lcn_2044, lcn_2043, lcn_351, lcn_1897, lcn_1952, lcn_2045, lcn_2046], [], [sl_867, sl_1428, sl_1431, sl_2049, sl_1977], [], (750, [(4, -10)]))]) (fk := []) (rk := (760, [])) (sp := 2310346608841064448) (fuel := 3000) (by decide +kernel) (lk_d S_447 ml_12_167 (lk_d S_1172 ml_12_284 (lk_d S_1170 ml_12_284 (lk_d S_1168 ml_12_284 (lk_d S_1166 ml_12_284 (lk_d S_1164 ml_12_284 (lk_d S_1162 ml_12_284 (lk_d S_1160 ml_12_284 (lk_d S_1158 ml_12_284 (lk_d S_908 ml_12_170 (lk_d S_449 ml_12_170 (lk_d S_1171 ml_12_262 (lk_d S_1169 ml_12_262 (lk_d S_1167 ml_12_262 (lk_d S_1165 ml_12_262 (lk_d S_1163 ml_12_262 (lk_d S_1161 ml_12_262 (lk_d S_1159 ml_12_262 (lk_d S_1153 ml_12_262 (lk_d S_930 ml_12_291 (lk_d S_1095 ml_12_149 (lk_d S_474 ml_12_149 lk_n)))))))))))))))))))))) odX12_decade
def sl_2050 : (Nat × Nat) × aI := (((nat_lit 199), (nat_lit 4)), [((.ofNat (nat_lit 5)), (.ofNat (nat_lit 5)), (nat_lit 1))])
def ct_1174 : aCt := (mX12_ofBox, [ag_861, ag_170, ag_53], ([sl_1431, sl_2050, sl_1808], []), [pon_606], [], [], (nat_lit 0))
set_option maxRecDepth 100000 in
theorem S_1174 : aSpec wd ct_1174 := bChk_ok wx_ok btX12_ofBox (nds := []) (fk := []) (rk := (1, [])) (sp := 0) (fuel := 3000) (by decide +kernel) lk_n odX12_ofBox
def ct_1175 : aCt := (mX12_songLong, [ag_861, ag_170], ([sl_2050], []), [pon_2041], [], [], (nat_lit 0))
set_option maxRecDepth 100000 in
theorem S_1175 : aSpec wd ct_1175 := bChk_ok wx_ok btX12_songLong (nds := []) (fk := []) (rk := (1, [])) (sp := 0) (fuel := 3000) (by decide +kernel) lk_n odX12_songLong
def ct_1176 : aCt := (mX12_songLong, [ag_861, ag_53], ([sl_2050], []), [pon_2041], [], [], (nat_lit 0))
set_option maxRecDepth 100000 in
theorem S_1176 : aSpec wd ct_1176 := bChk_ok wx_ok btX12_songLong (nds := []) (fk := []) (rk := (1, [])) (sp := 0) (fuel := 3000) (by decide +kernel) lk_n odX12_songLong
def ct_1177 : aCt := (mX12_songLong, [ag_861, ag_22], ([sl_2050], []), [pon_2041], [], [], (nat_lit 0))
set_option maxRecDepth 100000 in
theorem S_1177 : aSpec wd ct_1177 := bChk_ok wx_ok btX12_songLong (nds := []) (fk := []) (rk := (1, [])) (sp := 0) (fuel := 3000) (by decide +kernel) lk_n odX12_songLong
def ct_1178 : aCt := (mX12_songLong, [ag_861, ag_122], ([sl_2050], []), [pon_2041], [], [], (nat_lit 0))
set_option maxRecDepth 100000 in
theorem S_1178 : aSpec wd ct_1178 := bChk_ok wx_ok btX12_songLong (nds := []) (fk := []) (rk := (1, [])) (sp := 0) (fuel := 3000) (by decide +kernel) lk_n odX12_songLong
def ct_1179 : aCt := (mX12_songLong, [ag_861, ag_159], ([sl_2050], []), [pon_2041], [], [], (nat_lit 0))
set_option maxRecDepth 100000 in
theorem S_1179 : aSpec wd ct_1179 := bChk_ok wx_ok btX12_songLong (nds := []) (fk := []) (rk := (1, [])) (sp := 0) (fuel := 3000) (by decide +kernel) lk_n odX12_songLong
def ct_1180 : aCt := (mX12_boxLong, [ag_861, ag_170], ([sl_1431, sl_2050, sl_1808], []), [pon_2041], [], [], (nat_lit 1))
set_option maxRecDepth 100000 in
theorem S_1180 : aSpec wd ct_1180 := bChk_ok wx_ok btX12_boxLong (nds := []) (fk := [7]) (rk := (1, [])) (sp := 0) (fuel := 3000) (by decide +kernel) (lk_d S_1175 ml_12_265 (lk_d S_1176 ml_12_265 (lk_d S_1177 ml_12_265 (lk_d S_1178 ml_12_265 (lk_d S_1179 ml_12_265 (lk_d S_1174 ml_12_262 lk_n)))))) odX12_boxLong
def ct_1181 : aCt := (mX12_ofBox, [ag_861, ag_53, ag_53], ([sl_1431, sl_2050, sl_1991], []), [pon_606], [], [], (nat_lit 0))
set_option maxRecDepth 100000 in
theorem S_1181 : aSpec wd ct_1181 := bChk_ok wx_ok btX12_ofBox (nds := []) (fk := []) (rk := (1, [])) (sp := 0) (fuel := 3000) (by decide +kernel) lk_n odX12_ofBox
def ct_1182 : aCt := (mX12_boxLong, [ag_861, ag_53], ([sl_1431, sl_2050, sl_1991], []), [pon_2041], [], [], (nat_lit 1))
set_option maxRecDepth 100000 in
theorem S_1182 : aSpec wd ct_1182 := bChk_ok wx_ok btX12_boxLong (nds := []) (fk := [7]) (rk := (1, [])) (sp := 0) (fuel := 3000) (by decide +kernel) (lk_d S_1175 ml_12_265 (lk_d S_1176 ml_12_265 (lk_d S_1177 ml_12_265 (lk_d S_1178 ml_12_265 (lk_d S_1179 ml_12_265 (lk_d S_1181 ml_12_262 lk_n)))))) odX12_boxLong
def ct_1183 : aCt := (mX12_ofBox, [ag_861, ag_22, ag_53], ([sl_1431, sl_2050, sl_1989], []), [pon_606], [], [], (nat_lit 0))
set_option maxRecDepth 100000 in
theorem S_1183 : aSpec wd ct_1183 := bChk_ok wx_ok btX12_ofBox (nds := []) (fk := []) (rk := (1, [])) (sp := 0) (fuel := 3000) (by decide +kernel) lk_n odX12_ofBox
