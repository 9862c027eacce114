section Pk0
def ct_1184 : aCt := (mX12_boxLong, [ag_861, ag_22], ([sl_1431, sl_2050, sl_1989], []), [pon_2041], [], [], (nat_lit 1))
set_option maxRecDepth 100000 in
theorem S_1184 : aSpec wd ct_1184 := bChk_ok wx_ok btX12_boxLong (nds := []) (fk := [7]) (rk := (1, [])) (sp := 0) (fuel := 3000) (by decide +kernel) (lk_d S_1175 ml_12_265 (lk_d S_1176 ml_12_265 (lk_d S_1177 ml_12_265 (lk_d S_1178 ml_12_265 (lk_d S_1179 ml_12_265 (lk_d S_1183 ml_12_262 lk_n)))))) odX12_boxLong
def ct_1185 : aCt := (mX12_ofBox, [ag_861, ag_122, ag_53], ([sl_1431, sl_2050, sl_1987], []), [pon_606], [], [], (nat_lit 0))
set_option maxRecDepth 100000 in
theorem S_1185 : aSpec wd ct_1185 := bChk_ok wx_ok btX12_ofBox (nds := []) (fk := []) (rk := (1, [])) (sp := 0) (fuel := 3000) (by decide +kernel) lk_n odX12_ofBox
def ct_1186 : aCt := (mX12_boxLong, [ag_861, ag_122], ([sl_1431, sl_2050, sl_1987], []), [pon_2041], [], [], (nat_lit 1))
set_option maxRecDepth 100000 in
theorem S_1186 : aSpec wd ct_1186 := bChk_ok wx_ok btX12_boxLong (nds := []) (fk := [7]) (rk := (1, [])) (sp := 0) (fuel := 3000) (by decide +kernel) (lk_d S_1175 ml_12_265 (lk_d S_1176 ml_12_265 (lk_d S_1177 ml_12_265 (lk_d S_1178 ml_12_265 (lk_d S_1179 ml_12_265 (lk_d S_1185 ml_12_262 lk_n)))))) odX12_boxLong
def ct_1187 : aCt := (mX12_ofBox, [ag_861, ag_159, ag_53], ([sl_1431, sl_2050, sl_1985], []), [pon_606], [], [], (nat_lit 0))
set_option maxRecDepth 100000 in
theorem S_1187 : aSpec wd ct_1187 := bChk_ok wx_ok btX12_ofBox (nds := []) (fk := []) (rk := (1, [])) (sp := 0) (fuel := 3000) (by decide +kernel) lk_n odX12_ofBox
def ct_1188 : aCt := (mX12_boxLong, [ag_861, ag_159], ([sl_1431, sl_2050, sl_1985], []), [pon_2041], [], [], (nat_lit 1))
set_option maxRecDepth 100000 in
theorem S_1188 : aSpec wd ct_1188 := bChk_ok wx_ok btX12_boxLong (nds := []) (fk := [7]) (rk := (1, [])) (sp := 0) (fuel := 3000) (by decide +kernel) (lk_d S_1175 ml_12_265 (lk_d S_1176 ml_12_265 (lk_d S_1177 ml_12_265 (lk_d S_1178 ml_12_265 (lk_d S_1179 ml_12_265 (lk_d S_1187 ml_12_262 lk_n)))))) odX12_boxLong
def ct_1189 : aCt := (mX12_ofBox, [ag_861, ag_150, ag_53], ([sl_1431, sl_2050, sl_1983], []), [pon_606], [], [], (nat_lit 0))
set_option maxRecDepth 100000 in
theorem S_1189 : aSpec wd ct_1189 := bChk_ok wx_ok btX12_ofBox (nds := []) (fk := []) (rk := (1, [])) (sp := 0) (fuel := 3000) (by decide +kernel) lk_n odX12_ofBox
def ct_1190 : aCt := (mX12_boxLong, [ag_861, ag_150], ([sl_1431, sl_2050, sl_1983], []), [pon_2041], [], [], (nat_lit 1))
set_option maxRecDepth 100000 in
theorem S_1190 : aSpec wd ct_1190 := bChk_ok wx_ok btX12_boxLong (nds := []) (fk := [7]) (rk := (1, [])) (sp := 0) (fuel := 3000) (by decide +kernel) (lk_d S_1175 ml_12_265 (lk_d S_1176 ml_12_265 (lk_d S_1177 ml_12_265 (lk_d S_1178 ml_12_265 (lk_d S_1179 ml_12_265 (lk_d S_1189 ml_12_262 lk_n)))))) odX12_boxLong
def ct_1191 : aCt := (mX12_ofBox, [ag_861, ag_153, ag_53], ([sl_1431, sl_2050, sl_1979], []), [pon_606], [], [], (nat_lit 0))
set_option maxRecDepth 100000 in
theorem S_1191 : aSpec wd ct_1191 := bChk_ok wx_ok btX12_ofBox (nds := []) (fk := []) (rk := (1, [])) (sp := 0) (fuel := 3000) (by decide +kernel) lk_n odX12_ofBox
def ct_1192 : aCt := (mX12_boxLong, [ag_861, ag_153], ([sl_1431, sl_2050, sl_1979], []), [pon_2041], [], [], (nat_lit 1))
set_option maxRecDepth 100000 in
theorem S_1192 : aSpec wd ct_1192 := bChk_ok wx_ok btX12_boxLong (nds := []) (fk := [7]) (rk := (1, [])) (sp := 0) (fuel := 3000) (by decide +kernel) (lk_d S_1175 ml_12_265 (lk_d S_1176 ml_12_265 (lk_d S_1177 ml_12_265 (lk_d S_1178 ml_12_265 (lk_d S_1179 ml_12_265 (lk_d S_1191 ml_12_262 lk_n)))))) odX12_boxLong
def ct_1193 : aCt := (mX12_ofBox, [ag_861, ag_133, ag_53], ([sl_1431, sl_2050, sl_1977], []), [pon_606], [], [], (nat_lit 0))
set_option maxRecDepth 100000 in
theorem S_1193 : aSpec wd ct_1193 := bChk_ok wx_ok btX12_ofBox (nds := []) (fk := []) (rk := (1, [])) (sp := 0) (fuel := 3000) (by decide +kernel) lk_n odX12_ofBox
def ct_1194 : aCt := (mX12_boxLong, [ag_861, ag_133], ([sl_1431, sl_2050, sl_1977], []), [pon_2041], [], [], (nat_lit 1))
set_option maxRecDepth 100000 in
theorem S_1194 : aSpec wd ct_1194 := bChk_ok wx_ok btX12_boxLong (nds := []) (fk := [7]) (rk := (1, [])) (sp := 0) (fuel := 3000) (by decide +kernel) (lk_d S_1175 ml_12_265 (lk_d S_1176 ml_12_265 (lk_d S_1177 ml_12_265 (lk_d S_1178 ml_12_265 (lk_d S_1179 ml_12_265 (lk_d S_1193 ml_12_262 lk_n)))))) odX12_boxLong
def ct_1195 : aCt := (mX12_decade, [ag_861, ag_1, ag_1], ([sl_2050], []), [pon_2042, pon_1837], mdn_869, [], (nat_lit 4))
set_option maxRecDepth 100000 in
theorem S_1195 : aSpec wd ct_1195 := bChk_ok wx_ok btX12_decade (nds := [((nat_lit 52), [lcn_898, lcn_695, lcn_696, lcn_2043, lcn_351, lcn_1899], [], [sl_867, sl_1428, sl_1431, sl_2050], [], (759, [(4, -10)])), ((nat_lit 61), [lcn_898, lcn_695, lcn_2044, lcn_2043, lcn_351, lcn_1897, lcn_596], [], [sl_867, sl_1428, sl_1431, sl_2050], [], (758, [(4, -10)])), ((nat_lit 61), [lcn_898, lcn_695, lcn_2044, lcn_2043, lcn_351, lcn_1897, lcn_1945, lcn_2045, lcn_2046], [], [sl_867, sl_1428, sl_1431, sl_2050, sl_1808], [], (757, [(4, -10)])), ((nat_lit 61), [lcn_898, lcn_695, lcn_2044, lcn_2043, lcn_351, lcn_1897, lcn_1946, lcn_2045, lcn_2046], [], [sl_867, sl_1428, sl_1431, sl_2050, sl_1991], [], (756, [(4, -10)])), ((nat_lit 61), [lcn_898, lcn_695, lcn_2044, lcn_2043, lcn_351, lcn_1897, lcn_1947, lcn_2045, lcn_2046], [], [sl_867, sl_1428, sl_1431, sl_2050, sl_1989], [], (755, [(4, -10)])), ((nat_lit 61), [lcn_898, lcn_695, lcn_2044, lcn_2043, lcn_351, lcn_1897, lcn_1948, lcn_2045, lcn_2046], [], [sl_867, sl_1428, sl_1431, sl_2050, sl_1987], [], (754, [(4, -10)])), ((nat_lit 61), [lcn_898, lcn_695, lcn_2044, lcn_2043, lcn_351, lcn_1897, lcn_1949, lcn_2045, lcn_2046], [], [sl_867, sl_1428, sl_1431, sl_2050, sl_1985], [], (753, [(4, -10)])), ((nat_lit 61), [lcn_898, lcn_695, lcn_2044, lcn_2043, lcn_351, lcn_1897, lcn_1950, lcn_2045, lcn_2046], [], [sl_867, sl_1428, sl_1431, sl_2050, sl_1983], [], (752, [(4, -10)])), ((nat_lit 61), [lcn_898, lcn_695, lcn_2044, lcn_2043, lcn_351, lcn_1897, lcn_1951, lcn_2045, lcn_2046], [], [sl_867, sl_1428, sl_1431, sl_2050, sl_1979], [], (751, [(4, -10)])), ((nat_lit 61), [lcn_898, lcn_695, lcn_2044, lcn_2043, lcn_351, lcn_1897, lcn_1952, lcn_2045, lcn_2046], [], [sl_867, sl_1428, sl_1431, sl_2050, sl_1977], [], (750, [(4, -10)]))]) (fk := []) (rk := (760, [])) (sp := 2310346608841064448) (fuel := 3000) (by decide +kernel) (lk_d S_447 ml_12_167 (lk_d S_1194 ml_12_284 (lk_d S_1192 ml_12_284 (lk_d S_1190 ml_12_284 (lk_d S_1188 ml_12_284 (lk_d S_1186 ml_12_284 (lk_d S_1184 ml_12_284 (lk_d S_1182 ml_12_284 (lk_d S_1180 ml_12_284 (lk_d S_908 ml_12_170 (lk_d S_449 ml_12_170 (lk_d S_1193 ml_12_262 (lk_d S_1191 ml_12_262 (lk_d S_1189 ml_12_262 (lk_d S_1187 ml_12_262 (lk_d S_1185 ml_12_262 (lk_d S_1183 ml_12_262 (lk_d S_1181 ml_12_262 (lk_d S_1174 ml_12_262 (lk_d S_930 ml_12_291 (lk_d S_1095 ml_12_149 (lk_d S_474 ml_12_149 lk_n)))))))))))))))))))))) odX12_decade
def sl_2051 : (Nat × Nat) × aI := (((nat_lit 199), (nat_lit 4)), [((.ofNat (nat_lit 6)), (.ofNat (nat_lit 6)), (nat_lit 1))])
def pon_2052 : aPo := (some (.inl [((.ofNat (nat_lit 0)), (.ofNat (nat_lit 5)), (nat_lit 1))]), [], [], [])
def ct_1196 : aCt := (mX12_ofBox, [ag_861, ag_170, ag_53], ([sl_1431, sl_2051, sl_1808], []), [pon_2052], [], [], (nat_lit 0))
set_option maxRecDepth 100000 in
theorem S_1196 : aSpec wd ct_1196 := bChk_ok wx_ok btX12_ofBox (nds := []) (fk := []) (rk := (1, [])) (sp := 0) (fuel := 3000) (by decide +kernel) lk_n odX12_ofBox
def ct_1197 : aCt := (mX12_songLong, [ag_861, ag_170], ([sl_2051], []), [pon_2041], [], [], (nat_lit 0))
set_option maxRecDepth 100000 in
theorem S_1197 : aSpec wd ct_1197 := bChk_ok wx_ok btX12_songLong (nds := []) (fk := []) (rk := (1, [])) (sp := 0) (fuel := 3000) (by decide +kernel) lk_n odX12_songLong
def ct_1198 : aCt := (mX12_songLong, [ag_861, ag_53], ([sl_2051], []), [pon_2041], [], [], (nat_lit 0))
set_option maxRecDepth 100000 in
theorem S_1198 : aSpec wd ct_1198 := bChk_ok wx_ok btX12_songLong (nds := []) (fk := []) (rk := (1, [])) (sp := 0) (fuel := 3000) (by decide +kernel) lk_n odX12_songLong
def ct_1199 : aCt := (mX12_songLong, [ag_861, ag_22], ([sl_2051], []), [pon_2041], [], [], (nat_lit 0))
set_option maxRecDepth 100000 in
theorem S_1199 : aSpec wd ct_1199 := bChk_ok wx_ok btX12_songLong (nds := []) (fk := []) (rk := (1, [])) (sp := 0) (fuel := 3000) (by decide +kernel) lk_n odX12_songLong
def ct_1200 : aCt := (mX12_songLong, [ag_861, ag_122], ([sl_2051], []), [pon_2041], [], [], (nat_lit 0))
set_option maxRecDepth 100000 in
theorem S_1200 : aSpec wd ct_1200 := bChk_ok wx_ok btX12_songLong (nds := []) (fk := []) (rk := (1, [])) (sp := 0) (fuel := 3000) (by decide +kernel) lk_n odX12_songLong
def ct_1201 : aCt := (mX12_songLong, [ag_861, ag_159], ([sl_2051], []), [pon_2041], [], [], (nat_lit 0))
set_option maxRecDepth 100000 in
theorem S_1201 : aSpec wd ct_1201 := bChk_ok wx_ok btX12_songLong (nds := []) (fk := []) (rk := (1, [])) (sp := 0) (fuel := 3000) (by decide +kernel) lk_n odX12_songLong
def ct_1202 : aCt := (mX12_songLong, [ag_861, ag_150], ([sl_2051], []), [pon_2041], [], [], (nat_lit 0))
set_option maxRecDepth 100000 in
theorem S_1202 : aSpec wd ct_1202 := bChk_ok wx_ok btX12_songLong (nds := []) (fk := []) (rk := (1, [])) (sp := 0) (fuel := 3000) (by decide +kernel) lk_n odX12_songLong
def ct_1203 : aCt := (mX12_boxLong, [ag_861, ag_170], ([sl_1431, sl_2051, sl_1808], []), [pon_2041], [], [], (nat_lit 1))
set_option maxRecDepth 100000 in
theorem S_1203 : aSpec wd ct_1203 := bChk_ok wx_ok btX12_boxLong (nds := []) (fk := [7]) (rk := (1, [])) (sp := 0) (fuel := 3000) (by decide +kernel) (lk_d S_1197 ml_12_265 (lk_d S_1198 ml_12_265 (lk_d S_1199 ml_12_265 (lk_d S_1200 ml_12_265 (lk_d S_1201 ml_12_265 (lk_d S_1202 ml_12_265 (lk_d S_1196 ml_12_262 lk_n))))))) odX12_boxLong
def ct_1204 : aCt := (mX12_ofBox, [ag_861, ag_53, ag_53], ([sl_1431, sl_2051, sl_1991], []), [pon_2052], [], [], (nat_lit 0))
set_option maxRecDepth 100000 in
theorem S_1204 : aSpec wd ct_1204 := bChk_ok wx_ok btX12_ofBox (nds := []) (fk := []) (rk := (1, [])) (sp := 0) (fuel := 3000) (by decide +kernel) lk_n odX12_ofBox
def ct_1205 : aCt := (mX12_boxLong, [ag_861, ag_53], ([sl_1431, sl_2051, sl_1991], []), [pon_2041], [], [], (nat_lit 1))
set_option maxRecDepth 100000 in
theorem S_1205 : aSpec wd ct_1205 := bChk_ok wx_ok btX12_boxLong (nds := []) (fk := [7]) (rk := (1, [])) (sp := 0) (fuel := 3000) (by decide +kernel) (lk_d S_1197 ml_12_265 (lk_d S_1198 ml_12_265 (lk_d S_1199 ml_12_265 (lk_d S_1200 ml_12_265 (lk_d S_1201 ml_12_265 (lk_d S_1202 ml_12_265 (lk_d S_1204 ml_12_262 lk_n))))))) odX12_boxLong
def ct_1206 : aCt := (mX12_ofBox, [ag_861, ag_22, ag_53], ([sl_1431, sl_2051, sl_1989], []), [pon_2052], [], [], (nat_lit 0))
set_option maxRecDepth 100000 in
theorem S_1206 : aSpec wd ct_1206 := bChk_ok wx_ok btX12_ofBox (nds := []) (fk := []) (rk := (1, [])) (sp := 0) (fuel := 3000) (by decide +kernel) lk_n odX12_ofBox
def ct_1207 : aCt := (mX12_boxLong, [ag_861, ag_22], ([sl_1431, sl_2051, sl_1989], []), [pon_2041], [], [], (nat_lit 1))
set_option maxRecDepth 100000 in
theorem S_1207 : aSpec wd ct_1207 := bChk_ok wx_ok btX12_boxLong (nds := []) (fk := [7]) (rk := (1, [])) (sp := 0) (fuel := 3000) (by decide +kernel) (lk_d S_1197 ml_12_265 (lk_d S_1198 ml_12_265 (lk_d S_1199 ml_12_265 (lk_d S_1200 ml_12_265 (lk_d S_1201 ml_12_265 (lk_d S_1202 ml_12_265 (lk_d S_1206 ml_12_262 lk_n))))))) odX12_boxLong
def ct_1208 : aCt := (mX12_ofBox, [ag_861, ag_122, ag_53], ([sl_1431, sl_2051, sl_1987], []), [pon_2052], [], [], (nat_lit 0))
set_option maxRecDepth 100000 in
theorem S_1208 : aSpec wd ct_1208 := bChk_ok wx_ok btX12_ofBox (nds := []) (fk := []) (rk := (1, [])) (sp := 0) (fuel := 3000) (by decide +kernel) lk_n odX12_ofBox
def ct_1209 : aCt := (mX12_boxLong, [ag_861, ag_122], ([sl_1431, sl_2051, sl_1987], []), [pon_2041], [], [], (nat_lit 1))
set_option maxRecDepth 100000 in
theorem S_1209 : aSpec wd ct_1209 := bChk_ok wx_ok btX12_boxLong (nds := []) (fk := [7]) (rk := (1, [])) (sp := 0) (fuel := 3000) (by decide +kernel) (lk_d S_1197 ml_12_265 (lk_d S_1198 ml_12_265 (lk_d S_1199 ml_12_265 (lk_d S_1200 ml_12_265 (lk_d S_1201 ml_12_265 (lk_d S_1202 ml_12_265 (lk_d S_1208 ml_12_262 lk_n))))))) odX12_boxLong
def ct_1210 : aCt := (mX12_ofBox, [ag_861, ag_159, ag_53], ([sl_1431, sl_2051, sl_1985], []), [pon_2052], [], [], (nat_lit 0))
set_option maxRecDepth 100000 in
theorem S_1210 : aSpec wd ct_1210 := bChk_ok wx_ok btX12_ofBox (nds := []) (fk := []) (rk := (1, [])) (sp := 0) (fuel := 3000) (by decide +kernel) lk_n odX12_ofBox
def ct_1211 : aCt := (mX12_boxLong, [ag_861, ag_159], ([sl_1431, sl_2051, sl_1985], []), [pon_2041], [], [], (nat_lit 1))
set_option maxRecDepth 100000 in
theorem S_1211 : aSpec wd ct_1211 := bChk_ok wx_ok btX12_boxLong (nds := []) (fk := [7]) (rk := (1, [])) (sp := 0) (fuel := 3000) (by decide +kernel) (lk_d S_1197 ml_12_265 (lk_d S_1198 ml_12_265 (lk_d S_1199 ml_12_265 (lk_d S_1200 ml_12_265 (lk_d S_1201 ml_12_265 (lk_d S_1202 ml_12_265 (lk_d S_1210 ml_12_262 lk_n))))))) odX12_boxLong
def ct_1212 : aCt := (mX12_ofBox, [ag_861, ag_150, ag_53], ([sl_1431, sl_2051, sl_1983], []), [pon_2052], [], [], (nat_lit 0))
set_option maxRecDepth 100000 in
theorem S_1212 : aSpec wd ct_1212 := bChk_ok wx_ok btX12_ofBox (nds := []) (fk := []) (rk := (1, [])) (sp := 0) (fuel := 3000) (by decide +kernel) lk_n odX12_ofBox
def ct_1213 : aCt := (mX12_boxLong, [ag_861, ag_150], ([sl_1431, sl_2051, sl_1983], []), [pon_2041], [], [], (nat_lit 1))
set_option maxRecDepth 100000 in
theorem S_1213 : aSpec wd ct_1213 := bChk_ok wx_ok btX12_boxLong (nds := []) (fk := [7]) (rk := (1, [])) (sp := 0) (fuel := 3000) (by decide +kernel) (lk_d S_1197 ml_12_265 (lk_d S_1198 ml_12_265 (lk_d S_1199 ml_12_265 (lk_d S_1200 ml_12_265 (lk_d S_1201 ml_12_265 (lk_d S_1202 ml_12_265 (lk_d S_1212 ml_12_262 lk_n))))))) odX12_boxLong
def ct_1214 : aCt := (mX12_ofBox, [ag_861, ag_153, ag_53], ([sl_1431, sl_2051, sl_1979], []), [pon_2052], [], [], (nat_lit 0))
set_option maxRecDepth 100000 in
theorem S_1214 : aSpec wd ct_1214 := bChk_ok wx_ok btX12_ofBox (nds := []) (fk := []) (rk := (1, [])) (sp := 0) (fuel := 3000) (by decide +kernel) lk_n odX12_ofBox
def ct_1215 : aCt := (mX12_boxLong, [ag_861, ag_153], ([sl_1431, sl_2051, sl_1979], []), [pon_2041], [], [], (nat_lit 1))
set_option maxRecDepth 100000 in
theorem S_1215 : aSpec wd ct_1215 := bChk_ok wx_ok btX12_boxLong (nds := []) (fk := [7]) (rk := (1, [])) (sp := 0) (fuel := 3000) (by decide +kernel) (lk_d S_1197 ml_12_265 (lk_d S_1198 ml_12_265 (lk_d S_1199 ml_12_265 (lk_d S_1200 ml_12_265 (lk_d S_1201 ml_12_265 (lk_d S_1202 ml_12_265 (lk_d S_1214 ml_12_262 lk_n))))))) odX12_boxLong
def ct_1216 : aCt := (mX12_ofBox, [ag_861, ag_133, ag_53], ([sl_1431, sl_2051, sl_1977], []), [pon_2052], [], [], (nat_lit 0))
set_option maxRecDepth 100000 in
theorem S_1216 : aSpec wd ct_1216 := bChk_ok wx_ok btX12_ofBox (nds := []) (fk := []) (rk := (1, [])) (sp := 0) (fuel := 3000) (by decide +kernel) lk_n odX12_ofBox
def ct_1217 : aCt := (mX12_boxLong, [ag_861, ag_133], ([sl_1431, sl_2051, sl_1977], []), [pon_2041], [], [], (nat_lit 1))
set_option maxRecDepth 100000 in
theorem S_1217 : aSpec wd ct_1217 := bChk_ok wx_ok btX12_boxLong (nds := []) (fk := [7]) (rk := (1, [])) (sp := 0) (fuel := 3000) (by decide +kernel) (lk_d S_1197 ml_12_265 (lk_d S_1198 ml_12_265 (lk_d S_1199 ml_12_265 (lk_d S_1200 ml_12_265 (lk_d S_1201 ml_12_265 (lk_d S_1202 ml_12_265 (lk_d S_1216 ml_12_262 lk_n))))))) odX12_boxLong
def ct_1218 : aCt := (mX12_decade, [ag_861, ag_1, ag_1], ([sl_2051], []), [pon_2042, pon_1837], mdn_869, [], (nat_lit 4))
set_option maxRecDepth 100000 in
theorem S_1218 : aSpec wd ct_1218 := bChk_ok wx_ok btX12_decade (nds := [((nat_lit 52), [lcn_898, lcn_695, lcn_696, lcn_2043, lcn_351, lcn_1899], [], [sl_867, sl_1428, sl_1431, sl_2051], [], (759, [(4, -10)])), ((nat_lit 61), [lcn_898, lcn_695, lcn_2044, lcn_2043, lcn_351, lcn_1897, lcn_596], [], [sl_867, sl_1428, sl_1431, sl_2051], [], (758, [(4, -10)])), ((nat_lit 61), [lcn_898, lcn_695, lcn_2044, lcn_2043, lcn_351, lcn_1897, lcn_1945, lcn_2045, lcn_2046], [], [sl_867, sl_1428, sl_1431, sl_2051, sl_1808], [], (757, [(4, -10)])), ((nat_lit 61), [lcn_898, lcn_695, lcn_2044, lcn_2043, lcn_351, lcn_1897, lcn_1946, lcn_2045, lcn_2046], [], [sl_867, sl_1428, sl_1431, sl_2051, sl_1991], [], (756, [(4, -10)])), ((nat_lit 61), [lcn_898, lcn_695, lcn_2044, lcn_2043, lcn_351, lcn_1897, lcn_1947, lcn_2045, lcn_2046], [], [sl_867, sl_1428, sl_1431, sl_2051, sl_1989], [], (755, [(4, -10)])), ((nat_lit 61), [lcn_898, lcn_695, lcn_2044, lcn_2043, lcn_351, lcn_1897, lcn_1948, lcn_2045, lcn_2046], [], [sl_867, sl_1428, sl_1431, sl_2051, sl_1987], [], (754, [(4, -10)])), ((nat_lit 61), [lcn_898, lcn_695, lcn_2044, lcn_2043, lcn_351, lcn_1897, lcn_1949, lcn_2045, lcn_2046], [], [sl_867, sl_1428, sl_1431, sl_2051, sl_1985], [], (753, [(4, -10)])), ((nat_lit 61), [lcn_898, lcn_695, lcn_2044, lcn_2043, lcn_351, lcn_1897, lcn_1950, lcn_2045, lcn_2046], [], [sl_867, sl_1428, sl_1431, sl_2051, sl_1983], [], (752, [(4, -10)])), ((nat_lit 61), [lcn_898, lcn_695, lcn_2044, lcn_2043, lcn_351, lcn_1897, lcn_1951, lcn_2045, lcn_2046], [], [sl_867, sl_1428, sl_1431, sl_2051, sl_1979], [], (751, [(4, -10)])), ((nat_lit 61), [lcn_898, lcn_695, lcn_2044, lcn_2043, lcn_351, lcn_1897, lcn_1952, lcn_2045, lcn_2046], [], [sl_867, sl_1428, sl_1431, sl_2051, sl_1977], [], (750, [(4, -10)]))]) (fk := []) (rk := (760, [])) (sp := 2310346608841064448) (fuel := 3000) (by decide +kernel) (lk_d S_447 ml_12_167 (lk_d S_1217 ml_12_284 (lk_d S_1215 ml_12_284 (lk_d S_1213 ml_12_284 (lk_d S_1211 ml_12_284 (lk_d S_1209 ml_12_284 (lk_d S_1207 ml_12_284 (lk_d S_1205 ml_12_284 (lk_d S_1203 ml_12_284 (lk_d S_908 ml_12_170 (lk_d S_449 ml_12_170 (lk_d S_1216 ml_12_262 (lk_d S_1214 ml_12_262 (lk_d S_1212 ml_12_262 (lk_d S_1210 ml_12_262 (lk_d S_1208 ml_12_262 (lk_d S_1206 ml_12_262 (lk_d S_1204 ml_12_262 (lk_d S_1196 ml_12_262 (lk_d S_930 ml_12_291 (lk_d S_1095 ml_12_149 (lk_d S_474 ml_12_149 lk_n)))))))))))))))))))))) odX12_decade
def ct_1219 : aCt := (mX12_ofBox, [ag_861, ag_170, ag_53], ([sl_1431, sl_2015, sl_1808], []), [pon_264], [], [], (nat_lit 0))
set_option maxRecDepth 100000 in
theorem S_1219 : aSpec wd ct_1219 := bChk_ok wx_ok btX12_ofBox (nds := []) (fk := []) (rk := (1, [])) (sp := 0) (fuel := 3000) (by decide +kernel) lk_n odX12_ofBox
def ct_1220 : aCt := (mX12_songLong, [ag_861, ag_170], ([sl_2015], []), [pon_2041], [], [], (nat_lit 0))
set_option maxRecDepth 100000 in
theorem S_1220 : aSpec wd ct_1220 := bChk_ok wx_ok btX12_songLong (nds := []) (fk := []) (rk := (1, [])) (sp := 0) (fuel := 3000) (by decide +kernel) lk_n odX12_songLong
def ct_1221 : aCt := (mX12_songLong, [ag_861, ag_53], ([sl_2015], []), [pon_2041], [], [], (nat_lit 0))
set_option maxRecDepth 100000 in
theorem S_1221 : aSpec wd ct_1221 := bChk_ok wx_ok btX12_songLong (nds := []) (fk := []) (rk := (1, [])) (sp := 0) (fuel := 3000) (by decide +kernel) lk_n odX12_songLong
def ct_1222 : aCt := (mX12_songLong, [ag_861, ag_22], ([sl_2015], []), [pon_2041], [], [], (nat_lit 0))
set_option maxRecDepth 100000 in
theorem S_1222 : aSpec wd ct_1222 := bChk_ok wx_ok btX12_songLong (nds := []) (fk := []) (rk := (1, [])) (sp := 0) (fuel := 3000) (by decide +kernel) lk_n odX12_songLong
def ct_1223 : aCt := (mX12_songLong, [ag_861, ag_122], ([sl_2015], []), [pon_2041], [], [], (nat_lit 0))
set_option maxRecDepth 100000 in
theorem S_1223 : aSpec wd ct_1223 := bChk_ok wx_ok btX12_songLong (nds := []) (fk := []) (rk := (1, [])) (sp := 0) (fuel := 3000) (by decide +kernel) lk_n odX12_songLong
def ct_1224 : aCt := (mX12_songLong, [ag_861, ag_159], ([sl_2015], []), [pon_2041], [], [], (nat_lit 0))
set_option maxRecDepth 100000 in
theorem S_1224 : aSpec wd ct_1224 := bChk_ok wx_ok btX12_songLong (nds := []) (fk := []) (rk := (1, [])) (sp := 0) (fuel := 3000) (by decide +kernel) lk_n odX12_songLong
def ct_1225 : aCt := (mX12_songLong, [ag_861, ag_150], ([sl_2015], []), [pon_2041], [], [], (nat_lit 0))
set_option maxRecDepth 100000 in
theorem S_1225 : aSpec wd ct_1225 := bChk_ok wx_ok btX12_songLong (nds := []) (fk := []) (rk := (1, [])) (sp := 0) (fuel := 3000) (by decide +kernel) lk_n odX12_songLong
def ct_1226 : aCt := (mX12_songLong, [ag_861, ag_153], ([sl_2015], []), [pon_2041], [], [], (nat_lit 0))
set_option maxRecDepth 100000 in
theorem S_1226 : aSpec wd ct_1226 := bChk_ok wx_ok btX12_songLong (nds := []) (fk := []) (rk := (1, [])) (sp := 0) (fuel := 3000) (by decide +kernel) lk_n odX12_songLong
def ct_1227 : aCt := (mX12_boxLong, [ag_861, ag_170], ([sl_1431, sl_2015, sl_1808], []), [pon_2041], [], [], (nat_lit 1))
set_option maxRecDepth 100000 in
theorem S_1227 : aSpec wd ct_1227 := bChk_ok wx_ok btX12_boxLong (nds := []) (fk := [7]) (rk := (1, [])) (sp := 0) (fuel := 3000) (by decide +kernel) (lk_d S_1220 ml_12_265 (lk_d S_1221 ml_12_265 (lk_d S_1222 ml_12_265 (lk_d S_1223 ml_12_265 (lk_d S_1224 ml_12_265 (lk_d S_1225 ml_12_265 (lk_d S_1226 ml_12_265 (lk_d S_1219 ml_12_262 lk_n)))))))) odX12_boxLong
def ct_1228 : aCt := (mX12_ofBox, [ag_861, ag_53, ag_53], ([sl_1431, sl_2015, sl_1991], []), [pon_264], [], [], (nat_lit 0))
set_option maxRecDepth 100000 in
theorem S_1228 : aSpec wd ct_1228 := bChk_ok wx_ok btX12_ofBox (nds := []) (fk := []) (rk := (1, [])) (sp := 0) (fuel := 3000) (by decide +kernel) lk_n odX12_ofBox
def ct_1229 : aCt := (mX12_boxLong, [ag_861, ag_53], ([sl_1431, sl_2015, sl_1991], []), [pon_2041], [], [], (nat_lit 1))
set_option maxRecDepth 100000 in
theorem S_1229 : aSpec wd ct_1229 := bChk_ok wx_ok btX12_boxLong (nds := []) (fk := [7]) (rk := (1, [])) (sp := 0) (fuel := 3000) (by decide +kernel) (lk_d S_1220 ml_12_265 (lk_d S_1221 ml_12_265 (lk_d S_1222 ml_12_265 (lk_d S_1223 ml_12_265 (lk_d S_1224 ml_12_265 (lk_d S_1225 ml_12_265 (lk_d S_1226 ml_12_265 (lk_d S_1228 ml_12_262 lk_n)))))))) odX12_boxLong
def ct_1230 : aCt := (mX12_ofBox, [ag_861, ag_22, ag_53], ([sl_1431, sl_2015, sl_1989], []), [pon_264], [], [], (nat_lit 0))
set_option maxRecDepth 100000 in
theorem S_1230 : aSpec wd ct_1230 := bChk_ok wx_ok btX12_ofBox (nds := []) (fk := []) (rk := (1, [])) (sp := 0) (fuel := 3000) (by decide +kernel) lk_n odX12_ofBox
def ct_1231 : aCt := (mX12_boxLong, [ag_861, ag_22], ([sl_1431, sl_2015, sl_1989], []), [pon_2041], [], [], (nat_lit 1))
set_option maxRecDepth 100000 in
theorem S_1231 : aSpec wd ct_1231 := bChk_ok wx_ok btX12_boxLong (nds := []) (fk := [7]) (rk := (1, [])) (sp := 0) (fuel := 3000) (by decide +kernel) (lk_d S_1220 ml_12_265 (lk_d S_1221 ml_12_265 (lk_d S_1222 ml_12_265 (lk_d S_1223 ml_12_265 (lk_d S_1224 ml_12_265 (lk_d S_1225 ml_12_265 (lk_d S_1226 ml_12_265 (lk_d S_1230 ml_12_262 lk_n)))))))) odX12_boxLong
def ct_1232 : aCt := (mX12_ofBox, [ag_861, ag_122, ag_53], ([sl_1431, sl_2015, sl_1987], []), [pon_264], [], [], (nat_lit 0))
set_option maxRecDepth 100000 in
theorem S_1232 : aSpec wd ct_1232 := bChk_ok wx_ok btX12_ofBox (nds := []) (fk := []) (rk := (1, [])) (sp := 0) (fuel := 3000) (by decide +kernel) lk_n odX12_ofBox
def ct_1233 : aCt := (mX12_boxLong, [ag_861, ag_122], ([sl_1431, sl_2015, sl_1987], []), [pon_2041], [], [], (nat_lit 1))
set_option maxRecDepth 100000 in
theorem S_1233 : aSpec wd ct_1233 := bChk_ok wx_ok btX12_boxLong (nds := []) (fk := [7]) (rk := (1, [])) (sp := 0) (fuel := 3000) (by decide +kernel) (lk_d S_1220 ml_12_265 (lk_d S_1221 ml_12_265 (lk_d S_1222 ml_12_265 (lk_d S_1223 ml_12_265 (lk_d S_1224 ml_12_265 (lk_d S_1225 ml_12_265 (lk_d S_1226 ml_12_265 (lk_d S_1232 ml_12_262 lk_n)))))))) odX12_boxLong
def ct_1234 : aCt := (mX12_ofBox, [ag_861, ag_159, ag_53], ([sl_1431, sl_2015, sl_1985], []), [pon_264], [], [], (nat_lit 0))
set_option maxRecDepth 100000 in
theorem S_1234 : aSpec wd ct_1234 := bChk_ok wx_ok btX12_ofBox (nds := []) (fk := []) (rk := (1, [])) (sp := 0) (fuel := 3000) (by decide +kernel) lk_n odX12_ofBox
def ct_1235 : aCt := (mX12_boxLong, [ag_861, ag_159], ([sl_1431, sl_2015, sl_1985], []), [pon_2041], [], [], (nat_lit 1))
set_option maxRecDepth 100000 in
theorem S_1235 : aSpec wd ct_1235 := bChk_ok wx_ok btX12_boxLong (nds := []) (fk := [7]) (rk := (1, [])) (sp := 0) (fuel := 3000) (by decide +kernel) (lk_d S_1220 ml_12_265 (lk_d S_1221 ml_12_265 (lk_d S_1222 ml_12_265 (lk_d S_1223 ml_12_265 (lk_d S_1224 ml_12_265 (lk_d S_1225 ml_12_265 (lk_d S_1226 ml_12_265 (lk_d S_1234 ml_12_262 lk_n)))))))) odX12_boxLong
def ct_1236 : aCt := (mX12_ofBox, [ag_861, ag_150, ag_53], ([sl_1431, sl_2015, sl_1983], []), [pon_264], [], [], (nat_lit 0))
set_option maxRecDepth 100000 in
theorem S_1236 : aSpec wd ct_1236 := bChk_ok wx_ok btX12_ofBox (nds := []) (fk := []) (rk := (1, [])) (sp := 0) (fuel := 3000) (by decide +kernel) lk_n odX12_ofBox
def ct_1237 : aCt := (mX12_boxLong, [ag_861, ag_150], ([sl_1431, sl_2015, sl_1983], []), [pon_2041], [], [], (nat_lit 1))
set_option maxRecDepth 100000 in
theorem S_1237 : aSpec wd ct_1237 := bChk_ok wx_ok btX12_boxLong (nds := []) (fk := [7]) (rk := (1, [])) (sp := 0) (fuel := 3000) (by decide +kernel) (lk_d S_1220 ml_12_265 (lk_d S_1221 ml_12_265 (lk_d S_1222 ml_12_265 (lk_d S_1223 ml_12_265 (lk_d S_1224 ml_12_265 (lk_d S_1225 ml_12_265 (lk_d S_1226 ml_12_265 (lk_d S_1236 ml_12_262 lk_n)))))))) odX12_boxLong
def ct_1238 : aCt := (mX12_ofBox, [ag_861, ag_153, ag_53], ([sl_1431, sl_2015, sl_1979], []), [pon_264], [], [], (nat_lit 0))
set_option maxRecDepth 100000 in
theorem S_1238 : aSpec wd ct_1238 := bChk_ok wx_ok btX12_ofBox (nds := []) (fk := []) (rk := (1, [])) (sp := 0) (fuel := 3000) (by decide +kernel) lk_n odX12_ofBox
def ct_1239 : aCt := (mX12_boxLong, [ag_861, ag_153], ([sl_1431, sl_2015, sl_1979], []), [pon_2041], [], [], (nat_lit 1))
set_option maxRecDepth 100000 in
theorem S_1239 : aSpec wd ct_1239 := bChk_ok wx_ok btX12_boxLong (nds := []) (fk := [7]) (rk := (1, [])) (sp := 0) (fuel := 3000) (by decide +kernel) (lk_d S_1220 ml_12_265 (lk_d S_1221 ml_12_265 (lk_d S_1222 ml_12_265 (lk_d S_1223 ml_12_265 (lk_d S_1224 ml_12_265 (lk_d S_1225 ml_12_265 (lk_d S_1226 ml_12_265 (lk_d S_1238 ml_12_262 lk_n)))))))) odX12_boxLong
def ct_1240 : aCt := (mX12_ofBox, [ag_861, ag_133, ag_53], ([sl_1431, sl_2015, sl_1977], []), [pon_264], [], [], (nat_lit 0))
set_option maxRecDepth 100000 in
theorem S_1240 : aSpec wd ct_1240 := bChk_ok wx_ok btX12_ofBox (nds := []) (fk := []) (rk := (1, [])) (sp := 0) (fuel := 3000) (by decide +kernel) lk_n odX12_ofBox
def ct_1241 : aCt := (mX12_boxLong, [ag_861, ag_133], ([sl_1431, sl_2015, sl_1977], []), [pon_2041], [], [], (nat_lit 1))
set_option maxRecDepth 100000 in
theorem S_1241 : aSpec wd ct_1241 := bChk_ok wx_ok btX12_boxLong (nds := []) (fk := [7]) (rk := (1, [])) (sp := 0) (fuel := 3000) (by decide +kernel) (lk_d S_1220 ml_12_265 (lk_d S_1221 ml_12_265 (lk_d S_1222 ml_12_265 (lk_d S_1223 ml_12_265 (lk_d S_1224 ml_12_265 (lk_d S_1225 ml_12_265 (lk_d S_1226 ml_12_265 (lk_d S_1240 ml_12_262 lk_n)))))))) odX12_boxLong
def ct_1242 : aCt := (mX12_decade, [ag_861, ag_1, ag_1], ([sl_2015], []), [pon_2042, pon_1837], mdn_869, [], (nat_lit 4))
set_option maxRecDepth 100000 in
theorem S_1242 : aSpec wd ct_1242 := bChk_ok wx_ok btX12_decade (nds := [((nat_lit 52), [lcn_898, lcn_695, lcn_696, lcn_2043, lcn_351, lcn_1899], [], [sl_867, sl_1428, sl_1431, sl_2015], [], (759, [(4, -10)])), ((nat_lit 61), [lcn_898, lcn_695, lcn_2044, lcn_2043, lcn_351, lcn_1897, lcn_596], [], [sl_867, sl_1428, sl_1431, sl_2015], [], (758, [(4, -10)])), ((nat_lit 61), [lcn_898, lcn_695, lcn_2044, lcn_2043, lcn_351, lcn_1897, lcn_1945, lcn_2045, lcn_2046], [], [sl_867, sl_1428, sl_1431, sl_2015, sl_1808], [], (757, [(4, -10)])), ((nat_lit 61), [lcn_898, lcn_695, lcn_2044, lcn_2043, lcn_351, lcn_1897, lcn_1946, lcn_2045, lcn_2046], [], [sl_867, sl_1428, sl_1431, sl_2015, sl_1991], [], (756, [(4, -10)])), ((nat_lit 61), [lcn_898, lcn_695, lcn_2044, lcn_2043, lcn_351, lcn_1897, lcn_1947, lcn_2045, lcn_2046], [], [sl_867, sl_1428, sl_1431, sl_2015, sl_1989], [], (755, [(4, -10)])), ((nat_lit 61), [lcn_898, lcn_695, lcn_2044, lcn_2043, lcn_351, lcn_1897, lcn_1948, lcn_2045, lcn_2046], [], [sl_867, sl_1428, sl_1431, sl_2015, sl_1987], [], (754, [(4, -10)])), ((nat_lit 61), [lcn_898, lcn_695, lcn_2044, lcn_2043, lcn_351, lcn_1897, lcn_1949, lcn_2045, lcn_2046], [], [sl_867, sl_1428, sl_1431, sl_2015, sl_1985], [], (753, [(4, -10)])), ((nat_lit 61), [lcn_898, lcn_695, lcn_2044, lcn_2043, lcn_351, lcn_1897, lcn_1950, lcn_2045, lcn_2046], [], [sl_867, sl_1428, sl_1431, sl_2015, sl_1983], [], (752, [(4, -10)])), ((nat_lit 61), [lcn_898, lcn_695, lcn_2044, lcn_2043, lcn_351, lcn_1897, lcn_1951, lcn_2045, lcn_2046], [], [sl_867, sl_1428, sl_1431, sl_2015, sl_1979], [], (751, [(4, -10)])), ((nat_lit 61), [lcn_898, lcn_695, lcn_2044, lcn_2043, lcn_351, lcn_1897, lcn_1952, lcn_2045, lcn_2046], [], [sl_867, sl_1428, sl_1431, sl_2015, sl_1977], [], (750, [(4, -10)]))]) (fk := []) (rk := (760, [])) (sp := 2310346608841064448) (fuel := 3000) (by decide +kernel) (lk_d S_447 ml_12_167 (lk_d S_1241 ml_12_284 (lk_d S_1239 ml_12_284 (lk_d S_1237 ml_12_284 (lk_d S_1235 ml_12_284 (lk_d S_1233 ml_12_284 (lk_d S_1231 ml_12_284 (lk_d S_1229 ml_12_284 (lk_d S_1227 ml_12_284 (lk_d S_908 ml_12_170 (lk_d S_449 ml_12_170 (lk_d S_1240 ml_12_262 (lk_d S_1238 ml_12_262 (lk_d S_1236 ml_12_262 (lk_d S_1234 ml_12_262 (lk_d S_1232 ml_12_262 (lk_d S_1230 ml_12_262 (lk_d S_1228 ml_12_262 (lk_d S_1219 ml_12_262 (lk_d S_930 ml_12_291 (lk_d S_1095 ml_12_149 (lk_d S_474 ml_12_149 lk_n)))))))))))))))))))))) odX12_decade
def ag_2053 : aAg := .inl [((.ofNat (nat_lit 1)), (.ofNat (nat_lit 3)), (nat_lit 1))]
def ct_1243 : aCt := (mX12_in, [ag_1, ag_170, ag_2053], ([], []), [pon_1863, pon_930], mdn_872, [], (nat_lit 0))
set_option maxRecDepth 100000 in
theorem S_1243 : aSpec wd ct_1243 := bChk_ok wx_ok btX12_in (nds := []) (fk := []) (rk := (1, [])) (sp := 0) (fuel := 3000) (by decide +kernel) lk_n odX12_in
def sl_2054 : (Nat × Nat) × aI := (((nat_lit 196), (nat_lit 11)), [((.ofNat (nat_lit 5)), (.ofNat (nat_lit 5)), (nat_lit 1))])
def pon_2055 : aPo := (some (.inl [((.ofNat (nat_lit 0)), (.ofNat (nat_lit 0)), (nat_lit 1))]), [], [sl_2054], [])
set_option maxRecDepth 100000 in
theorem btX12_isNot : bTab oX12_isNot tX12_isNot := ⟨ofX12_isNot, by decide +kernel⟩
def ct_1244 : aCt := (mX12_isNot, [ag_861, ag_150], ([sl_867], []), [pon_2055], mdn_875, [], (nat_lit 0))
set_option maxRecDepth 100000 in
theorem S_1244 : aSpec wd ct_1244 := bChk_ok wx_ok btX12_isNot (nds := []) (fk := []) (rk := (1, [])) (sp := 0) (fuel := 3000) (by decide +kernel) lk_n odX12_isNot
def pon_2056 : aPo := (some (.inl [((.ofNat (nat_lit 0)), (.ofNat (nat_lit 0)), (nat_lit 1))]), [], [sl_873], [])
def ct_1245 : aCt := (mX12_isNot, [ag_861, ag_22], ([sl_867], []), [pon_2056], mdn_875, [], (nat_lit 0))
set_option maxRecDepth 100000 in
theorem S_1245 : aSpec wd ct_1245 := bChk_ok wx_ok btX12_isNot (nds := []) (fk := []) (rk := (1, [])) (sp := 0) (fuel := 3000) (by decide +kernel) lk_n odX12_isNot
def pon_2057 : aPo := (some (.inl [((.ofNat (nat_lit 0)), (.ofNat (nat_lit 0)), (nat_lit 1))]), [], [sl_1803], [])
def ct_1246 : aCt := (mX12_isNot, [ag_861, ag_53], ([sl_867], []), [pon_2057], mdn_875, [], (nat_lit 0))
set_option maxRecDepth 100000 in
theorem S_1246 : aSpec wd ct_1246 := bChk_ok wx_ok btX12_isNot (nds := []) (fk := []) (rk := (1, [])) (sp := 0) (fuel := 3000) (by decide +kernel) lk_n odX12_isNot
def sl_2058 : (Nat × Nat) × aI := (((nat_lit 196), (nat_lit 11)), [((.ofNat (nat_lit 1)), (.ofNat (nat_lit 2)), (nat_lit 1)), ((.ofNat (nat_lit 5)), (.ofNat (nat_lit 5)), (nat_lit 1))])
def pon_2059 : aPo := (some (.inl [((.ofNat (nat_lit 0)), (.ofNat (nat_lit 0)), (nat_lit 1))]), [], [sl_2058], [])
def sl_2060 : (Nat × Nat) × aI := (((nat_lit 196), (nat_lit 20)), [((.ofNat (nat_lit 1)), (.ofNat (nat_lit 12)), (nat_lit 1))])
def pon_2061 : aPo := (some (.inl [((.ofNat (nat_lit 1)), (.ofNat (nat_lit 1)), (nat_lit 1))]), [none, some [((.ofNat (nat_lit 0)), (.ofNat (nat_lit 7)), (nat_lit 1))], some [((.ofNat (nat_lit 0)), (.ofNat (nat_lit 5)), (nat_lit 1))], some [((.ofNat (nat_lit 0)), (.ofNat (nat_lit 3)), (nat_lit 1))]], [sl_867, sl_1428, sl_2060, sl_1431, sl_1432, sl_1808], [])
def mdn_2062 : List (Nat × Nat × Nat) := [((nat_lit 196), (nat_lit 0), (nat_lit 1)), ((nat_lit 196), (nat_lit 11), (nat_lit 12)), ((nat_lit 196), (nat_lit 20), (nat_lit 21)), ((nat_lit 201), (nat_lit 28), (nat_lit 76)), ((nat_lit 202), (nat_lit 0), (nat_lit 912))]
set_option maxRecDepth 100000 in
theorem btX12_tune : bTab oX12_tune tX12_tune := ⟨ofX12_tune, by decide +kernel⟩
def ct_1247 : aCt := (mX12_tune, [ag_861, ag_1, ag_1, ag_1], ([], []), [pon_2059, pon_2061], mdn_2062, [], (nat_lit 3))
set_option maxRecDepth 100000 in
theorem S_1247 : aSpec wd ct_1247 := bChk_ok wx_ok btX12_tune (nds := []) (fk := []) (rk := (1, [])) (sp := 0) (fuel := 3000) (by decide +kernel) (lk_d S_447 ml_12_167 (lk_d S_X12_note1_0 ml_12_424 (lk_d S_1244 ml_12_427 (lk_d S_1245 ml_12_427 (lk_d S_1246 ml_12_427 (lk_d S_923 ml_12_284 (lk_d S_911 ml_12_274 (lk_d S_1243 ml_12_149 (lk_d S_919 ml_12_149 lk_n))))))))) odX12_tune
def sl_2063 : (Nat × Nat) × aI := (((nat_lit 196), (nat_lit 11)), [((.ofNat (nat_lit 3)), (.ofNat (nat_lit 3)), (nat_lit 1))])
def pon_2064 : aPo := (some (.inl [((.negSucc (nat_lit 0)), (.negSucc (nat_lit 0)), (nat_lit 1))]), [], [sl_2063], [])
def ct_1248 : aCt := (mX12_no, [ag_861, ag_122], ([sl_867], []), [pon_2064], mdn_875, [], (nat_lit 0))
set_option maxRecDepth 100000 in
theorem S_1248 : aSpec wd ct_1248 := bChk_ok wx_ok btX12_no (nds := []) (fk := []) (rk := (1, [])) (sp := 0) (fuel := 3000) (by decide +kernel) lk_n odX12_no
def pon_2065 : aPo := (some (.inl [((.ofNat (nat_lit 1)), (.ofNat (nat_lit 9999)), (nat_lit 1))]), [none, some [((.ofNat (nat_lit 1)), (.ofNat (nat_lit 99)), (nat_lit 1))]], [sl_867, sl_1428, sl_2060, sl_1431, sl_1432], [])
def sl_2066 : (Nat × Nat) × aI := (((nat_lit 196), (nat_lit 11)), [((.ofNat (nat_lit 1)), (.ofNat (nat_lit 3)), (nat_lit 1))])
def pon_2067 : aPo := (some (.inl [((.negSucc (nat_lit 0)), (.negSucc (nat_lit 0)), (nat_lit 1))]), [], [sl_2066], [])
def mdn_2068 : List (Nat × Nat × Nat) := [((nat_lit 196), (nat_lit 0), (nat_lit 1)), ((nat_lit 196), (nat_lit 11), (nat_lit 12)), ((nat_lit 196), (nat_lit 20), (nat_lit 21)), ((nat_lit 201), (nat_lit 0), (nat_lit 1)), ((nat_lit 202), (nat_lit 0), (nat_lit 912))]
set_option maxRecDepth 100000 in
theorem btX12_years : bTab oX12_years tX12_years := ⟨ofX12_years, by decide +kernel⟩
def ct_1249 : aCt := (mX12_years, [ag_861, ag_1], ([], []), [pon_2065, pon_2067], mdn_2068, [], (nat_lit 3))
set_option maxRecDepth 100000 in
theorem S_1249 : aSpec wd ct_1249 := bChk_ok wx_ok btX12_years (nds := []) (fk := [40]) (rk := (1, [])) (sp := 0) (fuel := 3000) (by decide +kernel) (lk_d S_447 ml_12_167 (lk_d S_X12_note1_0 ml_12_424 (lk_d S_908 ml_12_170 (lk_d S_1248 ml_12_170 (lk_d S_449 ml_12_170 (lk_d S_589 ml_12_149 lk_n)))))) odX12_years
end Pk0
section Pk1
def ag_2069 : aAg := .inl [((.negSucc (nat_lit 0)), (.ofNat (nat_lit 11)), (nat_lit 1))]
def pon_2070 : aPo := (some (.inl [((.ofNat (nat_lit 1)), (.ofNat (nat_lit 1)), (nat_lit 1))]), [some [((.ofNat (nat_lit 0)), (.ofNat (nat_lit 11)), (nat_lit 1))], none, some [((.ofNat (nat_lit 0)), (.ofNat (nat_lit 11)), (nat_lit 1))]], [], [])
def ct_1250 : aCt := (mX12_in, [ag_1, ag_170, ag_2069], ([], []), [pon_1198, pon_2070], mdn_872, [], (nat_lit 0))
set_option maxRecDepth 100000 in
theorem S_1250 : aSpec wd ct_1250 := bChk_ok wx_ok btX12_in (nds := []) (fk := []) (rk := (1, [])) (sp := 0) (fuel := 3000) (by decide +kernel) lk_n odX12_in
def sl_2071 : (Nat × Nat) × aI := (((nat_lit 196), (nat_lit 11)), [((.ofNat (nat_lit 1)), (.ofNat (nat_lit 1)), (nat_lit 1)), ((.ofNat (nat_lit 5)), (.ofNat (nat_lit 5)), (nat_lit 1))])
def pon_2072 : aPo := (some (.inl [((.ofNat (nat_lit 0)), (.ofNat (nat_lit 0)), (nat_lit 1))]), [], [sl_2071], [])
def pon_2073 : aPo := (some (.inl [((.ofNat (nat_lit 1)), (.ofNat (nat_lit 1)), (nat_lit 1))]), [none, some [((.ofNat (nat_lit 0)), (.ofNat (nat_lit 11)), (nat_lit 1))], some [((.ofNat (nat_lit 0)), (.ofNat (nat_lit 1)), (nat_lit 1))]], [sl_867, sl_1428, sl_2060, sl_1431, sl_1432, sl_1829], [])
def mdn_2074 : List (Nat × Nat × Nat) := [((nat_lit 196), (nat_lit 0), (nat_lit 1)), ((nat_lit 196), (nat_lit 11), (nat_lit 12)), ((nat_lit 196), (nat_lit 20), (nat_lit 21)), ((nat_lit 201), (nat_lit 1), (nat_lit 2)), ((nat_lit 202), (nat_lit 0), (nat_lit 912))]
set_option maxRecDepth 100000 in
theorem btX12_close : bTab oX12_close tX12_close := ⟨ofX12_close, by decide +kernel⟩
def ct_1251 : aCt := (mX12_close, [ag_861, ag_1, ag_535], ([], []), [pon_2072, pon_2073], mdn_2074, [], (nat_lit 3))
set_option maxRecDepth 100000 in
theorem S_1251 : aSpec wd ct_1251 := bChk_ok wx_ok btX12_close (nds := []) (fk := []) (rk := (1, [])) (sp := 0) (fuel := 3000) (by decide +kernel) (lk_d S_447 ml_12_167 (lk_d S_X12_note1_0 ml_12_424 (lk_d S_1244 ml_12_427 (lk_d S_1246 ml_12_427 (lk_d S_936 ml_12_302 (lk_d S_1250 ml_12_149 lk_n)))))) odX12_close
def pon_2075 : aPo := (some (.inl [((.ofNat (nat_lit 0)), (.ofNat (nat_lit 0)), (nat_lit 1))]), [], [sl_1973], [])
def ct_1252 : aCt := (mX12_isNot, [ag_861, ag_153], ([sl_867], []), [pon_2075], mdn_875, [], (nat_lit 0))
set_option maxRecDepth 100000 in
theorem S_1252 : aSpec wd ct_1252 := bChk_ok wx_ok btX12_isNot (nds := []) (fk := []) (rk := (1, [])) (sp := 0) (fuel := 3000) (by decide +kernel) lk_n odX12_isNot
def pon_2076 : aPo := (some (.inl [((.ofNat (nat_lit 0)), (.ofNat (nat_lit 0)), (nat_lit 1))]), [], [sl_1973, sl_1429], [])
def sl_2077 : (Nat × Nat) × aI := (((nat_lit 196), (nat_lit 20)), [((.ofNat (nat_lit 0)), (.ofNat (nat_lit 11)), (nat_lit 1))])
def pon_2078 : aPo := (some (.inl [((.ofNat (nat_lit 1)), (.ofNat (nat_lit 1)), (nat_lit 1))]), [], [sl_867, sl_2077], [])
def mdn_2079 : List (Nat × Nat × Nat) := [((nat_lit 196), (nat_lit 0), (nat_lit 1)), ((nat_lit 196), (nat_lit 11), (nat_lit 12)), ((nat_lit 196), (nat_lit 20), (nat_lit 21)), ((nat_lit 201), (nat_lit 0), (nat_lit 76))]
set_option maxRecDepth 100000 in
theorem btX12_undo : bTab oX12_undo tX12_undo := ⟨ofX12_undo, by decide +kernel⟩
def ct_1253 : aCt := (mX12_undo, [ag_861], ([], []), [pon_2076, pon_2078], mdn_2079, [], (nat_lit 2))
set_option maxRecDepth 100000 in
theorem S_1253 : aSpec wd ct_1253 := bChk_ok wx_ok btX12_undo (nds := []) (fk := []) (rk := (1, [])) (sp := 0) (fuel := 3000) (by decide +kernel) (lk_d S_447 ml_12_167 (lk_d S_1252 ml_12_427 (lk_d S_X12_copy_32 ml_12_176 lk_n))) odX12_undo
def sl_2080 : (Nat × Nat) × aI := (((nat_lit 196), (nat_lit 21)), [((.ofNat (nat_lit 1)), (.ofNat (nat_lit 3)), (nat_lit 1))])
def pon_2081 : aPo := (some (.inl [((.ofNat (nat_lit 0)), (.ofNat (nat_lit 2)), (nat_lit 1))]), [], [sl_867, sl_1428, sl_2080, sl_1431, sl_1432], [])
def sl_2082 : (Nat × Nat) × aI := (((nat_lit 196), (nat_lit 11)), [((.ofNat (nat_lit 1)), (.ofNat (nat_lit 1)), (nat_lit 1)), ((.ofNat (nat_lit 3)), (.ofNat (nat_lit 3)), (nat_lit 1))])
def pon_2083 : aPo := (some (.inl [((.negSucc (nat_lit 0)), (.negSucc (nat_lit 0)), (nat_lit 1))]), [], [sl_2082], [])
def mdn_2084 : List (Nat × Nat × Nat) := [((nat_lit 196), (nat_lit 0), (nat_lit 1)), ((nat_lit 196), (nat_lit 11), (nat_lit 12)), ((nat_lit 196), (nat_lit 21), (nat_lit 22)), ((nat_lit 203), (nat_lit 0), (nat_lit 228))]
set_option maxRecDepth 100000 in
theorem btX12_image : bTab oX12_image tX12_image := ⟨ofX12_image, by decide +kernel⟩
def ct_1254 : aCt := (mX12_image, [ag_861], ([], []), [pon_2081, pon_2083], mdn_2084, [], (nat_lit 2))
set_option maxRecDepth 100000 in
theorem S_1254 : aSpec wd ct_1254 := bChk_ok wx_ok btX12_image (nds := []) (fk := []) (rk := (1, [])) (sp := 0) (fuel := 3000) (by decide +kernel) (lk_d S_447 ml_12_167 (lk_d S_908 ml_12_170 (lk_d S_1248 ml_12_170 (lk_d S_X12_copy_33 ml_12_176 lk_n)))) odX12_image
def ag_2085 : aAg := .inl [((.negSucc (nat_lit 0)), (.ofNat (nat_lit 2)), (nat_lit 1))]
def pon_2086 : aPo := (some (.inl [((.ofNat (nat_lit 1)), (.ofNat (nat_lit 1)), (nat_lit 1))]), [some [((.ofNat (nat_lit 0)), (.ofNat (nat_lit 2)), (nat_lit 1))], none, some [((.ofNat (nat_lit 0)), (.ofNat (nat_lit 2)), (nat_lit 1))]], [], [])
def ct_1255 : aCt := (mX12_in, [ag_1, ag_170, ag_2085], ([], []), [pon_1198, pon_2086], mdn_872, [], (nat_lit 0))
set_option maxRecDepth 100000 in
theorem S_1255 : aSpec wd ct_1255 := bChk_ok wx_ok btX12_in (nds := []) (fk := []) (rk := (1, [])) (sp := 0) (fuel := 3000) (by decide +kernel) lk_n odX12_in
def pon_2087 : aPo := (some (.inl [((.ofNat (nat_lit 1)), (.ofNat (nat_lit 1)), (nat_lit 1))]), [none, some [((.ofNat (nat_lit 0)), (.ofNat (nat_lit 2)), (nat_lit 1))]], [sl_867, sl_1429, sl_2080], [])
set_option maxRecDepth 100000 in
theorem btX12_back : bTab oX12_back tX12_back := ⟨ofX12_back, by decide +kernel⟩
def ct_1256 : aCt := (mX12_back, [ag_861, ag_1], ([], []), [pon_2057, pon_2087], mdn_2079, [], (nat_lit 2))
set_option maxRecDepth 100000 in
theorem S_1256 : aSpec wd ct_1256 := bChk_ok wx_ok btX12_back (nds := []) (fk := []) (rk := (1, [])) (sp := 0) (fuel := 3000) (by decide +kernel) (lk_d S_447 ml_12_167 (lk_d S_1246 ml_12_427 (lk_d S_X12_copy_34 ml_12_176 (lk_d S_1255 ml_12_149 lk_n)))) odX12_back
def ag_2088 : aAg := .inl [((.negSucc (nat_lit 2147483647)), (.ofNat (nat_lit 11)), (nat_lit 1)), ((.ofNat (nat_lit 13)), (.ofNat (nat_lit 2147483647)), (nat_lit 1))]
def pon_2089 : aPo := (some (.inl [((.ofNat (nat_lit 0)), (.ofNat (nat_lit 0)), (nat_lit 1))]), [some [((.negSucc (nat_lit 2147483647)), (.negSucc (nat_lit 0)), (nat_lit 1)), ((.ofNat (nat_lit 13)), (.ofNat (nat_lit 2147483647)), (nat_lit 1))], none, none], [], [])
def ct_1257 : aCt := (mX12_in, [ag_2088, ag_170, ag_1192], ([], []), [pon_2089, pon_1839], mdn_872, [], (nat_lit 0))
set_option maxRecDepth 100000 in
theorem S_1257 : aSpec wd ct_1257 := bChk_ok wx_ok btX12_in (nds := []) (fk := []) (rk := (1, [])) (sp := 0) (fuel := 3000) (by decide +kernel) lk_n odX12_in
def pon_2090 : aPo := (some (.inl [((.ofNat (nat_lit 0)), (.ofNat (nat_lit 0)), (nat_lit 1))]), [some [((.negSucc (nat_lit 2147483647)), (.negSucc (nat_lit 0)), (nat_lit 1)), ((.ofNat (nat_lit 9)), (.ofNat (nat_lit 11)), (nat_lit 1)), ((.ofNat (nat_lit 13)), (.ofNat (nat_lit 2147483647)), (nat_lit 1))], none, none], [], [])
def ct_1258 : aCt := (mX12_in, [ag_2088, ag_170, ag_1849], ([], []), [pon_2090, pon_1851], mdn_872, [], (nat_lit 0))
set_option maxRecDepth 100000 in
theorem S_1258 : aSpec wd ct_1258 := bChk_ok wx_ok btX12_in (nds := []) (fk := []) (rk := (1, [])) (sp := 0) (fuel := 3000) (by decide +kernel) lk_n odX12_in
def pon_2091 : aPo := (some (.inl [((.negSucc (nat_lit 0)), (.negSucc (nat_lit 0)), (nat_lit 1))]), [none, some [((.negSucc (nat_lit 2147483647)), (.ofNat (nat_lit 11)), (nat_lit 1)), ((.ofNat (nat_lit 13)), (.ofNat (nat_lit 2147483647)), (nat_lit 1))]], [], [])
def pon_2092 : aPo := (some (.inl [((.ofNat (nat_lit 0)), (.ofNat (nat_lit 0)), (nat_lit 1))]), [none, some [((.ofNat (nat_lit 0)), (.ofNat (nat_lit 11)), (nat_lit 1))]], [sl_1871], [])
set_option maxRecDepth 100000 in
theorem btX12_size : bTab oX12_size tX12_size := ⟨ofX12_size, by decide +kernel⟩
def ct_1259 : aCt := (mX12_size, [ag_861, ag_1], ([], []), [pon_739, pon_2091, pon_2092], mdn_1793, [], (nat_lit 1))
set_option maxRecDepth 100000 in
theorem S_1259 : aSpec wd ct_1259 := bChk_ok wx_ok btX12_size (nds := []) (fk := []) (rk := (1, [])) (sp := 0) (fuel := 3000) (by decide +kernel) (lk_d S_1257 ml_12_149 (lk_d S_1258 ml_12_149 lk_n)) odX12_size
set_option maxRecDepth 100000 in
theorem btX12_trouble : bTab oX12_trouble tX12_trouble := ⟨ofX12_trouble, by decide +kernel⟩
def ct_1260 : aCt := (mX12_trouble, [ag_861], ([], []), [pon_264], mdn_1793, [], (nat_lit 0))
set_option maxRecDepth 100000 in
theorem S_1260 : aSpec wd ct_1260 := bChk_ok wx_ok btX12_trouble (nds := []) (fk := []) (rk := (1, [])) (sp := 0) (fuel := 3000) (by decide +kernel) lk_n odX12_trouble
def pon_2093 : aPo := (some (.inl [((.ofNat (nat_lit 0)), (.ofNat (nat_lit 7)), (nat_lit 1))]), [], [sl_1428, sl_1431, sl_1432, sl_1808], [])
set_option maxRecDepth 100000 in
theorem btX12_led : bTab oX12_led tX12_led := ⟨ofX12_led, by decide +kernel⟩
def ct_1261 : aCt := (mX12_led, [ag_861, ag_1], ([], []), [pon_2093, pon_37], mdn_1793, [], (nat_lit 0))
set_option maxRecDepth 100000 in
theorem S_1261 : aSpec wd ct_1261 := bChk_ok wx_ok btX12_led (nds := [((nat_lit 4), [lcn_898, lcn_271, lcn_132, lcn_408], [], [], [], (8, [(2, -1)]))]) (fk := []) (rk := (9, [])) (sp := 16) (fuel := 3000) (by decide +kernel) lk_n odX12_led
def pon_2094 : aPo := (some (.inl [((.negSucc (nat_lit 0)), (.negSucc (nat_lit 0)), (nat_lit 1))]), [], [sl_2054], [])
def ct_1262 : aCt := (mX12_no, [ag_861, ag_150], ([sl_867], []), [pon_2094], mdn_875, [], (nat_lit 0))
set_option maxRecDepth 100000 in
theorem S_1262 : aSpec wd ct_1262 := bChk_ok wx_ok btX12_no (nds := []) (fk := []) (rk := (1, [])) (sp := 0) (fuel := 3000) (by decide +kernel) lk_n odX12_no
end Pk1
