section Pk0
def pon_841 : aPo := (some (.inl aTop), [none, some [((.ofNat (nat_lit 2)), (.ofNat (nat_lit 5)), (nat_lit 1))], some [((.ofNat (nat_lit 1)), (.ofNat (nat_lit 5)), (nat_lit 1))]], [sl_301, sl_147], [])
def ct_359 : aCt := (mX11_fresh, [ag_0, ag_1, ag_1], ([], [((0, 3), 42), ((92, 0), 42)]), [pon_841, pon_390], mdn_475, [], (nat_lit 5))
set_option maxRecDepth 100000 in
theorem S_359 : aSpec wd ct_359 := bChk_ok wx_ok btX11_fresh (nds := []) (fk := []) (rk := (1, [])) (sp := 0) (fuel := 3000) (by decide +kernel) (lk_d S_63 ml_11_98 (lk_d S_6 ml_11_98 (lk_d S_358 ml_11_261 (lk_d S_57 ml_11_112 (lk_d S_348 ml_11_258 lk_n))))) odX11_fresh
def ct_360 : aCt := (mX7_findNew, [ag_344, ag_416, ag_452, ag_345, ag_493], ([sl_147], [((92, 0), 42)]), [pon_494], mdn_495, [], (nat_lit 4))
set_option maxRecDepth 100000 in
theorem S_360 : aSpec wd ct_360 := bChk_ok wx_ok btX7_findNew (nds := [((nat_lit 24), [lcn_349, lcn_419, lcn_455, lcn_367, lcn_496, lcn_456, lcn_497, lcn_458, lcn_459], [], [sl_147], [((92, 0), 42)], (1057799, [(3, -1025), (5, -1)])), ((nat_lit 24), [lcn_349, lcn_419, lcn_455, lcn_367, lcn_496, lcn_460, lcn_498, lcn_458, lcn_459], [], [sl_147], [((92, 0), 42)], (1056774, [(3, -1025), (5, -1)])), ((nat_lit 24), [lcn_349, lcn_419, lcn_455, lcn_367, lcn_496, lcn_462, lcn_499, lcn_458, lcn_459], [], [sl_147], [((92, 0), 42)], (1056774, [(3, -1025), (5, -1)])), ((nat_lit 24), [lcn_349, lcn_419, lcn_455, lcn_367, lcn_496, lcn_464, lcn_500, lcn_458, lcn_459], [], [sl_147], [((92, 0), 42)], (1056774, [(3, -1025), (5, -1)])), ((nat_lit 24), [lcn_349, lcn_419, lcn_455, lcn_367, lcn_496, lcn_466, lcn_501, lcn_458, lcn_459], [], [sl_147], [((92, 0), 42)], (1056774, [(3, -1025), (5, -1)])), ((nat_lit 24), [lcn_349, lcn_419, lcn_455, lcn_367, lcn_496, lcn_468, lcn_502, lcn_458, lcn_459], [], [sl_147], [((92, 0), 42)], (1056774, [(3, -1025), (5, -1)])), ((nat_lit 24), [lcn_349, lcn_419, lcn_455, lcn_367, lcn_496, lcn_470, lcn_503, lcn_458, lcn_459], [], [sl_147], [((92, 0), 42)], (1056774, [(3, -1025), (5, -1)])), ((nat_lit 24), [lcn_349, lcn_419, lcn_455, lcn_367, lcn_496, lcn_472, lcn_504, lcn_458, lcn_459], [], [sl_147], [((92, 0), 42)], (1050624, [(3, -1025), (5, -1)]))]) (fk := [6]) (rk := (1055750, [])) (sp := 16777216) (fuel := 3000) (by decide +kernel) (lk_d S_120 ml_7_77 (lk_d S_122 ml_7_77 (lk_d S_124 ml_7_77 (lk_d S_126 ml_7_77 (lk_d S_128 ml_7_77 (lk_d S_130 ml_7_77 (lk_d S_132 ml_7_77 (lk_d S_134 ml_7_77 (lk_d S_357 ml_7_73 (lk_d S_138 ml_7_77 (lk_d S_139 ml_7_77 (lk_d S_140 ml_7_77 (lk_d S_141 ml_7_77 (lk_d S_142 ml_7_77 (lk_d S_143 ml_7_77 (lk_d S_144 ml_7_77 (lk_d S_145 ml_7_77 (lk_d S_356 ml_7_70 lk_n)))))))))))))))))) odX7_findNew
def ct_361 : aCt := (mX11_byTurns, [ag_0, ag_1, ag_1], ([], [((0, 3), 42), ((92, 0), 42)]), [pon_841, pon_390], mdn_505, [], (nat_lit 5))
set_option maxRecDepth 100000 in
theorem S_361 : aSpec wd ct_361 := bChk_ok wx_ok btX11_byTurns (nds := []) (fk := []) (rk := (1, [])) (sp := 0) (fuel := 3000) (by decide +kernel) (lk_d S_63 ml_11_98 (lk_d S_6 ml_11_98 (lk_d S_360 ml_11_261 (lk_d S_57 ml_11_112 (lk_d S_348 ml_11_258 lk_n))))) odX11_byTurns
def ct_362 : aCt := (mX11_near, [ag_0, ag_1], ([], [((0, 3), 42), ((92, 0), 42)]), [pon_821, pon_333], mdn_372, [], (nat_lit 4))
set_option maxRecDepth 100000 in
theorem S_362 : aSpec wd ct_362 := bChk_ok wx_ok btX11_near (nds := []) (fk := []) (rk := (1, [])) (sp := 0) (fuel := 3000) (by decide +kernel) (lk_d S_63 ml_11_98 (lk_d S_329 ml_11_201 (lk_d S_314 ml_11_147 (lk_d S_57 ml_11_112 lk_n)))) odX11_near
def ct_363 : aCt := (mX11_asNear, [ag_0, ag_1], ([], [((0, 3), 42), ((92, 0), 42)]), [pon_821, pon_333], mdn_372, [], (nat_lit 4))
set_option maxRecDepth 100000 in
theorem S_363 : aSpec wd ct_363 := bChk_ok wx_ok btX11_asNear (nds := []) (fk := []) (rk := (1, [])) (sp := 0) (fuel := 3000) (by decide +kernel) (lk_d S_63 ml_11_98 (lk_d S_329 ml_11_201 (lk_d S_314 ml_11_147 (lk_d S_57 ml_11_112 lk_n)))) odX11_asNear
def ct_364 : aCt := (mX7_fallIn, [ag_344, ag_508], ([], [((92, 0), 42)]), [pon_346, pon_37], [], [], (nat_lit 0))
set_option maxRecDepth 100000 in
theorem S_364 : aSpec wd ct_364 := bChk_ok wx_ok btX7_fallIn (nds := []) (fk := []) (rk := (1, [])) (sp := 0) (fuel := 3000) (by decide +kernel) lk_n odX7_fallIn
def ct_365 : aCt := (mX7_hearerOf, [ag_344, ag_1, ag_137, ag_508], ([], [((92, 0), 42)]), [pon_365, pon_52], mdn_366, [], (nat_lit 2))
set_option maxRecDepth 100000 in
theorem S_365 : aSpec wd ct_365 := bChk_ok wx_ok btX7_hearerOf (nds := [((nat_lit 32), [lcn_349, lcn_271, lcn_143, lcn_509, lcn_351, lcn_368, lcn_369], [], [sl_370], [((92, 0), 42)], (7, [(5, -1)]))]) (fk := []) (rk := (8, [])) (sp := 4294967296) (fuel := 3000) (by decide +kernel) (lk_d S_364 ml_7_50 (lk_d S_326 ml_7_54 (lk_d S_327 ml_7_54 (lk_d S_82 ml_7_60 lk_n)))) odX7_hearerOf
def ct_366 : aCt := (mX11_hearerIn, [ag_0, ag_190, ag_508], ([], [((0, 3), 42), ((92, 0), 42)]), [pon_365, pon_52], mdn_366, [], (nat_lit 3))
set_option maxRecDepth 100000 in
theorem S_366 : aSpec wd ct_366 := bChk_ok wx_ok btX11_hearerIn (nds := []) (fk := []) (rk := (1, [])) (sp := 0) (fuel := 3000) (by decide +kernel) (lk_d S_323 ml_11_198 (lk_d S_365 ml_11_277 lk_n)) odX11_hearerIn
def pon_842 : aPo := (some (.inl aTop), [none, some [((.ofNat (nat_lit 0)), (.ofNat (nat_lit 7)), (nat_lit 1))], some [((.ofNat (nat_lit 0)), (.ofNat (nat_lit 99)), (nat_lit 1))]], [sl_301, sl_214], [])
def ct_367 : aCt := (mX11_heardIn, [ag_0, ag_1, ag_1], ([], [((0, 3), 42), ((92, 0), 42)]), [pon_842, pon_390], mdn_372, [], (nat_lit 4))
set_option maxRecDepth 100000 in
theorem S_367 : aSpec wd ct_367 := bChk_ok wx_ok btX11_heardIn (nds := []) (fk := []) (rk := (1, [])) (sp := 0) (fuel := 3000) (by decide +kernel) (lk_d S_6 ml_11_98 (lk_d S_63 ml_11_98 (lk_d S_366 ml_11_201 (lk_d S_314 ml_11_147 (lk_d S_150 ml_11_227 (lk_d S_57 ml_11_112 lk_n)))))) odX11_heardIn
def ct_368 : aCt := (mX7_hearerOf, [ag_344, ag_1, ag_137, ag_508], ([sl_147], [((92, 0), 42)]), [pon_365, pon_52], mdn_366, [], (nat_lit 2))
set_option maxRecDepth 100000 in
theorem S_368 : aSpec wd ct_368 := bChk_ok wx_ok btX7_hearerOf (nds := [((nat_lit 32), [lcn_349, lcn_271, lcn_143, lcn_509, lcn_351, lcn_368, lcn_369], [], [sl_147, sl_370], [((92, 0), 42)], (7, [(5, -1)]))]) (fk := []) (rk := (8, [])) (sp := 4294967296) (fuel := 3000) (by decide +kernel) (lk_d S_364 ml_7_50 (lk_d S_326 ml_7_54 (lk_d S_327 ml_7_54 (lk_d S_82 ml_7_60 lk_n)))) odX7_hearerOf
def ct_369 : aCt := (mX11_strange, [ag_0, ag_1], ([], [((0, 3), 42), ((92, 0), 42)]), [pon_830, pon_333], mdn_372, [], (nat_lit 3))
set_option maxRecDepth 100000 in
theorem S_369 : aSpec wd ct_369 := bChk_ok wx_ok btX11_strange (nds := [((nat_lit 16), [lcn_407, lcn_249, lcn_511], [], [sl_147], [((0, 3), 42), ((92, 0), 42)], (100, [(1, -1)]))]) (fk := []) (rk := (101, [])) (sp := 65536) (fuel := 3000) (by decide +kernel) (lk_d S_63 ml_11_98 (lk_d S_316 ml_11_174 (lk_d S_57 ml_11_112 (lk_d S_368 ml_11_277 lk_n)))) odX11_strange
def ct_370 : aCt := (mX6_goes, [ag_394, ag_170, ag_256, ag_125, ag_125], ([], []), [pon_37, pon_38], mdn_514, [], (nat_lit 1))
set_option maxRecDepth 100000 in
theorem S_370 : aSpec wd ct_370 := bChk_ok wx_ok btX6_goes (nds := []) (fk := []) (rk := (1, [])) (sp := 0) (fuel := 3000) (by decide +kernel) (lk_d S_158 ml_6_80 lk_n) odX6_goes
def ct_371 : aCt := (mX6_goes, [ag_394, ag_521, ag_256, ag_125, ag_125], ([], []), [pon_37, pon_522], mdn_514, [], (nat_lit 1))
set_option maxRecDepth 100000 in
theorem S_371 : aSpec wd ct_371 := bChk_ok wx_ok btX6_goes (nds := []) (fk := []) (rk := (1, [])) (sp := 0) (fuel := 3000) (by decide +kernel) (lk_d S_160 ml_6_80 (lk_d S_161 ml_6_80 lk_n)) odX6_goes
def ct_372 : aCt := (mX6_findFirstDays, [ag_394, ag_523, ag_125, ag_1], ([], [((94, 0), 42)]), [pon_49], mdn_514, [], (nat_lit 2))
set_option maxRecDepth 100000 in
theorem S_372 : aSpec wd ct_372 := bChk_ok wx_ok btX6_findFirstDays (nds := [((nat_lit 39), [lcn_396, lcn_524, lcn_250, lcn_517, lcn_445, lcn_525, lcn_369], [], [], [((94, 0), 42)], (111, [(5, -14)])), ((nat_lit 57), [lcn_396, lcn_524, lcn_250, lcn_517, lcn_526, lcn_525, lcn_527, lcn_528], [], [], [((94, 0), 42)], (110, [(5, -14), (6, -1)]))]) (fk := []) (rk := (112, [])) (sp := 144115737831669760) (fuel := 3000) (by decide +kernel) (lk_d S_157 ml_6_38 (lk_d S_89 ml_6_64 (lk_d S_370 ml_6_70 (lk_d S_371 ml_6_70 lk_n)))) odX6_findFirstDays
def ct_373 : aCt := (mX6_firstDayAt, [ag_394, ag_361, ag_125, ag_125, ag_345], ([sl_147], [((94, 0), 42)]), [pon_130, pon_52], mdn_514, [], (nat_lit 3))
set_option maxRecDepth 100000 in
theorem S_373 : aSpec wd ct_373 := bChk_ok wx_ok btX6_firstDayAt (nds := []) (fk := []) (rk := (1, [])) (sp := 0) (fuel := 3000) (by decide +kernel) (lk_d S_372 ml_6_84 lk_n) odX6_firstDayAt
def pon_843 : aPo := (some (.inl aTop), [none, some [((.ofNat (nat_lit 0)), (.ofNat (nat_lit 4)), (nat_lit 1))], some [((.ofNat (nat_lit 0)), (.ofNat (nat_lit 6)), (nat_lit 1))], some [((.ofNat (nat_lit 0)), (.ofNat (nat_lit 6)), (nat_lit 1))], some [((.ofNat (nat_lit 0)), (.ofNat (nat_lit 9999)), (nat_lit 1))]], [sl_301, sl_147, sl_811], [])
def ct_374 : aCt := (mX11_arrival, [ag_0, ag_1, ag_1, ag_1, ag_1], ([], [((0, 3), 42), ((94, 0), 42)]), [pon_843, pon_530], mdn_531, [], (nat_lit 4))
set_option maxRecDepth 100000 in
theorem S_374 : aSpec wd ct_374 := bChk_ok wx_ok btX11_arrival (nds := []) (fk := []) (rk := (1, [])) (sp := 0) (fuel := 3000) (by decide +kernel) (lk_d S_6 ml_11_98 (lk_d S_63 ml_11_98 (lk_d S_373 ml_11_280 (lk_d S_331 ml_11_174 (lk_d S_312 ml_11_121 (lk_d S_316 ml_11_174 (lk_d S_95 ml_11_227 (lk_d S_57 ml_11_112 lk_n)))))))) odX11_arrival
def ct_375 : aCt := (mX6_firstDayAt, [ag_394, ag_361, ag_125, ag_125, ag_1], ([], [((94, 0), 42)]), [pon_130, pon_52], mdn_514, [], (nat_lit 3))
set_option maxRecDepth 100000 in
theorem S_375 : aSpec wd ct_375 := bChk_ok wx_ok btX6_firstDayAt (nds := []) (fk := []) (rk := (1, [])) (sp := 0) (fuel := 3000) (by decide +kernel) (lk_d S_372 ml_6_84 lk_n) odX6_firstDayAt
def ct_376 : aCt := (mX6_dayOfBringing, [ag_394, ag_217, ag_190], ([sl_224], [((92, 0), 42), ((94, 0), 42)]), [pon_533, pon_52], mdn_534, [], (nat_lit 4))
set_option maxRecDepth 100000 in
theorem S_376 : aSpec wd ct_376 := bChk_ok wx_ok btX6_dayOfBringing (nds := []) (fk := []) (rk := (1, [])) (sp := 0) (fuel := 3000) (by decide +kernel) (lk_d S_98 ml_6_96 (lk_d S_323 ml_6_115 (lk_d S_375 ml_6_136 (lk_d S_328 ml_6_122 lk_n)))) odX6_dayOfBringing
def ct_377 : aCt := (mX6_dayOfBringing, [ag_394, ag_361, ag_190], ([sl_222], [((92, 0), 42), ((94, 0), 42)]), [pon_533, pon_52], mdn_534, [], (nat_lit 4))
set_option maxRecDepth 100000 in
theorem S_377 : aSpec wd ct_377 := bChk_ok wx_ok btX6_dayOfBringing (nds := []) (fk := []) (rk := (1, [])) (sp := 0) (fuel := 3000) (by decide +kernel) (lk_d S_98 ml_6_96 (lk_d S_323 ml_6_115 (lk_d S_375 ml_6_136 (lk_d S_328 ml_6_122 lk_n)))) odX6_dayOfBringing
def ct_378 : aCt := (mX6_dayOfBringing, [ag_394, ag_402, ag_190], ([sl_228], [((92, 0), 42), ((94, 0), 42)]), [pon_533, pon_52], mdn_534, [], (nat_lit 4))
set_option maxRecDepth 100000 in
theorem S_378 : aSpec wd ct_378 := bChk_ok wx_ok btX6_dayOfBringing (nds := []) (fk := []) (rk := (1, [])) (sp := 0) (fuel := 3000) (by decide +kernel) (lk_d S_98 ml_6_96 (lk_d S_323 ml_6_115 (lk_d S_375 ml_6_136 (lk_d S_328 ml_6_122 lk_n)))) odX6_dayOfBringing
def ct_379 : aCt := (mX6_dayOfBringing, [ag_394, ag_535, ag_190], ([sl_233], [((92, 0), 42), ((94, 0), 42)]), [pon_533, pon_52], mdn_534, [], (nat_lit 4))
set_option maxRecDepth 100000 in
theorem S_379 : aSpec wd ct_379 := bChk_ok wx_ok btX6_dayOfBringing (nds := []) (fk := []) (rk := (1, [])) (sp := 0) (fuel := 3000) (by decide +kernel) (lk_d S_98 ml_6_96 (lk_d S_323 ml_6_115 (lk_d S_375 ml_6_136 (lk_d S_328 ml_6_122 lk_n)))) odX6_dayOfBringing
def ct_380 : aCt := (mX6_dayOfBringing, [ag_394, ag_170, ag_190], ([sl_238], [((92, 0), 42), ((94, 0), 42)]), [pon_533, pon_52], mdn_534, [], (nat_lit 4))
set_option maxRecDepth 100000 in
theorem S_380 : aSpec wd ct_380 := bChk_ok wx_ok btX6_dayOfBringing (nds := []) (fk := []) (rk := (1, [])) (sp := 0) (fuel := 3000) (by decide +kernel) (lk_d S_98 ml_6_96 (lk_d S_323 ml_6_115 (lk_d S_375 ml_6_136 (lk_d S_328 ml_6_122 lk_n)))) odX6_dayOfBringing
def pon_844 : aPo := (some (.inl aTop), [none, some [((.ofNat (nat_lit 0)), (.ofNat (nat_lit 4)), (nat_lit 1))], some [((.ofNat (nat_lit 0)), (.ofNat (nat_lit 7)), (nat_lit 1))]], [sl_301, sl_811, sl_214], [])
def ct_381 : aCt := (mX11_brings, [ag_0, ag_1, ag_1], ([], [((0, 3), 42), ((92, 0), 42), ((94, 0), 42)]), [pon_844, pon_336], mdn_537, [], (nat_lit 5))
set_option maxRecDepth 100000 in
theorem S_381 : aSpec wd ct_381 := bChk_ok wx_ok btX11_brings (nds := []) (fk := []) (rk := (1, [])) (sp := 0) (fuel := 3000) (by decide +kernel) (lk_d S_63 ml_11_98 (lk_d S_380 ml_11_283 (lk_d S_379 ml_11_283 (lk_d S_378 ml_11_283 (lk_d S_377 ml_11_283 (lk_d S_376 ml_11_283 (lk_d S_312 ml_11_121 (lk_d S_314 ml_11_147 (lk_d S_57 ml_11_112 lk_n))))))))) odX11_brings
def pon_845 : aPo := (some (.inl [((.negSucc (nat_lit 1)), (.negSucc (nat_lit 1)), (nat_lit 1)), ((.ofNat (nat_lit 0)), (.ofNat (nat_lit 4)), (nat_lit 1))]), [], [sl_811], [])
def pon_846 : aPo := (some (.inl [((.negSucc (nat_lit 1)), (.negSucc (nat_lit 1)), (nat_lit 1))]), [], [sl_29], [])
def ct_382 : aCt := (mX6_soonestBringer, [ag_394, ag_190], ([], [((92, 0), 42), ((94, 0), 42)]), [pon_845, pon_846], mdn_534, [], (nat_lit 5))
set_option maxRecDepth 100000 in
theorem S_382 : aSpec wd ct_382 := bChk_ok wx_ok btX6_soonestBringer (nds := [((nat_lit 8), [lcn_396, lcn_540, lcn_541, lcn_101, lcn_421], [], [], [((92, 0), 42), ((94, 0), 42)], (8, [])), ((nat_lit 8), [lcn_396, lcn_540, lcn_542, lcn_543, lcn_544, lcn_545], [], [sl_224], [((92, 0), 42), ((94, 0), 42)], (5, [(3, -1)])), ((nat_lit 8), [lcn_396, lcn_540, lcn_546, lcn_543, lcn_547, lcn_545], [], [sl_222], [((92, 0), 42), ((94, 0), 42)], (4, [(3, -1)])), ((nat_lit 8), [lcn_396, lcn_540, lcn_548, lcn_543, lcn_549, lcn_545], [], [sl_228], [((92, 0), 42), ((94, 0), 42)], (3, [(3, -1)])), ((nat_lit 8), [lcn_396, lcn_540, lcn_550, lcn_543, lcn_551, lcn_545], [], [sl_233], [((92, 0), 42), ((94, 0), 42)], (4, [(1, -2), (3, -1)])), ((nat_lit 8), [lcn_396, lcn_540, lcn_552, lcn_543, lcn_423, lcn_545], [], [sl_238], [((92, 0), 42), ((94, 0), 42)], (0, []))]) (fk := [17]) (rk := (9, [])) (sp := 256) (fuel := 3000) (by decide +kernel) (lk_d S_380 ml_6_155 (lk_d S_379 ml_6_155 (lk_d S_378 ml_6_155 (lk_d S_377 ml_6_155 (lk_d S_376 ml_6_155 lk_n))))) odX6_soonestBringer
def ct_383 : aCt := (mX11_soonest, [ag_0, ag_1], ([], [((0, 3), 42), ((92, 0), 42), ((94, 0), 42)]), [pon_821, pon_333], mdn_537, [], (nat_lit 6))
set_option maxRecDepth 100000 in
theorem S_383 : aSpec wd ct_383 := bChk_ok wx_ok btX11_soonest (nds := []) (fk := []) (rk := (1, [])) (sp := 0) (fuel := 3000) (by decide +kernel) (lk_d S_63 ml_11_98 (lk_d S_382 ml_11_286 (lk_d S_314 ml_11_147 (lk_d S_57 ml_11_112 lk_n)))) odX11_soonest
def ct_384 : aCt := (mX6_surestBringer, [ag_394, ag_190, ag_553], ([], [((92, 0), 42), ((94, 0), 42)]), [pon_845, pon_846], mdn_534, [], (nat_lit 5))
set_option maxRecDepth 100000 in
theorem S_384 : aSpec wd ct_384 := bChk_ok wx_ok btX6_surestBringer (nds := [((nat_lit 6), [lcn_396, lcn_540, lcn_542, lcn_554, lcn_421], [], [], [((92, 0), 42), ((94, 0), 42)], (8, [])), ((nat_lit 6), [lcn_396, lcn_540, lcn_542, lcn_555, lcn_544, lcn_525], [], [sl_224], [((92, 0), 42), ((94, 0), 42)], (5, [(3, -1)])), ((nat_lit 6), [lcn_396, lcn_540, lcn_542, lcn_556, lcn_547, lcn_525], [], [sl_222], [((92, 0), 42), ((94, 0), 42)], (4, [(3, -1)])), ((nat_lit 6), [lcn_396, lcn_540, lcn_542, lcn_557, lcn_549, lcn_525], [], [sl_228], [((92, 0), 42), ((94, 0), 42)], (3, [(3, -1)])), ((nat_lit 6), [lcn_396, lcn_540, lcn_542, lcn_558, lcn_551, lcn_525], [], [sl_233], [((92, 0), 42), ((94, 0), 42)], (4, [(2, -2), (3, -1)])), ((nat_lit 6), [lcn_396, lcn_540, lcn_542, lcn_559, lcn_423, lcn_470], [], [sl_238], [((92, 0), 42), ((94, 0), 42)], (0, []))]) (fk := [15]) (rk := (9, [])) (sp := 64) (fuel := 3000) (by decide +kernel) (lk_d S_380 ml_6_155 (lk_d S_379 ml_6_155 (lk_d S_378 ml_6_155 (lk_d S_377 ml_6_155 (lk_d S_376 ml_6_155 lk_n))))) odX6_surestBringer
def ct_385 : aCt := (mX11_surest, [ag_0, ag_1], ([], [((0, 3), 42), ((92, 0), 42), ((94, 0), 42)]), [pon_821, pon_333], mdn_537, [], (nat_lit 6))
set_option maxRecDepth 100000 in
theorem S_385 : aSpec wd ct_385 := bChk_ok wx_ok btX11_surest (nds := []) (fk := []) (rk := (1, [])) (sp := 0) (fuel := 3000) (by decide +kernel) (lk_d S_63 ml_11_98 (lk_d S_384 ml_11_289 (lk_d S_314 ml_11_147 (lk_d S_57 ml_11_112 lk_n)))) odX11_surest
def pon_847 : aPo := (some (.inl [((.ofNat (nat_lit 0)), (.ofNat (nat_lit 31)), (nat_lit 1))]), [], [sl_811], [])
def pon_848 : aPo := (some (.inl [((.ofNat (nat_lit 0)), (.ofNat (nat_lit 0)), (nat_lit 1))]), [], [sl_29], [])
def ct_386 : aCt := (mX6_bringersBy, [ag_394, ag_190, ag_560], ([], [((92, 0), 42), ((94, 0), 42)]), [pon_847, pon_848], mdn_534, [], (nat_lit 5))
set_option maxRecDepth 100000 in
theorem S_386 : aSpec wd ct_386 := bChk_ok wx_ok btX6_bringersBy (nds := [((nat_lit 5), [lcn_396, lcn_540, lcn_563, lcn_101, lcn_421], [], [], [((92, 0), 42), ((94, 0), 42)], (5, [])), ((nat_lit 5), [lcn_396, lcn_540, lcn_563, lcn_564, lcn_544, lcn_545], [], [sl_224], [((92, 0), 42), ((94, 0), 42)], (5, [(3, -1)])), ((nat_lit 5), [lcn_396, lcn_540, lcn_563, lcn_565, lcn_547, lcn_545], [], [sl_222], [((92, 0), 42), ((94, 0), 42)], (4, [(3, -1)])), ((nat_lit 5), [lcn_396, lcn_540, lcn_563, lcn_438, lcn_549, lcn_545], [], [sl_228], [((92, 0), 42), ((94, 0), 42)], (3, [(3, -1)])), ((nat_lit 5), [lcn_396, lcn_540, lcn_563, lcn_427, lcn_551, lcn_545], [], [sl_233], [((92, 0), 42), ((94, 0), 42)], (2, [(3, -1)])), ((nat_lit 5), [lcn_396, lcn_540, lcn_563, lcn_422, lcn_423, lcn_545], [], [sl_238], [((92, 0), 42), ((94, 0), 42)], (0, []))]) (fk := [14]) (rk := (6, [])) (sp := 32) (fuel := 3000) (by decide +kernel) (lk_d S_380 ml_6_155 (lk_d S_379 ml_6_155 (lk_d S_378 ml_6_155 (lk_d S_377 ml_6_155 (lk_d S_376 ml_6_155 lk_n))))) odX6_bringersBy
def pon_849 : aPo := (some (.inl aTop), [none, some [((.ofNat (nat_lit 0)), (.ofNat (nat_lit 7)), (nat_lit 1))], some [((.ofNat (nat_lit 0)), (.ofNat (nat_lit 99999)), (nat_lit 1))]], [sl_301, sl_214], [])
def ct_387 : aCt := (mX11_by, [ag_0, ag_1, ag_1], ([], [((0, 3), 42), ((92, 0), 42), ((94, 0), 42)]), [pon_849, pon_390], mdn_537, [], (nat_lit 6))
set_option maxRecDepth 100000 in
theorem S_387 : aSpec wd ct_387 := bChk_ok wx_ok btX11_by (nds := []) (fk := []) (rk := (1, [])) (sp := 0) (fuel := 3000) (by decide +kernel) (lk_d S_6 ml_11_98 (lk_d S_63 ml_11_98 (lk_d S_386 ml_11_292 (lk_d S_314 ml_11_147 (lk_d S_92 ml_11_227 (lk_d S_57 ml_11_112 lk_n)))))) odX11_by
def ct_388 : aCt := (mX11_registered, [ag_0, ag_1, ag_535], ([], [((0, 3), 42), ((92, 0), 42), ((94, 0), 42)]), [pon_576], mdn_537, [], (nat_lit 6))
set_option maxRecDepth 100000 in
theorem S_388 : aSpec wd ct_388 := bChk_ok wx_ok btX11_registered (nds := []) (fk := []) (rk := (1, [])) (sp := 0) (fuel := 3000) (by decide +kernel) (lk_d S_179 ml_11_98 (lk_d S_63 ml_11_98 (lk_d S_384 ml_11_289 (lk_d S_314 ml_11_147 (lk_d S_180 ml_11_295 (lk_d S_57 ml_11_112 (lk_d S_181 ml_11_295 lk_n))))))) odX11_registered
def sl_850 : (Nat × Nat) × aI := (((nat_lit 42), (nat_lit 7)), [((.ofNat (nat_lit 2)), (.ofNat (nat_lit 8)), (nat_lit 1))])
def ct_389 : aCt := (mX11_solveMatch, [ag_0], ([sl_147], [((0, 3), 42), ((92, 0), 42), ((94, 0), 42)]), [pon_49], mdn_611, [], (nat_lit 5))
set_option maxRecDepth 100000 in
theorem S_389 : aSpec wd ct_389 := bChk_ok wx_ok btX11_solveMatch (nds := [((nat_lit 2), [lcn_407, lcn_175], [], [sl_147], [((0, 3), 42), ((92, 0), 42), ((94, 0), 42)], (63, [])), ((nat_lit 15), [lcn_407, lcn_175, lcn_589], [], [sl_147, sl_214], [((0, 3), 42), ((92, 0), 42), ((94, 0), 42)], (62, [])), ((nat_lit 15), [lcn_407, lcn_540, lcn_293], [], [sl_147, sl_224, sl_214], [((0, 3), 42), ((92, 0), 42), ((94, 0), 42)], (61, [(0, -7), (1, -1)])), ((nat_lit 15), [lcn_407, lcn_540, lcn_612], [], [sl_147, sl_222, sl_214], [((0, 3), 42), ((92, 0), 42), ((94, 0), 42)], (52, [(0, -6), (1, -1)])), ((nat_lit 15), [lcn_407, lcn_540, lcn_613], [], [sl_147, sl_228, sl_214], [((0, 3), 42), ((92, 0), 42), ((94, 0), 42)], (43, [(0, -5), (1, -1)])), ((nat_lit 15), [lcn_407, lcn_540, lcn_614], [], [sl_147, sl_233, sl_214], [((0, 3), 42), ((92, 0), 42), ((94, 0), 42)], (34, [(0, -4), (1, -1)])), ((nat_lit 15), [lcn_407, lcn_540, lcn_615], [], [sl_147, sl_238, sl_214], [((0, 3), 42), ((92, 0), 42), ((94, 0), 42)], (25, [(0, -3), (1, -1)])), ((nat_lit 2), [lcn_407, lcn_592, lcn_589], [], [sl_147, sl_29, sl_214], [((0, 3), 42), ((92, 0), 42), ((94, 0), 42)], (17, [(0, -2)])), ((nat_lit 2), [lcn_407, lcn_592, lcn_444], [], [sl_147, sl_238, sl_214], [((0, 3), 42), ((92, 0), 42), ((94, 0), 42)], (26, [(0, -3)])), ((nat_lit 15), [lcn_407, lcn_616, lcn_589], [], [sl_147, sl_29, sl_850], [((0, 3), 42), ((92, 0), 42), ((94, 0), 42)], (16, [(0, -2)])), ((nat_lit 2), [lcn_407, lcn_592, lcn_597], [], [sl_147, sl_233, sl_214], [((0, 3), 42), ((92, 0), 42), ((94, 0), 42)], (35, [(0, -4)])), ((nat_lit 2), [lcn_407, lcn_592, lcn_176], [], [sl_147, sl_228, sl_214], [((0, 3), 42), ((92, 0), 42), ((94, 0), 42)], (44, [(0, -5)])), ((nat_lit 2), [lcn_407, lcn_592, lcn_168], [], [sl_147, sl_222, sl_214], [((0, 3), 42), ((92, 0), 42), ((94, 0), 42)], (53, [(0, -6)])), ((nat_lit 2), [lcn_407, lcn_592, lcn_607], [], [sl_147, sl_224, sl_214], [((0, 3), 42), ((92, 0), 42), ((94, 0), 42)], (62, [(0, -7)]))]) (fk := [23]) (rk := (64, [])) (sp := 32772) (fuel := 3000) (by decide +kernel) (lk_d S_185 ml_11_404 (lk_d S_380 ml_11_283 (lk_d S_188 ml_11_404 (lk_d S_192 ml_11_404 (lk_d S_196 ml_11_404 (lk_d S_200 ml_11_404 (lk_d S_204 ml_11_404 (lk_d S_208 ml_11_404 (lk_d S_379 ml_11_283 (lk_d S_378 ml_11_283 (lk_d S_377 ml_11_283 (lk_d S_376 ml_11_283 lk_n)))))))))))) odX11_solveMatch
def ct_390 : aCt := (mX11_match, [ag_0], ([], [((0, 3), 42), ((92, 0), 42), ((94, 0), 42)]), [pon_830, pon_831], mdn_618, [], (nat_lit 6))
set_option maxRecDepth 100000 in
theorem S_390 : aSpec wd ct_390 := bChk_ok wx_ok btX11_match (nds := []) (fk := []) (rk := (1, [])) (sp := 0) (fuel := 3000) (by decide +kernel) (lk_d S_389 ml_11_298 (lk_d S_335 ml_11_222 (lk_d S_63 ml_11_98 (lk_d S_57 ml_11_112 lk_n)))) odX11_match
def ct_391 : aCt := (mX11_matchDays, [ag_0], ([], [((0, 3), 42), ((92, 0), 42), ((94, 0), 42)]), [pon_830, pon_831], mdn_618, [], (nat_lit 6))
set_option maxRecDepth 100000 in
theorem S_391 : aSpec wd ct_391 := bChk_ok wx_ok btX11_matchDays (nds := []) (fk := []) (rk := (1, [])) (sp := 0) (fuel := 3000) (by decide +kernel) (lk_d S_389 ml_11_298 (lk_d S_335 ml_11_222 (lk_d S_63 ml_11_98 (lk_d S_57 ml_11_112 lk_n)))) odX11_matchDays
def ct_392 : aCt := (mX11_solveMatch, [ag_0], ([sl_214], [((0, 3), 42), ((92, 0), 42), ((94, 0), 42)]), [pon_49], mdn_611, [], (nat_lit 5))
set_option maxRecDepth 100000 in
theorem S_392 : aSpec wd ct_392 := bChk_ok wx_ok btX11_solveMatch (nds := [((nat_lit 2), [lcn_407, lcn_175], [], [sl_214], [((0, 3), 42), ((92, 0), 42), ((94, 0), 42)], (63, [])), ((nat_lit 15), [lcn_407, lcn_175, lcn_589], [], [sl_214], [((0, 3), 42), ((92, 0), 42), ((94, 0), 42)], (62, [])), ((nat_lit 15), [lcn_407, lcn_540, lcn_293], [], [sl_224, sl_214], [((0, 3), 42), ((92, 0), 42), ((94, 0), 42)], (61, [(0, -7), (1, -1)])), ((nat_lit 15), [lcn_407, lcn_540, lcn_612], [], [sl_222, sl_214], [((0, 3), 42), ((92, 0), 42), ((94, 0), 42)], (52, [(0, -6), (1, -1)])), ((nat_lit 15), [lcn_407, lcn_540, lcn_613], [], [sl_228, sl_214], [((0, 3), 42), ((92, 0), 42), ((94, 0), 42)], (43, [(0, -5), (1, -1)])), ((nat_lit 15), [lcn_407, lcn_540, lcn_614], [], [sl_233, sl_214], [((0, 3), 42), ((92, 0), 42), ((94, 0), 42)], (34, [(0, -4), (1, -1)])), ((nat_lit 15), [lcn_407, lcn_540, lcn_615], [], [sl_238, sl_214], [((0, 3), 42), ((92, 0), 42), ((94, 0), 42)], (25, [(0, -3), (1, -1)])), ((nat_lit 2), [lcn_407, lcn_592, lcn_589], [], [sl_29, sl_214], [((0, 3), 42), ((92, 0), 42), ((94, 0), 42)], (17, [(0, -2)])), ((nat_lit 2), [lcn_407, lcn_592, lcn_444], [], [sl_238, sl_214], [((0, 3), 42), ((92, 0), 42), ((94, 0), 42)], (26, [(0, -3)])), ((nat_lit 15), [lcn_407, lcn_616, lcn_589], [], [sl_29, sl_850], [((0, 3), 42), ((92, 0), 42), ((94, 0), 42)], (16, [(0, -2)])), ((nat_lit 2), [lcn_407, lcn_592, lcn_597], [], [sl_233, sl_214], [((0, 3), 42), ((92, 0), 42), ((94, 0), 42)], (35, [(0, -4)])), ((nat_lit 2), [lcn_407, lcn_592, lcn_176], [], [sl_228, sl_214], [((0, 3), 42), ((92, 0), 42), ((94, 0), 42)], (44, [(0, -5)])), ((nat_lit 2), [lcn_407, lcn_592, lcn_168], [], [sl_222, sl_214], [((0, 3), 42), ((92, 0), 42), ((94, 0), 42)], (53, [(0, -6)])), ((nat_lit 2), [lcn_407, lcn_592, lcn_607], [], [sl_224, sl_214], [((0, 3), 42), ((92, 0), 42), ((94, 0), 42)], (62, [(0, -7)]))]) (fk := [23]) (rk := (64, [])) (sp := 32772) (fuel := 3000) (by decide +kernel) (lk_d S_380 ml_11_283 (lk_d S_188 ml_11_404 (lk_d S_192 ml_11_404 (lk_d S_196 ml_11_404 (lk_d S_200 ml_11_404 (lk_d S_204 ml_11_404 (lk_d S_208 ml_11_404 (lk_d S_379 ml_11_283 (lk_d S_378 ml_11_283 (lk_d S_377 ml_11_283 (lk_d S_376 ml_11_283 lk_n))))))))))) odX11_solveMatch
def ct_393 : aCt := (mX11_matchOf, [ag_0, ag_1], ([], [((0, 3), 42), ((92, 0), 42), ((94, 0), 42)]), [pon_821, pon_333], mdn_618, [], (nat_lit 6))
set_option maxRecDepth 100000 in
theorem S_393 : aSpec wd ct_393 := bChk_ok wx_ok btX11_matchOf (nds := []) (fk := []) (rk := (1, [])) (sp := 0) (fuel := 3000) (by decide +kernel) (lk_d S_392 ml_11_298 (lk_d S_63 ml_11_98 (lk_d S_314 ml_11_147 (lk_d S_57 ml_11_112 lk_n)))) odX11_matchOf
def ct_394 : aCt := (mX11_isBox, [ag_0, ag_1], ([sl_214], [((0, 3), 42)]), [pon_373, pon_619], [], [], (nat_lit 0))
set_option maxRecDepth 100000 in
theorem S_394 : aSpec wd ct_394 := bChk_ok wx_ok btX11_isBox (nds := []) (fk := []) (rk := (1, [])) (sp := 0) (fuel := 3000) (by decide +kernel) lk_n odX11_isBox
def ct_395 : aCt := (mX11_isWhale, [ag_0, ag_1], ([sl_224], [((0, 3), 42)]), [pon_620, pon_621], [], [], (nat_lit 0))
set_option maxRecDepth 100000 in
theorem S_395 : aSpec wd ct_395 := bChk_ok wx_ok btX11_isWhale (nds := []) (fk := [12]) (rk := (1, [])) (sp := 0) (fuel := 3000) (by decide +kernel) lk_n odX11_isWhale
def ct_396 : aCt := (mX6_dayOfMeeting, [ag_394, ag_190, ag_217, ag_190, ag_217], ([sl_224], [((92, 0), 42), ((94, 0), 42)]), [pon_622, pon_52], mdn_534, [], (nat_lit 5))
set_option maxRecDepth 100000 in
theorem S_396 : aSpec wd ct_396 := bChk_ok wx_ok btX6_dayOfMeeting (nds := []) (fk := []) (rk := (1, [])) (sp := 0) (fuel := 3000) (by decide +kernel) (lk_d S_376 ml_6_155 lk_n) odX6_dayOfMeeting
def ct_397 : aCt := (mX11_isWhale, [ag_0, ag_1], ([sl_222], [((0, 3), 42)]), [pon_623, pon_624], [], [], (nat_lit 0))
set_option maxRecDepth 100000 in
theorem S_397 : aSpec wd ct_397 := bChk_ok wx_ok btX11_isWhale (nds := []) (fk := [12]) (rk := (1, [])) (sp := 0) (fuel := 3000) (by decide +kernel) lk_n odX11_isWhale
def ct_398 : aCt := (mX6_dayOfMeeting, [ag_394, ag_190, ag_361, ag_190, ag_361], ([sl_222], [((92, 0), 42), ((94, 0), 42)]), [pon_622, pon_52], mdn_534, [], (nat_lit 5))
set_option maxRecDepth 100000 in
theorem S_398 : aSpec wd ct_398 := bChk_ok wx_ok btX6_dayOfMeeting (nds := []) (fk := []) (rk := (1, [])) (sp := 0) (fuel := 3000) (by decide +kernel) (lk_d S_377 ml_6_155 lk_n) odX6_dayOfMeeting
end Pk0
section Pk1
def ct_399 : aCt := (mX11_isWhale, [ag_0, ag_1], ([sl_228], [((0, 3), 42)]), [pon_625, pon_626], [], [], (nat_lit 0))
set_option maxRecDepth 100000 in
theorem S_399 : aSpec wd ct_399 := bChk_ok wx_ok btX11_isWhale (nds := []) (fk := [12]) (rk := (1, [])) (sp := 0) (fuel := 3000) (by decide +kernel) lk_n odX11_isWhale
def ct_400 : aCt := (mX6_dayOfMeeting, [ag_394, ag_190, ag_402, ag_190, ag_402], ([sl_228], [((92, 0), 42), ((94, 0), 42)]), [pon_622, pon_52], mdn_534, [], (nat_lit 5))
set_option maxRecDepth 100000 in
theorem S_400 : aSpec wd ct_400 := bChk_ok wx_ok btX6_dayOfMeeting (nds := []) (fk := []) (rk := (1, [])) (sp := 0) (fuel := 3000) (by decide +kernel) (lk_d S_378 ml_6_155 lk_n) odX6_dayOfMeeting
def ct_401 : aCt := (mX11_isWhale, [ag_0, ag_1], ([sl_233], [((0, 3), 42)]), [pon_627, pon_628], [], [], (nat_lit 0))
set_option maxRecDepth 100000 in
theorem S_401 : aSpec wd ct_401 := bChk_ok wx_ok btX11_isWhale (nds := []) (fk := [12]) (rk := (1, [])) (sp := 0) (fuel := 3000) (by decide +kernel) lk_n odX11_isWhale
def ct_402 : aCt := (mX6_dayOfMeeting, [ag_394, ag_190, ag_535, ag_190, ag_535], ([sl_233], [((92, 0), 42), ((94, 0), 42)]), [pon_622, pon_52], mdn_534, [], (nat_lit 5))
set_option maxRecDepth 100000 in
theorem S_402 : aSpec wd ct_402 := bChk_ok wx_ok btX6_dayOfMeeting (nds := []) (fk := []) (rk := (1, [])) (sp := 0) (fuel := 3000) (by decide +kernel) (lk_d S_379 ml_6_155 lk_n) odX6_dayOfMeeting
def ct_403 : aCt := (mX11_isWhale, [ag_0, ag_1], ([sl_238], [((0, 3), 42)]), [pon_373, pon_629], [], [], (nat_lit 0))
set_option maxRecDepth 100000 in
theorem S_403 : aSpec wd ct_403 := bChk_ok wx_ok btX11_isWhale (nds := []) (fk := [12]) (rk := (1, [])) (sp := 0) (fuel := 3000) (by decide +kernel) lk_n odX11_isWhale
def sl_851 : (Nat × Nat) × aI := (((nat_lit 42), (nat_lit 6)), [((.ofNat (nat_lit 2)), (.ofNat (nat_lit 5)), (nat_lit 1))])
def pon_852 : aPo := (some (.inl aTop), [none, some [((.ofNat (nat_lit 0)), (.ofNat (nat_lit 7)), (nat_lit 1))], some [((.ofNat (nat_lit 0)), (.ofNat (nat_lit 4)), (nat_lit 1))], some [((.ofNat (nat_lit 0)), (.ofNat (nat_lit 7)), (nat_lit 1))], some [((.ofNat (nat_lit 0)), (.ofNat (nat_lit 4)), (nat_lit 1))]], [sl_301, sl_851, sl_214], [])
def ct_404 : aCt := (mX11_meet, [ag_0, ag_1, ag_1, ag_1, ag_1], ([], [((0, 3), 42), ((92, 0), 42), ((94, 0), 42)]), [pon_852, pon_333], mdn_537, [], (nat_lit 6))
set_option maxRecDepth 100000 in
theorem S_404 : aSpec wd ct_404 := bChk_ok wx_ok btX11_meet (nds := []) (fk := []) (rk := (1, [])) (sp := 0) (fuel := 3000) (by decide +kernel) (lk_d S_63 ml_11_98 (lk_d S_402 ml_11_310 (lk_d S_400 ml_11_310 (lk_d S_398 ml_11_310 (lk_d S_396 ml_11_310 (lk_d S_395 ml_11_121 (lk_d S_397 ml_11_121 (lk_d S_399 ml_11_121 (lk_d S_401 ml_11_121 (lk_d S_403 ml_11_121 (lk_d S_394 ml_11_147 (lk_d S_314 ml_11_147 (lk_d S_312 ml_11_121 (lk_d S_57 ml_11_112 lk_n)))))))))))))) odX11_meet
def pon_853 : aPo := (some (.inl [((.ofNat (nat_lit 0)), (.ofNat (nat_lit 0)), (nat_lit 1))]), [], [sl_275], [])
def ct_405 : aCt := (mX6_isFitting, [ag_394, ag_217], ([sl_147, sl_811], [((94, 0), 42)]), [pon_853, pon_38], mdn_514, [], (nat_lit 3))
set_option maxRecDepth 100000 in
theorem S_405 : aSpec wd ct_405 := bChk_ok wx_ok btX6_isFitting (nds := [((nat_lit 18), [lcn_396, lcn_265, lcn_250, lcn_517, lcn_593], [], [sl_147, sl_811], [((94, 0), 42)], (8, [(3, -1)]))]) (fk := []) (rk := (9, [])) (sp := 262144) (fuel := 3000) (by decide +kernel) (lk_d S_372 ml_6_84 lk_n) odX6_isFitting
def ct_406 : aCt := (mX6_fittingWhales, [ag_394], ([sl_147], [((94, 0), 42)]), [pon_634], mdn_514, [], (nat_lit 4))
set_option maxRecDepth 100000 in
theorem S_406 : aSpec wd ct_406 := bChk_ok wx_ok btX6_fittingWhales (nds := [((nat_lit 4), [lcn_396, lcn_635, lcn_293], [], [sl_147], [((94, 0), 42)], (5, [(1, -1)]))]) (fk := []) (rk := (6, [])) (sp := 16) (fuel := 3000) (by decide +kernel) (lk_d S_405 ml_6_164 lk_n) odX6_fittingWhales
def ct_407 : aCt := (mX11_fits, [ag_0], ([], [((0, 3), 42), ((94, 0), 42)]), [pon_830, pon_831], mdn_531, [], (nat_lit 5))
set_option maxRecDepth 100000 in
theorem S_407 : aSpec wd ct_407 := bChk_ok wx_ok btX11_fits (nds := []) (fk := []) (rk := (1, [])) (sp := 0) (fuel := 3000) (by decide +kernel) (lk_d S_406 ml_11_313 (lk_d S_335 ml_11_222 (lk_d S_63 ml_11_98 (lk_d S_57 ml_11_112 lk_n)))) odX11_fits
def ct_408 : aCt := (mX4_lastSpoutOf, [ag_26, ag_217], ([], []), [pon_417, pon_52], [], [], (nat_lit 0))
set_option maxRecDepth 100000 in
theorem S_408 : aSpec wd ct_408 := bChk_ok wx_ok btX4_lastSpoutOf (nds := [((nat_lit 7), [lcn_141, lcn_265, lcn_636], [], [], [], (1, [(1, 1)]))]) (fk := []) (rk := (9, [])) (sp := 128) (fuel := 3000) (by decide +kernel) lk_n odX4_lastSpoutOf
def ct_409 : aCt := (mX6_islandsReached, [ag_394, ag_217, ag_560], ([sl_224], [((94, 0), 42)]), [pon_637], mdn_514, [], (nat_lit 3))
set_option maxRecDepth 100000 in
theorem S_409 : aSpec wd ct_409 := bChk_ok wx_ok btX6_islandsReached (nds := [((nat_lit 90), [lcn_396, lcn_265, lcn_563, lcn_638, lcn_446, lcn_639, lcn_369], [], [sl_224], [((94, 0), 42)], (7, [(5, -1)]))]) (fk := []) (rk := (8, [])) (sp := 1237940039285380274899124224) (fuel := 3000) (by decide +kernel) (lk_d S_408 ml_6_185 (lk_d S_372 ml_6_84 lk_n)) odX6_islandsReached
def ct_410 : aCt := (mX4_lastSpoutOf, [ag_26, ag_361], ([], []), [pon_417, pon_52], [], [], (nat_lit 0))
set_option maxRecDepth 100000 in
theorem S_410 : aSpec wd ct_410 := bChk_ok wx_ok btX4_lastSpoutOf (nds := [((nat_lit 7), [lcn_141, lcn_640, lcn_636], [], [], [], (1, [(1, 1)]))]) (fk := []) (rk := (9, [])) (sp := 128) (fuel := 3000) (by decide +kernel) lk_n odX4_lastSpoutOf
def ct_411 : aCt := (mX6_islandsReached, [ag_394, ag_361, ag_560], ([sl_222], [((94, 0), 42)]), [pon_637], mdn_514, [], (nat_lit 3))
set_option maxRecDepth 100000 in
theorem S_411 : aSpec wd ct_411 := bChk_ok wx_ok btX6_islandsReached (nds := [((nat_lit 90), [lcn_396, lcn_640, lcn_563, lcn_638, lcn_446, lcn_639, lcn_369], [], [sl_222], [((94, 0), 42)], (7, [(5, -1)]))]) (fk := []) (rk := (8, [])) (sp := 1237940039285380274899124224) (fuel := 3000) (by decide +kernel) (lk_d S_410 ml_6_185 (lk_d S_372 ml_6_84 lk_n)) odX6_islandsReached
def ct_412 : aCt := (mX4_lastSpoutOf, [ag_26, ag_402], ([], []), [pon_417, pon_52], [], [], (nat_lit 0))
set_option maxRecDepth 100000 in
theorem S_412 : aSpec wd ct_412 := bChk_ok wx_ok btX4_lastSpoutOf (nds := [((nat_lit 7), [lcn_141, lcn_397, lcn_636], [], [], [], (1, [(1, 1)]))]) (fk := []) (rk := (9, [])) (sp := 128) (fuel := 3000) (by decide +kernel) lk_n odX4_lastSpoutOf
def ct_413 : aCt := (mX6_islandsReached, [ag_394, ag_402, ag_560], ([sl_228], [((94, 0), 42)]), [pon_637], mdn_514, [], (nat_lit 3))
set_option maxRecDepth 100000 in
theorem S_413 : aSpec wd ct_413 := bChk_ok wx_ok btX6_islandsReached (nds := [((nat_lit 90), [lcn_396, lcn_397, lcn_563, lcn_638, lcn_446, lcn_639, lcn_369], [], [sl_228], [((94, 0), 42)], (7, [(5, -1)]))]) (fk := []) (rk := (8, [])) (sp := 1237940039285380274899124224) (fuel := 3000) (by decide +kernel) (lk_d S_412 ml_6_185 (lk_d S_372 ml_6_84 lk_n)) odX6_islandsReached
def ct_414 : aCt := (mX4_lastSpoutOf, [ag_26, ag_535], ([], []), [pon_417, pon_52], [], [], (nat_lit 0))
set_option maxRecDepth 100000 in
theorem S_414 : aSpec wd ct_414 := bChk_ok wx_ok btX4_lastSpoutOf (nds := [((nat_lit 7), [lcn_141, lcn_641, lcn_636], [], [], [], (1, [(1, 1)]))]) (fk := []) (rk := (9, [])) (sp := 128) (fuel := 3000) (by decide +kernel) lk_n odX4_lastSpoutOf
def ct_415 : aCt := (mX6_islandsReached, [ag_394, ag_535, ag_560], ([sl_233], [((94, 0), 42)]), [pon_637], mdn_514, [], (nat_lit 3))
set_option maxRecDepth 100000 in
theorem S_415 : aSpec wd ct_415 := bChk_ok wx_ok btX6_islandsReached (nds := [((nat_lit 90), [lcn_396, lcn_641, lcn_563, lcn_638, lcn_446, lcn_639, lcn_369], [], [sl_233], [((94, 0), 42)], (7, [(5, -1)]))]) (fk := []) (rk := (8, [])) (sp := 1237940039285380274899124224) (fuel := 3000) (by decide +kernel) (lk_d S_414 ml_6_185 (lk_d S_372 ml_6_84 lk_n)) odX6_islandsReached
def ct_416 : aCt := (mX4_lastSpoutOf, [ag_26, ag_170], ([], []), [pon_417, pon_52], [], [], (nat_lit 0))
set_option maxRecDepth 100000 in
theorem S_416 : aSpec wd ct_416 := bChk_ok wx_ok btX4_lastSpoutOf (nds := [((nat_lit 7), [lcn_141, lcn_175, lcn_636], [], [], [], (1, [(0, 1)]))]) (fk := []) (rk := (9, [])) (sp := 128) (fuel := 3000) (by decide +kernel) lk_n odX4_lastSpoutOf
def sl_854 : (Nat × Nat) × aI := (((nat_lit 61), (nat_lit 0)), [((.ofNat (nat_lit 0)), (.ofNat (nat_lit 3)), (nat_lit 1))])
def ct_417 : aCt := (mX6_islandsReached, [ag_394, ag_170, ag_560], ([sl_238], [((94, 0), 42)]), [pon_637], mdn_514, [], (nat_lit 3))
set_option maxRecDepth 100000 in
theorem S_417 : aSpec wd ct_417 := bChk_ok wx_ok btX6_islandsReached (nds := [((nat_lit 90), [lcn_396, lcn_175, lcn_563, lcn_638, lcn_446, lcn_639, lcn_369], [], [sl_238, sl_854], [((94, 0), 42)], (7, [(4, -1)]))]) (fk := []) (rk := (8, [])) (sp := 1237940039285380274899124224) (fuel := 3000) (by decide +kernel) (lk_d S_416 ml_6_185 (lk_d S_372 ml_6_84 lk_n)) odX6_islandsReached
def pon_855 : aPo := (some (.inl aTop), [none, some [((.ofNat (nat_lit 0)), (.ofNat (nat_lit 4)), (nat_lit 1))], some [((.ofNat (nat_lit 0)), (.ofNat (nat_lit 99999)), (nat_lit 1))]], [sl_301, sl_811], [])
def ct_418 : aCt := (mX11_reach, [ag_0, ag_1, ag_1], ([], [((0, 3), 42), ((94, 0), 42)]), [pon_855, pon_644], mdn_531, [], (nat_lit 4))
set_option maxRecDepth 100000 in
theorem S_418 : aSpec wd ct_418 := bChk_ok wx_ok btX11_reach (nds := []) (fk := []) (rk := (1, [])) (sp := 0) (fuel := 3000) (by decide +kernel) (lk_d S_6 ml_11_98 (lk_d S_63 ml_11_98 (lk_d S_417 ml_11_316 (lk_d S_415 ml_11_316 (lk_d S_413 ml_11_316 (lk_d S_411 ml_11_316 (lk_d S_409 ml_11_316 (lk_d S_312 ml_11_121 (lk_d S_92 ml_11_227 (lk_d S_57 ml_11_112 lk_n)))))))))) odX11_reach
def ct_419 : aCt := (mX6_islandsReached, [ag_394, ag_217, ag_560], ([sl_147, sl_811], [((94, 0), 42)]), [pon_637], mdn_514, [], (nat_lit 3))
set_option maxRecDepth 100000 in
theorem S_419 : aSpec wd ct_419 := bChk_ok wx_ok btX6_islandsReached (nds := [((nat_lit 90), [lcn_396, lcn_265, lcn_563, lcn_638, lcn_446, lcn_639, lcn_369], [], [sl_147, sl_811], [((94, 0), 42)], (7, [(5, -1)]))]) (fk := []) (rk := (8, [])) (sp := 1237940039285380274899124224) (fuel := 3000) (by decide +kernel) (lk_d S_408 ml_6_185 (lk_d S_372 ml_6_84 lk_n)) odX6_islandsReached
def ct_420 : aCt := (mX6_whalesReaching, [ag_394, ag_125, ag_560], ([sl_147], [((94, 0), 42)]), [pon_130], mdn_514, [], (nat_lit 4))
set_option maxRecDepth 100000 in
theorem S_420 : aSpec wd ct_420 := bChk_ok wx_ok btX6_whalesReaching (nds := [((nat_lit 5), [lcn_396, lcn_249, lcn_563, lcn_517, lcn_447], [], [sl_147], [((94, 0), 42)], (5, [(3, -1)]))]) (fk := []) (rk := (6, [])) (sp := 32) (fuel := 3000) (by decide +kernel) (lk_d S_419 ml_6_203 lk_n) odX6_whalesReaching
def ct_421 : aCt := (mX6_bestPier, [ag_394, ag_560], ([sl_147], [((94, 0), 42)]), [pon_365], mdn_514, [], (nat_lit 5))
set_option maxRecDepth 100000 in
theorem S_421 : aSpec wd ct_421 := bChk_ok wx_ok btX6_bestPier (nds := [((nat_lit 17), [lcn_396, lcn_645, lcn_646, lcn_647, lcn_351, lcn_648], [], [sl_147], [((94, 0), 42)], (7, [(4, -1)]))]) (fk := []) (rk := (8, [])) (sp := 131072) (fuel := 3000) (by decide +kernel) (lk_d S_406 ml_6_188 (lk_d S_239 ml_6_192 (lk_d S_420 ml_6_197 lk_n))) odX6_bestPier
def ct_422 : aCt := (mX11_pier, [ag_0, ag_1], ([], [((0, 3), 42), ((94, 0), 42)]), [pon_827, pon_390], mdn_531, [], (nat_lit 6))
set_option maxRecDepth 100000 in
theorem S_422 : aSpec wd ct_422 := bChk_ok wx_ok btX11_pier (nds := []) (fk := []) (rk := (1, [])) (sp := 0) (fuel := 3000) (by decide +kernel) (lk_d S_335 ml_11_222 (lk_d S_6 ml_11_98 (lk_d S_63 ml_11_98 (lk_d S_421 ml_11_319 (lk_d S_92 ml_11_227 (lk_d S_57 ml_11_112 lk_n)))))) odX11_pier
def ct_423 : aCt := (mX3_waysOutOf, [ag_649, ag_650], ([], [((96, 0), 42)]), [pon_651], [], [], (nat_lit 0))
set_option maxRecDepth 100000 in
theorem S_423 : aSpec wd ct_423 := bChk_ok wx_ok btX3_waysOutOf (nds := [((nat_lit 4), [lcn_652, lcn_653, lcn_654, lcn_379], [], [], [((96, 0), 42)], (12, [(2, -1)]))]) (fk := []) (rk := (13, [])) (sp := 16) (fuel := 3000) (by decide +kernel) lk_n odX3_waysOutOf
def ct_424 : aCt := (mX3_fewestToWatch, [ag_649, ag_125, ag_125, ag_1], ([sl_147], [((96, 0), 42)]), [pon_656], [], [], (nat_lit 1))
set_option maxRecDepth 100000 in
theorem S_424 : aSpec wd ct_424 := bChk_ok wx_ok btX3_fewestToWatch (nds := [((nat_lit 11), [lcn_652, lcn_249, lcn_250, lcn_517, lcn_657, lcn_658, lcn_659], [], [sl_147], [((96, 0), 42)], (128, [(5, -1)]))]) (fk := []) (rk := (129, [])) (sp := 2048) (fuel := 3000) (by decide +kernel) (lk_d S_423 ml_3_31 (lk_d S_245 ml_3_35 lk_n)) odX3_fewestToWatch
def ct_425 : aCt := (mX11_watch, [ag_0, ag_1, ag_1], ([], [((0, 3), 42), ((96, 0), 42)]), [pon_824, pon_333], mdn_25, [], (nat_lit 2))
set_option maxRecDepth 100000 in
theorem S_425 : aSpec wd ct_425 := bChk_ok wx_ok btX11_watch (nds := []) (fk := []) (rk := (1, [])) (sp := 0) (fuel := 3000) (by decide +kernel) (lk_d S_63 ml_11_98 (lk_d S_57 ml_11_112 (lk_d S_424 ml_11_325 (lk_d S_332 ml_11_204 lk_n)))) odX11_watch
def ct_426 : aCt := (mX3_findShortest, [ag_649, ag_1], ([sl_147], [((96, 0), 42)]), [pon_49], mdn_662, [], (nat_lit 1))
set_option maxRecDepth 100000 in
theorem S_426 : aSpec wd ct_426 := bChk_ok wx_ok btX3_findShortest (nds := [((nat_lit 11), [lcn_652, lcn_271, lcn_666], [], [sl_147], [((96, 0), 42)], (596, [(1, -1)])), ((nat_lit 128), [lcn_652, lcn_271, lcn_411], [], [sl_147], [((96, 0), 42)], (583, [(1, -73)])), ((nat_lit 141), [lcn_652, lcn_271, lcn_250, lcn_438], [], [sl_147], [((96, 0), 42)], (582, [(1, -73), (2, -9)])), ((nat_lit 155), [lcn_652, lcn_271, lcn_250, lcn_144, lcn_445], [], [sl_147], [((96, 0), 42)], (581, [(1, -73), (2, -9), (3, -1)]))]) (fk := []) (rk := (597, [])) (sp := 45674714100022899442696306450542532841204353024) (fuel := 3000) (by decide +kernel) (lk_d S_248 ml_3_67 lk_n) odX3_findShortest
def ct_427 : aCt := (mX3_findRests, [ag_649], ([sl_147], [((96, 0), 42)]), [pon_49], mdn_668, [], (nat_lit 1))
set_option maxRecDepth 100000 in
theorem S_427 : aSpec wd ct_427 := bChk_ok wx_ok btX3_findRests (nds := [((nat_lit 14), [lcn_652, lcn_669, lcn_670], [], [sl_147], [((96, 0), 42)], (72, [(1, 73)])), ((nat_lit 20), [lcn_652, lcn_669, lcn_671, lcn_438], [], [sl_147], [((96, 0), 42)], (71, [(1, 73), (2, -9)])), ((nat_lit 47), [lcn_652, lcn_669, lcn_671, lcn_144, lcn_672, lcn_648], [], [sl_147], [((96, 0), 42)], (70, [(1, 73), (2, -9), (4, -1)]))]) (fk := []) (rk := (9344, [])) (sp := 140737489420288) (fuel := 3000) (by decide +kernel) (lk_d S_250 ml_3_81 lk_n) odX3_findRests
def ct_428 : aCt := (mX3_nextOf, [ag_649, ag_650, ag_125], ([sl_835], [((96, 0), 42)]), [pon_264], [], [], (nat_lit 1))
set_option maxRecDepth 100000 in
theorem S_428 : aSpec wd ct_428 := bChk_ok wx_ok btX3_nextOf (nds := [((nat_lit 2), [lcn_652, lcn_653, lcn_250, lcn_438], [], [sl_835], [((96, 0), 42)], (7, [(2, -1)]))]) (fk := []) (rk := (8, [])) (sp := 4) (fuel := 3000) (by decide +kernel) (lk_d S_252 ml_3_81 lk_n) odX3_nextOf
def ct_429 : aCt := (mX3_findRound, [ag_649, ag_125, ag_1], ([sl_147], [((96, 0), 42)]), [pon_673, pon_52], mdn_674, [], (nat_lit 2))
set_option maxRecDepth 100000 in
theorem S_429 : aSpec wd ct_429 := bChk_ok wx_ok btX3_findRound (nds := [((nat_lit 47), [lcn_652, lcn_249, lcn_132, lcn_675, lcn_676, lcn_677], [], [sl_147], [((96, 0), 42)], (7, [(4, -1)]))]) (fk := []) (rk := (7, [])) (sp := 140737488355328) (fuel := 3000) (by decide +kernel) (lk_d S_427 ml_3_59 (lk_d S_428 ml_3_63 (lk_d S_426 ml_3_55 lk_n))) odX3_findRound
def ct_430 : aCt := (mX11_round, [ag_0, ag_1], ([], [((0, 3), 42), ((96, 0), 42)]), [pon_816, pon_333], mdn_678, [], (nat_lit 3))
set_option maxRecDepth 100000 in
theorem S_430 : aSpec wd ct_430 := bChk_ok wx_ok btX11_round (nds := []) (fk := []) (rk := (1, [])) (sp := 0) (fuel := 3000) (by decide +kernel) (lk_d S_63 ml_11_98 (lk_d S_316 ml_11_174 (lk_d S_57 ml_11_112 (lk_d S_429 ml_11_328 lk_n)))) odX11_round
def ct_431 : aCt := (mX11_roundAt, [ag_0, ag_1, ag_1], ([], [((0, 3), 42), ((96, 0), 42)]), [pon_824, pon_680], mdn_678, [], (nat_lit 3))
set_option maxRecDepth 100000 in
theorem S_431 : aSpec wd ct_431 := bChk_ok wx_ok btX11_roundAt (nds := []) (fk := []) (rk := (1, [])) (sp := 0) (fuel := 3000) (by decide +kernel) (lk_d S_179 ml_11_98 (lk_d S_63 ml_11_98 (lk_d S_331 ml_11_174 (lk_d S_316 ml_11_174 (lk_d S_57 ml_11_112 (lk_d S_429 ml_11_328 lk_n)))))) odX11_roundAt
def ct_432 : aCt := (mX7_slipped, [ag_344, ag_1, ag_137], ([], [((92, 0), 42)]), [pon_130], mdn_687, [], (nat_lit 1))
set_option maxRecDepth 100000 in
theorem S_432 : aSpec wd ct_432 := bChk_ok wx_ok btX7_slipped (nds := []) (fk := []) (rk := (1, [])) (sp := 0) (fuel := 3000) (by decide +kernel) (lk_d S_259 ml_7_85 (lk_d S_260 ml_7_92 lk_n)) odX7_slipped
def ct_433 : aCt := (mX7_fallIn, [ag_344, ag_690], ([], [((92, 0), 42)]), [pon_346, pon_37], [], [], (nat_lit 0))
set_option maxRecDepth 100000 in
theorem S_433 : aSpec wd ct_433 := bChk_ok wx_ok btX7_fallIn (nds := []) (fk := []) (rk := (1, [])) (sp := 0) (fuel := 3000) (by decide +kernel) lk_n odX7_fallIn
def ct_434 : aCt := (mX7_hearerOf, [ag_344, ag_1, ag_137, ag_690], ([sl_147], [((92, 0), 42)]), [pon_365, pon_52], mdn_366, [], (nat_lit 2))
set_option maxRecDepth 100000 in
theorem S_434 : aSpec wd ct_434 := bChk_ok wx_ok btX7_hearerOf (nds := [((nat_lit 32), [lcn_349, lcn_271, lcn_143, lcn_691, lcn_351, lcn_368, lcn_369], [], [sl_147, sl_370], [((92, 0), 42)], (7, [(5, -1)]))]) (fk := []) (rk := (8, [])) (sp := 4294967296) (fuel := 3000) (by decide +kernel) (lk_d S_433 ml_7_50 (lk_d S_326 ml_7_54 (lk_d S_327 ml_7_54 (lk_d S_82 ml_7_60 lk_n)))) odX7_hearerOf
def ct_435 : aCt := (mX11_heardWithSlips, [ag_0, ag_690], ([sl_147], [((0, 3), 42), ((92, 0), 42)]), [pon_130], mdn_692, [], (nat_lit 3))
set_option maxRecDepth 100000 in
theorem S_435 : aSpec wd ct_435 := bChk_ok wx_ok btX11_heardWithSlips (nds := [((nat_lit 4), [lcn_407, lcn_693, lcn_132, lcn_408], [], [sl_147], [((0, 3), 42), ((92, 0), 42)], (8, [(2, -1)]))]) (fk := []) (rk := (9, [])) (sp := 16) (fuel := 3000) (by decide +kernel) (lk_d S_323 ml_11_198 (lk_d S_432 ml_11_399 (lk_d S_434 ml_11_277 lk_n))) odX11_heardWithSlips
def ct_436 : aCt := (mX11_decade, [ag_0, ag_1, ag_1], ([], [((0, 3), 42), ((92, 0), 42)]), [pon_830, pon_390], mdn_694, [], (nat_lit 4))
set_option maxRecDepth 100000 in
theorem S_436 : aSpec wd ct_436 := bChk_ok wx_ok btX11_decade (nds := [((nat_lit 51), [lcn_407, lcn_695, lcn_696, lcn_517, lcn_697], [], [sl_147], [((0, 3), 42), ((92, 0), 42)], (63, [(3, -1)]))]) (fk := []) (rk := (64, [])) (sp := 2251799813685248) (fuel := 3000) (by decide +kernel) (lk_d S_335 ml_11_222 (lk_d S_6 ml_11_98 (lk_d S_63 ml_11_98 (lk_d S_435 ml_11_338 (lk_d S_257 ml_11_227 (lk_d S_258 ml_11_227 (lk_d S_57 ml_11_112 lk_n))))))) odX11_decade
def pon_856 : aPo := (some (.inl aTop), [none, some [((.ofNat (nat_lit 0)), (.ofNat (nat_lit 4)), (nat_lit 1))], some [((.ofNat (nat_lit 0)), (.ofNat (nat_lit 7)), (nat_lit 1))]], [sl_301, sl_811, sl_214, sl_532], [])
def ct_437 : aCt := (mX11_send, [ag_0, ag_1, ag_1], ([], [((0, 3), 42), ((92, 0), 42), ((94, 0), 42)]), [pon_856, pon_705], mdn_706, [], (nat_lit 5))
set_option maxRecDepth 100000 in
theorem S_437 : aSpec wd ct_437 := bChk_ok wx_ok btX11_send (nds := []) (fk := []) (rk := (1, [])) (sp := 0) (fuel := 3000) (by decide +kernel) (lk_d S_268 ml_11_341 (lk_d S_266 ml_11_98 (lk_d S_63 ml_11_98 (lk_d S_380 ml_11_283 (lk_d S_379 ml_11_283 (lk_d S_378 ml_11_283 (lk_d S_377 ml_11_283 (lk_d S_376 ml_11_283 (lk_d S_312 ml_11_121 (lk_d S_314 ml_11_147 (lk_d S_57 ml_11_112 lk_n))))))))))) odX11_send
def pon_857 : aPo := (some (.inl [((.ofNat (nat_lit 1)), (.ofNat (nat_lit 1)), (nat_lit 1))]), [none, some [((.ofNat (nat_lit 0)), (.ofNat (nat_lit 7)), (nat_lit 1))], some [((.ofNat (nat_lit 0)), (.ofNat (nat_lit 999)), (nat_lit 1))], some [((.ofNat (nat_lit 0)), (.ofNat (nat_lit 3)), (nat_lit 1))]], [sl_301, sl_214], [])
def ct_438 : aCt := (mX11_tune, [ag_0, ag_1, ag_1, ag_1], ([], [((0, 3), 42)]), [pon_715, pon_857], mdn_717, [], (nat_lit 3))
set_option maxRecDepth 100000 in
theorem S_438 : aSpec wd ct_438 := bChk_ok wx_ok btX11_tune (nds := []) (fk := []) (rk := (1, [])) (sp := 0) (fuel := 3000) (by decide +kernel) (lk_d S_268 ml_11_341 (lk_d S_273 ml_11_356 (lk_d S_272 ml_11_347 (lk_d S_274 ml_11_347 (lk_d S_275 ml_11_347 (lk_d S_323 ml_11_198 (lk_d S_98 ml_11_242 (lk_d S_270 ml_11_227 (lk_d S_271 ml_11_353 (lk_d S_324 ml_11_191 lk_n)))))))))) odX11_tune
def pon_858 : aPo := (some (.inl aTop), [none, some [((.ofNat (nat_lit 1)), (.ofNat (nat_lit 99)), (nat_lit 1))]], [sl_301, sl_147], [])
def ct_439 : aCt := (mX11_years, [ag_0, ag_1], ([], [((0, 3), 42)]), [pon_858, pon_722], mdn_723, [], (nat_lit 3))
set_option maxRecDepth 100000 in
theorem S_439 : aSpec wd ct_439 := bChk_ok wx_ok btX11_years (nds := []) (fk := [38]) (rk := (1, [])) (sp := 0) (fuel := 3000) (by decide +kernel) (lk_d S_335 ml_11_222 (lk_d S_268 ml_11_341 (lk_d S_6 ml_11_98 (lk_d S_277 ml_11_98 (lk_d S_63 ml_11_98 (lk_d S_57 ml_11_112 lk_n)))))) odX11_years
def pon_859 : aPo := (some (.inl [((.ofNat (nat_lit 1)), (.ofNat (nat_lit 1)), (nat_lit 1))]), [none, some [((.ofNat (nat_lit 0)), (.ofNat (nat_lit 11)), (nat_lit 1))], some [((.ofNat (nat_lit 0)), (.ofNat (nat_lit 1)), (nat_lit 1))]], [sl_301, sl_258], [])
def ct_440 : aCt := (mX11_close, [ag_0, ag_1, ag_535], ([], [((0, 3), 42)]), [pon_724, pon_859], mdn_726, [], (nat_lit 3))
set_option maxRecDepth 100000 in
theorem S_440 : aSpec wd ct_440 := bChk_ok wx_ok btX11_close (nds := []) (fk := []) (rk := (1, [])) (sp := 0) (fuel := 3000) (by decide +kernel) (lk_d S_268 ml_11_341 (lk_d S_273 ml_11_356 (lk_d S_272 ml_11_347 (lk_d S_275 ml_11_347 (lk_d S_89 ml_11_210 (lk_d S_337 ml_11_230 lk_n)))))) odX11_close
def ct_441 : aCt := (mX11_undo, [ag_0], ([], []), [pon_727, pon_711], mdn_728, [], (nat_lit 2))
set_option maxRecDepth 100000 in
theorem S_441 : aSpec wd ct_441 := bChk_ok wx_ok btX11_undo (nds := []) (fk := []) (rk := (1, [])) (sp := 0) (fuel := 3000) (by decide +kernel) (lk_d S_273 ml_11_356 (lk_d S_280 ml_11_347 (lk_d S_281 ml_11_359 lk_n))) odX11_undo
def pon_860 : aPo := (some (.inl aTop), [], [sl_301, sl_731, sl_147], [])
def ct_442 : aCt := (mX11_image, [ag_0], ([], [((0, 3), 42)]), [pon_860, pon_734], mdn_735, [], (nat_lit 2))
set_option maxRecDepth 100000 in
theorem S_442 : aSpec wd ct_442 := bChk_ok wx_ok btX11_image (nds := []) (fk := []) (rk := (1, [])) (sp := 0) (fuel := 3000) (by decide +kernel) (lk_d S_335 ml_11_222 (lk_d S_277 ml_11_98 (lk_d S_63 ml_11_98 (lk_d S_283 ml_11_359 (lk_d S_57 ml_11_112 lk_n))))) odX11_image
def ct_443 : aCt := (mX11_back, [ag_0, ag_1], ([], []), [pon_736, pon_737], mdn_738, [], (nat_lit 2))
set_option maxRecDepth 100000 in
theorem S_443 : aSpec wd ct_443 := bChk_ok wx_ok btX11_back (nds := []) (fk := []) (rk := (1, [])) (sp := 0) (fuel := 3000) (by decide +kernel) (lk_d S_273 ml_11_356 (lk_d S_275 ml_11_347 (lk_d S_285 ml_11_359 lk_n))) odX11_back
def ct_444 : aCt := (mX11_size, [ag_0, ag_1], ([], [((0, 3), 42)]), [pon_739, pon_740], [], [], (nat_lit 0))
set_option maxRecDepth 100000 in
theorem S_444 : aSpec wd ct_444 := bChk_ok wx_ok btX11_size (nds := []) (fk := []) (rk := (1, [])) (sp := 0) (fuel := 3000) (by decide +kernel) lk_n odX11_size
def ct_445 : aCt := (mX11_trouble, [ag_0], ([], []), [pon_264], [], [], (nat_lit 0))
set_option maxRecDepth 100000 in
theorem S_445 : aSpec wd ct_445 := bChk_ok wx_ok btX11_trouble (nds := []) (fk := []) (rk := (1, [])) (sp := 0) (fuel := 3000) (by decide +kernel) lk_n odX11_trouble
def ag_861 : aAg := .inr (.inl [(nat_lit 196)])
def sl_862 : (Nat × Nat) × aI := (((nat_lit 196), (nat_lit 2)), [((.ofNat (nat_lit 20)), (.ofNat (nat_lit 1000)), (nat_lit 1))])
def pon_863 : aPo := (some (.inl [((.ofNat (nat_lit 20)), (.ofNat (nat_lit 1000)), (nat_lit 1))]), [], [sl_862], [])
def sl_864 : (Nat × Nat) × aI := (((nat_lit 196), (nat_lit 2)), [((.ofNat (nat_lit 981)), (.ofNat (nat_lit 1000)), (nat_lit 1))])
def pon_865 : aPo := (some (.inl [((.negSucc (nat_lit 0)), (.negSucc (nat_lit 0)), (nat_lit 1))]), [], [sl_864], [])
def mdn_866 : List (Nat × Nat × Nat) := [((nat_lit 196), (nat_lit 0), (nat_lit 1)), ((nat_lit 196), (nat_lit 2), (nat_lit 3)), ((nat_lit 197), (nat_lit 0), (nat_lit 1000))]
set_option maxRecDepth 100000 in
theorem btX12_feed : bTab oX12_feed tX12_feed := ⟨ofX12_feed, by decide +kernel⟩
def ct_446 : aCt := (mX12_feed, [ag_861, ag_1, ag_1, ag_1, ag_1, ag_1], ([], []), [pon_863, pon_865], mdn_866, [], (nat_lit 0))
set_option maxRecDepth 100000 in
theorem S_446 : aSpec wd ct_446 := bChk_ok wx_ok btX12_feed (nds := []) (fk := []) (rk := (1, [])) (sp := 0) (fuel := 3000) (by decide +kernel) lk_n odX12_feed
end Pk1
section Pk2
def sl_867 : (Nat × Nat) × aI := (((nat_lit 196), (nat_lit 11)), [((.ofNat (nat_lit 0)), (.ofNat (nat_lit 0)), (nat_lit 1))])
def pon_868 : aPo := (none, [], [sl_867], [])
def mdn_869 : List (Nat × Nat × Nat) := [((nat_lit 196), (nat_lit 0), (nat_lit 1)), ((nat_lit 196), (nat_lit 11), (nat_lit 12))]
set_option maxRecDepth 100000 in
theorem btX12_good : bTab oX12_good tX12_good := ⟨ofX12_good, by decide +kernel⟩
def ct_447 : aCt := (mX12_good, [ag_861], ([], []), [pon_868], mdn_869, [], (nat_lit 0))
set_option maxRecDepth 100000 in
theorem S_447 : aSpec wd ct_447 := bChk_ok wx_ok btX12_good (nds := []) (fk := []) (rk := (1, [])) (sp := 0) (fuel := 3000) (by decide +kernel) lk_n odX12_good
def pon_870 : aPo := (some (.inl [((.ofNat (nat_lit 0)), (.ofNat (nat_lit 0)), (nat_lit 1))]), [some [((.negSucc (nat_lit 2147483647)), (.negSucc (nat_lit 0)), (nat_lit 1)), ((.ofNat (nat_lit 1)), (.ofNat (nat_lit 2147483647)), (nat_lit 1))], none, none], [], [])
def pon_871 : aPo := (some (.inl [((.ofNat (nat_lit 1)), (.ofNat (nat_lit 1)), (nat_lit 1))]), [some [((.ofNat (nat_lit 0)), (.ofNat (nat_lit 1000)), (nat_lit 1))], none, none], [], [])
def mdn_872 : List (Nat × Nat × Nat) := [((nat_lit 1000002), (nat_lit 0), (nat_lit 0))]
set_option maxRecDepth 100000 in
theorem btX12_in : bTab oX12_in tX12_in := ⟨ofX12_in, by decide +kernel⟩
def ct_448 : aCt := (mX12_in, [ag_1, ag_170, ag_281], ([], []), [pon_870, pon_871], mdn_872, [], (nat_lit 0))
set_option maxRecDepth 100000 in
theorem S_448 : aSpec wd ct_448 := bChk_ok wx_ok btX12_in (nds := []) (fk := []) (rk := (1, [])) (sp := 0) (fuel := 3000) (by decide +kernel) lk_n odX12_in
def sl_873 : (Nat × Nat) × aI := (((nat_lit 196), (nat_lit 11)), [((.ofNat (nat_lit 2)), (.ofNat (nat_lit 2)), (nat_lit 1))])
def pon_874 : aPo := (some (.inl [((.negSucc (nat_lit 0)), (.negSucc (nat_lit 0)), (nat_lit 1))]), [], [sl_873], [])
def mdn_875 : List (Nat × Nat × Nat) := [((nat_lit 196), (nat_lit 11), (nat_lit 12))]
set_option maxRecDepth 100000 in
theorem btX12_no : bTab oX12_no tX12_no := ⟨ofX12_no, by decide +kernel⟩
def ct_449 : aCt := (mX12_no, [ag_861, ag_22], ([sl_867], []), [pon_874], mdn_875, [], (nat_lit 0))
set_option maxRecDepth 100000 in
theorem S_449 : aSpec wd ct_449 := bChk_ok wx_ok btX12_no (nds := []) (fk := []) (rk := (1, [])) (sp := 0) (fuel := 3000) (by decide +kernel) lk_n odX12_no
def ag_876 : aAg := .inl [((.ofNat (nat_lit 0)), (.ofNat (nat_lit 1001)), (nat_lit 1))]
def pon_877 : aPo := (some (.inl [((.ofNat (nat_lit 0)), (.ofNat (nat_lit 255)), (nat_lit 1))]), [none, some [((.ofNat (nat_lit 0)), (.ofNat (nat_lit 999)), (nat_lit 1))]], [], [])
def pon_878 : aPo := (some (.inl [((.negSucc (nat_lit 0)), (.negSucc (nat_lit 0)), (nat_lit 1))]), [], [], [])
set_option maxRecDepth 100000 in
theorem btX12_look : bTab oX12_look tX12_look := ⟨ofX12_look, by decide +kernel⟩
def ct_450 : aCt := (mX12_look, [ag_861, ag_876], ([], []), [pon_877, pon_878], mdn_872, [], (nat_lit 0))
set_option maxRecDepth 100000 in
theorem S_450 : aSpec wd ct_450 := bChk_ok wx_ok btX12_look (nds := []) (fk := []) (rk := (1, [])) (sp := 0) (fuel := 3000) (by decide +kernel) lk_n odX12_look
def ag_879 : aAg := .inl [((.ofNat (nat_lit 0)), (.ofNat (nat_lit 255)), (nat_lit 1))]
def pon_880 : aPo := (some (.inl [((.ofNat (nat_lit 0)), (.ofNat (nat_lit 0)), (nat_lit 1))]), [some [((.ofNat (nat_lit 0)), (.ofNat (nat_lit 96)), (nat_lit 1)), ((.ofNat (nat_lit 123)), (.ofNat (nat_lit 255)), (nat_lit 1))]], [], [])
def pon_881 : aPo := (some (.inl [((.ofNat (nat_lit 1)), (.ofNat (nat_lit 1)), (nat_lit 1))]), [some [((.ofNat (nat_lit 97)), (.ofNat (nat_lit 122)), (nat_lit 1))]], [], [])
set_option maxRecDepth 100000 in
theorem btX12_isSmall : bTab oX12_isSmall tX12_isSmall := ⟨ofX12_isSmall, by decide +kernel⟩
def ct_451 : aCt := (mX12_isSmall, [ag_879], ([], []), [pon_880, pon_881], mdn_872, [], (nat_lit 0))
set_option maxRecDepth 100000 in
theorem S_451 : aSpec wd ct_451 := bChk_ok wx_ok btX12_isSmall (nds := []) (fk := []) (rk := (1, [])) (sp := 0) (fuel := 3000) (by decide +kernel) lk_n odX12_isSmall
def pon_882 : aPo := (some (.inl [((.ofNat (nat_lit 0)), (.ofNat (nat_lit 0)), (nat_lit 1))]), [some [((.ofNat (nat_lit 0)), (.ofNat (nat_lit 47)), (nat_lit 1)), ((.ofNat (nat_lit 58)), (.ofNat (nat_lit 255)), (nat_lit 1))]], [], [])
def pon_883 : aPo := (some (.inl [((.ofNat (nat_lit 1)), (.ofNat (nat_lit 1)), (nat_lit 1))]), [some [((.ofNat (nat_lit 48)), (.ofNat (nat_lit 57)), (nat_lit 1))]], [], [])
set_option maxRecDepth 100000 in
theorem btX12_isDigit : bTab oX12_isDigit tX12_isDigit := ⟨ofX12_isDigit, by decide +kernel⟩
def ct_452 : aCt := (mX12_isDigit, [ag_879], ([], []), [pon_882, pon_883], mdn_872, [], (nat_lit 0))
set_option maxRecDepth 100000 in
theorem S_452 : aSpec wd ct_452 := bChk_ok wx_ok btX12_isDigit (nds := []) (fk := []) (rk := (1, [])) (sp := 0) (fuel := 3000) (by decide +kernel) lk_n odX12_isDigit
def pon_884 : aPo := (some (.inl [((.ofNat (nat_lit 0)), (.ofNat (nat_lit 255)), (nat_lit 1))]), [], [], [])
def ct_453 : aCt := (mX12_look, [ag_861, ag_348], ([], []), [pon_884, pon_878], mdn_872, [], (nat_lit 0))
set_option maxRecDepth 100000 in
theorem S_453 : aSpec wd ct_453 := bChk_ok wx_ok btX12_look (nds := []) (fk := []) (rk := (1, [])) (sp := 0) (fuel := 3000) (by decide +kernel) lk_n odX12_look
def ct_454 : aCt := (mX12_look, [ag_861, ag_281], ([], []), [pon_877, pon_878], mdn_872, [], (nat_lit 0))
set_option maxRecDepth 100000 in
theorem S_454 : aSpec wd ct_454 := bChk_ok wx_ok btX12_look (nds := []) (fk := []) (rk := (1, [])) (sp := 0) (fuel := 3000) (by decide +kernel) lk_n odX12_look
def ag_885 : aAg := .inl [((.negSucc (nat_lit 0)), (.negSucc (nat_lit 0)), (nat_lit 1))]
def ct_455 : aCt := (mX12_isSmall, [ag_885], ([], []), [pon_37], mdn_872, [], (nat_lit 0))
set_option maxRecDepth 100000 in
theorem S_455 : aSpec wd ct_455 := bChk_ok wx_ok btX12_isSmall (nds := []) (fk := []) (rk := (1, [])) (sp := 0) (fuel := 3000) (by decide +kernel) lk_n odX12_isSmall
def ct_456 : aCt := (mX12_isDigit, [ag_885], ([], []), [pon_37], mdn_872, [], (nat_lit 0))
set_option maxRecDepth 100000 in
theorem S_456 : aSpec wd ct_456 := bChk_ok wx_ok btX12_isDigit (nds := []) (fk := []) (rk := (1, [])) (sp := 0) (fuel := 3000) (by decide +kernel) lk_n odX12_isDigit
def sl_886 : (Nat × Nat) × aI := (((nat_lit 196), (nat_lit 6)), [((.ofNat (nat_lit 0)), (.ofNat (nat_lit 0)), (nat_lit 1))])
def sl_887 : (Nat × Nat) × aI := (((nat_lit 196), (nat_lit 8)), [((.ofNat (nat_lit 0)), (.ofNat (nat_lit 0)), (nat_lit 1))])
def pon_888 : aPo := (none, [], [sl_886, sl_887], [])
def sl_889 : (Nat × Nat) × aI := (((nat_lit 196), (nat_lit 6)), [((.ofNat (nat_lit 59)), (.ofNat (nat_lit 59)), (nat_lit 1))])
def pon_890 : aPo := (none, [], [sl_889, sl_887], [])
def sl_891 : (Nat × Nat) × aI := (((nat_lit 196), (nat_lit 6)), [((.ofNat (nat_lit 1)), (.ofNat (nat_lit 1)), (nat_lit 1)), ((.ofNat (nat_lit 3)), (.ofNat (nat_lit 3)), (nat_lit 1))])
def sl_892 : (Nat × Nat) × aI := (((nat_lit 196), (nat_lit 8)), [((.ofNat (nat_lit 0)), (.ofNat (nat_lit 0)), (nat_lit 1)), ((.ofNat (nat_lit 9)), (.ofNat (nat_lit 1000)), (nat_lit 1))])
def pon_893 : aPo := (none, [], [sl_891, sl_892], [])
def sl_894 : (Nat × Nat) × aI := (((nat_lit 196), (nat_lit 6)), [((.ofNat (nat_lit 2)), (.ofNat (nat_lit 2)), (nat_lit 1))])
def sl_895 : (Nat × Nat) × aI := (((nat_lit 196), (nat_lit 8)), [((.ofNat (nat_lit 0)), (.ofNat (nat_lit 8)), (nat_lit 1))])
def pon_896 : aPo := (none, [], [sl_894, sl_895], [])
def mdn_897 : List (Nat × Nat × Nat) := [((nat_lit 196), (nat_lit 4), (nat_lit 9)), ((nat_lit 198), (nat_lit 0), (nat_lit 8))]
def lcn_898 : Nat × aAg := ((nat_lit 0), .inr (.inl [(nat_lit 196)]))
def lcn_899 : Nat × aAg := ((nat_lit 1), .inl [((.ofNat (nat_lit 0)), (.ofNat (nat_lit 1001)), (nat_lit 1))])
def lcn_900 : Nat × aAg := ((nat_lit 2), .inl [((.ofNat (nat_lit 97)), (.ofNat (nat_lit 122)), (nat_lit 1))])
def sl_901 : (Nat × Nat) × aI := (((nat_lit 196), (nat_lit 4)), [((.ofNat (nat_lit 0)), (.ofNat (nat_lit 999)), (nat_lit 1))])
def sl_902 : (Nat × Nat) × aI := (((nat_lit 196), (nat_lit 7)), [((.ofNat (nat_lit 0)), (.ofNat (nat_lit 0)), (nat_lit 1))])
def sl_903 : (Nat × Nat) × aI := (((nat_lit 196), (nat_lit 8)), [((.ofNat (nat_lit 0)), (.ofNat (nat_lit 1000)), (nat_lit 1))])
def lcn_904 : Nat × aAg := ((nat_lit 2), .inl [((.ofNat (nat_lit 48)), (.ofNat (nat_lit 57)), (nat_lit 1))])
set_option maxRecDepth 100000 in
theorem btX12_next : bTab oX12_next tX12_next := ⟨ofX12_next, by decide +kernel⟩
def ct_457 : aCt := (mX12_next, [ag_861], ([], []), [pon_888, pon_890, pon_893, pon_896], mdn_897, [], (nat_lit 1))
set_option maxRecDepth 100000 in
theorem S_457 : aSpec wd ct_457 := aChkF_ok (lk := [(93, 1, 1, ct_455), (97, 1, 1, ct_456), (93, 1, 1, ct_451), (97, 1, 1, ct_452), (77, 0, 2, ct_453), (77, 0, 2, ct_454), (77, 0, 2, ct_450)]) (cd := oX12_next) (nds := [(((nat_lit 5), [lcn_898, lcn_899], [], [], [], (2002, [(0, -1)])), []), (((nat_lit 67), [lcn_898, lcn_286, lcn_900], [], [sl_901, sl_902, sl_903], [], (1000, [(0, -1)])), [(.inl 1, .inr (196, 8), 0)]), (((nat_lit 152), [lcn_898, lcn_286, lcn_904, lcn_517], [], [sl_901, sl_887], [], (1000, [(0, -1)])), [])]) (fk := []) (rk := (2003, [])) (fuel := 3000) (by decide +kernel) (List.forall_mem_cons.mpr ⟨⟨ml_12_93, S_455⟩, List.forall_mem_cons.mpr ⟨⟨ml_12_97, S_456⟩, List.forall_mem_cons.mpr ⟨⟨ml_12_93, S_451⟩, List.forall_mem_cons.mpr ⟨⟨ml_12_97, S_452⟩, List.forall_mem_cons.mpr ⟨⟨ml_12_77, S_453⟩, List.forall_mem_cons.mpr ⟨⟨ml_12_77, S_454⟩, List.forall_mem_cons.mpr ⟨⟨ml_12_77, S_450⟩, fun _ h => nomatch h⟩⟩⟩⟩⟩⟩⟩) odX12_next
def ct_X12_next_0 : aCt := (mX12_next, [.inr (.inl [196])], ([], []), [(none, [], [((196, 6), [(0, 0, 1)]), ((196, 8), [(0, 0, 1)])], []), (none, [], [((196, 6), [(59, 59, 1)]), ((196, 8), [(0, 0, 1)])], []), (none, [], [((196, 6), [(1, 1, 1), (3, 3, 1)]), ((196, 8), [(0, 0, 1), (9, 1000, 1)])], []), (none, [], [((196, 6), [(2, 2, 1)]), ((196, 8), [(0, 8, 1)])], [])], [(196, 4, 9), (198, 0, 8), (1000002, 0, 0)], [], 1)
theorem S_X12_next_0 : aSpec wd ct_X12_next_0 := S_nxt (md := [(196, 4, 9), (198, 0, 8)]) (by decide) S_457
def ag_905 : aAg := .inr (.inl [(nat_lit 1000034), (nat_lit 1000035), (nat_lit 1000036), (nat_lit 1000037), (nat_lit 1000038), (nat_lit 1000039), (nat_lit 1000040), (nat_lit 1000041), (nat_lit 1000042), (nat_lit 1000043), (nat_lit 1000044), (nat_lit 1000045), (nat_lit 1000046), (nat_lit 1000047), (nat_lit 1000048), (nat_lit 1000049), (nat_lit 1000050), (nat_lit 1000051), (nat_lit 1000052), (nat_lit 1000053), (nat_lit 1000054), (nat_lit 1000055), (nat_lit 1000056)])
def sl_906 : (Nat × Nat) × aI := (((nat_lit 196), (nat_lit 13)), [((.ofNat (nat_lit 0)), (.ofNat (nat_lit 0)), (nat_lit 1))])
def pon_907 : aPo := (some (.inl [((.ofNat (nat_lit 0)), (.ofNat (nat_lit 0)), (nat_lit 1))]), [], [sl_894, sl_895], [])
def sl_908 : (Nat × Nat) × aI := (((nat_lit 196), (nat_lit 6)), [((.ofNat (nat_lit 0)), (.ofNat (nat_lit 1)), (nat_lit 1)), ((.ofNat (nat_lit 3)), (.ofNat (nat_lit 3)), (nat_lit 1)), ((.ofNat (nat_lit 59)), (.ofNat (nat_lit 59)), (nat_lit 1))])
def pon_909 : aPo := (some (.inl [((.ofNat (nat_lit 1)), (.ofNat (nat_lit 1)), (nat_lit 1))]), [], [sl_908, sl_892], [])
def pon_910 : aPo := (some (.inl [((.ofNat (nat_lit 1)), (.ofNat (nat_lit 1)), (nat_lit 1))]), [], [sl_894, sl_895], [])
def mdn_911 : List (Nat × Nat × Nat) := [((nat_lit 196), (nat_lit 4), (nat_lit 9)), ((nat_lit 198), (nat_lit 0), (nat_lit 8)), ((nat_lit 1000002), (nat_lit 0), (nat_lit 0))]
set_option maxRecDepth 100000 in
theorem btX12_takesWord : bTab oX12_takesWord tX12_takesWord := ⟨ofX12_takesWord, by decide +kernel⟩
def ct_459 : aCt := (mX12_takesWord, [ag_861, ag_905], ([sl_894, sl_895, sl_906], []), [pon_907, pon_909, pon_910], mdn_911, [], (nat_lit 2))
set_option maxRecDepth 100000 in
theorem S_459 : aSpec wd ct_459 := bChk_ok wx_ok btX12_takesWord (nds := []) (fk := []) (rk := (1, [])) (sp := 0) (fuel := 3000) (by decide +kernel) (lk_d S_X12_next_0 ml_12_121 (lk_d S_X12_isWord_0 ml_12_117 lk_n)) odX12_takesWord
def sl_912 : (Nat × Nat) × aI := (((nat_lit 196), (nat_lit 13)), [((.ofNat (nat_lit 1)), (.ofNat (nat_lit 1)), (nat_lit 1))])
def pon_913 : aPo := (none, [], [sl_912], [])
def mdn_914 : List (Nat × Nat × Nat) := [((nat_lit 196), (nat_lit 9), (nat_lit 11)), ((nat_lit 196), (nat_lit 13), (nat_lit 14)), ((nat_lit 1000002), (nat_lit 0), (nat_lit 0))]
set_option maxRecDepth 100000 in
theorem btX12_wrong : bTab oX12_wrong tX12_wrong := ⟨ofX12_wrong, by decide +kernel⟩
def ct_460 : aCt := (mX12_wrong, [ag_861, ag_53, ag_876], ([sl_906], []), [pon_913], mdn_914, [], (nat_lit 0))
set_option maxRecDepth 100000 in
theorem S_460 : aSpec wd ct_460 := bChk_ok wx_ok btX12_wrong (nds := []) (fk := []) (rk := (1, [])) (sp := 0) (fuel := 3000) (by decide +kernel) lk_n odX12_wrong
def pon_915 : aPo := (none, [], [sl_894, sl_895, sl_912], [])
def pon_916 : aPo := (none, [], [sl_908, sl_892, sl_906], [])
def pon_917 : aPo := (none, [], [sl_894, sl_895, sl_906], [])
def mdn_918 : List (Nat × Nat × Nat) := [((nat_lit 196), (nat_lit 4), (nat_lit 11)), ((nat_lit 196), (nat_lit 13), (nat_lit 14)), ((nat_lit 198), (nat_lit 0), (nat_lit 8)), ((nat_lit 1000002), (nat_lit 0), (nat_lit 0))]
set_option maxRecDepth 100000 in
theorem btX12_must : bTab oX12_must tX12_must := ⟨ofX12_must, by decide +kernel⟩
def ct_461 : aCt := (mX12_must, [ag_861, ag_905], ([sl_894, sl_895, sl_906], []), [pon_915, pon_916, pon_917], mdn_918, [], (nat_lit 3))
set_option maxRecDepth 100000 in
theorem S_461 : aSpec wd ct_461 := bChk_ok wx_ok btX12_must (nds := []) (fk := []) (rk := (1, [])) (sp := 0) (fuel := 3000) (by decide +kernel) (lk_d S_459 ml_12_124 (lk_d S_460 ml_12_127 lk_n)) odX12_must
def pon_919 : aPo := (some (.inl [((.ofNat (nat_lit 2)), (.ofNat (nat_lit 2)), (nat_lit 1))]), [], [sl_912], [])
set_option maxRecDepth 100000 in
theorem btX12_number : bTab oX12_number tX12_number := ⟨ofX12_number, by decide +kernel⟩
def ct_462 : aCt := (mX12_number, [ag_861, ag_22, ag_159], ([sl_894, sl_895, sl_906], []), [pon_919], mdn_914, [], (nat_lit 1))
set_option maxRecDepth 100000 in
theorem S_462 : aSpec wd ct_462 := bChk_ok wx_ok btX12_number (nds := []) (fk := []) (rk := (1, [])) (sp := 0) (fuel := 3000) (by decide +kernel) (lk_d S_460 ml_12_127 lk_n) odX12_number
def pon_920 : aPo := (some (.inl [((.ofNat (nat_lit 0)), (.ofNat (nat_lit 0)), (nat_lit 1))]), [some [((.negSucc (nat_lit 2147483647)), (.ofNat (nat_lit 1)), (nat_lit 1)), ((.ofNat (nat_lit 5)), (.ofNat (nat_lit 2147483647)), (nat_lit 1))], none, none], [], [])
def pon_921 : aPo := (some (.inl [((.ofNat (nat_lit 1)), (.ofNat (nat_lit 1)), (nat_lit 1))]), [some [((.ofNat (nat_lit 2)), (.ofNat (nat_lit 4)), (nat_lit 1))], none, none], [], [])
def ct_463 : aCt := (mX12_in, [ag_1, ag_22, ag_159], ([], []), [pon_920, pon_921], mdn_872, [], (nat_lit 0))
set_option maxRecDepth 100000 in
theorem S_463 : aSpec wd ct_463 := bChk_ok wx_ok btX12_in (nds := []) (fk := []) (rk := (1, [])) (sp := 0) (fuel := 3000) (by decide +kernel) lk_n odX12_in
def ct_464 : aCt := (mX12_wrong, [ag_861, ag_159, ag_876], ([sl_906], []), [pon_913], mdn_914, [], (nat_lit 0))
set_option maxRecDepth 100000 in
theorem S_464 : aSpec wd ct_464 := bChk_ok wx_ok btX12_wrong (nds := []) (fk := []) (rk := (1, [])) (sp := 0) (fuel := 3000) (by decide +kernel) lk_n odX12_wrong
def pon_922 : aPo := (some (.inl [((.ofNat (nat_lit 2)), (.ofNat (nat_lit 2)), (nat_lit 1))]), [], [sl_908, sl_892, sl_912], [])
def pon_923 : aPo := (some (.inl [((.ofNat (nat_lit 2)), (.ofNat (nat_lit 4)), (nat_lit 1))]), [], [sl_908, sl_892, sl_906], [])
def pon_924 : aPo := (some (.inl [((.ofNat (nat_lit 2)), (.ofNat (nat_lit 4)), (nat_lit 1))]), [], [sl_894, sl_895, sl_906], [])
def ct_465 : aCt := (mX12_number, [ag_861, ag_22, ag_159], ([sl_908, sl_892, sl_906], []), [pon_922, pon_923, pon_924], mdn_918, [], (nat_lit 2))
set_option maxRecDepth 100000 in
theorem S_465 : aSpec wd ct_465 := bChk_ok wx_ok btX12_number (nds := []) (fk := []) (rk := (1, [])) (sp := 0) (fuel := 3000) (by decide +kernel) (lk_d S_X12_next_0 ml_12_121 (lk_d S_460 ml_12_127 (lk_d S_464 ml_12_127 (lk_d S_463 ml_12_149 lk_n)))) odX12_number
def pon_925 : aPo := (some (.inl [((.ofNat (nat_lit 2)), (.ofNat (nat_lit 2)), (nat_lit 1))]), [], [], [])
def ct_466 : aCt := (mX12_number, [ag_861, ag_22, ag_159], ([sl_894, sl_895, sl_912], []), [pon_925], mdn_872, [], (nat_lit 0))
set_option maxRecDepth 100000 in
theorem S_466 : aSpec wd ct_466 := bChk_ok wx_ok btX12_number (nds := []) (fk := []) (rk := (1, [])) (sp := 0) (fuel := 3000) (by decide +kernel) lk_n odX12_number
def sl_926 : (Nat × Nat) × aI := (((nat_lit 196), (nat_lit 6)), [((.ofNat (nat_lit 0)), (.ofNat (nat_lit 3)), (nat_lit 1)), ((.ofNat (nat_lit 59)), (.ofNat (nat_lit 59)), (nat_lit 1))])
def pon_927 : aPo := (some (.inl [((.ofNat (nat_lit 2)), (.ofNat (nat_lit 2)), (nat_lit 1))]), [], [sl_926, sl_903, sl_912], [])
set_option maxRecDepth 100000 in
theorem btX12_after : bTab oX12_after tX12_after := ⟨ofX12_after, by decide +kernel⟩
def ct_467 : aCt := (mX12_after, [ag_861, ag_905, ag_22, ag_159], ([sl_894, sl_895, sl_906], []), [pon_927, pon_923, pon_924], mdn_918, [], (nat_lit 4))
set_option maxRecDepth 100000 in
theorem S_467 : aSpec wd ct_467 := bChk_ok wx_ok btX12_after (nds := []) (fk := []) (rk := (1, [])) (sp := 0) (fuel := 3000) (by decide +kernel) (lk_d S_462 ml_12_164 (lk_d S_466 ml_12_164 (lk_d S_465 ml_12_164 (lk_d S_461 ml_12_157 lk_n)))) odX12_after
def pon_928 : aPo := (some (.inl [((.ofNat (nat_lit 0)), (.ofNat (nat_lit 0)), (nat_lit 1))]), [], [sl_912], [])
def ct_468 : aCt := (mX12_number, [ag_861, ag_170, ag_122], ([sl_894, sl_895, sl_906], []), [pon_928], mdn_914, [], (nat_lit 1))
set_option maxRecDepth 100000 in
theorem S_468 : aSpec wd ct_468 := bChk_ok wx_ok btX12_number (nds := []) (fk := []) (rk := (1, [])) (sp := 0) (fuel := 3000) (by decide +kernel) (lk_d S_460 ml_12_127 lk_n) odX12_number
def pon_929 : aPo := (some (.inl [((.ofNat (nat_lit 0)), (.ofNat (nat_lit 0)), (nat_lit 1))]), [some [((.negSucc (nat_lit 2147483647)), (.negSucc (nat_lit 0)), (nat_lit 1)), ((.ofNat (nat_lit 4)), (.ofNat (nat_lit 2147483647)), (nat_lit 1))], none, none], [], [])
def pon_930 : aPo := (some (.inl [((.ofNat (nat_lit 1)), (.ofNat (nat_lit 1)), (nat_lit 1))]), [some [((.ofNat (nat_lit 0)), (.ofNat (nat_lit 3)), (nat_lit 1))], none, none], [], [])
def ct_469 : aCt := (mX12_in, [ag_1, ag_170, ag_122], ([], []), [pon_929, pon_930], mdn_872, [], (nat_lit 0))
set_option maxRecDepth 100000 in
theorem S_469 : aSpec wd ct_469 := bChk_ok wx_ok btX12_in (nds := []) (fk := []) (rk := (1, [])) (sp := 0) (fuel := 3000) (by decide +kernel) lk_n odX12_in
def pon_931 : aPo := (some (.inl [((.ofNat (nat_lit 0)), (.ofNat (nat_lit 0)), (nat_lit 1))]), [], [sl_908, sl_892, sl_912], [])
def pon_932 : aPo := (some (.inl [((.ofNat (nat_lit 0)), (.ofNat (nat_lit 3)), (nat_lit 1))]), [], [sl_908, sl_892, sl_906], [])
def pon_933 : aPo := (some (.inl [((.ofNat (nat_lit 0)), (.ofNat (nat_lit 3)), (nat_lit 1))]), [], [sl_894, sl_895, sl_906], [])
def ct_470 : aCt := (mX12_number, [ag_861, ag_170, ag_122], ([sl_908, sl_892, sl_906], []), [pon_931, pon_932, pon_933], mdn_918, [], (nat_lit 2))
set_option maxRecDepth 100000 in
theorem S_470 : aSpec wd ct_470 := bChk_ok wx_ok btX12_number (nds := []) (fk := []) (rk := (1, [])) (sp := 0) (fuel := 3000) (by decide +kernel) (lk_d S_X12_next_0 ml_12_121 (lk_d S_460 ml_12_127 (lk_d S_464 ml_12_127 (lk_d S_469 ml_12_149 lk_n)))) odX12_number
def ct_471 : aCt := (mX12_number, [ag_861, ag_170, ag_122], ([sl_894, sl_895, sl_912], []), [pon_37], mdn_872, [], (nat_lit 0))
set_option maxRecDepth 100000 in
theorem S_471 : aSpec wd ct_471 := bChk_ok wx_ok btX12_number (nds := []) (fk := []) (rk := (1, [])) (sp := 0) (fuel := 3000) (by decide +kernel) lk_n odX12_number
def pon_934 : aPo := (some (.inl [((.ofNat (nat_lit 0)), (.ofNat (nat_lit 0)), (nat_lit 1))]), [], [sl_926, sl_903, sl_912], [])
def ct_472 : aCt := (mX12_after, [ag_861, ag_905, ag_170, ag_122], ([sl_894, sl_895, sl_906], []), [pon_934, pon_932, pon_933], mdn_918, [], (nat_lit 4))
set_option maxRecDepth 100000 in
theorem S_472 : aSpec wd ct_472 := bChk_ok wx_ok btX12_after (nds := []) (fk := []) (rk := (1, [])) (sp := 0) (fuel := 3000) (by decide +kernel) (lk_d S_468 ml_12_164 (lk_d S_471 ml_12_164 (lk_d S_470 ml_12_164 (lk_d S_461 ml_12_157 lk_n)))) odX12_after
def ct_473 : aCt := (mX12_number, [ag_861, ag_170, ag_177], ([sl_894, sl_895, sl_906], []), [pon_928], mdn_914, [], (nat_lit 1))
set_option maxRecDepth 100000 in
theorem S_473 : aSpec wd ct_473 := bChk_ok wx_ok btX12_number (nds := []) (fk := []) (rk := (1, [])) (sp := 0) (fuel := 3000) (by decide +kernel) (lk_d S_460 ml_12_127 lk_n) odX12_number
def pon_935 : aPo := (some (.inl [((.ofNat (nat_lit 0)), (.ofNat (nat_lit 0)), (nat_lit 1))]), [some [((.negSucc (nat_lit 2147483647)), (.negSucc (nat_lit 0)), (nat_lit 1)), ((.ofNat (nat_lit 51)), (.ofNat (nat_lit 2147483647)), (nat_lit 1))], none, none], [], [])
def pon_936 : aPo := (some (.inl [((.ofNat (nat_lit 1)), (.ofNat (nat_lit 1)), (nat_lit 1))]), [some [((.ofNat (nat_lit 0)), (.ofNat (nat_lit 50)), (nat_lit 1))], none, none], [], [])
def ct_474 : aCt := (mX12_in, [ag_1, ag_170, ag_177], ([], []), [pon_935, pon_936], mdn_872, [], (nat_lit 0))
set_option maxRecDepth 100000 in
theorem S_474 : aSpec wd ct_474 := bChk_ok wx_ok btX12_in (nds := []) (fk := []) (rk := (1, [])) (sp := 0) (fuel := 3000) (by decide +kernel) lk_n odX12_in
def pon_937 : aPo := (some (.inl [((.ofNat (nat_lit 0)), (.ofNat (nat_lit 50)), (nat_lit 1))]), [], [sl_908, sl_892, sl_906], [])
def pon_938 : aPo := (some (.inl [((.ofNat (nat_lit 0)), (.ofNat (nat_lit 50)), (nat_lit 1))]), [], [sl_894, sl_895, sl_906], [])
def ct_475 : aCt := (mX12_number, [ag_861, ag_170, ag_177], ([sl_908, sl_892, sl_906], []), [pon_931, pon_937, pon_938], mdn_918, [], (nat_lit 2))
set_option maxRecDepth 100000 in
theorem S_475 : aSpec wd ct_475 := bChk_ok wx_ok btX12_number (nds := []) (fk := []) (rk := (1, [])) (sp := 0) (fuel := 3000) (by decide +kernel) (lk_d S_X12_next_0 ml_12_121 (lk_d S_460 ml_12_127 (lk_d S_464 ml_12_127 (lk_d S_474 ml_12_149 lk_n)))) odX12_number
def ct_476 : aCt := (mX12_number, [ag_861, ag_170, ag_177], ([sl_894, sl_895, sl_912], []), [pon_37], mdn_872, [], (nat_lit 0))
set_option maxRecDepth 100000 in
theorem S_476 : aSpec wd ct_476 := bChk_ok wx_ok btX12_number (nds := []) (fk := []) (rk := (1, [])) (sp := 0) (fuel := 3000) (by decide +kernel) lk_n odX12_number
def ct_477 : aCt := (mX12_after, [ag_861, ag_905, ag_170, ag_177], ([sl_894, sl_895, sl_906], []), [pon_934, pon_937, pon_938], mdn_918, [], (nat_lit 4))
set_option maxRecDepth 100000 in
theorem S_477 : aSpec wd ct_477 := bChk_ok wx_ok btX12_after (nds := []) (fk := []) (rk := (1, [])) (sp := 0) (fuel := 3000) (by decide +kernel) (lk_d S_473 ml_12_164 (lk_d S_476 ml_12_164 (lk_d S_475 ml_12_164 (lk_d S_461 ml_12_157 lk_n)))) odX12_after
def ct_478 : aCt := (mX12_number, [ag_861, ag_170, ag_183], ([sl_894, sl_895, sl_906], []), [pon_928], mdn_914, [], (nat_lit 1))
set_option maxRecDepth 100000 in
theorem S_478 : aSpec wd ct_478 := bChk_ok wx_ok btX12_number (nds := []) (fk := []) (rk := (1, [])) (sp := 0) (fuel := 3000) (by decide +kernel) (lk_d S_460 ml_12_127 lk_n) odX12_number
def pon_939 : aPo := (some (.inl [((.ofNat (nat_lit 0)), (.ofNat (nat_lit 0)), (nat_lit 1))]), [some [((.negSucc (nat_lit 2147483647)), (.negSucc (nat_lit 0)), (nat_lit 1)), ((.ofNat (nat_lit 101)), (.ofNat (nat_lit 2147483647)), (nat_lit 1))], none, none], [], [])
def pon_940 : aPo := (some (.inl [((.ofNat (nat_lit 1)), (.ofNat (nat_lit 1)), (nat_lit 1))]), [some [((.ofNat (nat_lit 0)), (.ofNat (nat_lit 100)), (nat_lit 1))], none, none], [], [])
def ct_479 : aCt := (mX12_in, [ag_1, ag_170, ag_183], ([], []), [pon_939, pon_940], mdn_872, [], (nat_lit 0))
set_option maxRecDepth 100000 in
theorem S_479 : aSpec wd ct_479 := bChk_ok wx_ok btX12_in (nds := []) (fk := []) (rk := (1, [])) (sp := 0) (fuel := 3000) (by decide +kernel) lk_n odX12_in
def pon_941 : aPo := (some (.inl [((.ofNat (nat_lit 0)), (.ofNat (nat_lit 100)), (nat_lit 1))]), [], [sl_908, sl_892, sl_906], [])
def pon_942 : aPo := (some (.inl [((.ofNat (nat_lit 0)), (.ofNat (nat_lit 100)), (nat_lit 1))]), [], [sl_894, sl_895, sl_906], [])
def ct_480 : aCt := (mX12_number, [ag_861, ag_170, ag_183], ([sl_908, sl_892, sl_906], []), [pon_931, pon_941, pon_942], mdn_918, [], (nat_lit 2))
set_option maxRecDepth 100000 in
theorem S_480 : aSpec wd ct_480 := bChk_ok wx_ok btX12_number (nds := []) (fk := []) (rk := (1, [])) (sp := 0) (fuel := 3000) (by decide +kernel) (lk_d S_X12_next_0 ml_12_121 (lk_d S_460 ml_12_127 (lk_d S_464 ml_12_127 (lk_d S_479 ml_12_149 lk_n)))) odX12_number
def ct_481 : aCt := (mX12_number, [ag_861, ag_170, ag_183], ([sl_894, sl_895, sl_912], []), [pon_37], mdn_872, [], (nat_lit 0))
set_option maxRecDepth 100000 in
theorem S_481 : aSpec wd ct_481 := bChk_ok wx_ok btX12_number (nds := []) (fk := []) (rk := (1, [])) (sp := 0) (fuel := 3000) (by decide +kernel) lk_n odX12_number
def ct_482 : aCt := (mX12_after, [ag_861, ag_905, ag_170, ag_183], ([sl_894, sl_895, sl_906], []), [pon_934, pon_941, pon_942], mdn_918, [], (nat_lit 4))
set_option maxRecDepth 100000 in
theorem S_482 : aSpec wd ct_482 := bChk_ok wx_ok btX12_after (nds := []) (fk := []) (rk := (1, [])) (sp := 0) (fuel := 3000) (by decide +kernel) (lk_d S_478 ml_12_164 (lk_d S_481 ml_12_164 (lk_d S_480 ml_12_164 (lk_d S_461 ml_12_157 lk_n)))) odX12_after
def ct_483 : aCt := (mX12_takesWord, [ag_861, ag_905], ([sl_908, sl_892, sl_906], []), [pon_37], mdn_872, [], (nat_lit 1))
set_option maxRecDepth 100000 in
theorem S_483 : aSpec wd ct_483 := bChk_ok wx_ok btX12_takesWord (nds := []) (fk := []) (rk := (1, [])) (sp := 0) (fuel := 3000) (by decide +kernel) (lk_d S_X12_isWord_1 ml_12_117 lk_n) odX12_takesWord
def ct_484 : aCt := (mX12_must, [ag_861, ag_905], ([sl_908, sl_892, sl_906], []), [pon_913], mdn_914, [], (nat_lit 2))
set_option maxRecDepth 100000 in
theorem S_484 : aSpec wd ct_484 := bChk_ok wx_ok btX12_must (nds := []) (fk := []) (rk := (1, [])) (sp := 0) (fuel := 3000) (by decide +kernel) (lk_d S_483 ml_12_124 (lk_d S_460 ml_12_127 lk_n)) odX12_must
def ct_485 : aCt := (mX12_number, [ag_861, ag_170, ag_183], ([sl_908, sl_892, sl_912], []), [pon_37], mdn_872, [], (nat_lit 0))
set_option maxRecDepth 100000 in
theorem S_485 : aSpec wd ct_485 := bChk_ok wx_ok btX12_number (nds := []) (fk := []) (rk := (1, [])) (sp := 0) (fuel := 3000) (by decide +kernel) lk_n odX12_number
def ct_486 : aCt := (mX12_after, [ag_861, ag_905, ag_170, ag_183], ([sl_908, sl_892, sl_906], []), [pon_928], mdn_914, [], (nat_lit 3))
set_option maxRecDepth 100000 in
theorem S_486 : aSpec wd ct_486 := bChk_ok wx_ok btX12_after (nds := []) (fk := []) (rk := (1, [])) (sp := 0) (fuel := 3000) (by decide +kernel) (lk_d S_485 ml_12_164 (lk_d S_484 ml_12_157 lk_n)) odX12_after
def ct_487 : aCt := (mX12_must, [ag_861, ag_905], ([sl_926, sl_903, sl_912], []), [pon_49], mdn_872, [], (nat_lit 0))
set_option maxRecDepth 100000 in
theorem S_487 : aSpec wd ct_487 := bChk_ok wx_ok btX12_must (nds := []) (fk := []) (rk := (1, [])) (sp := 0) (fuel := 3000) (by decide +kernel) lk_n odX12_must
def ct_488 : aCt := (mX12_number, [ag_861, ag_170, ag_183], ([sl_926, sl_903, sl_912], []), [pon_37], mdn_872, [], (nat_lit 0))
set_option maxRecDepth 100000 in
theorem S_488 : aSpec wd ct_488 := bChk_ok wx_ok btX12_number (nds := []) (fk := []) (rk := (1, [])) (sp := 0) (fuel := 3000) (by decide +kernel) lk_n odX12_number
def ct_489 : aCt := (mX12_after, [ag_861, ag_905, ag_170, ag_183], ([sl_926, sl_903, sl_912], []), [pon_37], mdn_872, [], (nat_lit 1))
set_option maxRecDepth 100000 in
theorem S_489 : aSpec wd ct_489 := bChk_ok wx_ok btX12_after (nds := []) (fk := []) (rk := (1, [])) (sp := 0) (fuel := 3000) (by decide +kernel) (lk_d S_488 ml_12_164 (lk_d S_487 ml_12_157 lk_n)) odX12_after
def ct_490 : aCt := (mX12_number, [ag_861, ag_170, ag_177], ([sl_908, sl_892, sl_912], []), [pon_37], mdn_872, [], (nat_lit 0))
set_option maxRecDepth 100000 in
theorem S_490 : aSpec wd ct_490 := bChk_ok wx_ok btX12_number (nds := []) (fk := []) (rk := (1, [])) (sp := 0) (fuel := 3000) (by decide +kernel) lk_n odX12_number
def ct_491 : aCt := (mX12_after, [ag_861, ag_905, ag_170, ag_177], ([sl_908, sl_892, sl_906], []), [pon_928], mdn_914, [], (nat_lit 3))
set_option maxRecDepth 100000 in
theorem S_491 : aSpec wd ct_491 := bChk_ok wx_ok btX12_after (nds := []) (fk := []) (rk := (1, [])) (sp := 0) (fuel := 3000) (by decide +kernel) (lk_d S_490 ml_12_164 (lk_d S_484 ml_12_157 lk_n)) odX12_after
def ct_492 : aCt := (mX12_must, [ag_861, ag_905], ([sl_908, sl_892, sl_912], []), [pon_49], mdn_872, [], (nat_lit 0))
set_option maxRecDepth 100000 in
theorem S_492 : aSpec wd ct_492 := bChk_ok wx_ok btX12_must (nds := []) (fk := []) (rk := (1, [])) (sp := 0) (fuel := 3000) (by decide +kernel) lk_n odX12_must
def ct_493 : aCt := (mX12_after, [ag_861, ag_905, ag_170, ag_183], ([sl_908, sl_892, sl_912], []), [pon_37], mdn_872, [], (nat_lit 1))
set_option maxRecDepth 100000 in
theorem S_493 : aSpec wd ct_493 := bChk_ok wx_ok btX12_after (nds := []) (fk := []) (rk := (1, [])) (sp := 0) (fuel := 3000) (by decide +kernel) (lk_d S_485 ml_12_164 (lk_d S_492 ml_12_157 lk_n)) odX12_after
def ct_494 : aCt := (mX12_number, [ag_861, ag_170, ag_177], ([sl_926, sl_903, sl_912], []), [pon_37], mdn_872, [], (nat_lit 0))
set_option maxRecDepth 100000 in
theorem S_494 : aSpec wd ct_494 := bChk_ok wx_ok btX12_number (nds := []) (fk := []) (rk := (1, [])) (sp := 0) (fuel := 3000) (by decide +kernel) lk_n odX12_number
def ct_495 : aCt := (mX12_after, [ag_861, ag_905, ag_170, ag_177], ([sl_926, sl_903, sl_912], []), [pon_37], mdn_872, [], (nat_lit 1))
set_option maxRecDepth 100000 in
theorem S_495 : aSpec wd ct_495 := bChk_ok wx_ok btX12_after (nds := []) (fk := []) (rk := (1, [])) (sp := 0) (fuel := 3000) (by decide +kernel) (lk_d S_494 ml_12_164 (lk_d S_487 ml_12_157 lk_n)) odX12_after
def ct_496 : aCt := (mX12_number, [ag_861, ag_170, ag_122], ([sl_908, sl_892, sl_912], []), [pon_37], mdn_872, [], (nat_lit 0))
set_option maxRecDepth 100000 in
theorem S_496 : aSpec wd ct_496 := bChk_ok wx_ok btX12_number (nds := []) (fk := []) (rk := (1, [])) (sp := 0) (fuel := 3000) (by decide +kernel) lk_n odX12_number
def ct_497 : aCt := (mX12_after, [ag_861, ag_905, ag_170, ag_122], ([sl_908, sl_892, sl_906], []), [pon_928], mdn_914, [], (nat_lit 3))
set_option maxRecDepth 100000 in
theorem S_497 : aSpec wd ct_497 := bChk_ok wx_ok btX12_after (nds := []) (fk := []) (rk := (1, [])) (sp := 0) (fuel := 3000) (by decide +kernel) (lk_d S_496 ml_12_164 (lk_d S_484 ml_12_157 lk_n)) odX12_after
def ct_498 : aCt := (mX12_after, [ag_861, ag_905, ag_170, ag_177], ([sl_908, sl_892, sl_912], []), [pon_37], mdn_872, [], (nat_lit 1))
set_option maxRecDepth 100000 in
theorem S_498 : aSpec wd ct_498 := bChk_ok wx_ok btX12_after (nds := []) (fk := []) (rk := (1, [])) (sp := 0) (fuel := 3000) (by decide +kernel) (lk_d S_490 ml_12_164 (lk_d S_492 ml_12_157 lk_n)) odX12_after
def ct_499 : aCt := (mX12_number, [ag_861, ag_170, ag_122], ([sl_926, sl_903, sl_912], []), [pon_37], mdn_872, [], (nat_lit 0))
set_option maxRecDepth 100000 in
theorem S_499 : aSpec wd ct_499 := bChk_ok wx_ok btX12_number (nds := []) (fk := []) (rk := (1, [])) (sp := 0) (fuel := 3000) (by decide +kernel) lk_n odX12_number
def ct_500 : aCt := (mX12_after, [ag_861, ag_905, ag_170, ag_122], ([sl_926, sl_903, sl_912], []), [pon_37], mdn_872, [], (nat_lit 1))
set_option maxRecDepth 100000 in
theorem S_500 : aSpec wd ct_500 := bChk_ok wx_ok btX12_after (nds := []) (fk := []) (rk := (1, [])) (sp := 0) (fuel := 3000) (by decide +kernel) (lk_d S_499 ml_12_164 (lk_d S_487 ml_12_157 lk_n)) odX12_after
def ct_501 : aCt := (mX12_takesWord, [ag_861, ag_905], ([sl_891, sl_892, sl_906], []), [pon_37], mdn_872, [], (nat_lit 1))
set_option maxRecDepth 100000 in
theorem S_501 : aSpec wd ct_501 := bChk_ok wx_ok btX12_takesWord (nds := []) (fk := []) (rk := (1, [])) (sp := 0) (fuel := 3000) (by decide +kernel) (lk_d S_X12_isWord_2 ml_12_117 lk_n) odX12_takesWord
def ct_502 : aCt := (mX12_must, [ag_861, ag_905], ([sl_891, sl_892, sl_906], []), [pon_913], mdn_914, [], (nat_lit 2))
set_option maxRecDepth 100000 in
theorem S_502 : aSpec wd ct_502 := bChk_ok wx_ok btX12_must (nds := []) (fk := []) (rk := (1, [])) (sp := 0) (fuel := 3000) (by decide +kernel) (lk_d S_501 ml_12_124 (lk_d S_460 ml_12_127 lk_n)) odX12_must
def ct_503 : aCt := (mX12_number, [ag_861, ag_22, ag_159], ([sl_891, sl_892, sl_912], []), [pon_925], mdn_872, [], (nat_lit 0))
set_option maxRecDepth 100000 in
theorem S_503 : aSpec wd ct_503 := bChk_ok wx_ok btX12_number (nds := []) (fk := []) (rk := (1, [])) (sp := 0) (fuel := 3000) (by decide +kernel) lk_n odX12_number
def ct_504 : aCt := (mX12_after, [ag_861, ag_905, ag_22, ag_159], ([sl_891, sl_892, sl_906], []), [pon_919], mdn_914, [], (nat_lit 3))
set_option maxRecDepth 100000 in
theorem S_504 : aSpec wd ct_504 := bChk_ok wx_ok btX12_after (nds := []) (fk := []) (rk := (1, [])) (sp := 0) (fuel := 3000) (by decide +kernel) (lk_d S_503 ml_12_164 (lk_d S_502 ml_12_157 lk_n)) odX12_after
def ct_505 : aCt := (mX12_must, [ag_861, ag_905], ([sl_891, sl_892, sl_912], []), [pon_49], mdn_872, [], (nat_lit 0))
set_option maxRecDepth 100000 in
theorem S_505 : aSpec wd ct_505 := bChk_ok wx_ok btX12_must (nds := []) (fk := []) (rk := (1, [])) (sp := 0) (fuel := 3000) (by decide +kernel) lk_n odX12_must
def ct_506 : aCt := (mX12_number, [ag_861, ag_170, ag_122], ([sl_891, sl_892, sl_912], []), [pon_37], mdn_872, [], (nat_lit 0))
set_option maxRecDepth 100000 in
theorem S_506 : aSpec wd ct_506 := bChk_ok wx_ok btX12_number (nds := []) (fk := []) (rk := (1, [])) (sp := 0) (fuel := 3000) (by decide +kernel) lk_n odX12_number
def ct_507 : aCt := (mX12_after, [ag_861, ag_905, ag_170, ag_122], ([sl_891, sl_892, sl_912], []), [pon_37], mdn_872, [], (nat_lit 1))
set_option maxRecDepth 100000 in
theorem S_507 : aSpec wd ct_507 := bChk_ok wx_ok btX12_after (nds := []) (fk := []) (rk := (1, [])) (sp := 0) (fuel := 3000) (by decide +kernel) (lk_d S_506 ml_12_164 (lk_d S_505 ml_12_157 lk_n)) odX12_after
def ct_508 : aCt := (mX12_number, [ag_861, ag_170, ag_177], ([sl_891, sl_892, sl_912], []), [pon_37], mdn_872, [], (nat_lit 0))
set_option maxRecDepth 100000 in
theorem S_508 : aSpec wd ct_508 := bChk_ok wx_ok btX12_number (nds := []) (fk := []) (rk := (1, [])) (sp := 0) (fuel := 3000) (by decide +kernel) lk_n odX12_number
def ct_509 : aCt := (mX12_after, [ag_861, ag_905, ag_170, ag_177], ([sl_891, sl_892, sl_912], []), [pon_37], mdn_872, [], (nat_lit 1))
set_option maxRecDepth 100000 in
theorem S_509 : aSpec wd ct_509 := bChk_ok wx_ok btX12_after (nds := []) (fk := []) (rk := (1, [])) (sp := 0) (fuel := 3000) (by decide +kernel) (lk_d S_508 ml_12_164 (lk_d S_505 ml_12_157 lk_n)) odX12_after
def ct_510 : aCt := (mX12_number, [ag_861, ag_170, ag_183], ([sl_891, sl_892, sl_912], []), [pon_37], mdn_872, [], (nat_lit 0))
set_option maxRecDepth 100000 in
theorem S_510 : aSpec wd ct_510 := bChk_ok wx_ok btX12_number (nds := []) (fk := []) (rk := (1, [])) (sp := 0) (fuel := 3000) (by decide +kernel) lk_n odX12_number
def ct_511 : aCt := (mX12_after, [ag_861, ag_905, ag_170, ag_183], ([sl_891, sl_892, sl_912], []), [pon_37], mdn_872, [], (nat_lit 1))
set_option maxRecDepth 100000 in
theorem S_511 : aSpec wd ct_511 := bChk_ok wx_ok btX12_after (nds := []) (fk := []) (rk := (1, [])) (sp := 0) (fuel := 3000) (by decide +kernel) (lk_d S_510 ml_12_164 (lk_d S_505 ml_12_157 lk_n)) odX12_after
def ct_512 : aCt := (mX12_takesWord, [ag_861, ag_905], ([sl_889, sl_887, sl_906], []), [pon_37], mdn_872, [], (nat_lit 1))
set_option maxRecDepth 100000 in
theorem S_512 : aSpec wd ct_512 := bChk_ok wx_ok btX12_takesWord (nds := []) (fk := []) (rk := (1, [])) (sp := 0) (fuel := 3000) (by decide +kernel) (lk_d S_X12_isWord_3 ml_12_117 lk_n) odX12_takesWord
def ct_513 : aCt := (mX12_must, [ag_861, ag_905], ([sl_889, sl_887, sl_906], []), [pon_913], mdn_914, [], (nat_lit 2))
set_option maxRecDepth 100000 in
theorem S_513 : aSpec wd ct_513 := bChk_ok wx_ok btX12_must (nds := []) (fk := []) (rk := (1, [])) (sp := 0) (fuel := 3000) (by decide +kernel) (lk_d S_512 ml_12_124 (lk_d S_460 ml_12_127 lk_n)) odX12_must
def ct_514 : aCt := (mX12_number, [ag_861, ag_22, ag_159], ([sl_889, sl_887, sl_912], []), [pon_925], mdn_872, [], (nat_lit 0))
set_option maxRecDepth 100000 in
theorem S_514 : aSpec wd ct_514 := bChk_ok wx_ok btX12_number (nds := []) (fk := []) (rk := (1, [])) (sp := 0) (fuel := 3000) (by decide +kernel) lk_n odX12_number
def ct_515 : aCt := (mX12_after, [ag_861, ag_905, ag_22, ag_159], ([sl_889, sl_887, sl_906], []), [pon_919], mdn_914, [], (nat_lit 3))
set_option maxRecDepth 100000 in
theorem S_515 : aSpec wd ct_515 := bChk_ok wx_ok btX12_after (nds := []) (fk := []) (rk := (1, [])) (sp := 0) (fuel := 3000) (by decide +kernel) (lk_d S_514 ml_12_164 (lk_d S_513 ml_12_157 lk_n)) odX12_after
def ct_516 : aCt := (mX12_must, [ag_861, ag_905], ([sl_889, sl_887, sl_912], []), [pon_49], mdn_872, [], (nat_lit 0))
set_option maxRecDepth 100000 in
theorem S_516 : aSpec wd ct_516 := bChk_ok wx_ok btX12_must (nds := []) (fk := []) (rk := (1, [])) (sp := 0) (fuel := 3000) (by decide +kernel) lk_n odX12_must
def ct_517 : aCt := (mX12_number, [ag_861, ag_170, ag_122], ([sl_889, sl_887, sl_912], []), [pon_37], mdn_872, [], (nat_lit 0))
set_option maxRecDepth 100000 in
theorem S_517 : aSpec wd ct_517 := bChk_ok wx_ok btX12_number (nds := []) (fk := []) (rk := (1, [])) (sp := 0) (fuel := 3000) (by decide +kernel) lk_n odX12_number
def ct_518 : aCt := (mX12_after, [ag_861, ag_905, ag_170, ag_122], ([sl_889, sl_887, sl_912], []), [pon_37], mdn_872, [], (nat_lit 1))
set_option maxRecDepth 100000 in
theorem S_518 : aSpec wd ct_518 := bChk_ok wx_ok btX12_after (nds := []) (fk := []) (rk := (1, [])) (sp := 0) (fuel := 3000) (by decide +kernel) (lk_d S_517 ml_12_164 (lk_d S_516 ml_12_157 lk_n)) odX12_after
def ct_519 : aCt := (mX12_number, [ag_861, ag_170, ag_177], ([sl_889, sl_887, sl_912], []), [pon_37], mdn_872, [], (nat_lit 0))
set_option maxRecDepth 100000 in
theorem S_519 : aSpec wd ct_519 := bChk_ok wx_ok btX12_number (nds := []) (fk := []) (rk := (1, [])) (sp := 0) (fuel := 3000) (by decide +kernel) lk_n odX12_number
def ct_520 : aCt := (mX12_after, [ag_861, ag_905, ag_170, ag_177], ([sl_889, sl_887, sl_912], []), [pon_37], mdn_872, [], (nat_lit 1))
set_option maxRecDepth 100000 in
theorem S_520 : aSpec wd ct_520 := bChk_ok wx_ok btX12_after (nds := []) (fk := []) (rk := (1, [])) (sp := 0) (fuel := 3000) (by decide +kernel) (lk_d S_519 ml_12_164 (lk_d S_516 ml_12_157 lk_n)) odX12_after
def ct_521 : aCt := (mX12_number, [ag_861, ag_170, ag_183], ([sl_889, sl_887, sl_912], []), [pon_37], mdn_872, [], (nat_lit 0))
set_option maxRecDepth 100000 in
theorem S_521 : aSpec wd ct_521 := bChk_ok wx_ok btX12_number (nds := []) (fk := []) (rk := (1, [])) (sp := 0) (fuel := 3000) (by decide +kernel) lk_n odX12_number
def ct_522 : aCt := (mX12_after, [ag_861, ag_905, ag_170, ag_183], ([sl_889, sl_887, sl_912], []), [pon_37], mdn_872, [], (nat_lit 1))
set_option maxRecDepth 100000 in
theorem S_522 : aSpec wd ct_522 := bChk_ok wx_ok btX12_after (nds := []) (fk := []) (rk := (1, [])) (sp := 0) (fuel := 3000) (by decide +kernel) (lk_d S_521 ml_12_164 (lk_d S_516 ml_12_157 lk_n)) odX12_after
def ct_523 : aCt := (mX12_takesWord, [ag_861, ag_905], ([sl_886, sl_887, sl_906], []), [pon_37], mdn_872, [], (nat_lit 1))
set_option maxRecDepth 100000 in
theorem S_523 : aSpec wd ct_523 := bChk_ok wx_ok btX12_takesWord (nds := []) (fk := []) (rk := (1, [])) (sp := 0) (fuel := 3000) (by decide +kernel) (lk_d S_X12_isWord_4 ml_12_117 lk_n) odX12_takesWord
def ct_524 : aCt := (mX12_must, [ag_861, ag_905], ([sl_886, sl_887, sl_906], []), [pon_913], mdn_914, [], (nat_lit 2))
set_option maxRecDepth 100000 in
theorem S_524 : aSpec wd ct_524 := bChk_ok wx_ok btX12_must (nds := []) (fk := []) (rk := (1, [])) (sp := 0) (fuel := 3000) (by decide +kernel) (lk_d S_523 ml_12_124 (lk_d S_460 ml_12_127 lk_n)) odX12_must
def ct_525 : aCt := (mX12_number, [ag_861, ag_22, ag_159], ([sl_886, sl_887, sl_912], []), [pon_925], mdn_872, [], (nat_lit 0))
set_option maxRecDepth 100000 in
theorem S_525 : aSpec wd ct_525 := bChk_ok wx_ok btX12_number (nds := []) (fk := []) (rk := (1, [])) (sp := 0) (fuel := 3000) (by decide +kernel) lk_n odX12_number
def ct_526 : aCt := (mX12_after, [ag_861, ag_905, ag_22, ag_159], ([sl_886, sl_887, sl_906], []), [pon_919], mdn_914, [], (nat_lit 3))
set_option maxRecDepth 100000 in
theorem S_526 : aSpec wd ct_526 := bChk_ok wx_ok btX12_after (nds := []) (fk := []) (rk := (1, [])) (sp := 0) (fuel := 3000) (by decide +kernel) (lk_d S_525 ml_12_164 (lk_d S_524 ml_12_157 lk_n)) odX12_after
def ct_527 : aCt := (mX12_must, [ag_861, ag_905], ([sl_886, sl_887, sl_912], []), [pon_49], mdn_872, [], (nat_lit 0))
set_option maxRecDepth 100000 in
theorem S_527 : aSpec wd ct_527 := bChk_ok wx_ok btX12_must (nds := []) (fk := []) (rk := (1, [])) (sp := 0) (fuel := 3000) (by decide +kernel) lk_n odX12_must
def ct_528 : aCt := (mX12_number, [ag_861, ag_170, ag_122], ([sl_886, sl_887, sl_912], []), [pon_37], mdn_872, [], (nat_lit 0))
set_option maxRecDepth 100000 in
theorem S_528 : aSpec wd ct_528 := bChk_ok wx_ok btX12_number (nds := []) (fk := []) (rk := (1, [])) (sp := 0) (fuel := 3000) (by decide +kernel) lk_n odX12_number
def ct_529 : aCt := (mX12_after, [ag_861, ag_905, ag_170, ag_122], ([sl_886, sl_887, sl_912], []), [pon_37], mdn_872, [], (nat_lit 1))
set_option maxRecDepth 100000 in
theorem S_529 : aSpec wd ct_529 := bChk_ok wx_ok btX12_after (nds := []) (fk := []) (rk := (1, [])) (sp := 0) (fuel := 3000) (by decide +kernel) (lk_d S_528 ml_12_164 (lk_d S_527 ml_12_157 lk_n)) odX12_after
def ct_530 : aCt := (mX12_number, [ag_861, ag_170, ag_177], ([sl_886, sl_887, sl_912], []), [pon_37], mdn_872, [], (nat_lit 0))
set_option maxRecDepth 100000 in
theorem S_530 : aSpec wd ct_530 := bChk_ok wx_ok btX12_number (nds := []) (fk := []) (rk := (1, [])) (sp := 0) (fuel := 3000) (by decide +kernel) lk_n odX12_number
def ct_531 : aCt := (mX12_after, [ag_861, ag_905, ag_170, ag_177], ([sl_886, sl_887, sl_912], []), [pon_37], mdn_872, [], (nat_lit 1))
set_option maxRecDepth 100000 in
theorem S_531 : aSpec wd ct_531 := bChk_ok wx_ok btX12_after (nds := []) (fk := []) (rk := (1, [])) (sp := 0) (fuel := 3000) (by decide +kernel) (lk_d S_530 ml_12_164 (lk_d S_527 ml_12_157 lk_n)) odX12_after
def ct_532 : aCt := (mX12_number, [ag_861, ag_170, ag_183], ([sl_886, sl_887, sl_912], []), [pon_37], mdn_872, [], (nat_lit 0))
set_option maxRecDepth 100000 in
theorem S_532 : aSpec wd ct_532 := bChk_ok wx_ok btX12_number (nds := []) (fk := []) (rk := (1, [])) (sp := 0) (fuel := 3000) (by decide +kernel) lk_n odX12_number
def ct_533 : aCt := (mX12_after, [ag_861, ag_905, ag_170, ag_183], ([sl_886, sl_887, sl_912], []), [pon_37], mdn_872, [], (nat_lit 1))
set_option maxRecDepth 100000 in
theorem S_533 : aSpec wd ct_533 := bChk_ok wx_ok btX12_after (nds := []) (fk := []) (rk := (1, [])) (sp := 0) (fuel := 3000) (by decide +kernel) (lk_d S_532 ml_12_164 (lk_d S_527 ml_12_157 lk_n)) odX12_after
def sl_943 : (Nat × Nat) × aI := (((nat_lit 196), (nat_lit 8)), [((.ofNat (nat_lit 1)), (.ofNat (nat_lit 8)), (nat_lit 1))])
def sl_944 : (Nat × Nat) × aI := (((nat_lit 200), (nat_lit 0)), [((.ofNat (nat_lit 0)), (.ofNat (nat_lit 0)), (nat_lit 1))])
def sl_945 : (Nat × Nat) × aI := (((nat_lit 200), (nat_lit 4)), [((.ofNat (nat_lit 0)), (.ofNat (nat_lit 0)), (nat_lit 1))])
def sl_946 : (Nat × Nat) × aI := (((nat_lit 200), (nat_lit 7)), [((.ofNat (nat_lit 0)), (.ofNat (nat_lit 0)), (nat_lit 1))])
def sl_947 : (Nat × Nat) × aI := (((nat_lit 200), (nat_lit 9)), [((.ofNat (nat_lit 0)), (.ofNat (nat_lit 0)), (nat_lit 1))])
def sl_948 : (Nat × Nat) × aI := (((nat_lit 200), (nat_lit 183)), [((.ofNat (nat_lit 0)), (.ofNat (nat_lit 0)), (nat_lit 1))])
def sl_949 : (Nat × Nat) × aI := (((nat_lit 200), (nat_lit 184)), [((.ofNat (nat_lit 0)), (.ofNat (nat_lit 0)), (nat_lit 1))])
def sl_950 : (Nat × Nat) × aI := (((nat_lit 200), (nat_lit 185)), [((.ofNat (nat_lit 0)), (.ofNat (nat_lit 0)), (nat_lit 1))])
def sl_951 : (Nat × Nat) × aI := (((nat_lit 200), (nat_lit 186)), [((.ofNat (nat_lit 0)), (.ofNat (nat_lit 0)), (nat_lit 1))])
def sl_952 : (Nat × Nat) × aI := (((nat_lit 200), (nat_lit 187)), [((.ofNat (nat_lit 0)), (.ofNat (nat_lit 0)), (nat_lit 1))])
def sl_953 : (Nat × Nat) × aI := (((nat_lit 200), (nat_lit 188)), [((.ofNat (nat_lit 0)), (.ofNat (nat_lit 0)), (nat_lit 1))])
def sl_954 : (Nat × Nat) × aI := (((nat_lit 200), (nat_lit 189)), [((.ofNat (nat_lit 0)), (.ofNat (nat_lit 0)), (nat_lit 1))])
def sl_955 : (Nat × Nat) × aI := (((nat_lit 200), (nat_lit 0)), [((.ofNat (nat_lit 2)), (.ofNat (nat_lit 4)), (nat_lit 1))])
def pon_956 : aPo := (none, [], [sl_926, sl_903, sl_912, sl_955, sl_947], [])
def sl_957 : (Nat × Nat) × aI := (((nat_lit 200), (nat_lit 9)), [((.ofNat (nat_lit 1)), (.ofNat (nat_lit 1)), (nat_lit 1))])
def pon_958 : aPo := (none, [], [sl_908, sl_892, sl_906, sl_955, sl_957], [])
def pon_959 : aPo := (none, [], [sl_894, sl_895, sl_906, sl_955, sl_957], [])
def mdn_960 : List (Nat × Nat × Nat) := [((nat_lit 196), (nat_lit 4), (nat_lit 11)), ((nat_lit 196), (nat_lit 13), (nat_lit 14)), ((nat_lit 198), (nat_lit 0), (nat_lit 8)), ((nat_lit 200), (nat_lit 0), (nat_lit 4)), ((nat_lit 200), (nat_lit 9), (nat_lit 10)), ((nat_lit 1000002), (nat_lit 0), (nat_lit 0))]
set_option maxRecDepth 100000 in
theorem btX12_postLine : bTab oX12_postLine tX12_postLine := ⟨ofX12_postLine, by decide +kernel⟩
def ct_534 : aCt := (mX12_postLine, [ag_861], ([sl_894, sl_943, sl_906, sl_944, sl_945, sl_946, sl_947, sl_948, sl_949, sl_950, sl_951, sl_952, sl_953, sl_954], []), [pon_956, pon_958, pon_959], mdn_960, [], (nat_lit 5))
set_option maxRecDepth 100000 in
theorem S_534 : aSpec wd ct_534 := bChk_ok wx_ok btX12_postLine (nds := []) (fk := []) (rk := (1, [])) (sp := 0) (fuel := 3000) (by decide +kernel) (lk_d S_X12_next_0 ml_12_121 (lk_d S_515 ml_12_213 (lk_d S_518 ml_12_213 (lk_d S_520 ml_12_213 (lk_d S_522 ml_12_213 (lk_d S_526 ml_12_213 (lk_d S_529 ml_12_213 (lk_d S_531 ml_12_213 (lk_d S_533 ml_12_213 (lk_d S_467 ml_12_213 (lk_d S_472 ml_12_213 (lk_d S_477 ml_12_213 (lk_d S_482 ml_12_213 (lk_d S_504 ml_12_213 (lk_d S_507 ml_12_213 (lk_d S_509 ml_12_213 (lk_d S_511 ml_12_213 (lk_d S_486 ml_12_213 (lk_d S_491 ml_12_213 (lk_d S_493 ml_12_213 (lk_d S_497 ml_12_213 (lk_d S_498 ml_12_213 (lk_d S_489 ml_12_213 (lk_d S_495 ml_12_213 (lk_d S_500 ml_12_213 lk_n))))))))))))))))))))))))) odX12_postLine
def ct_535 : aCt := (mX12_wrong, [ag_861, ag_153, ag_876], ([sl_906], []), [pon_913], mdn_914, [], (nat_lit 0))
set_option maxRecDepth 100000 in
theorem S_535 : aSpec wd ct_535 := bChk_ok wx_ok btX12_wrong (nds := []) (fk := []) (rk := (1, [])) (sp := 0) (fuel := 3000) (by decide +kernel) lk_n odX12_wrong
def pon_961 : aPo := (some (.inl [((.ofNat (nat_lit 0)), (.ofNat (nat_lit 0)), (nat_lit 1))]), [], [sl_906], [])
def pon_962 : aPo := (some (.inl [((.ofNat (nat_lit 1)), (.ofNat (nat_lit 1)), (nat_lit 1))]), [], [sl_943, sl_912], [])
set_option maxRecDepth 100000 in
theorem btX12_begins : bTab oX12_begins tX12_begins := ⟨ofX12_begins, by decide +kernel⟩
def ct_536 : aCt := (mX12_begins, [ag_861, ag_905, ag_53], ([sl_894, sl_895, sl_906, sl_947], []), [pon_961, pon_962], mdn_914, [], (nat_lit 1))
set_option maxRecDepth 100000 in
theorem S_536 : aSpec wd ct_536 := bChk_ok wx_ok btX12_begins (nds := []) (fk := []) (rk := (1, [])) (sp := 0) (fuel := 3000) (by decide +kernel) (lk_d S_X12_isWord_0 ml_12_117 (lk_d S_535 ml_12_127 lk_n)) odX12_begins
set_option maxRecDepth 100000 in
theorem btX12_islandLine : bTab oX12_islandLine tX12_islandLine := ⟨ofX12_islandLine, by decide +kernel⟩
def ct_537 : aCt := (mX12_islandLine, [ag_861], ([sl_894, sl_943, sl_912, sl_944, sl_945], []), [pon_49], mdn_872, [], (nat_lit 0))
set_option maxRecDepth 100000 in
theorem S_537 : aSpec wd ct_537 := bChk_ok wx_ok btX12_islandLine (nds := []) (fk := [14]) (rk := (1, [])) (sp := 0) (fuel := 3000) (by decide +kernel) lk_n odX12_islandLine
def sl_963 : (Nat × Nat) × aI := (((nat_lit 200), (nat_lit 5)), [((.ofNat (nat_lit 0)), (.ofNat (nat_lit 11)), (nat_lit 1))])
set_option maxRecDepth 100000 in
theorem btX12_wayLine : bTab oX12_wayLine tX12_wayLine := ⟨ofX12_wayLine, by decide +kernel⟩
def ct_538 : aCt := (mX12_wayLine, [ag_861], ([sl_894, sl_943, sl_912, sl_963], []), [pon_49], mdn_872, [], (nat_lit 0))
set_option maxRecDepth 100000 in
theorem S_538 : aSpec wd ct_538 := bChk_ok wx_ok btX12_wayLine (nds := []) (fk := [17]) (rk := (1, [])) (sp := 0) (fuel := 3000) (by decide +kernel) lk_n odX12_wayLine
def sl_964 : (Nat × Nat) × aI := (((nat_lit 200), (nat_lit 6)), [((.ofNat (nat_lit 0)), (.ofNat (nat_lit 4)), (nat_lit 1))])
set_option maxRecDepth 100000 in
theorem btX12_whaleLine : bTab oX12_whaleLine tX12_whaleLine := ⟨ofX12_whaleLine, by decide +kernel⟩
def ct_539 : aCt := (mX12_whaleLine, [ag_861], ([sl_894, sl_943, sl_912, sl_964], []), [pon_49], mdn_872, [], (nat_lit 0))
set_option maxRecDepth 100000 in
theorem S_539 : aSpec wd ct_539 := bChk_ok wx_ok btX12_whaleLine (nds := []) (fk := []) (rk := (1, [])) (sp := 0) (fuel := 3000) (by decide +kernel) lk_n odX12_whaleLine
set_option maxRecDepth 100000 in
theorem btX12_boxLine : bTab oX12_boxLine tX12_boxLine := ⟨ofX12_boxLine, by decide +kernel⟩
def ct_540 : aCt := (mX12_boxLine, [ag_861], ([sl_894, sl_943, sl_912, sl_944, sl_945, sl_946, sl_947, sl_948, sl_949, sl_950, sl_951, sl_952, sl_953, sl_954], []), [pon_49], mdn_872, [], (nat_lit 0))
set_option maxRecDepth 100000 in
theorem S_540 : aSpec wd ct_540 := bChk_ok wx_ok btX12_boxLine (nds := []) (fk := [18]) (rk := (1, [])) (sp := 0) (fuel := 3000) (by decide +kernel) lk_n odX12_boxLine
def sl_965 : (Nat × Nat) × aI := (((nat_lit 200), (nat_lit 8)), [((.ofNat (nat_lit 0)), (.ofNat (nat_lit 7)), (nat_lit 1))])
set_option maxRecDepth 100000 in
theorem btX12_spoutLine : bTab oX12_spoutLine tX12_spoutLine := ⟨ofX12_spoutLine, by decide +kernel⟩
def ct_541 : aCt := (mX12_spoutLine, [ag_861], ([sl_894, sl_943, sl_912, sl_965], []), [pon_49], mdn_872, [], (nat_lit 0))
set_option maxRecDepth 100000 in
theorem S_541 : aSpec wd ct_541 := bChk_ok wx_ok btX12_spoutLine (nds := []) (fk := []) (rk := (1, [])) (sp := 0) (fuel := 3000) (by decide +kernel) lk_n odX12_spoutLine
def ct_542 : aCt := (mX12_wrong, [ag_861, ag_150, ag_876], ([sl_906], []), [pon_913], mdn_914, [], (nat_lit 0))
set_option maxRecDepth 100000 in
theorem S_542 : aSpec wd ct_542 := bChk_ok wx_ok btX12_wrong (nds := []) (fk := []) (rk := (1, [])) (sp := 0) (fuel := 3000) (by decide +kernel) lk_n odX12_wrong
def ct_543 : aCt := (mX12_wrong, [ag_861, ag_153, ag_876], ([sl_912], []), [pon_49], mdn_872, [], (nat_lit 0))
set_option maxRecDepth 100000 in
theorem S_543 : aSpec wd ct_543 := bChk_ok wx_ok btX12_wrong (nds := []) (fk := []) (rk := (1, [])) (sp := 0) (fuel := 3000) (by decide +kernel) lk_n odX12_wrong
def ct_544 : aCt := (mX12_begins, [ag_861, ag_905, ag_170], ([sl_894, sl_895, sl_906, sl_947], []), [pon_961, pon_962], mdn_914, [], (nat_lit 1))
set_option maxRecDepth 100000 in
theorem S_544 : aSpec wd ct_544 := bChk_ok wx_ok btX12_begins (nds := []) (fk := []) (rk := (1, [])) (sp := 0) (fuel := 3000) (by decide +kernel) (lk_d S_X12_isWord_0 ml_12_117 (lk_d S_542 ml_12_127 (lk_d S_543 ml_12_127 lk_n))) odX12_begins
def sl_966 : (Nat × Nat) × aI := (((nat_lit 200), (nat_lit 8)), [((.ofNat (nat_lit 8)), (.ofNat (nat_lit 8)), (nat_lit 1))])
def ct_545 : aCt := (mX12_spoutLine, [ag_861], ([sl_894, sl_943, sl_912, sl_966], []), [pon_49], mdn_872, [], (nat_lit 0))
set_option maxRecDepth 100000 in
theorem S_545 : aSpec wd ct_545 := bChk_ok wx_ok btX12_spoutLine (nds := []) (fk := []) (rk := (1, [])) (sp := 0) (fuel := 3000) (by decide +kernel) lk_n odX12_spoutLine
def sl_967 : (Nat × Nat) × aI := (((nat_lit 200), (nat_lit 6)), [((.ofNat (nat_lit 5)), (.ofNat (nat_lit 5)), (nat_lit 1))])
def ct_546 : aCt := (mX12_whaleLine, [ag_861], ([sl_894, sl_943, sl_912, sl_967], []), [pon_49], mdn_872, [], (nat_lit 0))
set_option maxRecDepth 100000 in
theorem S_546 : aSpec wd ct_546 := bChk_ok wx_ok btX12_whaleLine (nds := []) (fk := []) (rk := (1, [])) (sp := 0) (fuel := 3000) (by decide +kernel) lk_n odX12_whaleLine
def sl_968 : (Nat × Nat) × aI := (((nat_lit 200), (nat_lit 5)), [((.ofNat (nat_lit 12)), (.ofNat (nat_lit 12)), (nat_lit 1))])
def ct_547 : aCt := (mX12_wayLine, [ag_861], ([sl_894, sl_943, sl_912, sl_968], []), [pon_49], mdn_872, [], (nat_lit 0))
set_option maxRecDepth 100000 in
theorem S_547 : aSpec wd ct_547 := bChk_ok wx_ok btX12_wayLine (nds := []) (fk := [17]) (rk := (1, [])) (sp := 0) (fuel := 3000) (by decide +kernel) lk_n odX12_wayLine
def sl_969 : (Nat × Nat) × aI := (((nat_lit 200), (nat_lit 0)), [((.ofNat (nat_lit 0)), (.ofNat (nat_lit 0)), (nat_lit 1)), ((.ofNat (nat_lit 2)), (.ofNat (nat_lit 4)), (nat_lit 1))])
def pon_970 : aPo := (none, [], [sl_926, sl_903, sl_912, sl_969, sl_947], [])
set_option maxRecDepth 100000 in
theorem btX12_readLine : bTab oX12_readLine tX12_readLine := ⟨ofX12_readLine, by decide +kernel⟩
def ct_548 : aCt := (mX12_readLine, [ag_861], ([sl_894, sl_895, sl_906, sl_944, sl_945, sl_947, sl_948, sl_949, sl_950, sl_951, sl_952, sl_953, sl_954], []), [pon_970, pon_958, pon_959], mdn_960, [], (nat_lit 6))
set_option maxRecDepth 100000 in
theorem S_548 : aSpec wd ct_548 := bChk_ok wx_ok btX12_readLine (nds := []) (fk := []) (rk := (1, [])) (sp := 0) (fuel := 3000) (by decide +kernel) (lk_d S_534 ml_12_189 (lk_d S_540 ml_12_205 (lk_d S_537 ml_12_196 (lk_d S_545 ml_12_208 (lk_d S_546 ml_12_202 (lk_d S_547 ml_12_199 (lk_d S_539 ml_12_202 (lk_d S_541 ml_12_208 (lk_d S_538 ml_12_199 (lk_d S_X12_isWord_0 ml_12_117 (lk_d S_536 ml_12_192 (lk_d S_544 ml_12_192 (lk_d S_460 ml_12_127 lk_n))))))))))))) odX12_readLine
def sl_971 : (Nat × Nat) × aI := (((nat_lit 196), (nat_lit 11)), [((.ofNat (nat_lit 4)), (.ofNat (nat_lit 4)), (nat_lit 1))])
def pon_972 : aPo := (some (.inl [((.negSucc (nat_lit 0)), (.negSucc (nat_lit 0)), (nat_lit 1))]), [], [sl_971], [])
def ct_549 : aCt := (mX12_no, [ag_861, ag_159], ([sl_867], []), [pon_972], mdn_875, [], (nat_lit 0))
set_option maxRecDepth 100000 in
theorem S_549 : aSpec wd ct_549 := bChk_ok wx_ok btX12_no (nds := []) (fk := []) (rk := (1, [])) (sp := 0) (fuel := 3000) (by decide +kernel) lk_n odX12_no
def ct_550 : aCt := (mX12_begins, [ag_861, ag_905, ag_53], ([sl_891, sl_892, sl_906, sl_947], []), [pon_37], mdn_872, [], (nat_lit 1))
set_option maxRecDepth 100000 in
theorem S_550 : aSpec wd ct_550 := bChk_ok wx_ok btX12_begins (nds := []) (fk := []) (rk := (1, [])) (sp := 0) (fuel := 3000) (by decide +kernel) (lk_d S_X12_isWord_2 ml_12_117 lk_n) odX12_begins
def ct_551 : aCt := (mX12_begins, [ag_861, ag_905, ag_170], ([sl_891, sl_892, sl_906, sl_947], []), [pon_37], mdn_872, [], (nat_lit 1))
set_option maxRecDepth 100000 in
theorem S_551 : aSpec wd ct_551 := bChk_ok wx_ok btX12_begins (nds := []) (fk := []) (rk := (1, [])) (sp := 0) (fuel := 3000) (by decide +kernel) (lk_d S_X12_isWord_2 ml_12_117 lk_n) odX12_begins
def ct_552 : aCt := (mX12_readLine, [ag_861], ([sl_891, sl_892, sl_906, sl_944, sl_945, sl_947, sl_948, sl_949, sl_950, sl_951, sl_952, sl_953, sl_954], []), [pon_913], mdn_914, [], (nat_lit 2))
set_option maxRecDepth 100000 in
theorem S_552 : aSpec wd ct_552 := bChk_ok wx_ok btX12_readLine (nds := []) (fk := []) (rk := (1, [])) (sp := 0) (fuel := 3000) (by decide +kernel) (lk_d S_X12_isWord_2 ml_12_117 (lk_d S_550 ml_12_192 (lk_d S_551 ml_12_192 (lk_d S_460 ml_12_127 lk_n)))) odX12_readLine
def ct_553 : aCt := (mX12_begins, [ag_861, ag_905, ag_53], ([sl_889, sl_887, sl_906, sl_947], []), [pon_37], mdn_872, [], (nat_lit 1))
set_option maxRecDepth 100000 in
theorem S_553 : aSpec wd ct_553 := bChk_ok wx_ok btX12_begins (nds := []) (fk := []) (rk := (1, [])) (sp := 0) (fuel := 3000) (by decide +kernel) (lk_d S_X12_isWord_3 ml_12_117 lk_n) odX12_begins
def ct_554 : aCt := (mX12_begins, [ag_861, ag_905, ag_170], ([sl_889, sl_887, sl_906, sl_947], []), [pon_37], mdn_872, [], (nat_lit 1))
set_option maxRecDepth 100000 in
theorem S_554 : aSpec wd ct_554 := bChk_ok wx_ok btX12_begins (nds := []) (fk := []) (rk := (1, [])) (sp := 0) (fuel := 3000) (by decide +kernel) (lk_d S_X12_isWord_3 ml_12_117 lk_n) odX12_begins
def ct_555 : aCt := (mX12_readLine, [ag_861], ([sl_889, sl_887, sl_906, sl_944, sl_945, sl_947, sl_948, sl_949, sl_950, sl_951, sl_952, sl_953, sl_954], []), [pon_913], mdn_914, [], (nat_lit 2))
set_option maxRecDepth 100000 in
theorem S_555 : aSpec wd ct_555 := bChk_ok wx_ok btX12_readLine (nds := []) (fk := []) (rk := (1, [])) (sp := 0) (fuel := 3000) (by decide +kernel) (lk_d S_X12_isWord_3 ml_12_117 (lk_d S_553 ml_12_192 (lk_d S_554 ml_12_192 (lk_d S_460 ml_12_127 lk_n)))) odX12_readLine
def ct_556 : aCt := (mX12_begins, [ag_861, ag_905, ag_53], ([sl_886, sl_887, sl_906, sl_947], []), [pon_37], mdn_872, [], (nat_lit 1))
set_option maxRecDepth 100000 in
theorem S_556 : aSpec wd ct_556 := bChk_ok wx_ok btX12_begins (nds := []) (fk := []) (rk := (1, [])) (sp := 0) (fuel := 3000) (by decide +kernel) (lk_d S_X12_isWord_4 ml_12_117 lk_n) odX12_begins
def ct_557 : aCt := (mX12_begins, [ag_861, ag_905, ag_170], ([sl_886, sl_887, sl_906, sl_947], []), [pon_37], mdn_872, [], (nat_lit 1))
set_option maxRecDepth 100000 in
theorem S_557 : aSpec wd ct_557 := bChk_ok wx_ok btX12_begins (nds := []) (fk := []) (rk := (1, [])) (sp := 0) (fuel := 3000) (by decide +kernel) (lk_d S_X12_isWord_4 ml_12_117 lk_n) odX12_begins
def ct_558 : aCt := (mX12_readLine, [ag_861], ([sl_886, sl_887, sl_906, sl_944, sl_945, sl_947, sl_948, sl_949, sl_950, sl_951, sl_952, sl_953, sl_954], []), [pon_913], mdn_914, [], (nat_lit 2))
set_option maxRecDepth 100000 in
theorem S_558 : aSpec wd ct_558 := bChk_ok wx_ok btX12_readLine (nds := []) (fk := []) (rk := (1, [])) (sp := 0) (fuel := 3000) (by decide +kernel) (lk_d S_X12_isWord_4 ml_12_117 (lk_d S_556 ml_12_192 (lk_d S_557 ml_12_192 (lk_d S_460 ml_12_127 lk_n)))) odX12_readLine
def ct_559 : aCt := (mX12_wrong, [ag_861, ag_122, ag_876], ([sl_906], []), [pon_913], mdn_914, [], (nat_lit 0))
set_option maxRecDepth 100000 in
theorem S_559 : aSpec wd ct_559 := bChk_ok wx_ok btX12_wrong (nds := []) (fk := []) (rk := (1, [])) (sp := 0) (fuel := 3000) (by decide +kernel) lk_n odX12_wrong
def ct_560 : aCt := (mX12_postLine, [ag_861], ([sl_894, sl_943, sl_906, sl_955, sl_945, sl_957, sl_948, sl_949, sl_950, sl_951, sl_952, sl_953, sl_954], []), [pon_913], mdn_914, [], (nat_lit 1))
set_option maxRecDepth 100000 in
theorem S_560 : aSpec wd ct_560 := bChk_ok wx_ok btX12_postLine (nds := []) (fk := []) (rk := (1, [])) (sp := 0) (fuel := 3000) (by decide +kernel) (lk_d S_559 ml_12_127 lk_n) odX12_postLine
def ct_561 : aCt := (mX12_begins, [ag_861, ag_905, ag_53], ([sl_894, sl_895, sl_906, sl_957], []), [pon_907, pon_909, pon_910], mdn_911, [], (nat_lit 2))
set_option maxRecDepth 100000 in
theorem S_561 : aSpec wd ct_561 := bChk_ok wx_ok btX12_begins (nds := []) (fk := []) (rk := (1, [])) (sp := 0) (fuel := 3000) (by decide +kernel) (lk_d S_X12_next_0 ml_12_121 (lk_d S_X12_isWord_0 ml_12_117 lk_n)) odX12_begins
def pon_973 : aPo := (none, [], [sl_943, sl_912], [])
def pon_974 : aPo := (none, [], [sl_906], [])
set_option maxRecDepth 100000 in
theorem btX12_mustName : bTab oX12_mustName tX12_mustName := ⟨ofX12_mustName, by decide +kernel⟩
def ct_562 : aCt := (mX12_mustName, [ag_861], ([sl_894, sl_895, sl_906], []), [pon_973, pon_974], mdn_914, [], (nat_lit 1))
set_option maxRecDepth 100000 in
theorem S_562 : aSpec wd ct_562 := bChk_ok wx_ok btX12_mustName (nds := []) (fk := []) (rk := (1, [])) (sp := 0) (fuel := 3000) (by decide +kernel) (lk_d S_X12_isWord_0 ml_12_117 (lk_d S_460 ml_12_127 lk_n)) odX12_mustName
end Pk2
