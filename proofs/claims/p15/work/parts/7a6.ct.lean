section Pk0
def pon_841 : aPo := (some (.inl aTop), [none, some [((.ofNat (nat_lit 2)), (.ofNat (nat_lit 5)), (nat_lit 1))], some [((.ofNat (nat_lit 1)), (.ofNat (nat_lit 5)), (nat_lit 1))]], [sl_301, sl_147], [])
def ct_359 : aCt := (mX11_fresh, [ag_0, ag_1, ag_1], ([], [((0, 3), 42), ((92, 0), 42)]), [pon_841, pon_390], mdn_475, [], (nat_lit 5))
set_option maxRecDepth 100000 in
theorem S_359 : aSpec wd ct_359 := bChk_ok wx_ok btX11_fresh (nds := []) (fk := []) (rk := (1, [])) (sp := 0) (fuel := 3000) (by decide +kernel) (lk_d S_63 ml_11_98 (lk_d S_6 ml_11_98 (lk_d S_358 ml_11_261 (lk_d S_57 ml_11_112 (lk_d S_348 ml_11_258 lk_n))))) odX11_fresh
def ct_360 : aCt := (mX7_findNew, [ag_344, ag_416, ag_452, ag_345, ag_493], ([sl_147], [((92, 0), 42)]), [pon_494], mdn_495, [], (nat_lit 4))
set_option maxRecDepth 100000 in
theorem S_360 : aSpec wd ct_360 := bChk_ok wx_ok btX7_findNew (nds := [((nat_lit 24), [lcn_349, lcn_419, lcn_455, lcn_367, lcn_496, lcn_456, lcn_497, lcn_458, lcn_459], [], [sl_147], [((92, 0), 42)], (1057799, [(3, -1025), (5, -1)])), ((nat_lit 24), [lcn_349, lcn_419, lcn_455, lcn_367, lcn_496, lcn_460, lcn_498, lcn_458, lcn_459], [], [sl_147], [((92, 0), 42)], (1056774, [(3, -1025), (5, -1)])), ((nat_lit 24), [lcn_349, lcn_419, lcn_455, lcn_367, lcn_496, lcn_462, lcn_499, lcn_458, lcn_459], [], [sl_147], [((92, 0), 42)], (1056774, [(3, -1025), (5, -1)])), ((nat_lit 24), [lcn_349, lcn_419, lcn_455, lcn_367, lcn_496, lcn_464, lcn_500, lcn_458, lcn_459], [], [sl_147], [((92, 0), 42)], (1056774, [(3, -1025), (5, -1)])), ((nat_lit 24), [lcn_349, lcn_419, lcn_455, lcn_367, lcn_496, lcn_466, lcn_501, lcn_458, lcn_459], [], [sl_147], [((92, 0), 42)], (1056774, [(3, -1025), (5, -1)])), ((nat_lit 24), [lcn_349, lcn_419, lcn_455, lcn_367, lcn_496, lcn_468, lcn_502, lcn_458, lcn_459], [], [sl_147], [((92, 0), 42)], (1056774, [(3, -1025), (5, -1)])), ((nat_lit 24), [lcn_349, lcn_419, lcn_455, lcn_367, lcn_496, lcn_470, lcn_503, lcn_458, lcn_459], [], [sl_147], [((92, 0), 42)], (1056774, [(3, -1025), (5, -1)])), ((nat_lit 24), [lcn_349, lcn_419, lcn_455, lcn_367, lcn_496, lcn_472, lcn_504, lcn_458, lcn_459], [], [sl_147], [((92, 0), 42)], (1050624, [(3, -1025), (5, -1)]))]) (fk := [6]) (rk := (1055750, [])) (sp := 16777216) (fuel := 3000) (by decide +kernel) (lk_d S_120 ml_7_77 (lk_d S_122 ml_7_77 (lk_d S_124 ml_7_77 (lk_d S_126 ml_7_77 (lk_d S_128 ml_7_77 (lk_d S_130 ml_7_77 (lk_d S_132 ml_7_77 (lk_d S_134 ml_7_77 (lk_d S_357 ml_7_73 (lk_d S_138 ml_7_77 (lk_d S_139 ml_7_77 (lk_d S_140 ml_7_77 (lk_d S_141 ml_7_77 (lk_d S_142 ml_7_77 (lk_d S_143 ml_7_77 (lk_d S_144 ml_7_77 (lk_d S_145 ml_7_77 (lk_d S_356 ml_7_70 lk_n)))))))))))))))))) odX7_findNew
def ct_361 : aCt := (mX11_byTurns, [ag_0, ag_1, ag_1], ([], [((0, 3), 42), ((92, 0), 42)]), [pon_841, pon_390], mdn_505, [], (nat_lit 5))
set_option maxRecDepth 100000 in
theorem S_361 : aSpec wd ct_361 := bChk_ok wx_ok btX11_byTurns (nds := []) (fk := []) (rk := (1, [])) (sp := 0) (fuel := 3000) (by decide +kernel) (lk_d S_63 ml_11_98 (lk_d S_6 ml_11_98 (lk_d S_360 ml_11_261 (lk_d S_57 ml_11_112 (lk_d S_348 ml_11_258 lk_n))))) odX11_byTurns
def ct_362 : aCt := (mX11_near, [ag_0, ag_1], ([], [((0, 3), 42), ((92, 0), 42)]), [pon_821, pon_333], mdn_372, [], (nat_lit 4))
set_option maxRecDepth 100000 in
theorem S_362 : aSpec wd ct_362 := bChk_ok wx_ok btX11_near (nds := []) (fk := []) (rk := (1, [])) (sp := 0) (fuel := 3000) (by decide +kernel) (lk_d S_63 ml_11_98 (lk_d S_329 ml_11_201 (lk_d S_314 ml_11_147 (lk_d S_57 ml_11_112 lk_n)))) odX11_near
def ct_363 : aCt := (mX11_asNear, [ag_0, ag_1], ([], [((0, 3), 42), ((92, 0), 42)]), [pon_821, pon_333], mdn_372, [], (nat_lit 4))
set_option maxRecDepth 100000 in
theorem S_363 : aSpec wd ct_363 := bChk_ok wx_ok btX11_asNear (nds := []) (fk := []) (rk := (1, [])) (sp := 0) (fuel := 3000) (by decide +kernel) (lk_d S_63 ml_11_98 (lk_d S_329 ml_11_201 (lk_d S_314 ml_11_147 (lk_d S_57 ml_11_112 lk_n)))) odX11_asNear
def ct_364 : aCt := (mX7_fallIn, [ag_344, ag_508], ([], [((92, 0), 42)]), [pon_346, pon_37], [], [], (nat_lit 0))
set_option maxRecDepth 100000 in
theorem S_364 : aSpec wd ct_364 := bChk_ok wx_ok btX7_fallIn (nds := []) (fk := []) (rk := (1, [])) (sp := 0) (fuel := 3000) (by decide +kernel) lk_n odX7_fallIn
def ct_365 : aCt := (mX7_hearerOf, [ag_344, ag_1, ag_137, ag_508], ([], [((92, 0), 42)]), [pon_365, pon_52], mdn_366, [], (nat_lit 2))
set_option maxRecDepth 100000 in
theorem S_365 : aSpec wd ct_365 := bChk_ok wx_ok btX7_hearerOf (nds := [((nat_lit 32), [lcn_349, lcn_271, lcn_143, lcn_509, lcn_351, lcn_368, lcn_369], [], [sl_370], [((92, 0), 42)], (7, [(5, -1)]))]) (fk := []) (rk := (8, [])) (sp := 4294967296) (fuel := 3000) (by decide +kernel) (lk_d S_364 ml_7_50 (lk_d S_326 ml_7_54 (lk_d S_327 ml_7_54 (lk_d S_82 ml_7_60 lk_n)))) odX7_hearerOf
def ct_366 : aCt := (mX11_hearerIn, [ag_0, ag_190, ag_508], ([], [((0, 3), 42), ((92, 0), 42)]), [pon_365, pon_52], mdn_366, [], (nat_lit 3))
set_option maxRecDepth 100000 in
theorem S_366 : aSpec wd ct_366 := bChk_ok wx_ok btX11_hearerIn (nds := []) (fk := []) (rk := (1, [])) (sp := 0) (fuel := 3000) (by decide +kernel) (lk_d S_323 ml_11_198 (lk_d S_365 ml_11_277 lk_n)) odX11_hearerIn
def pon_842 : aPo := (some (.inl aTop), [none, some [((.ofNat (nat_lit 0)), (.ofNat (nat_lit 7)), (nat_lit 1))], some [((.ofNat (nat_lit 0)), (.ofNat (nat_lit 99)), (nat_lit 1))]], [sl_301, sl_214], [])
def ct_367 : aCt := (mX11_heardIn, [ag_0, ag_1, ag_1], ([], [((0, 3), 42), ((92, 0), 42)]), [pon_842, pon_390], mdn_372, [], (nat_lit 4))
set_option maxRecDepth 100000 in
theorem S_367 : aSpec wd ct_367 := bChk_ok wx_ok btX11_heardIn (nds := []) (fk := []) (rk := (1, [])) (sp := 0) (fuel := 3000) (by decide +kernel) (lk_d S_6 ml_11_98 (lk_d S_63 ml_11_98 (lk_d S_366 ml_11_201 (lk_d S_314 ml_11_147 (lk_d S_150 ml_11_227 (lk_d S_57 ml_11_112 lk_n)))))) odX11_heardIn
def ct_368 : aCt := (mX7_hearerOf, [ag_344, ag_1, ag_137, ag_508], ([sl_147], [((92, 0), 42)]), [pon_365, pon_52], mdn_366, [], (nat_lit 2))
set_option maxRecDepth 100000 in
theorem S_368 : aSpec wd ct_368 := bChk_ok wx_ok btX7_hearerOf (nds := [((nat_lit 32), [lcn_349, lcn_271, lcn_143, lcn_509, lcn_351, lcn_368, lcn_369], [], [sl_147, sl_370], [((92, 0), 42)], (7, [(5, -1)]))]) (fk := []) (rk := (8, [])) (sp := 4294967296) (fuel := 3000) (by decide +kernel) (lk_d S_364 ml_7_50 (lk_d S_326 ml_7_54 (lk_d S_327 ml_7_54 (lk_d S_82 ml_7_60 lk_n)))) odX7_hearerOf
def ct_369 : aCt := (mX11_strange, [ag_0, ag_1], ([], [((0, 3), 42), ((92, 0), 42)]), [pon_830, pon_333], mdn_372, [], (nat_lit 3))
set_option maxRecDepth 100000 in
theorem S_369 : aSpec wd ct_369 := bChk_ok wx_ok btX11_strange (nds := [((nat_lit 16), [lcn_407, lcn_249, lcn_511], [], [sl_147], [((0, 3), 42), ((92, 0), 42)], (100, [(1, -1)]))]) (fk := []) (rk := (101, [])) (sp := 65536) (fuel := 3000) (by decide +kernel) (lk_d S_63 ml_11_98 (lk_d S_316 ml_11_174 (lk_d S_57 ml_11_112 (lk_d S_368 ml_11_277 lk_n)))) odX11_strange
def ct_370 : aCt := (mX6_goes, [ag_394, ag_170, ag_256, ag_125, ag_125], ([], []), [pon_37, pon_38], mdn_514, [], (nat_lit 1))
set_option maxRecDepth 100000 in
theorem S_370 : aSpec wd ct_370 := bChk_ok wx_ok btX6_goes (nds := []) (fk := []) (rk := (1, [])) (sp := 0) (fuel := 3000) (by decide +kernel) (lk_d S_158 ml_6_80 lk_n) odX6_goes
def ct_371 : aCt := (mX6_goes, [ag_394, ag_521, ag_256, ag_125, ag_125], ([], []), [pon_37, pon_522], mdn_514, [], (nat_lit 1))
set_option maxRecDepth 100000 in
theorem S_371 : aSpec wd ct_371 := bChk_ok wx_ok btX6_goes (nds := []) (fk := []) (rk := (1, [])) (sp := 0) (fuel := 3000) (by decide +kernel) (lk_d S_160 ml_6_80 (lk_d S_161 ml_6_80 lk_n)) odX6_goes
def ct_372 : aCt := (mX6_findFirstDays, [ag_394, ag_523, ag_125, ag_1], ([], [((94, 0), 42)]), [pon_49], mdn_514, [], (nat_lit 2))
set_option maxRecDepth 100000 in
theorem S_372 : aSpec wd ct_372 := bChk_ok wx_ok btX6_findFirstDays (nds := [((nat_lit 39), [lcn_396, lcn_524, lcn_250, lcn_517, lcn_445, lcn_525, lcn_369], [], [], [((94, 0), 42)], (111, [(5, -14)])), ((nat_lit 57), [lcn_396, lcn_524, lcn_250, lcn_517, lcn_526, lcn_525, lcn_527, lcn_528], [], [], [((94, 0), 42)], (110, [(5, -14), (6, -1)]))]) (fk := []) (rk := (112, [])) (sp := 144115737831669760) (fuel := 3000) (by decide +kernel) (lk_d S_157 ml_6_38 (lk_d S_89 ml_6_64 (lk_d S_370 ml_6_70 (lk_d S_371 ml_6_70 lk_n)))) odX6_findFirstDays
def ct_373 : aCt := (mX6_firstDayAt, [ag_394, ag_361, ag_125, ag_125, ag_345], ([sl_147], [((94, 0), 42)]), [pon_130, pon_52], mdn_514, [], (nat_lit 3))
set_option maxRecDepth 100000 in
theorem S_373 : aSpec wd ct_373 := bChk_ok wx_ok btX6_firstDayAt (nds := []) (fk := []) (rk := (1, [])) (sp := 0) (fuel := 3000) (by decide +kernel) (lk_d S_372 ml_6_84 lk_n) odX6_firstDayAt
def pon_843 : aPo := (some (.inl aTop), [none, some [((.ofNat (nat_lit 0)), (.ofNat (nat_lit 4)), (nat_lit 1))], some [((.ofNat (nat_lit 0)), (.ofNat (nat_lit 6)), (nat_lit 1))], some [((.ofNat (nat_lit 0)), (.ofNat (nat_lit 6)), (nat_lit 1))], some [((.ofNat (nat_lit 0)), (.ofNat (nat_lit 9999)), (nat_lit 1))]], [sl_301, sl_147, sl_811], [])
def ct_374 : aCt := (mX11_arrival, [ag_0, ag_1, ag_1, ag_1, ag_1], ([], [((0, 3), 42), ((94, 0), 42)]), [pon_843, pon_530], mdn_531, [], (nat_lit 4))
set_option maxRecDepth 100000 in
theorem S_374 : aSpec wd ct_374 := bChk_ok wx_ok btX11_arrival (nds := []) (fk := []) (rk := (1, [])) (sp := 0) (fuel := 3000) (by decide +kernel) (lk_d S_6 ml_11_98 (lk_d S_63 ml_11_98 (lk_d S_373 ml_11_280 (lk_d S_331 ml_11_174 (lk_d S_312 ml_11_121 (lk_d S_316 ml_11_174 (lk_d S_95 ml_11_227 (lk_d S_57 ml_11_112 lk_n)))))))) odX11_arrival
def ct_375 : aCt := (mX6_firstDayAt, [ag_394, ag_361, ag_125, ag_125, ag_1], ([], [((94, 0), 42)]), [pon_130, pon_52], mdn_514, [], (nat_lit 3))
set_option maxRecDepth 100000 in
theorem S_375 : aSpec wd ct_375 := bChk_ok wx_ok btX6_firstDayAt (nds := []) (fk := []) (rk := (1, [])) (sp := 0) (fuel := 3000) (by decide +kernel) (lk_d S_372 ml_6_84 lk_n) odX6_firstDayAt
def ct_376 : aCt := (mX6_dayOfBringing, [ag_394, ag_217, ag_190], ([sl_224], [((92, 0), 42), ((94, 0), 42)]), [pon_533, pon_52], mdn_534, [], (nat_lit 4))
set_option maxRecDepth 100000 in
theorem S_376 : aSpec wd ct_376 := bChk_ok wx_ok btX6_dayOfBringing (nds := []) (fk := []) (rk := (1, [])) (sp := 0) (fuel := 3000) (by decide +kernel) (lk_d S_98 ml_6_96 (lk_d S_323 ml_6_115 (lk_d S_375 ml_6_136 (lk_d S_328 ml_6_122 lk_n)))) odX6_dayOfBringing
def ct_377 : aCt := (mX6_dayOfBringing, [ag_394, ag_361, ag_190], ([sl_222], [((92, 0), 42), ((94, 0), 42)]), [pon_533, pon_52], mdn_534, [], (nat_lit 4))
set_option maxRecDepth 100000 in
theorem S_377 : aSpec wd ct_377 := bChk_ok wx_ok btX6_dayOfBringing (nds := []) (fk := []) (rk := (1, [])) (sp := 0) (fuel := 3000) (by decide +kernel) (lk_d S_98 ml_6_96 (lk_d S_323 ml_6_115 (lk_d S_375 ml_6_136 (lk_d S_328 ml_6_122 lk_n)))) odX6_dayOfBringing
def ct_378 : aCt := (mX6_dayOfBringing, [ag_394, ag_402, ag_190], ([sl_228], [((92, 0), 42), ((94, 0), 42)]), [pon_533, pon_52], mdn_534, [], (nat_lit 4))
set_option maxRecDepth 100000 in
theorem S_378 : aSpec wd ct_378 := bChk_ok wx_ok btX6_dayOfBringing (nds := []) (fk := []) (rk := (1, [])) (sp := 0) (fuel := 3000) (by decide +kernel) (lk_d S_98 ml_6_96 (lk_d S_323 ml_6_115 (lk_d S_375 ml_6_136 (lk_d S_328 ml_6_122 lk_n)))) odX6_dayOfBringing
def ct_379 : aCt := (mX6_dayOfBringing, [ag_394, ag_535, ag_190], ([sl_233], [((92, 0), 42), ((94, 0), 42)]), [pon_533, pon_52], mdn_534, [], (nat_lit 4))
set_option maxRecDepth 100000 in
theorem S_379 : aSpec wd ct_379 := bChk_ok wx_ok btX6_dayOfBringing (nds := []) (fk := []) (rk := (1, [])) (sp := 0) (fuel := 3000) (by decide +kernel) (lk_d S_98 ml_6_96 (lk_d S_323 ml_6_115 (lk_d S_375 ml_6_136 (lk_d S_328 ml_6_122 lk_n)))) odX6_dayOfBringing
def ct_380 : aCt := (mX6_dayOfBringing, [ag_394, ag_170, ag_190], ([sl_238], [((92, 0), 42), ((94, 0), 42)]), [pon_533, pon_52], mdn_534, [], (nat_lit 4))
set_option maxRecDepth 100000 in
theorem S_380 : aSpec wd ct_380 := bChk_ok wx_ok btX6_dayOfBringing (nds := []) (fk := []) (rk := (1, [])) (sp := 0) (fuel := 3000) (by decide +kernel) (lk_d S_98 ml_6_96 (lk_d S_323 ml_6_115 (lk_d S_375 ml_6_136 (lk_d S_328 ml_6_122 lk_n)))) odX6_dayOfBringing
def pon_844 : aPo := (some (.inl aTop), [none, some [((.ofNat (nat_lit 0)), (.ofNat (nat_lit 4)), (nat_lit 1))], some [((.ofNat (nat_lit 0)), (.ofNat (nat_lit 7)), (nat_lit 1))]], [sl_301, sl_811, sl_214], [])
def ct_381 : aCt := (mX11_brings, [ag_0, ag_1, ag_1], ([], [((0, 3), 42), ((92, 0), 42), ((94, 0), 42)]), [pon_844, pon_336], mdn_537, [], (nat_lit 5))
set_option maxRecDepth 100000 in
theorem S_381 : aSpec wd ct_381 := bChk_ok wx_ok btX11_brings (nds := []) (fk := []) (rk := (1, [])) (sp := 0) (fuel := 3000) (by decide +kernel) (lk_d S_63 ml_11_98 (lk_d S_380 ml_11_283 (lk_d S_379 ml_11_283 (lk_d S_378 ml_11_283 (lk_d S_377 ml_11_283 (lk_d S_376 ml_11_283 (lk_d S_312 ml_11_121 (lk_d S_314 ml_11_147 (lk_d S_57 ml_11_112 lk_n))))))))) odX11_brings
def pon_845 : aPo := (some (.inl [((.negSucc (nat_lit 1)), (.negSucc (nat_lit 1)), (nat_lit 1)), ((.ofNat (nat_lit 0)), (.ofNat (nat_lit 4)), (nat_lit 1))]), [], [sl_811], [])
def pon_846 : aPo := (some (.inl [((.negSucc (nat_lit 1)), (.negSucc (nat_lit 1)), (nat_lit 1))]), [], [sl_29], [])
def ct_382 : aCt := (mX6_soonestBringer, [ag_394, ag_190], ([], [((92, 0), 42), ((94, 0), 42)]), [pon_845, pon_846], mdn_534, [], (nat_lit 5))
set_option maxRecDepth 100000 in
theorem S_382 : aSpec wd ct_382 := bChk_ok wx_ok btX6_soonestBringer (nds := [((nat_lit 8), [lcn_396, lcn_540, lcn_541, lcn_101, lcn_421], [], [], [((92, 0), 42), ((94, 0), 42)], (8, [])), ((nat_lit 8), [lcn_396, lcn_540, lcn_542, lcn_543, lcn_544, lcn_545], [], [sl_224], [((92, 0), 42), ((94, 0), 42)], (5, [(3, -1)])), ((nat_lit 8), [lcn_396, lcn_540, lcn_546, lcn_543, lcn_547, lcn_545], [], [sl_222], [((92, 0), 42), ((94, 0), 42)], (4, [(3, -1)])), ((nat_lit 8), [lcn_396, lcn_540, lcn_548, lcn_543, lcn_549, lcn_545], [], [sl_228], [((92, 0), 42), ((94, 0), 42)], (3, [(3, -1)])), ((nat_lit 8), [lcn_396, lcn_540, lcn_550, lcn_543, lcn_551, lcn_545], [], [sl_233], [((92, 0), 42), ((94, 0), 42)], (4, [(1, -2), (3, -1)])), ((nat_lit 8), [lcn_396, lcn_540, lcn_552, lcn_543, lcn_423, lcn_545], [], [sl_238], [((92, 0), 42), ((94, 0), 42)], (0, []))]) (fk := [17]) (rk := (9, [])) (sp := 256) (fuel := 3000) (by decide +kernel) (lk_d S_380 ml_6_155 (lk_d S_379 ml_6_155 (lk_d S_378 ml_6_155 (lk_d S_377 ml_6_155 (lk_d S_376 ml_6_155 lk_n))))) odX6_soonestBringer
def ct_383 : aCt := (mX11_soonest, [ag_0, ag_1], ([], [((0, 3), 42), ((92, 0), 42), ((94, 0), 42)]), [pon_821, pon_333], mdn_537, [], (nat_lit 6))
set_option maxRecDepth 100000 in
theorem S_383 : aSpec wd ct_383 := bChk_ok wx_ok btX11_soonest (nds := []) (fk := []) (rk := (1, [])) (sp := 0) (fuel := 3000) (by decide +kernel) (lk_d S_63 ml_11_98 (lk_d S_382 ml_11_286 (lk_d S_314 ml_11_147 (lk_d S_57 ml_11_112 lk_n)))) odX11_soonest
def ct_384 : aCt := (mX6_surestBringer, [ag_394, ag_190, ag_553], ([], [((92, 0), 42), ((94, 0), 42)]), [pon_845, pon_846], mdn_534, [], (nat_lit 5))
set_option maxRecDepth 100000 in
theorem S_384 : aSpec wd ct_384 := bChk_ok wx_ok btX6_surestBringer (nds := [((nat_lit 6), [lcn_396, lcn_540, lcn_542, lcn_554, lcn_421], [], [], [((92, 0), 42), ((94, 0), 42)], (8, [])), ((nat_lit 6), [lcn_396, lcn_540, lcn_542, lcn_555, lcn_544, lcn_525], [], [sl_224], [((92, 0), 42), ((94, 0), 42)], (5, [(3, -1)])), ((nat_lit 6), [lcn_396, lcn_540, lcn_542, lcn_556, lcn_547, lcn_525], [], [sl_222], [((92, 0), 42), ((94, 0), 42)], (4, [(3, -1)])), ((nat_lit 6), [lcn_396, lcn_540, lcn_542, lcn_557, lcn_549, lcn_525], [], [sl_228], [((92, 0), 42), ((94, 0), 42)], (3, [(3, -1)])), ((nat_lit 6), [lcn_396, lcn_540, lcn_542, lcn_558, lcn_551, lcn_525], [], [sl_233], [((92, 0), 42), ((94, 0), 42)], (4, [(2, -2), (3, -1)])), ((nat_lit 6), [lcn_396, lcn_540, lcn_542, lcn_559, lcn_423, lcn_470], [], [sl_238], [((92, 0), 42), ((94, 0), 42)], (0, []))]) (fk := [15]) (rk := (9, [])) (sp := 64) (fuel := 3000) (by decide +kernel) (lk_d S_380 ml_6_155 (lk_d S_379 ml_6_155 (lk_d S_378 ml_6_155 (lk_d S_377 ml_6_155 (lk_d S_376 ml_6_155 lk_n))))) odX6_surestBringer
def ct_385 : aCt := (mX11_surest, [ag_0, ag_1], ([], [((0, 3), 42), ((92, 0), 42), ((94, 0), 42)]), [pon_821, pon_333], mdn_537, [], (nat_lit 6))
set_option maxRecDepth 100000 in
theorem S_385 : aSpec wd ct_385 := bChk_ok wx_ok btX11_surest (nds := []) (fk := []) (rk := (1, [])) (sp := 0) (fuel := 3000) (by decide +kernel) (lk_d S_63 ml_11_98 (lk_d S_384 ml_11_289 (lk_d S_314 ml_11_147 (lk_d S_57 ml_11_112 lk_n)))) odX11_surest
def pon_847 : aPo := (some (.inl [((.ofNat (nat_lit 0)), (.ofNat (nat_lit 31)), (nat_lit 1))]), [], [sl_811], [])
def pon_848 : aPo := (some (.inl [((.ofNat (nat_lit 0)), (.ofNat (nat_lit 0)), (nat_lit 1))]), [], [sl_29], [])
def ct_386 : aCt := (mX6_bringersBy, [ag_394, ag_190, ag_560], ([], [((92, 0), 42), ((94, 0), 42)]), [pon_847, pon_848], mdn_534, [], (nat_lit 5))
set_option maxRecDepth 100000 in
theorem S_386 : aSpec wd ct_386 := bChk_ok wx_ok btX6_bringersBy (nds := [((nat_lit 5), [lcn_396, lcn_540, lcn_563, lcn_101, lcn_421], [], [], [((92, 0), 42), ((94, 0), 42)], (5, [])), ((nat_lit 5), [lcn_396, lcn_540, lcn_563, lcn_564, lcn_544, lcn_545], [], [sl_224], [((92, 0), 42), ((94, 0), 42)], (5, [(3, -1)])), ((nat_lit 5), [lcn_396, lcn_540, lcn_563, lcn_565, lcn_547, lcn_545], [], [sl_222], [((92, 0), 42), ((94, 0), 42)], (4, [(3, -1)])), ((nat_lit 5), [lcn_396, lcn_540, lcn_563, lcn_438, lcn_549, lcn_545], [], [sl_228], [((92, 0), 42), ((94, 0), 42)], (3, [(3, -1)])), ((nat_lit 5), [lcn_396, lcn_540, lcn_563, lcn_427, lcn_551, lcn_545], [], [sl_233], [((92, 0), 42), ((94, 0), 42)], (2, [(3, -1)])), ((nat_lit 5), [lcn_396, lcn_540, lcn_563, lcn_422, lcn_423, lcn_545], [], [sl_238], [((92, 0), 42), ((94, 0), 42)], (0, []))]) (fk := [14]) (rk := (6, [])) (sp := 32) (fuel := 3000) (by decide +kernel) (lk_d S_380 ml_6_155 (lk_d S_379 ml_6_155 (lk_d S_378 ml_6_155 (lk_d S_377 ml_6_155 (lk_d S_376 ml_6_155 lk_n))))) odX6_bringersBy
def pon_849 : aPo := (some (.inl aTop), [none, some [((.ofNat (nat_lit 0)), (.ofNat (nat_lit 7)), (nat_lit 1))], some [((.ofNat (nat_lit 0)), (.ofNat (nat_lit 99999)), (nat_lit 1))]], [sl_301, sl_214], [])
def ct_387 : aCt := (mX11_by, [ag_0, ag_1, ag_1], ([], [((0, 3), 42), ((92, 0), 42), ((94, 0), 42)]), [pon_849, pon_390], mdn_537, [], (nat_lit 6))
set_option maxRecDepth 100000 in
theorem S_387 : aSpec wd ct_387 := bChk_ok wx_ok btX11_by (nds := []) (fk := []) (rk := (1, [])) (sp := 0) (fuel := 3000) (by decide +kernel) (lk_d S_6 ml_11_98 (lk_d S_63 ml_11_98 (lk_d S_386 ml_11_292 (lk_d S_314 ml_11_147 (lk_d S_92 ml_11_227 (lk_d S_57 ml_11_112 lk_n)))))) odX11_by
def ct_388 : aCt := (mX11_registered, [ag_0, ag_1, ag_535], ([], [((0, 3), 42), ((92, 0), 42), ((94, 0), 42)]), [pon_576], mdn_537, [], (nat_lit 6))
set_option maxRecDepth 100000 in
theorem S_388 : aSpec wd ct_388 := bChk_ok wx_ok btX11_registered (nds := []) (fk := []) (rk := (1, [])) (sp := 0) (fuel := 3000) (by decide +kernel) (lk_d S_179 ml_11_98 (lk_d S_63 ml_11_98 (lk_d S_384 ml_11_289 (lk_d S_314 ml_11_147 (lk_d S_180 ml_11_295 (lk_d S_57 ml_11_112 (lk_d S_181 ml_11_295 lk_n))))))) odX11_registered
def sl_850 : (Nat × Nat) × aI := (((nat_lit 42), (nat_lit 7)), [((.ofNat (nat_lit 2)), (.ofNat (nat_lit 8)), (nat_lit 1))])
def ct_389 : aCt := (mX11_solveMatch, [ag_0], ([sl_147], [((0, 3), 42), ((92, 0), 42), ((94, 0), 42)]), [pon_49], mdn_611, [], (nat_lit 5))
set_option maxRecDepth 100000 in
theorem S_389 : aSpec wd ct_389 := bChk_ok wx_ok btX11_solveMatch (nds := [((nat_lit 2), [lcn_407, lcn_175], [], [sl_147], [((0, 3), 42), ((92, 0), 42), ((94, 0), 42)], (63, [])), ((nat_lit 15), [lcn_407, lcn_175, lcn_589], [], [sl_147, sl_214], [((0, 3), 42), ((92, 0), 42), ((94, 0), 42)], (62, [])), ((nat_lit 15), [lcn_407, lcn_540, lcn_293], [], [sl_147, sl_224, sl_214], [((0, 3), 42), ((92, 0), 42), ((94, 0), 42)], (61, [(0, -7), (1, -1)])), ((nat_lit 15), [lcn_407, lcn_540, lcn_612], [], [sl_147, sl_222, sl_214], [((0, 3), 42), ((92, 0), 42), ((94, 0), 42)], (52, [(0, -6), (1, -1)])), ((nat_lit 15), [lcn_407, lcn_540, lcn_613], [], [sl_147, sl_228, sl_214], [((0, 3), 42), ((92, 0), 42), ((94, 0), 42)], (43, [(0, -5), (1, -1)])), ((nat_lit 15), [lcn_407, lcn_540, lcn_614], [], [sl_147, sl_233, sl_214], [((0, 3), 42), ((92, 0), 42), ((94, 0), 42)], (34, [(0, -4), (1, -1)])), ((nat_lit 15), [lcn_407, lcn_540, lcn_615], [], [sl_147, sl_238, sl_214], [((0, 3), 42), ((92, 0), 42), ((94, 0), 42)], (25, [(0, -3), (1, -1)])), ((nat_lit 2), [lcn_407, lcn_592, lcn_589], [], [sl_147, sl_29, sl_214], [((0, 3), 42), ((92, 0), 42), ((94, 0), 42)], (17, [(0, -2)])), ((nat_lit 2), [lcn_407, lcn_592, lcn_444], [], [sl_147, sl_238, sl_214], [((0, 3), 42), ((92, 0), 42), ((94, 0), 42)], (26, [(0, -3)])), ((nat_lit 15), [lcn_407, lcn_616, lcn_589], [], [sl_147, sl_29, sl_850], [((0, 3), 42), ((92, 0), 42), ((94, 0), 42)], (16, [(0, -2)])), ((nat_lit 2), [lcn_407, lcn_592, lcn_597], [], [sl_147, sl_233, sl_214], [((0, 3), 42), ((92, 0), 42), ((94, 0), 42)], (35, [(0, -4)])), ((nat_lit 2), [lcn_407, lcn_592, lcn_176], [], [sl_147, sl_228, sl_214], [((0, 3), 42), ((92, 0), 42), ((94, 0), 42)], (44, [(0, -5)])), ((nat_lit 2), [lcn_407, lcn_592, lcn_168], [], [sl_147, sl_222, sl_214], [((0, 3), 42), ((92, 0), 42), ((94, 0), 42)], (53, [(0, -6)])), ((nat_lit 2), [lcn_407, lcn_592, lcn_607], [], [sl_147, sl_224, sl_214], [((0, 3), 42), ((92, 0), 42), ((94, 0), 42)], (62, [(0, -7)]))]) (fk := [23]) (rk := (64, [])) (sp := 32772) (fuel := 3000) (by decide +kernel) (lk_d S_185 ml_11_404 (lk_d S_380 ml_11_283 (lk_d S_188 ml_11_404 (lk_d S_192 ml_11_404 (lk_d S_196 ml_11_404 (lk_d S_200 ml_11_404 (lk_d S_204 ml_11_404 (lk_d S_208 ml_11_404 (lk_d S_379 ml_11_283 (lk_d S_378 ml_11_283 (lk_d S_377 ml_11_283 (lk_d S_376 ml_11_283 lk_n)))))))))))) odX11_solveMatch
def ct_390 : aCt := (mX11_match, [ag_0], ([], [((0, 3), 42), ((92, 0), 42), ((94, 0), 42)]), [pon_830, pon_831], mdn_618, [], (nat_lit 6))
set_option maxRecDepth 100000 in
theorem S_390 : aSpec wd ct_390 := bChk_ok wx_ok btX11_match (nds := []) (fk := []) (rk := (1, [])) (sp := 0) (fuel := 3000) (by decide +kernel) (lk_d S_389 ml_11_298 (lk_d S_335 ml_11_222 (lk_d S_63 ml_11_98 (lk_d S_57 ml_11_112 lk_n)))) odX11_match
def ct_391 : aCt := (mX11_matchDays, [ag_0], ([], [((0, 3), 42), ((92, 0), 42), ((94, 0), 42)]), [pon_830, pon_831], mdn_618, [], (nat_lit 6))
set_option maxRecDepth 100000 in
theorem S_391 : aSpec wd ct_391 := bChk_ok wx_ok btX11_matchDays (nds := []) (fk := []) (rk := (1, [])) (sp := 0) (fuel := 3000) (by decide +kernel) (lk_d S_389 ml_11_298 (lk_d S_335 ml_11_222 (lk_d S_63 ml_11_98 (lk_d S_57 ml_11_112 lk_n)))) odX11_matchDays
def ct_392 : aCt := (mX11_solveMatch, [ag_0], ([sl_214], [((0, 3), 42), ((92, 0), 42), ((94, 0), 42)]), [pon_49], mdn_611, [], (nat_lit 5))
set_option maxRecDepth 100000 in
theorem S_392 : aSpec wd ct_392 := bChk_ok wx_ok btX11_solveMatch (nds := [((nat_lit 2), [lcn_407, lcn_175], [], [sl_214], [((0, 3), 42), ((92, 0), 42), ((94, 0), 42)], (63, [])), ((nat_lit 15), [lcn_407, lcn_175, lcn_589], [], [sl_214], [((0, 3), 42), ((92, 0), 42), ((94, 0), 42)], (62, [])), ((nat_lit 15), [lcn_407, lcn_540, lcn_293], [], [sl_224, sl_214], [((0, 3), 42), ((92, 0), 42), ((94, 0), 42)], (61, [(0, -7), (1, -1)])), ((nat_lit 15), [lcn_407, lcn_540, lcn_612], [], [sl_222, sl_214], [((0, 3), 42), ((92, 0), 42), ((94, 0), 42)], (52, [(0, -6), (1, -1)])), ((nat_lit 15), [lcn_407, lcn_540, lcn_613], [], [sl_228, sl_214], [((0, 3), 42), ((92, 0), 42), ((94, 0), 42)], (43, [(0, -5), (1, -1)])), ((nat_lit 15), [lcn_407, lcn_540, lcn_614], [], [sl_233, sl_214], [((0, 3), 42), ((92, 0), 42), ((94, 0), 42)], (34, [(0, -4), (1, -1)])), ((nat_lit 15), [lcn_407, lcn_540, lcn_615], [], [sl_238, sl_214], [((0, 3), 42), ((92, 0), 42), ((94, 0), 42)], (25, [(0, -3), (1, -1)])), ((nat_lit 2), [lcn_407, lcn_592, lcn_589], [], [sl_29, sl_214], [((0, 3), 42), ((92, 0), 42), ((94, 0), 42)], (17, [(0, -2)])), ((nat_lit 2), [lcn_407, lcn_592, lcn_444], [], [sl_238, sl_214], [((0, 3), 42), ((92, 0), 42), ((94, 0), 42)], (26, [(0, -3)])), ((nat_lit 15), [lcn_407, lcn_616, lcn_589], [], [sl_29, sl_850], [((0, 3), 42), ((92, 0), 42), ((94, 0), 42)], (16, [(0, -2)])), ((nat_lit 2), [lcn_407, lcn_592, lcn_597], [], [sl_233, sl_214], [((0, 3), 42), ((92, 0), 42), ((94, 0), 42)], (35, [(0, -4)])), ((nat_lit 2), [lcn_407, lcn_592, lcn_176], [], [sl_228, sl_214], [((0, 3), 42), ((92, 0), 42), ((94, 0), 42)], (44, [(0, -5)])), ((nat_lit 2), [lcn_407, lcn_592, lcn_168], [], [sl_222, sl_214], [((0, 3), 42), ((92, 0), 42), ((94, 0), 42)], (53, [(0, -6)])), ((nat_lit 2), [lcn_407, lcn_592, lcn_607], [], [sl_224, sl_214], [((0, 3), 42), ((92, 0), 42), ((94, 0), 42)], (62, [(0, -7)]))]) (fk := [23]) (rk := (64, [])) (sp := 32772) (fuel := 3000) (by decide +kernel) (lk_d S_380 ml_11_283 (lk_d S_188 ml_11_404 (lk_d S_192 ml_11_404 (lk_d S_196 ml_11_404 (lk_d S_200 ml_11_404 (lk_d S_204 ml_11_404 (lk_d S_208 ml_11_404 (lk_d S_379 ml_11_283 (lk_d S_378 ml_11_283 (lk_d S_377 ml_11_283 (lk_d S_376 ml_11_283 lk_n))))))))))) odX11_solveMatch
def ct_393 : aCt := (mX11_matchOf, [ag_0, ag_1], ([], [((0, 3), 42), ((92, 0), 42), ((94, 0), 42)]), [pon_821, pon_333], mdn_618, [], (nat_lit 6))
set_option maxRecDepth 100000 in
theorem S_393 : aSpec wd ct_393 := bChk_ok wx_ok btX11_matchOf (nds := []) (fk := []) (rk := (1, [])) (sp := 0) (fuel := 3000) (by decide +kernel) (lk_d S_392 ml_11_298 (lk_d S_63 ml_11_98 (lk_d S_314 ml_11_147 (lk_d S_57 ml_11_112 lk_n)))) odX11_matchOf
def ct_394 : aCt := (mX11_isBox, [ag_0, ag_1], ([sl_214], [((0, 3), 42)]), [pon_373, pon_619], [], [], (nat_lit 0))
set_option maxRecDepth 100000 in
theorem S_394 : aSpec wd ct_394 := bChk_ok wx_ok btX11_isBox (nds := []) (fk := []) (rk := (1, [])) (sp := 0) (fuel := 3000) (by decide +kernel) lk_n odX11_isBox
def ct_395 : aCt := (mX11_isWhale, [ag_0, ag_1], ([sl_224], [((0, 3), 42)]), [pon_620, pon_621], [], [], (nat_lit 0))
set_option maxRecDepth 100000 in
theorem S_395 : aSpec wd ct_395 := bChk_ok wx_ok btX11_isWhale (nds := []) (fk := [12]) (rk := (1, [])) (sp := 0) (fuel := 3000) (by decide +kernel) lk_n odX11_isWhale
def ct_396 : aCt := (mX6_dayOfMeeting, [ag_394, ag_190, ag_217, ag_190, ag_217], ([sl_224], [((92, 0), 42), ((94, 0), 42)]), [pon_622, pon_52], mdn_534, [], (nat_lit 5))
set_option maxRecDepth 100000 in
theorem S_396 : aSpec wd ct_396 := bChk_ok wx_ok btX6_dayOfMeeting (nds := []) (fk := []) (rk := (1, [])) (sp := 0) (fuel := 3000) (by decide +kernel) (lk_d S_376 ml_6_155 lk_n) odX6_dayOfMeeting
def ct_397 : aCt := (mX11_isWhale, [ag_0, ag_1], ([sl_222], [((0, 3), 42)]), [pon_623, pon_624], [], [], (nat_lit 0))
set_option maxRecDepth 100000 in
theorem S_397 : aSpec wd ct_397 := bChk_ok wx_ok btX11_isWhale (nds := []) (fk := [12]) (rk := (1, [])) (sp := 0) (fuel := 3000) (by decide +kernel) lk_n odX11_isWhale
def ct_398 : aCt := (mX6_dayOfMeeting, [ag_394, ag_190, ag_361, ag_190, ag_361], ([sl_222], [((92, 0), 42), ((94, 0), 42)]), [pon_622, pon_52], mdn_534, [], (nat_lit 5))
set_option maxRecDepth 100000 in
theorem S_398 : aSpec wd ct_398 := bChk_ok wx_ok btX6_dayOfMeeting (nds := []) (fk := []) (rk := (1, [])) (sp := 0) (fuel := 3000) (by decide +kernel) (lk_d S_377 ml_6_155 lk_n) odX6_dayOfMeeting
end Pk0
section Pk1
def ct_399 : aCt := (mX11_isWhale, [ag_0, ag_1], ([sl_228], [((0, 3), 42)]), [pon_625, pon_626], [], [], (nat_lit 0))
set_option maxRecDepth 100000 in
theorem S_399 : aSpec wd ct_399 := bChk_ok wx_ok btX11_isWhale (nds := []) (fk := [12]) (rk := (1, [])) (sp := 0) (fuel := 3000) (by decide +kernel) lk_n odX11_isWhale
def ct_400 : aCt := (mX6_dayOfMeeting, [ag_394, ag_190, ag_402, ag_190, ag_402], ([sl_228], [((92, 0), 42), ((94, 0), 42)]), [pon_622, pon_52], mdn_534, [], (nat_lit 5))
set_option maxRecDepth 100000 in
theorem S_400 : aSpec wd ct_400 := bChk_ok wx_ok btX6_dayOfMeeting (nds := []) (fk := []) (rk := (1, [])) (sp := 0) (fuel := 3000) (by decide +kernel) (lk_d S_378 ml_6_155 lk_n) odX6_dayOfMeeting
def ct_401 : aCt := (mX11_isWhale, [ag_0, ag_1], ([sl_233], [((0, 3), 42)]), [pon_627, pon_628], [], [], (nat_lit 0))
set_option maxRecDepth 100000 in
theorem S_401 : aSpec wd ct_401 := bChk_ok wx_ok btX11_isWhale (nds := []) (fk := [12]) (rk := (1, [])) (sp := 0) (fuel := 3000) (by decide +kernel) lk_n odX11_isWhale
def ct_402 : aCt := (mX6_dayOfMeeting, [ag_394, ag_190, ag_535, ag_190, ag_535], ([sl_233], [((92, 0), 42), ((94, 0), 42)]), [pon_622, pon_52], mdn_534, [], (nat_lit 5))
set_option maxRecDepth 100000 in
theorem S_402 : aSpec wd ct_402 := bChk_ok wx_ok btX6_dayOfMeeting (nds := []) (fk := []) (rk := (1, [])) (sp := 0) (fuel := 3000) (by decide +kernel) (lk_d S_379 ml_6_155 lk_n) odX6_dayOfMeeting
def ct_403 : aCt := (mX11_isWhale, [ag_0, ag_1], ([sl_238], [((0, 3), 42)]), [pon_373, pon_629], [], [], (nat_lit 0))
set_option maxRecDepth 100000 in
theorem S_403 : aSpec wd ct_403 := bChk_ok wx_ok btX11_isWhale (nds := []) (fk := [12]) (rk := (1, [])) (sp := 0) (fuel := 3000) (by decide +kernel) lk_n odX11_isWhale
def sl_851 : (Nat × Nat) × aI := (((nat_lit 42), (nat_lit 6)), [((.ofNat (nat_lit 2)), (.ofNat (nat_lit 5)), (nat_lit 1))])
def pon_852 : aPo := (some (.inl aTop), [none, some [((.ofNat (nat_lit 0)), (.ofNat (nat_lit 7)), (nat_lit 1))], some [((.ofNat (nat_lit 0)), (.ofNat (nat_lit 4)), (nat_lit 1))], some [((.ofNat (nat_lit 0)), (.ofNat (nat_lit 7)), (nat_lit 1))], some [((.ofNat (nat_lit 0)), (.ofNat (nat_lit 4)), (nat_lit 1))]], [sl_301, sl_851, sl_214], [])
def ct_404 : aCt := (mX11_meet, [ag_0, ag_1, ag_1, ag_1, ag_1], ([], [((0, 3), 42), ((92, 0), 42), ((94, 0), 42)]), [pon_852, pon_333], mdn_537, [], (nat_lit 6))
set_option maxRecDepth 100000 in
theorem S_404 : aSpec wd ct_404 := bChk_ok wx_ok btX11_meet (nds := []) (fk := []) (rk := (1, [])) (sp := 0) (fuel := 3000) (by decide +kernel) (lk_d S_63 ml_11_98 (lk_d S_402 ml_11_310 (lk_d S_400 ml_11_310 (lk_d S_398 ml_11_310 (lk_d S_396 ml_11_310 (lk_d S_395 ml_11_121 (lk_d S_397 ml_11_121 (lk_d S_399 ml_11_121 (lk_d S_401 ml_11_121 (lk_d S_403 ml_11_121 (lk_d S_394 ml_11_147 (lk_d S_314 ml_11_147 (lk_d S_312 ml_11_121 (lk_d S_57 ml_11_112 lk_n)))))))))))))) odX11_meet
def pon_853 : aPo := (some (.inl [((.ofNat (nat_lit 0)), (.ofNat (nat_lit 0)), (nat_lit 1))]), [], [sl_275], [])
def ct_405 : aCt := (mX6_isFitting, [ag_394, ag_217], ([sl_147, sl_811], [((94, 0), 42)]), [pon_853, pon_38], mdn_514, [], (nat_lit 3))
set_option maxRecDepth 100000 in
theorem S_405 : aSpec wd ct_405 := bChk_ok wx_ok btX6_isFitting (nds := [((nat_lit 18), [lcn_396, lcn_265, lcn_250, lcn_517, lcn_593], [], [sl_147, sl_811], [((94, 0), 42)], (8, [(3, -1)]))]) (fk := []) (rk := (9, [])) (sp := 262144) (fuel := 3000) (by decide +kernel) (lk_d S_372 ml_6_84 lk_n) odX6_isFitting
def ct_406 : aCt := (mX6_fittingWhales, [ag_394], ([sl_147], [((94, 0), 42)]), [pon_634], mdn_514, [], (nat_lit 4))
set_option maxRecDepth 100000 in
theorem S_406 : aSpec wd ct_406 := bChk_ok wx_ok btX6_fittingWhales (nds := [((nat_lit 4), [lcn_396, lcn_635, lcn_293], [], [sl_147], [((94, 0), 42)], (5, [(1, -1)]))]) (fk := []) (rk := (6, [])) (sp := 16) (fuel := 3000) (by decide +kernel) (lk_d S_405 ml_6_164 lk_n) odX6_fittingWhales
def ct_407 : aCt := (mX11_fits, [ag_0], ([], [((0, 3), 42), ((94, 0), 42)]), [pon_830, pon_831], mdn_531, [], (nat_lit 5))
set_option maxRecDepth 100000 in
theorem S_407 : aSpec wd ct_407 := bChk_ok wx_ok btX11_fits (nds := []) (fk := []) (rk := (1, [])) (sp := 0) (fuel := 3000) (by decide +kernel) (lk_d S_406 ml_11_313 (lk_d S_335 ml_11_222 (lk_d S_63 ml_11_98 (lk_d S_57 ml_11_112 lk_n)))) odX11_fits
def ct_408 : aCt := (mX4_lastSpoutOf, [ag_26, ag_217], ([], []), [pon_417, pon_52], [], [], (nat_lit 0))
set_option maxRecDepth 100000 in
theorem S_408 : aSpec wd ct_408 := bChk_ok wx_ok btX4_lastSpoutOf (nds := [((nat_lit 7), [lcn_141, lcn_265, lcn_636], [], [], [], (1, [(1, 1)]))]) (fk := []) (rk := (9, [])) (sp := 128) (fuel := 3000) (by decide +kernel) lk_n odX4_lastSpoutOf
def ct_409 : aCt := (mX6_islandsReached, [ag_394, ag_217, ag_560], ([sl_224], [((94, 0), 42)]), [pon_637], mdn_514, [], (nat_lit 3))
set_option maxRecDepth 100000 in
theorem S_409 : aSpec wd ct_409 := bChk_ok wx_ok btX6_islandsReached (nds := [((nat_lit 90), [lcn_396, lcn_265, lcn_563, lcn_638, lcn_446, lcn_639, lcn_369], [], [sl_224], [((94, 0), 42)], (7, [(5, -1)]))]) (fk := []) (rk := (8, [])) (sp := 1237940039285380274899124224) (fuel := 3000) (by decide +kernel) (lk_d S_408 ml_6_185 (lk_d S_372 ml_6_84 lk_n)) odX6_islandsReached
def ct_410 : aCt := (mX4_lastSpoutOf, [ag_26, ag_361], ([], []), [pon_417, pon_52], [], [], (nat_lit 0))
set_option maxRecDepth 100000 in
theorem S_410 : aSpec wd ct_410 := bChk_ok wx_ok btX4_lastSpoutOf (nds := [((nat_lit 7), [lcn_141, lcn_640, lcn_636], [], [], [], (1, [(1, 1)]))]) (fk := []) (rk := (9, [])) (sp := 128) (fuel := 3000) (by decide +kernel) lk_n odX4_lastSpoutOf
def ct_411 : aCt := (mX6_islandsReached, [ag_394, ag_361, ag_560], ([sl_222], [((94, 0), 42)]), [pon_637], mdn_514, [], (nat_lit 3))
set_option maxRecDepth 100000 in
theorem S_411 : aSpec wd ct_411 := bChk_ok wx_ok btX6_islandsReached (nds := [((nat_lit 90), [lcn_396, lcn_640, lcn_563, lcn_638, lcn_446, lcn_639, lcn_369], [], [sl_222], [((94, 0), 42)], (7, [(5, -1)]))]) (fk := []) (rk := (8, [])) (sp := 1237940039285380274899124224) (fuel := 3000) (by decide +kernel) (lk_d S_410 ml_6_185 (lk_d S_372 ml_6_84 lk_n)) odX6_islandsReached
def ct_412 : aCt := (mX4_lastSpoutOf, [ag_26, ag_402], ([], []), [pon_417, pon_52], [], [], (nat_lit 0))
set_option maxRecDepth 100000 in
theorem S_412 : aSpec wd ct_412 := bChk_ok wx_ok btX4_lastSpoutOf (nds := [((nat_lit 7), [lcn_141, lcn_397, lcn_636], [], [], [], (1, [(1, 1)]))]) (fk := []) (rk := (9, [])) (sp := 128) (fuel := 3000) (by decide +kernel) lk_n odX4_lastSpoutOf
def ct_413 : aCt := (mX6_islandsReached, [ag_394, ag_402, ag_560], ([sl_228], [((94, 0), 42)]), [pon_637], mdn_514, [], (nat_lit 3))
set_option maxRecDepth 100000 in
theorem S_413 : aSpec wd ct_413 := bChk_ok wx_ok btX6_islandsReached (nds := [((nat_lit 90), [lcn_396, lcn_397, lcn_563, lcn_638, lcn_446, lcn_639, lcn_369], [], [sl_228], [((94, 0), 42)], (7, [(5, -1)]))]) (fk := []) (rk := (8, [])) (sp := 1237940039285380274899124224) (fuel := 3000) (by decide +kernel) (lk_d S_412 ml_6_185 (lk_d S_372 ml_6_84 lk_n)) odX6_islandsReached
def ct_414 : aCt := (mX4_lastSpoutOf, [ag_26, ag_535], ([], []), [pon_417, pon_52], [], [], (nat_lit 0))
set_option maxRecDepth 100000 in
theorem S_414 : aSpec wd ct_414 := bChk_ok wx_ok btX4_lastSpoutOf (nds := [((nat_lit 7), [lcn_141, lcn_641, lcn_636], [], [], [], (1, [(1, 1)]))]) (fk := []) (rk := (9, [])) (sp := 128) (fuel := 3000) (by decide +kernel) lk_n odX4_lastSpoutOf
def ct_415 : aCt := (mX6_islandsReached, [ag_394, ag_535, ag_560], ([sl_233], [((94, 0), 42)]), [pon_637], mdn_514, [], (nat_lit 3))
set_option maxRecDepth 100000 in
theorem S_415 : aSpec wd ct_415 := bChk_ok wx_ok btX6_islandsReached (nds := [((nat_lit 90), [lcn_396, lcn_641, lcn_563, lcn_638, lcn_446, lcn_639, lcn_369], [], [sl_233], [((94, 0), 42)], (7, [(5, -1)]))]) (fk := []) (rk := (8, [])) (sp := 1237940039285380274899124224) (fuel := 3000) (by decide +kernel) (lk_d S_414 ml_6_185 (lk_d S_372 ml_6_84 lk_n)) odX6_islandsReached
def ct_416 : aCt := (mX4_lastSpoutOf, [ag_26, ag_170], ([], []), [pon_417, pon_52], [], [], (nat_lit 0))
set_option maxRecDepth 100000 in
theorem S_416 : aSpec wd ct_416 := bChk_ok wx_ok btX4_lastSpoutOf (nds := [((nat_lit 7), [lcn_141, lcn_175, lcn_636], [], [], [], (1, [(0, 1)]))]) (fk := []) (rk := (9, [])) (sp := 128) (fuel := 3000) (by decide +kernel) lk_n odX4_lastSpoutOf
def sl_854 : (Nat × Nat) × aI := (((nat_lit 61), (nat_lit 0)), [((.ofNat (nat_lit 0)), (.ofNat (nat_lit 3)), (nat_lit 1))])
def ct_417 : aCt := (mX6_islandsReached, [ag_394, ag_170, ag_560], ([sl_238], [((94, 0), 42)]), [pon_637], mdn_514, [], (nat_lit 3))
set_option maxRecDepth 100000 in
theorem S_417 : aSpec wd ct_417 := bChk_ok wx_ok btX6_islandsReached (nds := [((nat_lit 90), [lcn_396, lcn_175, lcn_563, lcn_638, lcn_446, lcn_639, lcn_369], [], [sl_238, sl_854], [((94, 0), 42)], (7, [(4, -1)]))]) (fk := []) (rk := (8, [])) (sp := 1237940039285380274899124224) (fuel := 3000) (by decide +kernel) (lk_d S_416 ml_6_185 (lk_d S_372 ml_6_84 lk_n)) odX6_islandsReached
def pon_855 : aPo := (some (.inl aTop), [none, some [((.ofNat (nat_lit 0)), (.ofNat (nat_lit 4)), (nat_lit 1))], some [((.ofNat (nat_lit 0)), (.ofNat (nat_lit 99999)), (nat_lit 1))]], [sl_301, sl_811], [])
def ct_418 : aCt := (mX11_reach, [ag_0, ag_1, ag_1], ([], [((0, 3), 42), ((94, 0), 42)]), [pon_855, pon_644], mdn_531, [], (nat_lit 4))
set_option maxRecDepth 100000 in
theorem S_418 : aSpec wd ct_418 := bChk_ok wx_ok btX11_reach (nds := []) (fk := []) (rk := (1, [])) (sp := 0) (fuel := 3000) (by decide +kernel) (lk_d S_6 ml_11_98 (lk_d S_63 ml_11_98 (lk_d S_417 ml_11_316 (lk_d S_415 ml_11_316 (lk_d S_413 ml_11_316 (lk_d S_411 ml_11_316 (lk_d S_409 ml_11_316 (lk_d S_312 ml_11_121 (lk_d S_92 ml_11_227 (lk_d S_57 ml_11_112 lk_n)))))))))) odX11_reach
def ct_419 : aCt := (mX6_islandsReached, [ag_394, ag_217, ag_560], ([sl_147, sl_811], [((94, 0), 42)]), [pon_637], mdn_514, [], (nat_lit 3))
set_option maxRecDepth 100000 in
theorem S_419 : aSpec wd ct_419 := bChk_ok wx_ok btX6_islandsReached (nds := [((nat_lit 90), [lcn_396, lcn_265, lcn_563, lcn_638, lcn_446, lcn_639, lcn_369], [], [sl_147, sl_811], [((94, 0), 42)], (7, [(5, -1)]))]) (fk := []) (rk := (8, [])) (sp := 1237940039285380274899124224) (fuel := 3000) (by decide +kernel) (lk_d S_408 ml_6_185 (lk_d S_372 ml_6_84 lk_n)) odX6_islandsReached
def ct_420 : aCt := (mX6_whalesReaching, [ag_394, ag_125, ag_560], ([sl_147], [((94, 0), 42)]), [pon_130], mdn_514, [], (nat_lit 4))
set_option maxRecDepth 100000 in
theorem S_420 : aSpec wd ct_420 := bChk_ok wx_ok btX6_whalesReaching (nds := [((nat_lit 5), [lcn_396, lcn_249, lcn_563, lcn_517, lcn_447], [], [sl_147], [((94, 0), 42)], (5, [(3, -1)]))]) (fk := []) (rk := (6, [])) (sp := 32) (fuel := 3000) (by decide +kernel) (lk_d S_419 ml_6_203 lk_n) odX6_whalesReaching
def ct_421 : aCt := (mX6_bestPier, [ag_394, ag_560], ([sl_147], [((94, 0), 42)]), [pon_365], mdn_514, [], (nat_lit 5))
set_option maxRecDepth 100000 in
theorem S_421 : aSpec wd ct_421 := bChk_ok wx_ok btX6_bestPier (nds := [((nat_lit 17), [lcn_396, lcn_645, lcn_646, lcn_647, lcn_351, lcn_648], [], [sl_147], [((94, 0), 42)], (7, [(4, -1)]))]) (fk := []) (rk := (8, [])) (sp := 131072) (fuel := 3000) (by decide +kernel) (lk_d S_406 ml_6_188 (lk_d S_239 ml_6_192 (lk_d S_420 ml_6_197 lk_n))) odX6_bestPier
def ct_422 : aCt := (mX11_pier, [ag_0, ag_1], ([], [((0, 3), 42), ((94, 0), 42)]), [pon_827, pon_390], mdn_531, [], (nat_lit 6))
set_option maxRecDepth 100000 in
theorem S_422 : aSpec wd ct_422 := bChk_ok wx_ok btX11_pier (nds := []) (fk := []) (rk := (1, [])) (sp := 0) (fuel := 3000) (by decide +kernel) (lk_d S_335 ml_11_222 (lk_d S_6 ml_11_98 (lk_d S_63 ml_11_98 (lk_d S_421 ml_11_319 (lk_d S_92 ml_11_227 (lk_d S_57 ml_11_112 lk_n)))))) odX11_pier
def ct_423 : aCt := (mX3_waysOutOf, [ag_649, ag_650], ([], [((96, 0), 42)]), [pon_651], [], [], (nat_lit 0))
set_option maxRecDepth 100000 in
theorem S_423 : aSpec wd ct_423 := bChk_ok wx_ok btX3_waysOutOf (nds := [((nat_lit 4), [lcn_652, lcn_653, lcn_654, lcn_379], [], [], [((96, 0), 42)], (12, [(2, -1)]))]) (fk := []) (rk := (13, [])) (sp := 16) (fuel := 3000) (by decide +kernel) lk_n odX3_waysOutOf
def ct_424 : aCt := (mX3_fewestToWatch, [ag_649, ag_125, ag_125, ag_1], ([sl_147], [((96, 0), 42)]), [pon_656], [], [], (nat_lit 1))
set_option maxRecDepth 100000 in
theorem S_424 : aSpec wd ct_424 := bChk_ok wx_ok btX3_fewestToWatch (nds := [((nat_lit 11), [lcn_652, lcn_249, lcn_250, lcn_517, lcn_657, lcn_658, lcn_659], [], [sl_147], [((96, 0), 42)], (128, [(5, -1)]))]) (fk := []) (rk := (129, [])) (sp := 2048) (fuel := 3000) (by decide +kernel) (lk_d S_423 ml_3_31 (lk_d S_245 ml_3_35 lk_n)) odX3_fewestToWatch
def ct_425 : aCt := (mX11_watch, [ag_0, ag_1, ag_1], ([], [((0, 3), 42), ((96, 0), 42)]), [pon_824, pon_333], mdn_25, [], (nat_lit 2))
set_option maxRecDepth 100000 in
theorem S_425 : aSpec wd ct_425 := bChk_ok wx_ok btX11_watch (nds := []) (fk := []) (rk := (1, [])) (sp := 0) (fuel := 3000) (by decide +kernel) (lk_d S_63 ml_11_98 (lk_d S_57 ml_11_112 (lk_d S_424 ml_11_325 (lk_d S_332 ml_11_204 lk_n)))) odX11_watch
def ct_426 : aCt := (mX3_findShortest, [ag_649, ag_1], ([sl_147], [((96, 0), 42)]), [pon_49], mdn_662, [], (nat_lit 1))
set_option maxRecDepth 100000 in
theorem S_426 : aSpec wd ct_426 := bChk_ok wx_ok btX3_findShortest (nds := [((nat_lit 11), [lcn_652, lcn_271, lcn_666], [], [sl_147], [((96, 0), 42)], (596, [(1, -1)])), ((nat_lit 128), [lcn_652, lcn_271, lcn_411], [], [sl_147], [((96, 0), 42)], (583, [(1, -73)])), ((nat_lit 141), [lcn_652, lcn_271, lcn_250, lcn_438], [], [sl_147], [((96, 0), 42)], (582, [(1, -73), (2, -9)])), ((nat_lit 155), [lcn_652, lcn_271, lcn_250, lcn_144, lcn_445], [], [sl_147], [((96, 0), 42)], (581, [(1, -73), (2, -9), (3, -1)]))]) (fk := []) (rk := (597, [])) (sp := 45674714100022899442696306450542532841204353024) (fuel := 3000) (by decide +kernel) (lk_d S_248 ml_3_67 lk_n) odX3_findShortest
def ct_427 : aCt := (mX3_findRests, [ag_649], ([sl_147], [((96, 0), 42)]), [pon_49], mdn_668, [], (nat_lit 1))
set_option maxRecDepth 100000 in
theorem S_427 : aSpec wd ct_427 := bChk_ok wx_ok btX3_findRests (nds := [((nat_lit 14), [lcn_652, lcn_669, lcn_670], [], [sl_147], [((96, 0), 42)], (72, [(1, 73)])), ((nat_lit 20), [lcn_652, lcn_669, lcn_671, lcn_438], [], [sl_147], [((96, 0), 42)], (71, [(1, 73), (2, -9)])), ((nat_lit 47), [lcn_652, lcn_669, lcn_671, lcn_144, lcn_672, lcn_648], [], [sl_147], [((96, 0), 42)], (70, [(1, 73), (2, -9), (4, -1)]))]) (fk := []) (rk := (9344, [])) (sp := 140737489420288) (fuel := 3000) (by decide +kernel) (lk_d S_250 ml_3_81 lk_n) odX3_findRests
def ct_428 : aCt := (mX3_nextOf, [ag_649, ag_650, ag_125], ([sl_835], [((96, 0), 42)]), [pon_264], [], [], (nat_lit 1))
set_option maxRecDepth 100000 in
theorem S_428 : aSpec wd ct_428 := bChk_ok wx_ok btX3_nextOf (nds := [((nat_lit 2), [lcn_652, lcn_653, lcn_250, lcn_438], [], [sl_835], [((96, 0), 42)], (7, [(2, -1)]))]) (fk := []) (rk := (8, [])) (sp := 4) (fuel := 3000) (by decide +kernel) (lk_d S_252 ml_3_81 lk_n) odX3_nextOf
def ct_429 : aCt := (mX3_findRound, [ag_649, ag_125, ag_1], ([sl_147], [((96, 0), 42)]), [pon_673, pon_52], mdn_674, [], (nat_lit 2))
set_option maxRecDepth 100000 in
theorem S_429 : aSpec wd ct_429 := bChk_ok wx_ok btX3_findRound (nds := [((nat_lit 47), [lcn_652, lcn_249, lcn_132, lcn_675, lcn_676, lcn_677], [], [sl_147], [((96, 0), 42)], (7, [(4, -1)]))]) (fk := []) (rk := (7, [])) (sp := 140737488355328) (fuel := 3000) (by decide +kernel) (lk_d S_427 ml_3_59 (lk_d S_428 ml_3_63 (lk_d S_426 ml_3_55 lk_n))) odX3_findRound
def ct_430 : aCt := (mX11_round, [ag_0, ag_1], ([], [((0, 3), 42), ((96, 0), 42)]), [pon_816, pon_333], mdn_678, [], (nat_lit 3))
set_option maxRecDepth 100000 in
theorem S_430 : aSpec wd ct_430 := bChk_ok wx_ok btX11_round (nds := []) (fk := []) (rk := (1, [])) (sp := 0) (fuel := 3000) (by decide +kernel) (lk_d S_63 ml_11_98 (lk_d S_316 ml_11_174 (lk_d S_57 ml_11_112 (lk_d S_429 ml_11_328 lk_n)))) odX11_round
def ct_431 : aCt := (mX11_roundAt, [ag_0, ag_1, ag_1], ([], [((0, 3), 42), ((96, 0), 42)]), [pon_824, pon_680], mdn_678, [], (nat_lit 3))
set_option maxRecDepth 100000 in
theorem S_431 : aSpec wd ct_431 := bChk_ok wx_ok btX11_roundAt (nds := []) (fk := []) (rk := (1, [])) (sp := 0) (fuel := 3000) (by decide +kernel) (lk_d S_179 ml_11_98 (lk_d S_63 ml_11_98 (lk_d S_331 ml_11_174 (lk_d S_316 ml_11_174 (lk_d S_57 ml_11_112 (lk_d S_429 ml_11_328 lk_n)))))) odX11_roundAt
def ct_432 : aCt := (mX7_slipped, [ag_344, ag_1, ag_137], ([], [((92, 0), 42)]), [pon_130], mdn_687, [], (nat_lit 1))
set_option maxRecDepth 100000 in
theorem S_432 : aSpec wd ct_432 := bChk_ok wx_ok btX7_slipped (nds := []) (fk := []) (rk := (1, [])) (sp := 0) (fuel := 3000) (by decide +kernel) (lk_d S_259 ml_7_85 (lk_d S_260 ml_7_92 lk_n)) odX7_slipped
def ct_433 : aCt := (mX7_fallIn, [ag_344, ag_690], ([], [((92, 0), 42)]), [pon_346, pon_37], [], [], (nat_lit 0))
set_option maxRecDepth 100000 in
theorem S_433 : aSpec wd ct_433 := bChk_ok wx_ok btX7_fallIn (nds := []) (fk := []) (rk := (1, [])) (sp := 0) (fuel := 3000) (by decide +kernel) lk_n odX7_fallIn
def ct_434 : aCt := (mX7_hearerOf, [ag_344, ag_1, ag_137, ag_690], ([sl_147], [((92, 0), 42)]), [pon_365, pon_52], mdn_366, [], (nat_lit 2))
set_option maxRecDepth 100000 in
theorem S_434 : aSpec wd ct_434 := bChk_ok wx_ok btX7_hearerOf (nds := [((nat_lit 32), [lcn_349, lcn_271, lcn_143, lcn_691, lcn_351, lcn_368, lcn_369], [], [sl_147, sl_370], [((92, 0), 42)], (7, [(5, -1)]))]) (fk := []) (rk := (8, [])) (sp := 4294967296) (fuel := 3000) (by decide +kernel) (lk_d S_433 ml_7_50 (lk_d S_326 ml_7_54 (lk_d S_327 ml_7_54 (lk_d S_82 ml_7_60 lk_n)))) odX7_hearerOf
def ct_435 : aCt := (mX11_heardWithSlips, [ag_0, ag_690], ([sl_147], [((0, 3), 42), ((92, 0), 42)]), [pon_130], mdn_692, [], (nat_lit 3))
set_option maxRecDepth 100000 in
theorem S_435 : aSpec wd ct_435 := bChk_ok wx_ok btX11_heardWithSlips (nds := [((nat_lit 4), [lcn_407, lcn_693, lcn_132, lcn_408], [], [sl_147], [((0, 3), 42), ((92, 0), 42)], (8, [(2, -1)]))]) (fk := []) (rk := (9, [])) (sp := 16) (fuel := 3000) (by decide +kernel) (lk_d S_323 ml_11_198 (lk_d S_432 ml_11_399 (lk_d S_434 ml_11_277 lk_n))) odX11_heardWithSlips
def ct_436 : aCt := (mX11_decade, [ag_0, ag_1, ag_1], ([], [((0, 3), 42), ((92, 0), 42)]), [pon_830, pon_390], mdn_694, [], (nat_lit 4))
set_option maxRecDepth 100000 in
theorem S_436 : aSpec wd ct_436 := bChk_ok wx_ok btX11_decade (nds := [((nat_lit 51), [lcn_407, lcn_695, lcn_696, lcn_517, lcn_697], [], [sl_147], [((0, 3), 42), ((92, 0), 42)], (63, [(3, -1)]))]) (fk := []) (rk := (64, [])) (sp := 2251799813685248) (fuel := 3000) (by decide +kernel) (lk_d S_335 ml_11_222 (lk_d S_6 ml_11_98 (lk_d S_63 ml_11_98 (lk_d S_435 ml_11_338 (lk_d S_257 ml_11_227 (lk_d S_258 ml_11_227 (lk_d S_57 ml_11_112 lk_n))))))) odX11_decade
def pon_856 : aPo := (some (.inl aTop), [none, some [((.ofNat (nat_lit 0)), (.ofNat (nat_lit 4)), (nat_lit 1))], some [((.ofNat (nat_lit 0)), (.ofNat (nat_lit 7)), (nat_lit 1))]], [sl_301, sl_811, sl_214, sl_532], [])
def ct_437 : aCt := (mX11_send, [ag_0, ag_1, ag_1], ([], [((0, 3), 42), ((92, 0), 42), ((94, 0), 42)]), [pon_856, pon_705], mdn_706, [], (nat_lit 5))
set_option maxRecDepth 100000 in
theorem S_437 : aSpec wd ct_437 := bChk_ok wx_ok btX11_send (nds := []) (fk := []) (rk := (1, [])) (sp := 0) (fuel := 3000) (by decide +kernel) (lk_d S_268 ml_11_341 (lk_d S_266 ml_11_98 (lk_d S_63 ml_11_98 (lk_d S_380 ml_11_283 (lk_d S_379 ml_11_283 (lk_d S_378 ml_11_283 (lk_d S_377 ml_11_283 (lk_d S_376 ml_11_283 (lk_d S_312 ml_11_121 (lk_d S_314 ml_11_147 (lk_d S_57 ml_11_112 lk_n))))))))))) odX11_send
def pon_857 : aPo := (some (.inl [((.ofNat (nat_lit 1)), (.ofNat (nat_lit 1)), (nat_lit 1))]), [none, some [((.ofNat (nat_lit 0)), (.ofNat (nat_lit 7)), (nat_lit 1))], some [((.ofNat (nat_lit 0)), (.ofNat (nat_lit 999)), (nat_lit 1))], some [((.ofNat (nat_lit 0)), (.ofNat (nat_lit 3)), (nat_lit 1))]], [sl_301, sl_214], [])
def ct_438 : aCt := (mX11_tune, [ag_0, ag_1, ag_1, ag_1], ([], [((0, 3), 42)]), [pon_715, pon_857], mdn_717, [], (nat_lit 3))
set_option maxRecDepth 100000 in
theorem S_438 : aSpec wd ct_438 := bChk_ok wx_ok btX11_tune (nds := []) (fk := []) (rk := (1, [])) (sp := 0) (fuel := 3000) (by decide +kernel) (lk_d S_268 ml_11_341 (lk_d S_273 ml_11_356 (lk_d S_272 ml_11_347 (lk_d S_274 ml_11_347 (lk_d S_275 ml_11_347 (lk_d S_323 ml_11_198 (lk_d S_98 ml_11_242 (lk_d S_270 ml_11_227 (lk_d S_271 ml_11_353 (lk_d S_324 ml_11_191 lk_n)))))))))) odX11_tune
def pon_858 : aPo := (some (.inl aTop), [none, some [((.ofNat (nat_lit 1)), (.ofNat (nat_lit 99)), (nat_lit 1))]], [sl_301, sl_147], [])
def ct_439 : aCt := (mX11_years, [ag_0, ag_1], ([], [((0, 3), 42)]), [pon_858, pon_722], mdn_723, [], (nat_lit 3))
set_option maxRecDepth 100000 in
theorem S_439 : aSpec wd ct_439 := bChk_ok wx_ok btX11_years (nds := []) (fk := [38]) (rk := (1, [])) (sp := 0) (fuel := 3000) (by decide +kernel) (lk_d S_335 ml_11_222 (lk_d S_268 ml_11_341 (lk_d S_6 ml_11_98 (lk_d S_277 ml_11_98 (lk_d S_63 ml_11_98 (lk_d S_57 ml_11_112 lk_n)))))) odX11_years
def pon_859 : aPo := (some (.inl [((.ofNat (nat_lit 1)), (.ofNat (nat_lit 1)), (nat_lit 1))]), [none, some [((.ofNat (nat_lit 0)), (.ofNat (nat_lit 11)), (nat_lit 1))], some [((.ofNat (nat_lit 0)), (.ofNat (nat_lit 1)), (nat_lit 1))]], [sl_301, sl_258], [])
def ct_440 : aCt := (mX11_close, [ag_0, ag_1, ag_535], ([], [((0, 3), 42)]), [pon_724, pon_859], mdn_726, [], (nat_lit 3))
set_option maxRecDepth 100000 in
theorem S_440 : aSpec wd ct_440 := bChk_ok wx_ok btX11_close (nds := []) (fk := []) (rk := (1, [])) (sp := 0) (fuel := 3000) (by decide +kernel) (lk_d S_268 ml_11_341 (lk_d S_273 ml_11_356 (lk_d S_272 ml_11_347 (lk_d S_275 ml_11_347 (lk_d S_89 ml_11_210 (lk_d S_337 ml_11_230 lk_n)))))) odX11_close
def ct_441 : aCt := (mX11_undo, [ag_0], ([], []), [pon_727, pon_711], mdn_728, [], (nat_lit 2))
set_option maxRecDepth 100000 in
theorem S_441 : aSpec wd ct_441 := bChk_ok wx_ok btX11_undo (nds := []) (fk := []) (rk := (1, [])) (sp := 0) (fuel := 3000) (by decide +kernel) (lk_d S_273 ml_11_356 (lk_d S_280 ml_11_347 (lk_d S_281 ml_11_359 lk_n))) odX11_undo
def pon_860 : aPo := (some (.inl aTop), [], [sl_301, sl_731, sl_147], [])
def ct_442 : aCt := (mX11_image, [ag_0], ([], [((0, 3), 42)]), [pon_860, pon_734], mdn_735, [], (nat_lit 2))
set_option maxRecDepth 100000 in
theorem S_442 : aSpec wd ct_442 := bChk_ok wx_ok btX11_image (nds := []) (fk := []) (rk := (1, [])) (sp := 0) (fuel := 3000) (by decide +kernel) (lk_d S_335 ml_11_222 (lk_d S_277 ml_11_98 (lk_d S_63 ml_11_98 (lk_d S_283 ml_11_359 (lk_d S_57 ml_11_112 lk_n))))) odX11_image
def ct_443 : aCt := (mX11_back, [ag_0, ag_1], ([], []), [pon_736, pon_737], mdn_738, [], (nat_lit 2))
set_option maxRecDepth 100000 in
theorem S_443 : aSpec wd ct_443 := bChk_ok wx_ok btX11_back (nds := []) (fk := []) (rk := (1, [])) (sp := 0) (fuel := 3000) (by decide +kernel) (lk_d S_273 ml_11_356 (lk_d S_275 ml_11_347 (lk_d S_285 ml_11_359 lk_n))) odX11_back
def ct_444 : aCt := (mX11_size, [ag_0, ag_1], ([], [((0, 3), 42)]), [pon_739, pon_740], [], [], (nat_lit 0))
set_option maxRecDepth 100000 in
theorem S_444 : aSpec wd ct_444 := bChk_ok wx_ok btX11_size (nds := []) (fk := []) (rk := (1, [])) (sp := 0) (fuel := 3000) (by decide +kernel) lk_n odX11_size
def ct_445 : aCt := (mX11_trouble, [ag_0], ([], []), [pon_264], [], [], (nat_lit 0))
set_option maxRecDepth 100000 in
theorem S_445 : aSpec wd ct_445 := bChk_ok wx_ok btX11_trouble (nds := []) (fk := []) (rk := (1, [])) (sp := 0) (fuel := 3000) (by decide +kernel) lk_n odX11_trouble
def ag_861 : aAg := .inr (.inl [(nat_lit 196)])
def sl_862 : (Nat × Nat) × aI := (((nat_lit 196), (nat_lit 2)), [((.ofNat (nat_lit 20)), (.ofNat (nat_lit 1000)), (nat_lit 1))])
def pon_863 : aPo := (some (.inl [((.ofNat (nat_lit 20)), (.ofNat (nat_lit 1000)), (nat_lit 1))]), [], [sl_862], [])
def sl_864 : (Nat × Nat) × aI := (((nat_lit 196), (nat_lit 2)), [((.ofNat (nat_lit 981)), (.ofNat (nat_lit 1000)), (nat_lit 1))])
def pon_865 : aPo := (some (.inl [((.negSucc (nat_lit 0)), (.negSucc (nat_lit 0)), (nat_lit 1))]), [], [sl_864], [])
def mdn_866 : List (Nat × Nat × Nat) := [((nat_lit 196), (nat_lit 0), (nat_lit 1)), ((nat_lit 196), (nat_lit 2), (nat_lit 3)), ((nat_lit 197), (nat_lit 0), (nat_lit 1000))]
set_option maxRecDepth 100000 in
theorem btX12_feed : bTab oX12_feed tX12_feed := ⟨ofX12_feed, by decide +kernel⟩
def ct_446 : aCt := (mX12_feed, [ag_861, ag_1, ag_1, ag_1, ag_1, ag_1], ([], []), [pon_863, pon_865], mdn_866, [], (nat_lit 0))
set_option maxRecDepth 100000 in
theorem S_446 : aSpec wd ct_446 := bChk_ok wx_ok btX12_feed (nds := []) (fk := []) (rk := (1, [])) (sp := 0) (fuel := 3000) (by decide +kernel) lk_n odX12_feed
end Pk1
section Pk2
def sl_867 : (Nat × Nat) × aI := (((nat_lit 196), (nat_lit 11)), [((.ofNat (nat_lit 0)), (.ofNat (nat_lit 0)), (nat_lit 1))])
def pon_868 : aPo := (none, [], [sl_867], [])
def mdn_869 : List (Nat × Nat × Nat) := [((nat_lit 196), (nat_lit 0), (nat_lit 1)), ((nat_lit 196), (nat_lit 11), (nat_lit 12))]
set_option maxRecDepth 100000 in
theorem btX12_good : bTab oX12_good tX12_good := ⟨ofX12_good, by decide +kernel⟩
def ct_447 : aCt := (mX12_good, [ag_861], ([], []), [pon_868], mdn_869, [], (nat_lit 0))
set_option maxRecDepth 100000 in
theorem S_447 : aSpec wd ct_447 := bChk_ok wx_ok btX12_good (nds := []) (fk := []) (rk := (1, [])) (sp := 0) (fuel := 3000) (by decide +kernel) lk_n odX12_good
def pon_870 : aPo := (some (.inl [((.ofNat (nat_lit 0)), (.ofNat (nat_lit 0)), (nat_lit 1))]), [some [((.negSucc (nat_lit 2147483647)), (.negSucc (nat_lit 0)), (nat_lit 1)), ((.ofNat (nat_lit 1)), (.ofNat (nat_lit 2147483647)), (nat_lit 1))], none, none], [], [])
def pon_871 : aPo := (some (.inl [((.ofNat (nat_lit 1)), (.ofNat (nat_lit 1)), (nat_lit 1))]), [some [((.ofNat (nat_lit 0)), (.ofNat (nat_lit 1000)), (nat_lit 1))], none, none], [], [])
def mdn_872 : List (Nat × Nat × Nat) := [((nat_lit 1000002), (nat_lit 0), (nat_lit 0))]
set_option maxRecDepth 100000 in
theorem btX12_in : bTab oX12_in tX12_in := ⟨ofX12_in, by decide +kernel⟩
def ct_448 : aCt := (mX12_in, [ag_1, ag_170, ag_281], ([], []), [pon_870, pon_871], mdn_872, [], (nat_lit 0))
set_option maxRecDepth 100000 in
theorem S_448 : aSpec wd ct_448 := bChk_ok wx_ok btX12_in (nds := []) (fk := []) (rk := (1, [])) (sp := 0) (fuel := 3000) (by decide +kernel) lk_n odX12_in
def sl_873 : (Nat × Nat) × aI := (((nat_lit 196), (nat_lit 11)), [((.ofNat (nat_lit 2)), (.ofNat (nat_lit 2)), (nat_lit 1))])
def pon_874 : aPo := (some (.inl [((.negSucc (nat_lit 0)), (.negSucc (nat_lit 0)), (nat_lit 1))]), [], [sl_873], [])
def mdn_875 : List (Nat × Nat × Nat) := [((nat_lit 196), (nat_lit 11), (nat_lit 12))]
set_option maxRecDepth 100000 in
theorem btX12_no : bTab oX12_no tX12_no := ⟨ofX12_no, by decide +kernel⟩
def ct_449 : aCt := (mX12_no, [ag_861, ag_22], ([sl_867], []), [pon_874], mdn_875, [], (nat_lit 0))
set_option maxRecDepth 100000 in
theorem S_449 : aSpec wd ct_449 := bChk_ok wx_ok btX12_no (nds := []) (fk := []) (rk := (1, [])) (sp := 0) (fuel := 3000) (by decide +kernel) lk_n odX12_no
def ag_876 : aAg := .inl [((.ofNat (nat_lit 0)), (.ofNat (nat_lit 1001)), (nat_lit 1))]
def pon_877 : aPo := (some (.inl [((.ofNat (nat_lit 0)), (.ofNat (nat_lit 255)), (nat_lit 1))]), [none, some [((.ofNat (nat_lit 0)), (.ofNat (nat_lit 999)), (nat_lit 1))]], [], [])
def pon_878 : aPo := (some (.inl [((.negSucc (nat_lit 0)), (.negSucc (nat_lit 0)), (nat_lit 1))]), [], [], [])
set_option maxRecDepth 100000 in
theorem btX12_look : bTab oX12_look tX12_look := ⟨ofX12_look, by decide +kernel⟩
def ct_450 : aCt := (mX12_look, [ag_861, ag_876], ([], []), [pon_877, pon_878], mdn_872, [], (nat_lit 0))
set_option maxRecDepth 100000 in
theorem S_450 : aSpec wd ct_450 := bChk_ok wx_ok btX12_look (nds := []) (fk := []) (rk := (1, [])) (sp := 0) (fuel := 3000) (by decide +kernel) lk_n odX12_look
def ag_879 : aAg := .inl [((.ofNat (nat_lit 0)), (.ofNat (nat_lit 255)), (nat_lit 1))]
def pon_880 : aPo := (some (.inl [((.ofNat (nat_lit 0)), (.ofNat (nat_lit 0)), (nat_lit 1))]), [some [((.ofNat (nat_lit 0)), (.ofNat (nat_lit 96)), (nat_lit 1)), ((.ofNat (nat_lit 123)), (.ofNat (nat_lit 255)), (nat_lit 1))]], [], [])
def pon_881 : aPo := (some (.inl [((.ofNat (nat_lit 1)), (.ofNat (nat_lit 1)), (nat_lit 1))]), [some [((.ofNat (nat_lit 97)), (.ofNat (nat_lit 122)), (nat_lit 1))]], [], [])
set_option maxRecDepth 100000 in
theorem btX12_isSmall : bTab oX12_isSmall tX12_isSmall := ⟨ofX12_isSmall, by decide +kernel⟩
def ct_451 : aCt := (mX12_isSmall, [ag_879], ([], []), [pon_880, pon_881], mdn_872, [], (nat_lit 0))
set_option maxRecDepth 100000 in
theorem S_451 : aSpec wd ct_451 := bChk_ok wx_ok btX12_isSmall (nds := []) (fk := []) (rk := (1, [])) (sp := 0) (fuel := 3000) (by decide +kernel) lk_n odX12_isSmall
def pon_882 : aPo := (some (.inl [((.ofNat (nat_lit 0)), (.ofNat (nat_lit 0)), (nat_lit 1))]), [some [((.ofNat (nat_lit 0)), (.ofNat (nat_lit 47)), (nat_lit 1)), ((.ofNat (nat_lit 58)), (.ofNat (nat_lit 255)), (nat_lit 1))]], [], [])
def pon_883 : aPo := (some (.inl [((.ofNat (nat_lit 1)), (.ofNat (nat_lit 1)), (nat_lit 1))]), [some [((.ofNat (nat_lit 48)), (.ofNat (nat_lit 57)), (nat_lit 1))]], [], [])
set_option maxRecDepth 100000 in
theorem btX12_isDigit : bTab oX12_isDigit tX12_isDigit := ⟨ofX12_isDigit, by decide +kernel⟩
def ct_452 : aCt := (mX12_isDigit, [ag_879], ([], []), [pon_882, pon_883], mdn_872, [], (nat_lit 0))
set_option maxRecDepth 100000 in
theorem S_452 : aSpec wd ct_452 := bChk_ok wx_ok btX12_isDigit (nds := []) (fk := []) (rk := (1, [])) (sp := 0) (fuel := 3000) (by decide +kernel) lk_n odX12_isDigit
def pon_884 : aPo := (some (.inl [((.ofNat (nat_lit 0)), (.ofNat (nat_lit 255)), (nat_lit 1))]), [], [], [])
def ct_453 : aCt := (mX12_look, [ag_861, ag_348], ([], []), [pon_884, pon_878], mdn_872, [], (nat_lit 0))
set_option maxRecDepth 100000 in
theorem S_453 : aSpec wd ct_453 := bChk_ok wx_ok btX12_look (nds := []) (fk := []) (rk := (1, [])) (sp := 0) (fuel := 3000) (by decide +kernel) lk_n odX12_look
def ct_454 : aCt := (mX12_look, [ag_861, ag_281], ([], []), [pon_877, pon_878], mdn_872, [], (nat_lit 0))
set_option maxRecDepth 100000 in
theorem S_454 : aSpec wd ct_454 := bChk_ok wx_ok btX12_look (nds := []) (fk := []) (rk := (1, [])) (sp := 0) (fuel := 3000) (by decide +kernel) lk_n odX12_look
def ag_885 : aAg := .inl [((.negSucc (nat_lit 0)), (.negSucc (nat_lit 0)), (nat_lit 1))]
def ct_455 : aCt := (mX12_isSmall, [ag_885], ([], []), [pon_37], mdn_872, [], (nat_lit 0))
set_option maxRecDepth 100000 in
theorem S_455 : aSpec wd ct_455 := bChk_ok wx_ok btX12_isSmall (nds := []) (fk := []) (rk := (1, [])) (sp := 0) (fuel := 3000) (by decide +kernel) lk_n odX12_isSmall
def ct_456 : aCt := (mX12_isDigit, [ag_885], ([], []), [pon_37], mdn_872, [], (nat_lit 0))
set_option maxRecDepth 100000 in
theorem S_456 : aSpec wd ct_456 := bChk_ok wx_ok btX12_isDigit (nds := []) (fk := []) (rk := (1, [])) (sp := 0) (fuel := 3000) (by decide +kernel) lk_n odX12_isDigit
def sl_886 : (Nat × Nat) × aI := (((nat_lit 196), (nat_lit 6)), [((.ofNat (nat_lit 0)), (.ofNat (nat_lit 0)), (nat_lit 1))])
def sl_887 : (Nat × Nat) × aI := (((nat_lit 196), (nat_lit 8)), [((.ofNat (nat_lit 0)), (.ofNat (nat_lit 0)), (nat_lit 1))])
def pon_888 : aPo := (none, [], [sl_886, sl_887], [])
def sl_889 : (Nat × Nat) × aI := (((nat_lit 196), (nat_lit 6)), [((.ofNat (nat_lit 59)), (.ofNat (nat_lit 59)), (nat_lit 1))])
def pon_890 : aPo := (none, [], [sl_889, sl_887], [])
def sl_891 : (Nat × Nat) × aI := (((nat_lit 196), (nat_lit 6)), [((.ofNat (nat_lit 1)), (.ofNat (nat_lit 1)), (nat_lit 1)), ((.ofNat (nat_lit 3)), (.ofNat (nat_lit 3)), (nat_lit 1))])
def sl_892 : (Nat × Nat) × aI := (((nat_lit 196), (nat_lit 8)), [((.ofNat (nat_lit 0)), (.ofNat (nat_lit 0)), (nat_lit 1)), ((.ofNat (nat_lit 9)), (.ofNat (nat_lit 1000)), (nat_lit 1))])
def pon_893 : aPo := (none, [], [sl_891, sl_892], [])
def sl_894 : (Nat × Nat) × aI := (((nat_lit 196), (nat_lit 6)), [((.ofNat (nat_lit 2)), (.ofNat (nat_lit 2)), (nat_lit 1))])
def sl_895 : (Nat × Nat) × aI := (((nat_lit 196), (nat_lit 8)), [((.ofNat (nat_lit 0)), (.ofNat (nat_lit 8)), (nat_lit 1))])
def pon_896 : aPo := (none, [], [sl_894, sl_895], [])
def mdn_897 : List (Nat × Nat × Nat) := [((nat_lit 196), (nat_lit 4), (nat_lit 9)), ((nat_lit 198), (nat_lit 0), (nat_lit 8))]
def lcn_898 : Nat × aAg := ((nat_lit 0), .inr (.inl [(nat_lit 196)]))
def lcn_899 : Nat × aAg := ((nat_lit 1), .inl [((.ofNat (nat_lit 0)), (.ofNat (nat_lit 1001)), (nat_lit 1))])
def lcn_900 : Nat × aAg := ((nat_lit 2), .inl [((.ofNat (nat_lit 97)), (.ofNat (nat_lit 122)), (nat_lit 1))])
def sl_901 : (Nat × Nat) × aI := (((nat_lit 196), (nat_lit 4)), [((.ofNat (nat_lit 0)), (.ofNat (nat_lit 999)), (nat_lit 1))])
def sl_902 : (Nat × Nat) × aI := (((nat_lit 196), (nat_lit 7)), [((.ofNat (nat_lit 0)), (.ofNat (nat_lit 0)), (nat_lit 1))])
def sl_903 : (Nat × Nat) × aI := (((nat_lit 196), (nat_lit 8)), [((.ofNat (nat_lit 0)), (.ofNat (nat_lit 1000)), (nat_lit 1))])
def lcn_904 : Nat × aAg := ((nat_lit 2), .inl [((.ofNat (nat_lit 48)), (.ofNat (nat_lit 57)), (nat_lit 1))])
set_option maxRecDepth 100000 in
theorem btX12_next : bTab oX12_next tX12_next := ⟨ofX12_next, by decide +kernel⟩
def ct_457 : aCt := (mX12_next, [ag_861], ([], []), [pon_888, pon_890, pon_893, pon_896], mdn_897, [], (nat_lit 1))
set_option maxRecDepth 100000 in
theorem S_457 : aSpec wd ct_457 := aChkF_ok (lk := [(93, 1, 1, ct_455), (97, 1, 1, ct_456), (93, 1, 1, ct_451), (97, 1, 1, ct_452), (77, 0, 2, ct_453), (77, 0, 2, ct_454), (77, 0, 2, ct_450)]) (cd := oX12_next) (nds := [(((nat_lit 5), [lcn_898, lcn_899], [], [], [], (2002, [(0, -1)])), []), (((nat_lit 67), [lcn_898, lcn_286, lcn_900], [], [sl_901, sl_902, sl_903], [], (1000, [(0, -1)])), [(.inl 1, .inr (196, 8), 0)]), (((nat_lit 152), [lcn_898, lcn_286, lcn_904, lcn_517], [], [sl_901, sl_887], [], (1000, [(0, -1)])), [])]) (fk := []) (rk := (2003, [])) (fuel := 3000) (by decide +kernel) (List.forall_mem_cons.mpr ⟨⟨ml_12_93, S_455⟩, List.forall_mem_cons.mpr ⟨⟨ml_12_97, S_456⟩, List.forall_mem_cons.mpr ⟨⟨ml_12_93, S_451⟩, List.forall_mem_cons.mpr ⟨⟨ml_12_97, S_452⟩, List.forall_mem_cons.mpr ⟨⟨ml_12_77, S_453⟩, List.forall_mem_cons.mpr ⟨⟨ml_12_77, S_454⟩, List.forall_mem_cons.mpr ⟨⟨ml_12_77, S_450⟩, fun _ h => nomatch h⟩⟩⟩⟩⟩⟩⟩) odX12_next
def ct_X12_next_0 : aCt := (mX12_next, [.inr (.inl [196])], ([], []), [(none, [], [((196, 6), [(0, 0, 1)]), ((196, 8), [(0, 0, 1)])], []), (none, [], [((196, 6), [(59, 59, 1)]), ((196, 8), [(0, 0, 1)])], []), (none, [], [((196, 6), [(1, 1, 1), (3, 3, 1)]), ((196, 8), [(0, 0, 1), (9, 1000, 1)])], []), (none, [], [((196, 6), [(2, 2, 1)]), ((196, 8), [(0, 8, 1)])], [])], [(196, 4, 9), (198, 0, 8), (1000002, 0, 0)], [], 1)
theorem S_X12_next_0 : aSpec wd ct_X12_next_0 := S_nxt (md := [(196, 4, 9), (198, 0, 8)]) (by decide) S_457
def ag_905 : aAg := .inr (.inl [(nat_lit 1000034), (nat_lit 1000035), (nat_lit 1000036), (nat_lit 1000037), (nat_lit 1000038), (nat_lit 1000039), (nat_lit 1000040), (nat_lit 1000041), (nat_lit 1000042), (nat_lit 1000043), (nat_lit 1000044), (nat_lit 1000045), (nat_lit 1000046), (nat_lit 1000047), (nat_lit 1000048), (nat_lit 1000049), (nat_lit 1000050), (nat_lit 1000051), (nat_lit 1000052), (nat_lit 1000053), (nat_lit 1000054), (nat_lit 1000055), (nat_lit 1000056)])
def sl_906 : (Nat × Nat) × aI := (((nat_lit 196), (nat_lit 13)), [((.ofNat (nat_lit 0)), (.ofNat (nat_lit 0)), (nat_lit 1))])
def pon_907 : aPo := (some (.inl [((.ofNat (nat_lit 0)), (.ofNat (nat_lit 0)), (nat_lit 1))]), [], [sl_894, sl_895], [])
def sl_908 : (Nat × Nat) × aI := (((nat_lit 196), (nat_lit 6)), [((.ofNat (nat_lit 0)), (.ofNat (nat_lit 1)), (nat_lit 1)), ((.ofNat (nat_lit 3)), (.ofNat (nat_lit 3)), (nat_lit 1)), ((.ofNat (nat_lit 59)), (.ofNat (nat_lit 59)), (nat_lit 1))])
def pon_909 : aPo := (some (.inl [((.ofNat (nat_lit 1)), (.ofNat (nat_lit 1)), (nat_lit 1))]), [], [sl_908, sl_892], [])
def pon_910 : aPo := (some (.inl [((.ofNat (nat_lit 1)), (.ofNat (nat_lit 1)), (nat_lit 1))]), [], [sl_894, sl_895], [])
def mdn_911 : List (Nat × Nat × Nat) := [((nat_lit 196), (nat_lit 4), (nat_lit 9)), ((nat_lit 198), (nat_lit 0), (nat_lit 8)), ((nat_lit 1000002), (nat_lit 0), (nat_lit 0))]
set_option maxRecDepth 100000 in
theorem btX12_takesWord : bTab oX12_takesWord tX12_takesWord := ⟨ofX12_takesWord, by decide +kernel⟩
def ct_459 : aCt := (mX12_takesWord, [ag_861, ag_905], ([sl_894, sl_895, sl_906], []), [pon_907, pon_909, pon_910], mdn_911, [], (nat_lit 2))
set_option maxRecDepth 100000 in
theorem S_459 : aSpec wd ct_459 := bChk_ok wx_ok btX12_takesWord (nds := []) (fk := []) (rk := (1, [])) (sp := 0) (fuel := 3000) (by decide +kernel) (lk_d S_X12_next_0 ml_12_121 (lk_d S_X12_isWord_0 ml_12_117 lk_n)) odX12_takesWord
def sl_912 : (Nat × Nat) × aI := (((nat_lit 196), (nat_lit 13)), [((.ofNat (nat_lit 1)), (.ofNat (nat_lit 1)), (nat_lit 1))])
def pon_913 : aPo := (none, [], [sl_912], [])
def mdn_914 : List (Nat × Nat × Nat) := [((nat_lit 196), (nat_lit 9), (nat_lit 11)), ((nat_lit 196), (nat_lit 13), (nat_lit 14)), ((nat_lit 1000002), (nat_lit 0), (nat_lit 0))]
set_option maxRecDepth 100000 in
theorem btX12_wrong : bTab oX12_wrong tX12_wrong := ⟨ofX12_wrong, by decide +kernel⟩
def ct_460 : aCt := (mX12_wrong, [ag_861, ag_53, ag_876], ([sl_906], []), [pon_913], mdn_914, [], (nat_lit 0))
set_option maxRecDepth 100000 in
theorem S_460 : aSpec wd ct_460 := bChk_ok wx_ok btX12_wrong (nds := []) (fk := []) (rk := (1, [])) (sp := 0) (fuel := 3000) (by decide +kernel) lk_n odX12_wrong
def pon_915 : aPo := (none, [], [sl_894, sl_895, sl_912], [])
def pon_916 : aPo := (none, [], [sl_908, sl_892, sl_906], [])
def pon_917 : aPo := (none, [], [sl_894, sl_895, sl_906], [])
def mdn_918 : List (Nat × Nat × Nat) := [((nat_lit 196), (nat_lit 4), (nat_lit 11)), ((nat_lit 196), (nat_lit 13), (nat_lit 14)), ((nat_lit 198), (nat_lit 0), (nat_lit 8)), ((nat_lit 1000002), (nat_lit 0), (nat_lit 0))]
set_option maxRecDepth 100000 in
theorem btX12_must : bTab oX12_must tX12_must := ⟨ofX12_must, by decide +kernel⟩
def ct_461 : aCt := (mX12_must, [ag_861, ag_905], ([sl_894, sl_895, sl_906], []), [pon_915, pon_916, pon_917], mdn_918, [], (nat_lit 3))
set_option maxRecDepth 100000 in
theorem S_461 : aSpec wd ct_461 := bChk_ok wx_ok btX12_must (nds := []) (fk := []) (rk := (1, [])) (sp := 0) (fuel := 3000) (by decide +kernel) (lk_d S_459 ml_12_124 (lk_d S_460 ml_12_127 lk_n)) odX12_must
def pon_919 : aPo := (some (.inl [((.ofNat (nat_lit 2)), (.ofNat (nat_lit 2)), (nat_lit 1))]), [], [sl_912], [])
set_option maxRecDepth 100000 in
theorem btX12_number : bTab oX12_number tX12_number := ⟨ofX12_number, by decide +kernel⟩
def ct_462 : aCt := (mX12_number, [ag_861, ag_22, ag_159], ([sl_894, sl_895, sl_906], []), [pon_919], mdn_914, [], (nat_lit 1))
set_option maxRecDepth 100000 in
theorem S_462 : aSpec wd ct_462 := bChk_ok wx_ok btX12_number (nds := []) (fk := []) (rk := (1, [])) (sp := 0) (fuel := 3000) (by decide +kernel) (lk_d S_460 ml_12_127 lk_n) odX12_number
def pon_920 : aPo := (some (.inl [((.ofNat (nat_lit 0)), (.ofNat (nat_lit 0)), (nat_lit 1))]), [some [((.negSucc (nat_lit 2147483647)), (.ofNat (nat_lit 1)), (nat_lit 1)), ((.ofNat (nat_lit 5)), (.ofNat (nat_lit 2147483647)), (nat_lit 1))], none, none], [], [])
def pon_921 : aPo := (some (.inl [((.ofNat (nat_lit 1)), (.ofNat (nat_lit 1)), (nat_lit 1))]), [some [((.ofNat (nat_lit 2)), (.ofNat (nat_lit 4)), (nat_lit 1))], none, none], [], [])
def ct_463 : aCt := (mX12_in, [ag_1, ag_22, ag_159], ([], []), [pon_920, pon_921], mdn_872, [], (nat_lit 0))
set_option maxRecDepth 100000 in
theorem S_463 : aSpec wd ct_463 := bChk_ok wx_ok btX12_in (nds := []) (fk := []) (rk := (1, [])) (sp := 0) (fuel := 3000) (by decide +kernel) lk_n odX12_in
def ct_464 : aCt := (mX12_wrong, [ag_861, ag_159, ag_876], ([sl_906], []), [pon_913], mdn_914, [], (nat_lit 0))
set_option maxRecDepth 100000 in
theorem S_464 : aSpec wd ct_464 := bChk_ok wx_ok btX12_wrong (nds := []) (fk := []) (rk := (1, [])) (sp := 0) (fuel := 3000) (by decide +kernel) lk_n odX12_wrong
def pon_922 : aPo := (some (.inl [((.ofNat (nat_lit 2)), (.ofNat (nat_lit 2)), (nat_lit 1))]), [], [sl_908, sl_892, sl_912], [])
def pon_923 : aPo := (some (.inl [((.ofNat (nat_lit 2)), (.ofNat (nat_lit 4)), (nat_lit 1))]), [], [sl_908, sl_892, sl_906], [])
def pon_924 : aPo := (some (.inl [((.ofNat (nat_lit 2)), (.ofNat (nat_lit 4)), (nat_lit 1))]), [], [sl_894, sl_895, sl_906], [])
def ct_465 : aCt := (mX12_number, [ag_861, ag_22, ag_159], ([sl_908, sl_892, sl_906], []), [pon_922, pon_923, pon_924], mdn_918, [], (nat_lit 2))
set_option maxRecDepth 100000 in
theorem S_465 : aSpec wd ct_465 := bChk_ok wx_ok btX12_number (nds := []) (fk := []) (rk := (1, [])) (sp := 0) (fuel := 3000) (by decide +kernel) (lk_d S_X12_next_0 ml_12_121 (lk_d S_460 ml_12_127 (lk_d S_464 ml_12_127 (lk_d S_463 ml_12_149 lk_n)))) odX12_number
def pon_925 : aPo := (some (.inl [((.ofNat (nat_lit 2)), (.ofNat (nat_lit 2)), (nat_lit 1))]), [], [], [])
def ct_466 : aCt := (mX12_number, [ag_861, ag_22, ag_159], ([sl_894, sl_895, sl_912], []), [pon_925], mdn_872, [], (nat_lit 0))
set_option maxRecDepth 100000 in
theorem S_466 : aSpec wd ct_466 := bChk_ok wx_ok btX12_number (nds := []) (fk := []) (rk := (1, [])) (sp := 0) (fuel := 3000) (by decide +kernel) lk_n odX12_number
def sl_926 : (Nat × Nat) × aI := (((nat_lit 196), (nat_lit 6)), [((.ofNat (nat_lit 0)), (.ofNat (nat_lit 3)), (nat_lit 1)), ((.ofNat (nat_lit 59)), (.ofNat (nat_lit 59)), (nat_lit 1))])
def pon_927 : aPo := (some (.inl [((.ofNat (nat_lit 2)), (.ofNat (nat_lit 2)), (nat_lit 1))]), [], [sl_926, sl_903, sl_912], [])
set_option maxRecDepth 100000 in
theorem btX12_after : bTab oX12_after tX12_after := ⟨ofX12_after, by decide +kernel⟩
def ct_467 : aCt := (mX12_after, [ag_861, ag_905, ag_22, ag_159], ([sl_894, sl_895, sl_906], []), [pon_927, pon_923, pon_924], mdn_918, [], (nat_lit 4))
set_option maxRecDepth 100000 in
theorem S_467 : aSpec wd ct_467 := bChk_ok wx_ok btX12_after (nds := []) (fk := []) (rk := (1, [])) (sp := 0) (fuel := 3000) (by decide +kernel) (lk_d S_462 ml_12_164 (lk_d S_466 ml_12_164 (lk_d S_465 ml_12_164 (lk_d S_461 ml_12_157 lk_n)))) odX12_after
def pon_928 : aPo := (some (.inl [((.ofNat (nat_lit 0)), (.ofNat (nat_lit 0)), (nat_lit 1))]), [], [sl_912], [])
def ct_468 : aCt := (mX12_number, [ag_861, ag_170, ag_122], ([sl_894, sl_895, sl_906], []), [pon_928], mdn_914, [], (nat_lit 1))
set_option maxRecDepth 100000 in
theorem S_468 : aSpec wd ct_468 := bChk_ok wx_ok btX12_number (nds := []) (fk := []) (rk := (1, [])) (sp := 0) (fuel := 3000) (by decide +kernel) (lk_d S_460 ml_12_127 lk_n) odX12_number
def pon_929 : aPo := (some (.inl [((.ofNat (nat_lit 0)), (.ofNat (nat_lit 0)), (nat_lit 1))]), [some [((.negSucc (nat_lit 2147483647)), (.negSucc (nat_lit 0)), (nat_lit 1)), ((.ofNat (nat_lit 4)), (.ofNat (nat_lit 2147483647)), (nat_lit 1))], none, none], [], [])
def pon_930 : aPo := (some (.inl [((.ofNat (nat_lit 1)), (.ofNat (nat_lit 1)), (nat_lit 1))]), [some [((.ofNat (nat_lit 0)), (.ofNat (nat_lit 3)), (nat_lit 1))], none, none], [], [])
def ct_469 : aCt := (mX12_in, [ag_1, ag_170, ag_122], ([], []), [pon_929, pon_930], mdn_872, [], (nat_lit 0))
set_option maxRecDepth 100000 in
theorem S_469 : aSpec wd ct_469 := bChk_ok wx_ok btX12_in (nds := []) (fk := []) (rk := (1, [])) (sp := 0) (fuel := 3000) (by decide +kernel) lk_n odX12_in
def pon_931 : aPo := (some (.inl [((.ofNat (nat_lit 0)), (.ofNat (nat_lit 0)), (nat_lit 1))]), [], [sl_908, sl_892, sl_912], [])
def pon_932 : aPo := (some (.inl [((.ofNat (nat_lit 0)), (.ofNat (nat_lit 3)), (nat_lit 1))]), [], [sl_908, sl_892, sl_906], [])
def pon_933 : aPo := (some (.inl [((.ofNat (nat_lit 0)), (.ofNat (nat_lit 3)), (nat_lit 1))]), [], [sl_894, sl_895, sl_906], [])
def ct_470 : aCt := (mX12_number, [ag_861, ag_170, ag_122], ([sl_908, sl_892, sl_906], []), [pon_931, pon_932, pon_933], mdn_918, [], (nat_lit 2))
set_option maxRecDepth 100000 in
theorem S_470 : aSpec wd ct_470 := bChk_ok wx_ok btX12_number (nds := []) (fk := []) (rk := (1, [])) (sp := 0) (fuel := 3000) (by decide +kernel) (lk_d S_X12_next_0 ml_12_121 (lk_d S_460 ml_12_127 (lk_d S_464 ml_12_127 (lk_d S_469 ml_12_149 lk_n)))) odX12_number
def ct_471 : aCt := (mX12_number, [ag_861, ag_170, ag_122], ([sl_894, sl_895, sl_912], []), [pon_37], mdn_872, [], (nat_lit 0))
set_option maxRecDepth 100000 in
theorem S_471 : aSpec wd ct_471 := bChk_ok wx_ok btX12_number (nds := []) (fk := []) (rk := (1, [])) (sp := 0) (fuel := 3000) (by decide +kernel) lk_n odX12_number
def pon_934 : aPo := (some (.inl [((.ofNat (nat_lit 0)), (.ofNat (nat_lit 0)), (nat_lit 1))]), [], [sl_926, sl_903, sl_912], [])
def ct_472 : aCt := (mX12_after, [ag_861, ag_905, ag_170, ag_122], ([sl_894, sl_895, sl_906], []), [pon_934, pon_932, pon_933], mdn_918, [], (nat_lit 4))
set_option maxRecDepth 100000 in
theorem S_472 : aSpec wd ct_472 := bChk_ok wx_ok btX12_after (nds := []) (fk := []) (rk := (1, [])) (sp := 0) (fuel := 3000) (by decide +kernel) (lk_d S_468 ml_12_164 (lk_d S_471 ml_12_164 (lk_d S_470 ml_12_164 (lk_d S_461 ml_12_157 lk_n)))) odX12_after
def ct_473 : aCt := (mX12_number, [ag_861, ag_170, ag_177], ([sl_894, sl_895, sl_906], []), [pon_928], mdn_914, [], (nat_lit 1))
set_option maxRecDepth 100000 in
theorem S_473 : aSpec wd ct_473 := bChk_ok wx_ok btX12_number (nds := []) (fk := []) (rk := (1, [])) (sp := 0) (fuel := 3000) (by decide +kernel) (lk_d S_460 ml_12_127 lk_n) odX12_number
def pon_935 : aPo := (some (.inl [((.ofNat (nat_lit 0)), (.ofNat (nat_lit 0)), (nat_lit 1))]), [some [((.negSucc (nat_lit 2147483647)), (.negSucc (nat_lit 0)), (nat_lit 1)), ((.ofNat (nat_lit 51)), (.ofNat (nat_lit 2147483647)), (nat_lit 1))], none, none], [], [])
def pon_936 : aPo := (some (.inl [((.ofNat (nat_lit 1)), (.ofNat (nat_lit 1)), (nat_lit 1))]), [some [((.ofNat (nat_lit 0)), (.ofNat (nat_lit 50)), (nat_lit 1))], none, none], [], [])
def ct_474 : aCt := (mX12_in, [ag_1, ag_170, ag_177], ([], []), [pon_935, pon_936], mdn_872, [], (nat_lit 0))
set_option maxRecDepth 100000 in
theorem S_474 : aSpec wd ct_474 := bChk_ok wx_ok btX12_in (nds := []) (fk := []) (rk := (1, [])) (sp := 0) (fuel := 3000) (by decide +kernel) lk_n odX12_in
def pon_937 : aPo := (some (.inl [((.ofNat (nat_lit 0)), (.ofNat (nat_lit 50)), (nat_lit 1))]), [], [sl_908, sl_892, sl_906], [])
def pon_938 : aPo := (some (.inl [((.ofNat (nat_lit 0)), (.ofNat (nat_lit 50)), (nat_lit 1))]), [], [sl_894, sl_895, sl_906], [])
def ct_475 : aCt := (mX12_number, [ag_861, ag_170, ag_177], ([sl_908, sl_892, sl_906], []), [pon_931, pon_937, pon_938], mdn_918, [], (nat_lit 2))
set_option maxRecDepth 100000 in
theorem S_475 : aSpec wd ct_475 := bChk_ok wx_ok btX12_number (nds := []) (fk := []) (rk := (1, [])) (sp := 0) (fuel := 3000) (by decide +kernel) (lk_d S_X12_next_0 ml_12_121 (lk_d S_460 ml_12_127 (lk_d S_464 ml_12_127 (lk_d S_474 ml_12_149 lk_n)))) odX12_number
def ct_476 : aCt := (mX12_number, [ag_861, ag_170, ag_177], ([sl_894, sl_895, sl_912], []), [pon_37], mdn_872, [], (nat_lit 0))
set_option maxRecDepth 100000 in
theorem S_476 : aSpec wd ct_476 := bChk_ok wx_ok btX12_number (nds := []) (fk := []) (rk := (1, [])) (sp := 0) (fuel := 3000) (by decide +kernel) lk_n odX12_number
def ct_477 : aCt := (mX12_after, [ag_861, ag_905, ag_170, ag_177], ([sl_894, sl_895, sl_906], []), [pon_934, pon_937, pon_938], mdn_918, [], (nat_lit 4))
set_option maxRecDepth 100000 in
theorem S_477 : aSpec wd ct_477 := bChk_ok wx_ok btX12_after (nds := []) (fk := []) (rk := (1, [])) (sp := 0) (fuel := 3000) (by decide +kernel) (lk_d S_473 ml_12_164 (lk_d S_476 ml_12_164 (lk_d S_475 ml_12_164 (lk_d S_461 ml_12_157 lk_n)))) odX12_after
def ct_478 : aCt := (mX12_number, [ag_861, ag_170, ag_183], ([sl_894, sl_895, sl_906], []), [pon_928], mdn_914, [], (nat_lit 1))
set_option maxRecDepth 100000 in
theorem S_478 : aSpec wd ct_478 := bChk_ok wx_ok btX12_number (nds := []) (fk := []) (rk := (1, [])) (sp := 0) (fuel := 3000) (by decide +kernel) (lk_d S_460 ml_12_127 lk_n) odX12_number
def pon_939 : aPo := (some (.inl [((.ofNat (nat_lit 0)), (.ofNat (nat_lit 0)), (nat_lit 1))]), [some [((.negSucc (nat_lit 2147483647)), (.negSucc (nat_lit 0)), (nat_lit 1)), ((.ofNat (nat_lit 101)), (.ofNat (nat_lit 2147483647)), (nat_lit 1))], none, none], [], [])
def pon_940 : aPo := (some (.inl [((.ofNat (nat_lit 1)), (.ofNat (nat_lit 1)), (nat_lit 1))]), [some [((.ofNat (nat_lit 0)), (.ofNat (nat_lit 100)), (nat_lit 1))], none, none], [], [])
def ct_479 : aCt := (mX12_in, [ag_1, ag_170, ag_183], ([], []), [pon_939, pon_940], mdn_872, [], (nat_lit 0))
set_option maxRecDepth 100000 in
theorem S_479 : aSpec wd ct_479 := bChk_ok wx_ok btX12_in (nds := []) (fk := []) (rk := (1, [])) (sp := 0) (fuel := 3000) (by decide +kernel) lk_n odX12_in
def pon_941 : aPo := (some (.inl [((.ofNat (nat_lit 0)), (.ofNat (nat_lit 100)), (nat_lit 1))]), [], [sl_908, sl_892, sl_906], [])
def pon_942 : aPo := (some (.inl [((.ofNat (nat_lit 0)), (.ofNat (nat_lit 100)), (nat_lit 1))]), [], [sl_894, sl_895, sl_906], [])
def ct_480 : aCt := (mX12_number, [ag_861, ag_170, ag_183], ([sl_908, sl_892, sl_906], []), [pon_931, pon_941, pon_942], mdn_918, [], (nat_lit 2))
set_option maxRecDepth 100000 in
theorem S_480 : aSpec wd ct_480 := bChk_ok wx_ok btX12_number (nds := []) (fk := []) (rk := (1, [])) (sp := 0) (fuel := 3000) (by decide +kernel) (lk_d S_X12_next_0 ml_12_121 (lk_d S_460 ml_12_127 (lk_d S_464 ml_12_127 (lk_d S_479 ml_12_149 lk_n)))) odX12_number
def ct_481 : aCt := (mX12_number, [ag_861, ag_170, ag_183], ([sl_894, sl_895, sl_912], []), [pon_37], mdn_872, [], (nat_lit 0))
set_option maxRecDepth 100000 in
theorem S_481 : aSpec wd ct_481 := bChk_ok wx_ok btX12_number (nds := []) (fk := []) (rk := (1, [])) (sp := 0) (fuel := 3000) (by decide +kernel) lk_n odX12_number
def ct_482 : aCt := (mX12_after, [ag_861, ag_905, ag_170, ag_183], ([sl_894, sl_895, sl_906], []), [pon_934, pon_941, pon_942], mdn_918, [], (nat_lit 4))
set_option maxRecDepth 100000 in
theorem S_482 : aSpec wd ct_482 := bChk_ok wx_ok btX12_after (nds := []) (fk := []) (rk := (1, [])) (sp := 0) (fuel := 3000) (by decide +kernel) (lk_d S_478 ml_12_164 (lk_d S_481 ml_12_164 (lk_d S_480 ml_12_164 (lk_d S_461 ml_12_157 lk_n)))) odX12_after
def ct_483 : aCt := (mX12_takesWord, [ag_861, ag_905], ([sl_908, sl_892, sl_906], []), [pon_37], mdn_872, [], (nat_lit 1))
set_option maxRecDepth 100000 in
theorem S_483 : aSpec wd ct_483 := bChk_ok wx_ok btX12_takesWord (nds := []) (fk := []) (rk := (1, [])) (sp := 0) (fuel := 3000) (by decide +kernel) (lk_d S_X12_isWord_1 ml_12_117 lk_n) odX12_takesWord
def ct_484 : aCt := (mX12_must, [ag_861, ag_905], ([sl_908, sl_892, sl_906], []), [pon_913], mdn_914, [], (nat_lit 2))
set_option maxRecDepth 100000 in
theorem S_484 : aSpec wd ct_484 := bChk_ok wx_ok btX12_must (nds := []) (fk := []) (rk := (1, [])) (sp := 0) (fuel := 3000) (by decide +kernel) (lk_d S_483 ml_12_124 (lk_d S_460 ml_12_127 lk_n)) odX12_must
def ct_485 : aCt := (mX12_number, [ag_861, ag_170, ag_183], ([sl_908, sl_892, sl_912], []), [pon_37], mdn_872, [], (nat_lit 0))
set_option maxRecDepth 100000 in
theorem S_485 : aSpec wd ct_485 := bChk_ok wx_ok btX12_number (nds := []) (fk := []) (rk := (1, [])) (sp := 0) (fuel := 3000) (by decide +kernel) lk_n odX12_number
def ct_486 : aCt := (mX12_after, [ag_861, ag_905, ag_170, ag_183], ([sl_908, sl_892, sl_906], []), [pon_928], mdn_914, [], (nat_lit 3))
set_option maxRecDepth 100000 in
theorem S_486 : aSpec wd ct_486 := bChk_ok wx_ok btX12_after (nds := []) (fk := []) (rk := (1, [])) (sp := 0) (fuel := 3000) (by decide +kernel) (lk_d S_485 ml_12_164 (lk_d S_484 ml_12_157 lk_n)) odX12_after
def ct_487 : aCt := (mX12_must, [ag_861, ag_905], ([sl_926, sl_903, sl_912], []), [pon_49], mdn_872, [], (nat_lit 0))
set_option maxRecDepth 100000 in
theorem S_487 : aSpec wd ct_487 := bChk_ok wx_ok btX12_must (nds := []) (fk := []) (rk := (1, [])) (sp := 0) (fuel := 3000) (by decide +kernel) lk_n odX12_must
def ct_488 : aCt := (mX12_number, [ag_861, ag_170, ag_183], ([sl_926, sl_903, sl_912], []), [pon_37], mdn_872, [], (nat_lit 0))
set_option maxRecDepth 100000 in
theorem S_488 : aSpec wd ct_488 := bChk_ok wx_ok btX12_number (nds := []) (fk := []) (rk := (1, [])) (sp := 0) (fuel := 3000) (by decide +kernel) lk_n odX12_number
def ct_489 : aCt := (mX12_after, [ag_861, ag_905, ag_170, ag_183], ([sl_926, sl_903, sl_912], []), [pon_37], mdn_872, [], (nat_lit 1))
set_option maxRecDepth 100000 in
theorem S_489 : aSpec wd ct_489 := bChk_ok wx_ok btX12_after (nds := []) (fk := []) (rk := (1, [])) (sp := 0) (fuel := 3000) (by decide +kernel) (lk_d S_488 ml_12_164 (lk_d S_487 ml_12_157 lk_n)) odX12_after
def ct_490 : aCt := (mX12_number, [ag_861, ag_170, ag_177], ([sl_908, sl_892, sl_912], []), [pon_37], mdn_872, [], (nat_lit 0))
set_option maxRecDepth 100000 in
theorem S_490 : aSpec wd ct_490 := bChk_ok wx_ok btX12_number (nds := []) (fk := []) (rk := (1, [])) (sp := 0) (fuel := 3000) (by decide +kernel) lk_n odX12_number
def ct_491 : aCt := (mX12_after, [ag_861, ag_905, ag_170, ag_177], ([sl_908, sl_892, sl_906], []), [pon_928], mdn_914, [], (nat_lit 3))
set_option maxRecDepth 100000 in
theorem S_491 : aSpec wd ct_491 := bChk_ok wx_ok btX12_after (nds := []) (fk := []) (rk := (1, [])) (sp := 0) (fuel := 3000) (by decide +kernel) (lk_d S_490 ml_12_164 (lk_d S_484 ml_12_157 lk_n)) odX12_after
def ct_492 : aCt := (mX12_must, [ag_861, ag_905], ([sl_908, sl_892, sl_912], []), [pon_49], mdn_872, [], (nat_lit 0))
set_option maxRecDepth 100000 in
theorem S_492 : aSpec wd ct_492 := bChk_ok wx_ok btX12_must (nds := []) (fk := []) (rk := (1, [])) (sp := 0) (fuel := 3000) (by decide +kernel) lk_n odX12_must
def ct_493 : aCt := (mX12_after, [ag_861, ag_905, ag_170, ag_183], ([sl_908, sl_892, sl_912], []), [pon_37], mdn_872, [], (nat_lit 1))
set_option maxRecDepth 100000 in
theorem S_493 : aSpec wd ct_493 := bChk_ok wx_ok btX12_after (nds := []) (fk := []) (rk := (1, [])) (sp := 0) (fuel := 3000) (by decide +kernel) (lk_d S_485 ml_12_164 (lk_d S_492 ml_12_157 lk_n)) odX12_after
def ct_494 : aCt := (mX12_number, [ag_861, ag_170, ag_177], ([sl_926, sl_903, sl_912], []), [pon_37], mdn_872, [], (nat_lit 0))
set_option maxRecDepth 100000 in
theorem S_494 : aSpec wd ct_494 := bChk_ok wx_ok btX12_number (nds := []) (fk := []) (rk := (1, [])) (sp := 0) (fuel := 3000) (by decide +kernel) lk_n odX12_number
def ct_495 : aCt := (mX12_after, [ag_861, ag_905, ag_170, ag_177], ([sl_926, sl_903, sl_912], []), [pon_37], mdn_872, [], (nat_lit 1))
set_option maxRecDepth 100000 in
theorem S_495 : aSpec wd ct_495 := bChk_ok wx_ok btX12_after (nds := []) (fk := []) (rk := (1, [])) (sp := 0) (fuel := 3000) (by decide +kernel) (lk_d S_494 ml_12_164 (lk_d S_487 ml_12_157 lk_n)) odX12_after
def ct_496 : aCt := (mX12_number, [ag_861, ag_170, ag_122], ([sl_908, sl_892, sl_912], []), [pon_37], mdn_872, [], (nat_lit 0))
set_option maxRecDepth 100000 in
theorem S_496 : aSpec wd ct_496 := bChk_ok wx_ok btX12_number (nds := []) (fk := []) (rk := (1, [])) (sp := 0) (fuel := 3000) (by decide +kernel) lk_n odX12_number
def ct_497 : aCt := (mX12_after, [ag_861, ag_905, ag_170, ag_122], ([sl_908, sl_892, sl_906], []), [pon_928], mdn_914, [], (nat_lit 3))
set_option maxRecDepth 100000 in
theorem S_497 : aSpec wd ct_497 := bChk_ok wx_ok btX12_after (nds := []) (fk := []) (rk := (1, [])) (sp := 0) (fuel := 3000) (by decide +kernel) (lk_d S_496 ml_12_164 (lk_d S_484 ml_12_157 lk_n)) odX12_after
def ct_498 : aCt := (mX12_after, [ag_861, ag_905, ag_170, ag_177], ([sl_908, sl_892, sl_912], []), [pon_37], mdn_872, [], (nat_lit 1))
set_option maxRecDepth 100000 in
theorem S_498 : aSpec wd ct_498 := bChk_ok wx_ok btX12_after (nds := []) (fk := []) (rk := (1, [])) (sp := 0) (fuel := 3000) (by decide +kernel) (lk_d S_490 ml_12_164 (lk_d S_492 ml_12_157 lk_n)) odX12_after
def ct_499 : aCt := (mX12_number, [ag_861, ag_170, ag_122], ([sl_926, sl_903, sl_912], []), [pon_37], mdn_872, [], (nat_lit 0))
set_option maxRecDepth 100000 in
theorem S_499 : aSpec wd ct_499 := bChk_ok wx_ok btX12_number (nds := []) (fk := []) (rk := (1, [])) (sp := 0) (fuel := 3000) (by decide +kernel) lk_n odX12_number
def ct_500 : aCt := (mX12_after, [ag_861, ag_905, ag_170, ag_122], ([sl_926, sl_903, sl_912], []), [pon_37], mdn_872, [], (nat_lit 1))
set_option maxRecDepth 100000 in
theorem S_500 : aSpec wd ct_500 := bChk_ok wx_ok btX12_after (nds := []) (fk := []) (rk := (1, [])) (sp := 0) (fuel := 3000) (by decide +kernel) (lk_d S_499 ml_12_164 (lk_d S_487 ml_12_157 lk_n)) odX12_after
def ct_501 : aCt := (mX12_takesWord, [ag_861, ag_905], ([sl_891, sl_892, sl_906], []), [pon_37], mdn_872, [], (nat_lit 1))
set_option maxRecDepth 100000 in
theorem S_501 : aSpec wd ct_501 := bChk_ok wx_ok btX12_takesWord (nds := []) (fk := []) (rk := (1, [])) (sp := 0) (fuel := 3000) (by decide +kernel) (lk_d S_X12_isWord_2 ml_12_117 lk_n) odX12_takesWord
def ct_502 : aCt := (mX12_must, [ag_861, ag_905], ([sl_891, sl_892, sl_906], []), [pon_913], mdn_914, [], (nat_lit 2))
set_option maxRecDepth 100000 in
theorem S_502 : aSpec wd ct_502 := bChk_ok wx_ok btX12_must (nds := []) (fk := []) (rk := (1, [])) (sp := 0) (fuel := 3000) (by decide +kernel) (lk_d S_501 ml_12_124 (lk_d S_460 ml_12_127 lk_n)) odX12_must
def ct_503 : aCt := (mX12_number, [ag_861, ag_22, ag_159], ([sl_891, sl_892, sl_912], []), [pon_925], mdn_872, [], (nat_lit 0))
set_option maxRecDepth 100000 in
theorem S_503 : aSpec wd ct_503 := bChk_ok wx_ok btX12_number (nds := []) (fk := []) (rk := (1, [])) (sp := 0) (fuel := 3000) (by decide +kernel) lk_n odX12_number
def ct_504 : aCt := (mX12_after, [ag_861, ag_905, ag_22, ag_159], ([sl_891, sl_892, sl_906], []), [pon_919], mdn_914, [], (nat_lit 3))
set_option maxRecDepth 100000 in
theorem S_504 : aSpec wd ct_504 := bChk_ok wx_ok btX12_after (nds := []) (fk := []) (rk := (1, [])) (sp := 0) (fuel := 3000) (by decide +kernel) (lk_d S_503 ml_12_164 (lk_d S_502 ml_12_157 lk_n)) odX12_after
def ct_505 : aCt := (mX12_must, [ag_861, ag_905], ([sl_891, sl_892, sl_912], []), [pon_49], mdn_872, [], (nat_lit 0))
set_option maxRecDepth 100000 in
theorem S_505 : aSpec wd ct_505 := bChk_ok wx_ok btX12_must (nds := []) (fk := []) (rk := (1, [])) (sp := 0) (fuel := 3000) (by decide +kernel) lk_n odX12_must
def ct_506 : aCt := (mX12_number, [ag_861, ag_170, ag_122], ([sl_891, sl_892, sl_912], []), [pon_37], mdn_872, [], (nat_lit 0))
set_option maxRecDepth 100000 in
theorem S_506 : aSpec wd ct_506 := bChk_ok wx_ok btX12_number (nds := []) (fk := []) (rk := (1, [])) (sp := 0) (fuel := 3000) (by decide +kernel) lk_n odX12_number
def ct_507 : aCt := (mX12_after, [ag_861, ag_905, ag_170, ag_122], ([sl_891, sl_892, sl_912], []), [pon_37], mdn_872, [], (nat_lit 1))
set_option maxRecDepth 100000 in
theorem S_507 : aSpec wd ct_507 := bChk_ok wx_ok btX12_after (nds := []) (fk := []) (rk := (1, [])) (sp := 0) (fuel := 3000) (by decide +kernel) (lk_d S_506 ml_12_164 (lk_d S_505 ml_12_157 lk_n)) odX12_after
def ct_508 : aCt := (mX12_number, [ag_861, ag_170, ag_177], ([sl_891, sl_892, sl_912], []), [pon_37], mdn_872, [], (nat_lit 0))
set_option maxRecDepth 100000 in
theorem S_508 : aSpec wd ct_508 := bChk_ok wx_ok btX12_number (nds := []) (fk := []) (rk := (1, [])) (sp := 0) (fuel := 3000) (by decide +kernel) lk_n odX12_number
def ct_509 : aCt := (mX12_after, [ag_861, ag_905, ag_170, ag_177], ([sl_891, sl_892, sl_912], []), [pon_37], mdn_872, [], (nat_lit 1))
set_option maxRecDepth 100000 in
theorem S_509 : aSpec wd ct_509 := bChk_ok wx_ok btX12_after (nds := []) (fk := []) (rk := (1, [])) (sp := 0) (fuel := 3000) (by decide +kernel) (lk_d S_508 ml_12_164 (lk_d S_505 ml_12_157 lk_n)) odX12_after
def ct_510 : aCt := (mX12_number, [ag_861, ag_170, ag_183], ([sl_891, sl_892, sl_912], []), [pon_37], mdn_872, [], (nat_lit 0))
set_option maxRecDepth 100000 in
theorem S_510 : aSpec wd ct_510 := bChk_ok wx_ok btX12_number (nds := []) (fk := []) (rk := (1, [])) (sp := 0) (fuel := 3000) (by decide +kernel) lk_n odX12_number
def ct_511 : aCt := (mX12_after, [ag_861, ag_905, ag_170, ag_183], ([sl_891, sl_892, sl_912], []), [pon_37], mdn_872, [], (nat_lit 1))
set_option maxRecDepth 100000 in
theorem S_511 : aSpec wd ct_511 := bChk_ok wx_ok btX12_after (nds := []) (fk := []) (rk := (1, [])) (sp := 0) (fuel := 3000) (by decide +kernel) (lk_d S_510 ml_12_164 (lk_d S_505 ml_12_157 lk_n)) odX12_after
def ct_512 : aCt := (mX12_takesWord, [ag_861, ag_905], ([sl_889, sl_887, sl_906], []), [pon_37], mdn_872, [], (nat_lit 1))
set_option maxRecDepth 100000 in
theorem S_512 : aSpec wd ct_512 := bChk_ok wx_ok btX12_takesWord (nds := []) (fk := []) (rk := (1, [])) (sp := 0) (fuel := 3000) (by decide +kernel) (lk_d S_X12_isWord_3 ml_12_117 lk_n) odX12_takesWord
def ct_513 : aCt := (mX12_must, [ag_861, ag_905], ([sl_889, sl_887, sl_906], []), [pon_913], mdn_914, [], (nat_lit 2))
set_option maxRecDepth 100000 in
theorem S_513 : aSpec wd ct_513 := bChk_ok wx_ok btX12_must (nds := []) (fk := []) (rk := (1, [])) (sp := 0) (fuel := 3000) (by decide +kernel) (lk_d S_512 ml_12_124 (lk_d S_460 ml_12_127 lk_n)) odX12_must
def ct_514 : aCt := (mX12_number, [ag_861, ag_22, ag_159], ([sl_889, sl_887, sl_912], []), [pon_925], mdn_872, [], (nat_lit 0))
set_option maxRecDepth 100000 in
theorem S_514 : aSpec wd ct_514 := bChk_ok wx_ok btX12_number (nds := []) (fk := []) (rk := (1, [])) (sp := 0) (fuel := 3000) (by decide +kernel) lk_n odX12_number
def ct_515 : aCt := (mX12_after, [ag_861, ag_905, ag_22, ag_159], ([sl_889, sl_887, sl_906], []), [pon_919], mdn_914, [], (nat_lit 3))
set_option maxRecDepth 100000 in
theorem S_515 : aSpec wd ct_515 := bChk_ok wx_ok btX12_after (nds := []) (fk := []) (rk := (1, [])) (sp := 0) (fuel := 3000) (by decide +kernel) (lk_d S_514 ml_12_164 (lk_d S_513 ml_12_157 lk_n)) odX12_after
def ct_516 : aCt := (mX12_must, [ag_861, ag_905], ([sl_889, sl_887, sl_912], []), [pon_49], mdn_872, [], (nat_lit 0))
set_option maxRecDepth 100000 in
theorem S_516 : aSpec wd ct_516 := bChk_ok wx_ok btX12_must (nds := []) (fk := []) (rk := (1, [])) (sp := 0) (fuel := 3000) (by decide +kernel) lk_n odX12_must
def ct_517 : aCt := (mX12_number, [ag_861, ag_170, ag_122], ([sl_889, sl_887, sl_912], []), [pon_37], mdn_872, [], (nat_lit 0))
set_option maxRecDepth 100000 in
theorem S_517 : aSpec wd ct_517 := bChk_ok wx_ok btX12_number (nds := []) (fk := []) (rk := (1, [])) (sp := 0) (fuel := 3000) (by decide +kernel) lk_n odX12_number
def ct_518 : aCt := (mX12_after, [ag_861, ag_905, ag_170, ag_122], ([sl_889, sl_887, sl_912], []), [pon_37], mdn_872, [], (nat_lit 1))
set_option maxRecDepth 100000 in
theorem S_518 : aSpec wd ct_518 := bChk_ok wx_ok btX12_after (nds := []) (fk := []) (rk := (1, [])) (sp := 0) (fuel := 3000) (by decide +kernel) (lk_d S_517 ml_12_164 (lk_d S_516 ml_12_157 lk_n)) odX12_after
def ct_519 : aCt := (mX12_number, [ag_861, ag_170, ag_177], ([sl_889, sl_887, sl_912], []), [pon_37], mdn_872, [], (nat_lit 0))
set_option maxRecDepth 100000 in
theorem S_519 : aSpec wd ct_519 := bChk_ok wx_ok btX12_number (nds := []) (fk := []) (rk := (1, [])) (sp := 0) (fuel := 3000) (by decide +kernel) lk_n odX12_number
def ct_520 : aCt := (mX12_after, [ag_861, ag_905, ag_170, ag_177], ([sl_889, sl_887, sl_912], []), [pon_37], mdn_872, [], (nat_lit 1))
set_option maxRecDepth 100000 in
theorem S_520 : aSpec wd ct_520 := bChk_ok wx_ok btX12_after (nds := []) (fk := []) (rk := (1, [])) (sp := 0) (fuel := 3000) (by decide +kernel) (lk_d S_519 ml_12_164 (lk_d S_516 ml_12_157 lk_n)) odX12_after
def ct_521 : aCt := (mX12_number, [ag_861, ag_170, ag_183], ([sl_889, sl_887, sl_912], []), [pon_37], mdn_872, [], (nat_lit 0))
set_option maxRecDepth 100000 in
theorem S_521 : aSpec wd ct_521 := bChk_ok wx_ok btX12_number (nds := []) (fk := []) (rk := (1, [])) (sp := 0) (fuel := 3000) (by decide +kernel) lk_n odX12_number
def ct_522 : aCt := (mX12_after, [ag_861, ag_905, ag_170, ag_183], ([sl_889, sl_887, sl_912], []), [pon_37], mdn_872, [], (nat_lit 1))
set_option maxRecDepth 100000 in
theorem S_522 : aSpec wd ct_522 := bChk_ok wx_ok btX12_after (nds := []) (fk := []) (rk := (1, [])) (sp := 0) (fuel := 3000) (by decide +kernel) (lk_d S_521 ml_12_164 (lk_d S_516 ml_12_157 lk_n)) odX12_after
def ct_523 : aCt := (mX12_takesWord, [ag_861, ag_905], ([sl_886, sl_887, sl_906], []), [pon_37], mdn_872, [], (nat_lit 1))
set_option maxRecDepth 100000 in
theorem S_523 : aSpec wd ct_523 := bChk_ok wx_ok btX12_takesWord (nds := []) (fk := []) (rk := (1, [])) (sp := 0) (fuel := 3000) (by decide +kernel) (lk_d S_X12_isWord_4 ml_12_117 lk_n) odX12_takesWord
def ct_524 : aCt := (mX12_must, [ag_861, ag_905], ([sl_886, sl_887, sl_906], []), [pon_913], mdn_914, [], (nat_lit 2))
set_option maxRecDepth 100000 in
theorem S_524 : aSpec wd ct_524 := bChk_ok wx_ok btX12_must (nds := []) (fk := []) (rk := (1, [])) (sp := 0) (fuel := 3000) (by decide +kernel) (lk_d S_523 ml_12_124 (lk_d S_460 ml_12_127 lk_n)) odX12_must
def ct_525 : aCt := (mX12_number, [ag_861, ag_22, ag_159], ([sl_886, sl_887, sl_912], []), [pon_925], mdn_872, [], (nat_lit 0))
set_option maxRecDepth 100000 in
theorem S_525 : aSpec wd ct_525 := bChk_ok wx_ok btX12_number (nds := []) (fk := []) (rk := (1, [])) (sp := 0) (fuel := 3000) (by decide +kernel) lk_n odX12_number
def ct_526 : aCt := (mX12_after, [ag_861, ag_905, ag_22, ag_159], ([sl_886, sl_887, sl_906], []), [pon_919], mdn_914, [], (nat_lit 3))
set_option maxRecDepth 100000 in
theorem S_526 : aSpec wd ct_526 := bChk_ok wx_ok btX12_after (nds := []) (fk := []) (rk := (1, [])) (sp := 0) (fuel := 3000) (by decide +kernel) (lk_d S_525 ml_12_164 (lk_d S_524 ml_12_157 lk_n)) odX12_after
def ct_527 : aCt := (mX12_must, [ag_861, ag_905], ([sl_886, sl_887, sl_912], []), [pon_49], mdn_872, [], (nat_lit 0))
set_option maxRecDepth 100000 in
theorem S_527 : aSpec wd ct_527 := bChk_ok wx_ok btX12_must (nds := []) (fk := []) (rk := (1, [])) (sp := 0) (fuel := 3000) (by decide +kernel) lk_n odX12_must
def ct_528 : aCt := (mX12_number, [ag_861, ag_170, ag_122], ([sl_886, sl_887, sl_912], []), [pon_37], mdn_872, [], (nat_lit 0))
set_option maxRecDepth 100000 in
theorem S_528 : aSpec wd ct_528 := bChk_ok wx_ok btX12_number (nds := []) (fk := []) (rk := (1, [])) (sp := 0) (fuel := 3000) (by decide +kernel) lk_n odX12_number
def ct_529 : aCt := (mX12_after, [ag_861, ag_905, ag_170, ag_122], ([sl_886, sl_887, sl_912], []), [pon_37], mdn_872, [], (nat_lit 1))
set_option maxRecDepth 100000 in
theorem S_529 : aSpec wd ct_529 := bChk_ok wx_ok btX12_after (nds := []) (fk := []) (rk := (1, [])) (sp := 0) (fuel := 3000) (by decide +kernel) (lk_d S_528 ml_12_164 (lk_d S_527 ml_12_157 lk_n)) odX12_after
def ct_530 : aCt := (mX12_number, [ag_861, ag_170, ag_177], ([sl_886, sl_887, sl_912], []), [pon_37], mdn_872, [], (nat_lit 0))
set_option maxRecDepth 100000 in
theorem S_530 : aSpec wd ct_530 := bChk_ok wx_ok btX12_number (nds := []) (fk := []) (rk := (1, [])) (sp := 0) (fuel := 3000) (by decide +kernel) lk_n odX12_number
def ct_531 : aCt := (mX12_after, [ag_861, ag_905, ag_170, ag_177], ([sl_886, sl_887, sl_912], []), [pon_37], mdn_872, [], (nat_lit 1))
set_option maxRecDepth 100000 in
theorem S_531 : aSpec wd ct_531 := bChk_ok wx_ok btX12_after (nds := []) (fk := []) (rk := (1, [])) (sp := 0) (fuel := 3000) (by decide +kernel) (lk_d S_530 ml_12_164 (lk_d S_527 ml_12_157 lk_n)) odX12_after
def ct_532 : aCt := (mX12_number, [ag_861, ag_170, ag_183], ([sl_886, sl_887, sl_912], []), [pon_37], mdn_872, [], (nat_lit 0))
set_option maxRecDepth 100000 in
theorem S_532 : aSpec wd ct_532 := bChk_ok wx_ok btX12_number (nds := []) (fk := []) (rk := (1, [])) (sp := 0) (fuel := 3000) (by decide +kernel) lk_n odX12_number
def ct_533 : aCt := (mX12_after, [ag_861, ag_905, ag_170, ag_183], ([sl_886, sl_887, sl_912], []), [pon_37], mdn_872, [], (nat_lit 1))
set_option maxRecDepth 100000 in
theorem S_533 : aSpec wd ct_533 := bChk_ok wx_ok btX12_after (nds := []) (fk := []) (rk := (1, [])) (sp := 0) (fuel := 3000) (by decide +kernel) (lk_d S_532 ml_12_164 (lk_d S_527 ml_12_157 lk_n)) odX12_after
def sl_943 : (Nat × Nat) × aI := (((nat_lit 196), (nat_lit 8)), [((.ofNat (nat_lit 1)), (.ofNat (nat_lit 8)), (nat_lit 1))])
def sl_944 : (Nat × Nat) × aI := (((nat_lit 200), (nat_lit 0)), [((.ofNat (nat_lit 0)), (.ofNat (nat_lit 0)), (nat_lit 1))])
def sl_945 : (Nat × Nat) × aI := (((nat_lit 200), (nat_lit 4)), [((.ofNat (nat_lit 0)), (.ofNat (nat_lit 0)), (nat_lit 1))])
def sl_946 : (Nat × Nat) × aI := (((nat_lit 200), (nat_lit 7)), [((.ofNat (nat_lit 0)), (.ofNat (nat_lit 0)), (nat_lit 1))])
def sl_947 : (Nat × Nat) × aI := (((nat_lit 200), (nat_lit 9)), [((.ofNat (nat_lit 0)), (.ofNat (nat_lit 0)), (nat_lit 1))])
def sl_948 : (Nat × Nat) × aI := (((nat_lit 200), (nat_lit 183)), [((.ofNat (nat_lit 0)), (.ofNat (nat_lit 0)), (nat_lit 1))])
def sl_949 : (Nat × Nat) × aI := (((nat_lit 200), (nat_lit 184)), [((.ofNat (nat_lit 0)), (.ofNat (nat_lit 0)), (nat_lit 1))])
def sl_950 : (Nat × Nat) × aI := (((nat_lit 200), (nat_lit 185)), [((.ofNat (nat_lit 0)), (.ofNat (nat_lit 0)), (nat_lit 1))])
def sl_951 : (Nat × Nat) × aI := (((nat_lit 200), (nat_lit 186)), [((.ofNat (nat_lit 0)), (.ofNat (nat_lit 0)), (nat_lit 1))])
def sl_952 : (Nat × Nat) × aI := (((nat_lit 200), (nat_lit 187)), [((.ofNat (nat_lit 0)), (.ofNat (nat_lit 0)), (nat_lit 1))])
def sl_953 : (Nat × Nat) × aI := (((nat_lit 200), (nat_lit 188)), [((.ofNat (nat_lit 0)), (.ofNat (nat_lit 0)), (nat_lit 1))])
def sl_954 : (Nat × Nat) × aI := (((nat_lit 200), (nat_lit 189)), [((.ofNat (nat_lit 0)), (.ofNat (nat_lit 0)), (nat_lit 1))])
def sl_955 : (Nat × Nat) × aI := (((nat_lit 200), (nat_lit 0)), [((.ofNat (nat_lit 2)), (.ofNat (nat_lit 4)), (nat_lit 1))])
def pon_956 : aPo := (none, [], [sl_926, sl_903, sl_912, sl_955, sl_947], [])
def sl_957 : (Nat × Nat) × aI := (((nat_lit 200), (nat_lit 9)), [((.ofNat (nat_lit 1)), (.ofNat (nat_lit 1)), (nat_lit 1))])
def pon_958 : aPo := (none, [], [sl_908, sl_892, sl_906, sl_955, sl_957], [])
def pon_959 : aPo := (none, [], [sl_894, sl_895, sl_906, sl_955, sl_957], [])
def mdn_960 : List (Nat × Nat × Nat) := [((nat_lit 196), (nat_lit 4), (nat_lit 11)), ((nat_lit 196), (nat_lit 13), (nat_lit 14)), ((nat_lit 198), (nat_lit 0), (nat_lit 8)), ((nat_lit 200), (nat_lit 0), (nat_lit 4)), ((nat_lit 200), (nat_lit 9), (nat_lit 10)), ((nat_lit 1000002), (nat_lit 0), (nat_lit 0))]
set_option maxRecDepth 100000 in
theorem btX12_postLine : bTab oX12_postLine tX12_postLine := ⟨ofX12_postLine, by decide +kernel⟩
def ct_534 : aCt := (mX12_postLine, [ag_861], ([sl_894, sl_943, sl_906, sl_944, sl_945, sl_946, sl_947, sl_948, sl_949, sl_950, sl_951, sl_952, sl_953, sl_954], []), [pon_956, pon_958, pon_959], mdn_960, [], (nat_lit 5))
set_option maxRecDepth 100000 in
theorem S_534 : aSpec wd ct_534 := bChk_ok wx_ok btX12_postLine (nds := []) (fk := []) (rk := (1, [])) (sp := 0) (fuel := 3000) (by decide +kernel) (lk_d S_X12_next_0 ml_12_121 (lk_d S_515 ml_12_213 (lk_d S_518 ml_12_213 (lk_d S_520 ml_12_213 (lk_d S_522 ml_12_213 (lk_d S_526 ml_12_213 (lk_d S_529 ml_12_213 (lk_d S_531 ml_12_213 (lk_d S_533 ml_12_213 (lk_d S_467 ml_12_213 (lk_d S_472 ml_12_213 (lk_d S_477 ml_12_213 (lk_d S_482 ml_12_213 (lk_d S_504 ml_12_213 (lk_d S_507 ml_12_213 (lk_d S_509 ml_12_213 (lk_d S_511 ml_12_213 (lk_d S_486 ml_12_213 (lk_d S_491 ml_12_213 (lk_d S_493 ml_12_213 (lk_d S_497 ml_12_213 (lk_d S_498 ml_12_213 (lk_d S_489 ml_12_213 (lk_d S_495 ml_12_213 (lk_d S_500 ml_12_213 lk_n))))))))))))))))))))))))) odX12_postLine
def ct_535 : aCt := (mX12_wrong, [ag_861, ag_153, ag_876], ([sl_906], []), [pon_913], mdn_914, [], (nat_lit 0))
set_option maxRecDepth 100000 in
theorem S_535 : aSpec wd ct_535 := bChk_ok wx_ok btX12_wrong (nds := []) (fk := []) (rk := (1, [])) (sp := 0) (fuel := 3000) (by decide +kernel) lk_n odX12_wrong
def pon_961 : aPo := (some (.inl [((.ofNat (nat_lit 0)), (.ofNat (nat_lit 0)), (nat_lit 1))]), [], [sl_906], [])
def pon_962 : aPo := (some (.inl [((.ofNat (nat_lit 1)), (.ofNat (nat_lit 1)), (nat_lit 1))]), [], [sl_943, sl_912], [])
set_option maxRecDepth 100000 in
theorem btX12_begins : bTab oX12_begins tX12_begins := ⟨ofX12_begins, by decide +kernel⟩
def ct_536 : aCt := (mX12_begins, [ag_861, ag_905, ag_53], ([sl_894, sl_895, sl_906, sl_947], []), [pon_961, pon_962], mdn_914, [], (nat_lit 1))
set_option maxRecDepth 100000 in
theorem S_536 : aSpec wd ct_536 := bChk_ok wx_ok btX12_begins (nds := []) (fk := []) (rk := (1, [])) (sp := 0) (fuel := 3000) (by decide +kernel) (lk_d S_X12_isWord_0 ml_12_117 (lk_d S_535 ml_12_127 lk_n)) odX12_begins
set_option maxRecDepth 100000 in
theorem btX12_islandLine : bTab oX12_islandLine tX12_islandLine := ⟨ofX12_islandLine, by decide +kernel⟩
def ct_537 : aCt := (mX12_islandLine, [ag_861], ([sl_894, sl_943, sl_912, sl_944, sl_945], []), [pon_49], mdn_872, [], (nat_lit 0))
set_option maxRecDepth 100000 in
theorem S_537 : aSpec wd ct_537 := bChk_ok wx_ok btX12_islandLine (nds := []) (fk := [14]) (rk := (1, [])) (sp := 0) (fuel := 3000) (by decide +kernel) lk_n odX12_islandLine
def sl_963 : (Nat × Nat) × aI := (((nat_lit 200), (nat_lit 5)), [((.ofNat (nat_lit 0)), (.ofNat (nat_lit 11)), (nat_lit 1))])
set_option maxRecDepth 100000 in
theorem btX12_wayLine : bTab oX12_wayLine tX12_wayLine := ⟨ofX12_wayLine, by decide +kernel⟩
def ct_538 : aCt := (mX12_wayLine, [ag_861], ([sl_894, sl_943, sl_912, sl_963], []), [pon_49], mdn_872, [], (nat_lit 0))
set_option maxRecDepth 100000 in
theorem S_538 : aSpec wd ct_538 := bChk_ok wx_ok btX12_wayLine (nds := []) (fk := [17]) (rk := (1, [])) (sp := 0) (fuel := 3000) (by decide +kernel) lk_n odX12_wayLine
def sl_964 : (Nat × Nat) × aI := (((nat_lit 200), (nat_lit 6)), [((.ofNat (nat_lit 0)), (.ofNat (nat_lit 4)), (nat_lit 1))])
set_option maxRecDepth 100000 in
theorem btX12_whaleLine : bTab oX12_whaleLine tX12_whaleLine := ⟨ofX12_whaleLine, by decide +kernel⟩
def ct_539 : aCt := (mX12_whaleLine, [ag_861], ([sl_894, sl_943, sl_912, sl_964], []), [pon_49], mdn_872, [], (nat_lit 0))
set_option maxRecDepth 100000 in
theorem S_539 : aSpec wd ct_539 := bChk_ok wx_ok btX12_whaleLine (nds := []) (fk := []) (rk := (1, [])) (sp := 0) (fuel := 3000) (by decide +kernel) lk_n odX12_whaleLine
set_option maxRecDepth 100000 in
theorem btX12_boxLine : bTab oX12_boxLine tX12_boxLine := ⟨ofX12_boxLine, by decide +kernel⟩
def ct_540 : aCt := (mX12_boxLine, [ag_861], ([sl_894, sl_943, sl_912, sl_944, sl_945, sl_946, sl_947, sl_948, sl_949, sl_950, sl_951, sl_952, sl_953, sl_954], []), [pon_49], mdn_872, [], (nat_lit 0))
set_option maxRecDepth 100000 in
theorem S_540 : aSpec wd ct_540 := bChk_ok wx_ok btX12_boxLine (nds := []) (fk := [18]) (rk := (1, [])) (sp := 0) (fuel := 3000) (by decide +kernel) lk_n odX12_boxLine
def sl_965 : (Nat × Nat) × aI := (((nat_lit 200), (nat_lit 8)), [((.ofNat (nat_lit 0)), (.ofNat (nat_lit 7)), (nat_lit 1))])
set_option maxRecDepth 100000 in
theorem btX12_spoutLine : bTab oX12_spoutLine tX12_spoutLine := ⟨ofX12_spoutLine, by decide +kernel⟩
def ct_541 : aCt := (mX12_spoutLine, [ag_861], ([sl_894, sl_943, sl_912, sl_965], []), [pon_49], mdn_872, [], (nat_lit 0))
set_option maxRecDepth 100000 in
theorem S_541 : aSpec wd ct_541 := bChk_ok wx_ok btX12_spoutLine (nds := []) (fk := []) (rk := (1, [])) (sp := 0) (fuel := 3000) (by decide +kernel) lk_n odX12_spoutLine
def ct_542 : aCt := (mX12_wrong, [ag_861, ag_150, ag_876], ([sl_906], []), [pon_913], mdn_914, [], (nat_lit 0))
set_option maxRecDepth 100000 in
theorem S_542 : aSpec wd ct_542 := bChk_ok wx_ok btX12_wrong (nds := []) (fk := []) (rk := (1, [])) (sp := 0) (fuel := 3000) (by decide +kernel) lk_n odX12_wrong
def ct_543 : aCt := (mX12_wrong, [ag_861, ag_153, ag_876], ([sl_912], []), [pon_49], mdn_872, [], (nat_lit 0))
set_option maxRecDepth 100000 in
theorem S_543 : aSpec wd ct_543 := bChk_ok wx_ok btX12_wrong (nds := []) (fk := []) (rk := (1, [])) (sp := 0) (fuel := 3000) (by decide +kernel) lk_n odX12_wrong
def ct_544 : aCt := (mX12_begins, [ag_861, ag_905, ag_170], ([sl_894, sl_895, sl_906, sl_947], []), [pon_961, pon_962], mdn_914, [], (nat_lit 1))
set_option maxRecDepth 100000 in
theorem S_544 : aSpec wd ct_544 := bChk_ok wx_ok btX12_begins (nds := []) (fk := []) (rk := (1, [])) (sp := 0) (fuel := 3000) (by decide +kernel) (lk_d S_X12_isWord_0 ml_12_117 (lk_d S_542 ml_12_127 (lk_d S_543 ml_12_127 lk_n))) odX12_begins
def sl_966 : (Nat × Nat) × aI := (((nat_lit 200), (nat_lit 8)), [((.ofNat (nat_lit 8)), (.ofNat (nat_lit 8)), (nat_lit 1))])
def ct_545 : aCt := (mX12_spoutLine, [ag_861], ([sl_894, sl_943, sl_912, sl_966], []), [pon_49], mdn_872, [], (nat_lit 0))
set_option maxRecDepth 100000 in
theorem S_545 : aSpec wd ct_545 := bChk_ok wx_ok btX12_spoutLine (nds := []) (fk := []) (rk := (1, [])) (sp := 0) (fuel := 3000) (by decide +kernel) lk_n odX12_spoutLine
def sl_967 : (Nat × Nat) × aI := (((nat_lit 200), (nat_lit 6)), [((.ofNat (nat_lit 5)), (.ofNat (nat_lit 5)), (nat_lit 1))])
def ct_546 : aCt := (mX12_whaleLine, [ag_861], ([sl_894, sl_943, sl_912, sl_967], []), [pon_49], mdn_872, [], (nat_lit 0))
set_option maxRecDepth 100000 in
theorem S_546 : aSpec wd ct_546 := bChk_ok wx_ok btX12_whaleLine (nds := []) (fk := []) (rk := (1, [])) (sp := 0) (fuel := 3000) (by decide +kernel) lk_n odX12_whaleLine
def sl_968 : (Nat × Nat) × aI := (((nat_lit 200), (nat_lit 5)), [((.ofNat (nat_lit 12)), (.ofNat (nat_lit 12)), (nat_lit 1))])
def ct_547 : aCt := (mX12_wayLine, [ag_861], ([sl_894, sl_943, sl_912, sl_968], []), [pon_49], mdn_872, [], (nat_lit 0))
set_option maxRecDepth 100000 in
theorem S_547 : aSpec wd ct_547 := bChk_ok wx_ok btX12_wayLine (nds := []) (fk := [17]) (rk := (1, [])) (sp := 0) (fuel := 3000) (by decide +kernel) lk_n odX12_wayLine
def sl_969 : (Nat × Nat) × aI := (((nat_lit 200), (nat_lit 0)), [((.ofNat (nat_lit 0)), (.ofNat (nat_lit 0)), (nat_lit 1)), ((.ofNat (nat_lit 2)), (.ofNat (nat_lit 4)), (nat_lit 1))])
def pon_970 : aPo := (none, [], [sl_926, sl_903, sl_912, sl_969, sl_947], [])
set_option maxRecDepth 100000 in
theorem btX12_readLine : bTab oX12_readLine tX12_readLine := ⟨ofX12_readLine, by decide +kernel⟩
def ct_548 : aCt := (mX12_readLine, [ag_861], ([sl_894, sl_895, sl_906, sl_944, sl_945, sl_947, sl_948, sl_949, sl_950, sl_951, sl_952, sl_953, sl_954], []), [pon_970, pon_958, pon_959], mdn_960, [], (nat_lit 6))
set_option maxRecDepth 100000 in
theorem S_548 : aSpec wd ct_548 := bChk_ok wx_ok btX12_readLine (nds := []) (fk := []) (rk := (1, [])) (sp := 0) (fuel := 3000) (by decide +kernel) (lk_d S_534 ml_12_189 (lk_d S_540 ml_12_205 (lk_d S_537 ml_12_196 (lk_d S_545 ml_12_208 (lk_d S_546 ml_12_202 (lk_d S_547 ml_12_199 (lk_d S_539 ml_12_202 (lk_d S_541 ml_12_208 (lk_d S_538 ml_12_199 (lk_d S_X12_isWord_0 ml_12_117 (lk_d S_536 ml_12_192 (lk_d S_544 ml_12_192 (lk_d S_460 ml_12_127 lk_n))))))))))))) odX12_readLine
def sl_971 : (Nat × Nat) × aI := (((nat_lit 196), (nat_lit 11)), [((.ofNat (nat_lit 4)), (.ofNat (nat_lit 4)), (nat_lit 1))])
def pon_972 : aPo := (some (.inl [((.negSucc (nat_lit 0)), (.negSucc (nat_lit 0)), (nat_lit 1))]), [], [sl_971], [])
def ct_549 : aCt := (mX12_no, [ag_861, ag_159], ([sl_867], []), [pon_972], mdn_875, [], (nat_lit 0))
set_option maxRecDepth 100000 in
theorem S_549 : aSpec wd ct_549 := bChk_ok wx_ok btX12_no (nds := []) (fk := []) (rk := (1, [])) (sp := 0) (fuel := 3000) (by decide +kernel) lk_n odX12_no
def ct_550 : aCt := (mX12_begins, [ag_861, ag_905, ag_53], ([sl_891, sl_892, sl_906, sl_947], []), [pon_37], mdn_872, [], (nat_lit 1))
set_option maxRecDepth 100000 in
theorem S_550 : aSpec wd ct_550 := bChk_ok wx_ok btX12_begins (nds := []) (fk := []) (rk := (1, [])) (sp := 0) (fuel := 3000) (by decide +kernel) (lk_d S_X12_isWord_2 ml_12_117 lk_n) odX12_begins
def ct_551 : aCt := (mX12_begins, [ag_861, ag_905, ag_170], ([sl_891, sl_892, sl_906, sl_947], []), [pon_37], mdn_872, [], (nat_lit 1))
set_option maxRecDepth 100000 in
theorem S_551 : aSpec wd ct_551 := bChk_ok wx_ok btX12_begins (nds := []) (fk := []) (rk := (1, [])) (sp := 0) (fuel := 3000) (by decide +kernel) (lk_d S_X12_isWord_2 ml_12_117 lk_n) odX12_begins
def ct_552 : aCt := (mX12_readLine, [ag_861], ([sl_891, sl_892, sl_906, sl_944, sl_945, sl_947, sl_948, sl_949, sl_950, sl_951, sl_952, sl_953, sl_954], []), [pon_913], mdn_914, [], (nat_lit 2))
set_option maxRecDepth 100000 in
theorem S_552 : aSpec wd ct_552 := bChk_ok wx_ok btX12_readLine (nds := []) (fk := []) (rk := (1, [])) (sp := 0) (fuel := 3000) (by decide +kernel) (lk_d S_X12_isWord_2 ml_12_117 (lk_d S_550 ml_12_192 (lk_d S_551 ml_12_192 (lk_d S_460 ml_12_127 lk_n)))) odX12_readLine
def ct_553 : aCt := (mX12_begins, [ag_861, ag_905, ag_53], ([sl_889, sl_887, sl_906, sl_947], []), [pon_37], mdn_872, [], (nat_lit 1))
set_option maxRecDepth 100000 in
theorem S_553 : aSpec wd ct_553 := bChk_ok wx_ok btX12_begins (nds := []) (fk := []) (rk := (1, [])) (sp := 0) (fuel := 3000) (by decide +kernel) (lk_d S_X12_isWord_3 ml_12_117 lk_n) odX12_begins
def ct_554 : aCt := (mX12_begins, [ag_861, ag_905, ag_170], ([sl_889, sl_887, sl_906, sl_947], []), [pon_37], mdn_872, [], (nat_lit 1))
set_option maxRecDepth 100000 in
theorem S_554 : aSpec wd ct_554 := bChk_ok wx_ok btX12_begins (nds := []) (fk := []) (rk := (1, [])) (sp := 0) (fuel := 3000) (by decide +kernel) (lk_d S_X12_isWord_3 ml_12_117 lk_n) odX12_begins
def ct_555 : aCt := (mX12_readLine, [ag_861], ([sl_889, sl_887, sl_906, sl_944, sl_945, sl_947, sl_948, sl_949, sl_950, sl_951, sl_952, sl_953, sl_954], []), [pon_913], mdn_914, [], (nat_lit 2))
set_option maxRecDepth 100000 in
theorem S_555 : aSpec wd ct_555 := bChk_ok wx_ok btX12_readLine (nds := []) (fk := []) (rk := (1, [])) (sp := 0) (fuel := 3000) (by decide +kernel) (lk_d S_X12_isWord_3 ml_12_117 (lk_d S_553 ml_12_192 (lk_d S_554 ml_12_192 (lk_d S_460 ml_12_127 lk_n)))) odX12_readLine
def ct_556 : aCt := (mX12_begins, [ag_861, ag_905, ag_53], ([sl_886, sl_887, sl_906, sl_947], []), [pon_37], mdn_872, [], (nat_lit 1))
set_option maxRecDepth 100000 in
theorem S_556 : aSpec wd ct_556 := bChk_ok wx_ok btX12_begins (nds := []) (fk := []) (rk := (1, [])) (sp := 0) (fuel := 3000) (by decide +kernel) (lk_d S_X12_isWord_4 ml_12_117 lk_n) odX12_begins
def ct_557 : aCt := (mX12_begins, [ag_861, ag_905, ag_170], ([sl_886, sl_887, sl_906, sl_947], []), [pon_37], mdn_872, [], (nat_lit 1))
set_option maxRecDepth 100000 in
theorem S_557 : aSpec wd ct_557 := bChk_ok wx_ok btX12_begins (nds := []) (fk := []) (rk := (1, [])) (sp := 0) (fuel := 3000) (by decide +kernel) (lk_d S_X12_isWord_4 ml_12_117 lk_n) odX12_begins
def ct_558 : aCt := (mX12_readLine, [ag_861], ([sl_886, sl_887, sl_906, sl_944, sl_945, sl_947, sl_948, sl_949, sl_950, sl_951, sl_952, sl_953, sl_954], []), [pon_913], mdn_914, [], (nat_lit 2))
set_option maxRecDepth 100000 in
theorem S_558 : aSpec wd ct_558 := bChk_ok wx_ok btX12_readLine (nds := []) (fk := []) (rk := (1, [])) (sp := 0) (fuel := 3000) (by decide +kernel) (lk_d S_X12_isWord_4 ml_12_117 (lk_d S_556 ml_12_192 (lk_d S_557 ml_12_192 (lk_d S_460 ml_12_127 lk_n)))) odX12_readLine
def ct_559 : aCt := (mX12_wrong, [ag_861, ag_122, ag_876], ([sl_906], []), [pon_913], mdn_914, [], (nat_lit 0))
set_option maxRecDepth 100000 in
theorem S_559 : aSpec wd ct_559 := bChk_ok wx_ok btX12_wrong (nds := []) (fk := []) (rk := (1, [])) (sp := 0) (fuel := 3000) (by decide +kernel) lk_n odX12_wrong
def ct_560 : aCt := (mX12_postLine, [ag_861], ([sl_894, sl_943, sl_906, sl_955, sl_945, sl_957, sl_948, sl_949, sl_950, sl_951, sl_952, sl_953, sl_954], []), [pon_913], mdn_914, [], (nat_lit 1))
set_option maxRecDepth 100000 in
theorem S_560 : aSpec wd ct_560 := bChk_ok wx_ok btX12_postLine (nds := []) (fk := []) (rk := (1, [])) (sp := 0) (fuel := 3000) (by decide +kernel) (lk_d S_559 ml_12_127 lk_n) odX12_postLine
def ct_561 : aCt := (mX12_begins, [ag_861, ag_905, ag_53], ([sl_894, sl_895, sl_906, sl_957], []), [pon_907, pon_909, pon_910], mdn_911, [], (nat_lit 2))
set_option maxRecDepth 100000 in
theorem S_561 : aSpec wd ct_561 := bChk_ok wx_ok btX12_begins (nds := []) (fk := []) (rk := (1, [])) (sp := 0) (fuel := 3000) (by decide +kernel) (lk_d S_X12_next_0 ml_12_121 (lk_d S_X12_isWord_0 ml_12_117 lk_n)) odX12_begins
def pon_973 : aPo := (none, [], [sl_943, sl_912], [])
def pon_974 : aPo := (none, [], [sl_906], [])
set_option maxRecDepth 100000 in
theorem btX12_mustName : bTab oX12_mustName tX12_mustName := ⟨ofX12_mustName, by decide +kernel⟩
def ct_562 : aCt := (mX12_mustName, [ag_861], ([sl_894, sl_895, sl_906], []), [pon_973, pon_974], mdn_914, [], (nat_lit 1))
set_option maxRecDepth 100000 in
theorem S_562 : aSpec wd ct_562 := bChk_ok wx_ok btX12_mustName (nds := []) (fk := []) (rk := (1, [])) (sp := 0) (fuel := 3000) (by decide +kernel) (lk_d S_X12_isWord_0 ml_12_117 (lk_d S_460 ml_12_127 lk_n)) odX12_mustName
end Pk2
section Pk3
def pon_975 : aPo := (some (.inl [((.negSucc (nat_lit 0)), (.ofNat (nat_lit 19)), (nat_lit 1))]), [], [], [])
def lcn_976 : Nat × aAg := ((nat_lit 1), .inl [((.ofNat (nat_lit 3)), (.ofNat (nat_lit 3)), (nat_lit 1))])
def lcn_977 : Nat × aAg := ((nat_lit 1), .inl [((.ofNat (nat_lit 4)), (.ofNat (nat_lit 4)), (nat_lit 1))])
def lcn_978 : Nat × aAg := ((nat_lit 1), .inl [((.ofNat (nat_lit 5)), (.ofNat (nat_lit 5)), (nat_lit 1))])
def lcn_979 : Nat × aAg := ((nat_lit 1), .inl [((.ofNat (nat_lit 6)), (.ofNat (nat_lit 6)), (nat_lit 1))])
def lcn_980 : Nat × aAg := ((nat_lit 1), .inl [((.ofNat (nat_lit 7)), (.ofNat (nat_lit 20)), (nat_lit 1))])
def lcn_981 : Nat × aAg := ((nat_lit 1), .inl [((.ofNat (nat_lit 7)), (.ofNat (nat_lit 19)), (nat_lit 1))])
set_option maxRecDepth 100000 in
theorem btX12_find : bTab oX12_find tX12_find := ⟨ofX12_find, by decide +kernel⟩
def ct_563 : aCt := (mX12_find, [ag_861], ([sl_895], []), [pon_975], mdn_872, [], (nat_lit 0))
set_option maxRecDepth 100000 in
theorem S_563 : aSpec wd ct_563 := bChk_ok wx_ok btX12_find (nds := [((nat_lit 2), [lcn_898, lcn_175], [], [sl_895], [], (230, [])), ((nat_lit 46), [lcn_898, lcn_175, lcn_444, lcn_408], [], [sl_943], [], (229, [(0, -1)])), ((nat_lit 46), [lcn_898, lcn_175, lcn_589, lcn_408], [], [sl_895], [], (220, [])), ((nat_lit 2), [lcn_898, lcn_202, lcn_589, lcn_408], [], [sl_895], [], (219, [])), ((nat_lit 46), [lcn_898, lcn_202, lcn_444, lcn_408], [], [sl_943], [], (218, [(0, -1)])), ((nat_lit 46), [lcn_898, lcn_202, lcn_589, lcn_408], [], [sl_895], [], (209, [])), ((nat_lit 2), [lcn_898, lcn_167, lcn_589, lcn_408], [], [sl_895], [], (208, [])), ((nat_lit 46), [lcn_898, lcn_167, lcn_444, lcn_408], [], [sl_943], [], (207, [(0, -1)])), ((nat_lit 46), [lcn_898, lcn_167, lcn_589, lcn_408], [], [sl_895], [], (198, [])), ((nat_lit 2), [lcn_898, lcn_976, lcn_589, lcn_408], [], [sl_895], [], (197, [])), ((nat_lit 46), [lcn_898, lcn_976, lcn_444, lcn_408], [], [sl_943], [], (196, [(0, -1)])), ((nat_lit 46), [lcn_898, lcn_976, lcn_589, lcn_408], [], [sl_895], [], (187, [])), ((nat_lit 2), [lcn_898, lcn_977, lcn_589, lcn_408], [], [sl_895], [], (186, [])), ((nat_lit 46), [lcn_898, lcn_977, lcn_444, lcn_408], [], [sl_943], [], (185, [(0, -1)])), ((nat_lit 46), [lcn_898, lcn_977, lcn_589, lcn_408], [], [sl_895], [], (176, [])), ((nat_lit 2), [lcn_898, lcn_978, lcn_589, lcn_408], [], [sl_895], [], (175, [])), ((nat_lit 46), [lcn_898, lcn_978, lcn_444, lcn_408], [], [sl_943], [], (174, [(0, -1)])), ((nat_lit 46), [lcn_898, lcn_978, lcn_589, lcn_408], [], [sl_895], [], (165, [])), ((nat_lit 2), [lcn_898, lcn_979, lcn_589, lcn_408], [], [sl_895], [], (164, [])), ((nat_lit 46), [lcn_898, lcn_979, lcn_444, lcn_408], [], [sl_943], [], (163, [(0, -1)])), ((nat_lit 46), [lcn_898, lcn_979, lcn_589, lcn_408], [], [sl_895], [], (154, [])), ((nat_lit 2), [lcn_898, lcn_980, lcn_589, lcn_408], [], [sl_895], [], (230, [(0, -11)])), ((nat_lit 46), [lcn_898, lcn_981, lcn_444, lcn_408], [], [sl_895], [], (229, [(0, -11), (1, -1)])), ((nat_lit 46), [lcn_898, lcn_981, lcn_589, lcn_408], [], [sl_895], [], (220, [(0, -11)]))]) (fk := []) (rk := (231, [])) (sp := 70368744177668) (fuel := 3000) (by decide +kernel) lk_n odX12_find
def mdn_982 : List (Nat × Nat × Nat) := [((nat_lit 196), (nat_lit 4), (nat_lit 11)), ((nat_lit 196), (nat_lit 13), (nat_lit 14)), ((nat_lit 198), (nat_lit 0), (nat_lit 8)), ((nat_lit 200), (nat_lit 183), (nat_lit 184)), ((nat_lit 200), (nat_lit 203), (nat_lit 211)), ((nat_lit 1000002), (nat_lit 0), (nat_lit 0))]
set_option maxRecDepth 100000 in
theorem btX12_newName : bTab oX12_newName tX12_newName := ⟨ofX12_newName, by decide +kernel⟩
def ct_564 : aCt := (mX12_newName, [ag_861, ag_170], ([sl_894, sl_895, sl_906], []), [pon_915, pon_916, pon_917], mdn_982, [], (nat_lit 2))
set_option maxRecDepth 100000 in
theorem S_564 : aSpec wd ct_564 := bChk_ok wx_ok btX12_newName (nds := [((nat_lit 45), [lcn_898, lcn_175, lcn_296], [], [sl_894, sl_895, sl_906], [], (8, [(0, -1)]))]) (fk := []) (rk := (9, [])) (sp := 35184372088832) (fuel := 3000) (by decide +kernel) (lk_d S_562 ml_12_143 (lk_d S_563 ml_12_146 (lk_d S_X12_next_0 ml_12_121 (lk_d S_559 ml_12_127 lk_n)))) odX12_newName
def ag_983 : aAg := .inl [((.ofNat (nat_lit 0)), (.ofNat (nat_lit 8)), (nat_lit 1))]
def pon_984 : aPo := (some (.inl [((.ofNat (nat_lit 0)), (.ofNat (nat_lit 0)), (nat_lit 1))]), [some [((.ofNat (nat_lit 0)), (.ofNat (nat_lit 1)), (nat_lit 1)), ((.ofNat (nat_lit 7)), (.ofNat (nat_lit 8)), (nat_lit 1))], none, none], [], [])
def pon_985 : aPo := (some (.inl [((.ofNat (nat_lit 1)), (.ofNat (nat_lit 1)), (nat_lit 1))]), [some [((.ofNat (nat_lit 2)), (.ofNat (nat_lit 6)), (nat_lit 1))], none, none], [], [])
def ct_565 : aCt := (mX12_in, [ag_983, ag_22, ag_153], ([], []), [pon_984, pon_985], mdn_872, [], (nat_lit 0))
set_option maxRecDepth 100000 in
theorem S_565 : aSpec wd ct_565 := bChk_ok wx_ok btX12_in (nds := []) (fk := []) (rk := (1, [])) (sp := 0) (fuel := 3000) (by decide +kernel) lk_n odX12_in
def ct_566 : aCt := (mX12_wrong, [ag_861, ag_133, ag_876], ([sl_906], []), [pon_913], mdn_914, [], (nat_lit 0))
set_option maxRecDepth 100000 in
theorem S_566 : aSpec wd ct_566 := bChk_ok wx_ok btX12_wrong (nds := []) (fk := []) (rk := (1, [])) (sp := 0) (fuel := 3000) (by decide +kernel) lk_n odX12_wrong
def pon_986 : aPo := (none, [], [sl_926, sl_903, sl_912, sl_945], [])
def sl_987 : (Nat × Nat) × aI := (((nat_lit 200), (nat_lit 4)), [((.ofNat (nat_lit 1)), (.ofNat (nat_lit 1)), (nat_lit 1))])
def pon_988 : aPo := (none, [], [sl_908, sl_892, sl_906, sl_987], [])
def pon_989 : aPo := (none, [], [sl_894, sl_895, sl_906, sl_987], [])
def mdn_990 : List (Nat × Nat × Nat) := [((nat_lit 196), (nat_lit 4), (nat_lit 11)), ((nat_lit 196), (nat_lit 13), (nat_lit 14)), ((nat_lit 198), (nat_lit 0), (nat_lit 8)), ((nat_lit 200), (nat_lit 4), (nat_lit 5)), ((nat_lit 200), (nat_lit 10), (nat_lit 17)), ((nat_lit 200), (nat_lit 183), (nat_lit 184)), ((nat_lit 200), (nat_lit 203), (nat_lit 211)), ((nat_lit 1000002), (nat_lit 0), (nat_lit 0))]
def sl_991 : (Nat × Nat) × aI := (((nat_lit 196), (nat_lit 8)), [((.ofNat (nat_lit 2)), (.ofNat (nat_lit 6)), (nat_lit 1))])
def lcn_992 : Nat × aAg := ((nat_lit 4), .inl [((.ofNat (nat_lit 10)), (.ofNat (nat_lit 10)), (nat_lit 1))])
def lcn_993 : Nat × aAg := ((nat_lit 5), .inl [((.ofNat (nat_lit 0)), (.ofNat (nat_lit 6)), (nat_lit 1))])
def sl_994 : (Nat × Nat) × aI := (((nat_lit 200), (nat_lit 10)), [((.ofNat (nat_lit 2)), (.ofNat (nat_lit 6)), (nat_lit 1))])
def ct_567 : aCt := (mX12_islandLine, [ag_861], ([sl_894, sl_895, sl_906, sl_955, sl_945], []), [pon_986, pon_988, pon_989], mdn_990, [], (nat_lit 3))
set_option maxRecDepth 100000 in
theorem S_567 : aSpec wd ct_567 := bChk_ok wx_ok btX12_islandLine (nds := [((nat_lit 65), [lcn_898, lcn_175, lcn_444, lcn_144], [], [sl_894, sl_991, sl_906, sl_955, sl_945], [], (16, [(0, -1)])), ((nat_lit 65), [lcn_898, lcn_175, lcn_589, lcn_408], [], [sl_894, sl_895, sl_906, sl_955, sl_945], [], (9, [(0, -1)])), ((nat_lit 112), [lcn_898, lcn_175, lcn_589, lcn_101, lcn_421], [], [sl_894, sl_895, sl_906, sl_955, sl_945], [], (0, [])), ((nat_lit 112), [lcn_898, lcn_175, lcn_444, lcn_101, lcn_421], [], [sl_894, sl_991, sl_906, sl_955, sl_945], [], (7, [])), ((nat_lit 204), [lcn_898, lcn_175, lcn_444, lcn_101, lcn_992, lcn_993], [], [sl_894, sl_991, sl_906, sl_955, sl_945, sl_994], [], (6, [(0, -1)]))]) (fk := [14]) (rk := (17, [])) (sp := 25711008708143844408671393482650898498890112422543329113145344) (fuel := 3000) (by decide +kernel) (lk_d S_X12_next_0 ml_12_121 (lk_d S_564 ml_12_223 (lk_d S_565 ml_12_149 (lk_d S_460 ml_12_127 (lk_d S_566 ml_12_127 lk_n))))) odX12_islandLine
def ct_568 : aCt := (mX12_mustName, [ag_861], ([sl_908, sl_892, sl_906], []), [pon_913], mdn_914, [], (nat_lit 1))
set_option maxRecDepth 100000 in
theorem S_568 : aSpec wd ct_568 := bChk_ok wx_ok btX12_mustName (nds := []) (fk := []) (rk := (1, [])) (sp := 0) (fuel := 3000) (by decide +kernel) (lk_d S_460 ml_12_127 lk_n) odX12_mustName
def ct_569 : aCt := (mX12_newName, [ag_861, ag_170], ([sl_908, sl_892, sl_906], []), [pon_913], mdn_914, [], (nat_lit 2))
set_option maxRecDepth 100000 in
theorem S_569 : aSpec wd ct_569 := bChk_ok wx_ok btX12_newName (nds := []) (fk := []) (rk := (1, [])) (sp := 0) (fuel := 3000) (by decide +kernel) (lk_d S_568 ml_12_143 lk_n) odX12_newName
def ct_570 : aCt := (mX12_islandLine, [ag_861], ([sl_908, sl_892, sl_906, sl_955, sl_945], []), [pon_913], mdn_914, [], (nat_lit 3))
set_option maxRecDepth 100000 in
theorem S_570 : aSpec wd ct_570 := bChk_ok wx_ok btX12_islandLine (nds := []) (fk := [14]) (rk := (1, [])) (sp := 0) (fuel := 3000) (by decide +kernel) (lk_d S_569 ml_12_223 lk_n) odX12_islandLine
def ag_995 : aAg := .inl [((.negSucc (nat_lit 0)), (.ofNat (nat_lit 19)), (nat_lit 1))]
def pon_996 : aPo := (some (.inl [((.ofNat (nat_lit 0)), (.ofNat (nat_lit 0)), (nat_lit 1))]), [some [((.negSucc (nat_lit 0)), (.negSucc (nat_lit 0)), (nat_lit 1)), ((.ofNat (nat_lit 7)), (.ofNat (nat_lit 19)), (nat_lit 1))], none, none], [], [])
def pon_997 : aPo := (some (.inl [((.ofNat (nat_lit 1)), (.ofNat (nat_lit 1)), (nat_lit 1))]), [some [((.ofNat (nat_lit 0)), (.ofNat (nat_lit 6)), (nat_lit 1))], none, none], [], [])
def ct_571 : aCt := (mX12_in, [ag_995, ag_170, ag_153], ([], []), [pon_996, pon_997], mdn_872, [], (nat_lit 0))
set_option maxRecDepth 100000 in
theorem S_571 : aSpec wd ct_571 := bChk_ok wx_ok btX12_in (nds := []) (fk := []) (rk := (1, [])) (sp := 0) (fuel := 3000) (by decide +kernel) lk_n odX12_in
def ct_572 : aCt := (mX12_wrong, [ag_861, ag_22, ag_876], ([sl_906], []), [pon_913], mdn_914, [], (nat_lit 0))
set_option maxRecDepth 100000 in
theorem S_572 : aSpec wd ct_572 := bChk_ok wx_ok btX12_wrong (nds := []) (fk := []) (rk := (1, [])) (sp := 0) (fuel := 3000) (by decide +kernel) lk_n odX12_wrong
def pon_998 : aPo := (some (.inl [((.ofNat (nat_lit 0)), (.ofNat (nat_lit 6)), (nat_lit 1))]), [], [sl_906], [])
set_option maxRecDepth 100000 in
theorem btX12_named : bTab oX12_named tX12_named := ⟨ofX12_named, by decide +kernel⟩
def ct_573 : aCt := (mX12_named, [ag_861, ag_170, ag_153], ([sl_894, sl_895, sl_906], []), [pon_928, pon_998], mdn_914, [], (nat_lit 2))
set_option maxRecDepth 100000 in
theorem S_573 : aSpec wd ct_573 := bChk_ok wx_ok btX12_named (nds := []) (fk := []) (rk := (1, [])) (sp := 0) (fuel := 3000) (by decide +kernel) (lk_d S_562 ml_12_143 (lk_d S_563 ml_12_146 (lk_d S_571 ml_12_149 (lk_d S_572 ml_12_127 lk_n)))) odX12_named
def pon_999 : aPo := (some (.inl [((.ofNat (nat_lit 0)), (.ofNat (nat_lit 0)), (nat_lit 1))]), [], [sl_894, sl_895, sl_912], [])
def pon_1000 : aPo := (some (.inl [((.ofNat (nat_lit 0)), (.ofNat (nat_lit 6)), (nat_lit 1))]), [], [sl_908, sl_892, sl_906], [])
def pon_1001 : aPo := (some (.inl [((.ofNat (nat_lit 0)), (.ofNat (nat_lit 6)), (nat_lit 1))]), [], [sl_894, sl_895, sl_906], [])
set_option maxRecDepth 100000 in
theorem btX12_islandPassed : bTab oX12_islandPassed tX12_islandPassed := ⟨ofX12_islandPassed, by decide +kernel⟩
def ct_574 : aCt := (mX12_islandPassed, [ag_861], ([sl_894, sl_895, sl_906], []), [pon_999, pon_1000, pon_1001], mdn_918, [], (nat_lit 3))
set_option maxRecDepth 100000 in
theorem S_574 : aSpec wd ct_574 := bChk_ok wx_ok btX12_islandPassed (nds := []) (fk := []) (rk := (1, [])) (sp := 0) (fuel := 3000) (by decide +kernel) (lk_d S_X12_next_0 ml_12_121 (lk_d S_573 ml_12_153 lk_n)) odX12_islandPassed
def ct_575 : aCt := (mX12_named, [ag_861, ag_170, ag_153], ([sl_908, sl_892, sl_906], []), [pon_928], mdn_914, [], (nat_lit 2))
set_option maxRecDepth 100000 in
theorem S_575 : aSpec wd ct_575 := bChk_ok wx_ok btX12_named (nds := []) (fk := []) (rk := (1, [])) (sp := 0) (fuel := 3000) (by decide +kernel) (lk_d S_568 ml_12_143 lk_n) odX12_named
def ct_576 : aCt := (mX12_named, [ag_861, ag_170, ag_153], ([sl_894, sl_895, sl_912], []), [pon_37], mdn_872, [], (nat_lit 0))
set_option maxRecDepth 100000 in
theorem S_576 : aSpec wd ct_576 := bChk_ok wx_ok btX12_named (nds := []) (fk := []) (rk := (1, [])) (sp := 0) (fuel := 3000) (by decide +kernel) lk_n odX12_named
def ag_1002 : aAg := .inr (.inl [(nat_lit 200)])
def ag_1003 : aAg := .inl [((.ofNat (nat_lit 0)), (.ofNat (nat_lit 10)), (nat_lit 1))]
set_option maxRecDepth 100000 in
theorem btX12_joins : bTab oX12_joins tX12_joins := ⟨ofX12_joins, by decide +kernel⟩
def ct_577 : aCt := (mX12_joins, [ag_1002, ag_1003, ag_125, ag_125], ([], []), [pon_37, pon_38], mdn_872, [], (nat_lit 0))
set_option maxRecDepth 100000 in
theorem S_577 : aSpec wd ct_577 := bChk_ok wx_ok btX12_joins (nds := []) (fk := []) (rk := (1, [])) (sp := 0) (fuel := 3000) (by decide +kernel) lk_n odX12_joins
def ag_1004 : aAg := .inl [((.ofNat (nat_lit 0)), (.ofNat (nat_lit 9)), (nat_lit 1))]
def ct_578 : aCt := (mX12_joins, [ag_1002, ag_1004, ag_125, ag_125], ([], []), [pon_37, pon_38], mdn_872, [], (nat_lit 0))
set_option maxRecDepth 100000 in
theorem S_578 : aSpec wd ct_578 := bChk_ok wx_ok btX12_joins (nds := []) (fk := []) (rk := (1, [])) (sp := 0) (fuel := 3000) (by decide +kernel) lk_n odX12_joins
def ct_579 : aCt := (mX12_joins, [ag_1002, ag_983, ag_125, ag_125], ([], []), [pon_37, pon_38], mdn_872, [], (nat_lit 0))
set_option maxRecDepth 100000 in
theorem S_579 : aSpec wd ct_579 := bChk_ok wx_ok btX12_joins (nds := []) (fk := []) (rk := (1, [])) (sp := 0) (fuel := 3000) (by decide +kernel) lk_n odX12_joins
def ct_580 : aCt := (mX12_joins, [ag_1002, ag_190, ag_125, ag_125], ([], []), [pon_37, pon_38], mdn_872, [], (nat_lit 0))
set_option maxRecDepth 100000 in
theorem S_580 : aSpec wd ct_580 := bChk_ok wx_ok btX12_joins (nds := []) (fk := []) (rk := (1, [])) (sp := 0) (fuel := 3000) (by decide +kernel) lk_n odX12_joins
def ct_581 : aCt := (mX12_joins, [ag_1002, ag_125, ag_125, ag_125], ([], []), [pon_37, pon_38], mdn_872, [], (nat_lit 0))
set_option maxRecDepth 100000 in
theorem S_581 : aSpec wd ct_581 := bChk_ok wx_ok btX12_joins (nds := []) (fk := []) (rk := (1, [])) (sp := 0) (fuel := 3000) (by decide +kernel) lk_n odX12_joins
def ct_582 : aCt := (mX12_joins, [ag_1002, ag_410, ag_125, ag_125], ([], []), [pon_37, pon_38], mdn_872, [], (nat_lit 0))
set_option maxRecDepth 100000 in
theorem S_582 : aSpec wd ct_582 := bChk_ok wx_ok btX12_joins (nds := []) (fk := []) (rk := (1, [])) (sp := 0) (fuel := 3000) (by decide +kernel) lk_n odX12_joins
def ct_583 : aCt := (mX12_joins, [ag_1002, ag_217, ag_125, ag_125], ([], []), [pon_37, pon_38], mdn_872, [], (nat_lit 0))
set_option maxRecDepth 100000 in
theorem S_583 : aSpec wd ct_583 := bChk_ok wx_ok btX12_joins (nds := []) (fk := []) (rk := (1, [])) (sp := 0) (fuel := 3000) (by decide +kernel) lk_n odX12_joins
def ct_584 : aCt := (mX12_joins, [ag_1002, ag_361, ag_125, ag_125], ([], []), [pon_37, pon_38], mdn_872, [], (nat_lit 0))
set_option maxRecDepth 100000 in
theorem S_584 : aSpec wd ct_584 := bChk_ok wx_ok btX12_joins (nds := []) (fk := []) (rk := (1, [])) (sp := 0) (fuel := 3000) (by decide +kernel) lk_n odX12_joins
def ct_585 : aCt := (mX12_joins, [ag_1002, ag_402, ag_125, ag_125], ([], []), [pon_37, pon_38], mdn_872, [], (nat_lit 0))
set_option maxRecDepth 100000 in
theorem S_585 : aSpec wd ct_585 := bChk_ok wx_ok btX12_joins (nds := []) (fk := []) (rk := (1, [])) (sp := 0) (fuel := 3000) (by decide +kernel) lk_n odX12_joins
def ct_586 : aCt := (mX12_joins, [ag_1002, ag_535, ag_125, ag_125], ([], []), [pon_37, pon_38], mdn_872, [], (nat_lit 0))
set_option maxRecDepth 100000 in
theorem S_586 : aSpec wd ct_586 := bChk_ok wx_ok btX12_joins (nds := []) (fk := []) (rk := (1, [])) (sp := 0) (fuel := 3000) (by decide +kernel) lk_n odX12_joins
def ct_587 : aCt := (mX12_joins, [ag_1002, ag_170, ag_125, ag_125], ([], []), [pon_37, pon_38], mdn_872, [], (nat_lit 0))
set_option maxRecDepth 100000 in
theorem S_587 : aSpec wd ct_587 := bChk_ok wx_ok btX12_joins (nds := []) (fk := []) (rk := (1, [])) (sp := 0) (fuel := 3000) (by decide +kernel) lk_n odX12_joins
def pon_1005 : aPo := (some (.inl [((.ofNat (nat_lit 1)), (.ofNat (nat_lit 1)), (nat_lit 1))]), [], [sl_912], [])
def ct_588 : aCt := (mX12_number, [ag_861, ag_53, ag_197], ([sl_894, sl_895, sl_906], []), [pon_1005], mdn_914, [], (nat_lit 1))
set_option maxRecDepth 100000 in
theorem S_588 : aSpec wd ct_588 := bChk_ok wx_ok btX12_number (nds := []) (fk := []) (rk := (1, [])) (sp := 0) (fuel := 3000) (by decide +kernel) (lk_d S_460 ml_12_127 lk_n) odX12_number
def pon_1006 : aPo := (some (.inl [((.ofNat (nat_lit 0)), (.ofNat (nat_lit 0)), (nat_lit 1))]), [some [((.negSucc (nat_lit 2147483647)), (.ofNat (nat_lit 0)), (nat_lit 1)), ((.ofNat (nat_lit 100)), (.ofNat (nat_lit 2147483647)), (nat_lit 1))], none, none], [], [])
def pon_1007 : aPo := (some (.inl [((.ofNat (nat_lit 1)), (.ofNat (nat_lit 1)), (nat_lit 1))]), [some [((.ofNat (nat_lit 1)), (.ofNat (nat_lit 99)), (nat_lit 1))], none, none], [], [])
def ct_589 : aCt := (mX12_in, [ag_1, ag_53, ag_197], ([], []), [pon_1006, pon_1007], mdn_872, [], (nat_lit 0))
set_option maxRecDepth 100000 in
theorem S_589 : aSpec wd ct_589 := bChk_ok wx_ok btX12_in (nds := []) (fk := []) (rk := (1, [])) (sp := 0) (fuel := 3000) (by decide +kernel) lk_n odX12_in
def pon_1008 : aPo := (some (.inl [((.ofNat (nat_lit 1)), (.ofNat (nat_lit 1)), (nat_lit 1))]), [], [sl_908, sl_892, sl_912], [])
def pon_1009 : aPo := (some (.inl [((.ofNat (nat_lit 1)), (.ofNat (nat_lit 99)), (nat_lit 1))]), [], [sl_908, sl_892, sl_906], [])
def pon_1010 : aPo := (some (.inl [((.ofNat (nat_lit 1)), (.ofNat (nat_lit 99)), (nat_lit 1))]), [], [sl_894, sl_895, sl_906], [])
def ct_590 : aCt := (mX12_number, [ag_861, ag_53, ag_197], ([sl_908, sl_892, sl_906], []), [pon_1008, pon_1009, pon_1010], mdn_918, [], (nat_lit 2))
set_option maxRecDepth 100000 in
theorem S_590 : aSpec wd ct_590 := bChk_ok wx_ok btX12_number (nds := []) (fk := []) (rk := (1, [])) (sp := 0) (fuel := 3000) (by decide +kernel) (lk_d S_X12_next_0 ml_12_121 (lk_d S_460 ml_12_127 (lk_d S_464 ml_12_127 (lk_d S_589 ml_12_149 lk_n)))) odX12_number
def ct_591 : aCt := (mX12_number, [ag_861, ag_53, ag_197], ([sl_894, sl_895, sl_912], []), [pon_38], mdn_872, [], (nat_lit 0))
set_option maxRecDepth 100000 in
theorem S_591 : aSpec wd ct_591 := bChk_ok wx_ok btX12_number (nds := []) (fk := []) (rk := (1, [])) (sp := 0) (fuel := 3000) (by decide +kernel) lk_n odX12_number
def pon_1011 : aPo := (some (.inl [((.ofNat (nat_lit 1)), (.ofNat (nat_lit 1)), (nat_lit 1))]), [], [sl_926, sl_903, sl_912], [])
def ct_592 : aCt := (mX12_after, [ag_861, ag_905, ag_53, ag_197], ([sl_894, sl_895, sl_906], []), [pon_1011, pon_1009, pon_1010], mdn_918, [], (nat_lit 4))
set_option maxRecDepth 100000 in
theorem S_592 : aSpec wd ct_592 := bChk_ok wx_ok btX12_after (nds := []) (fk := []) (rk := (1, [])) (sp := 0) (fuel := 3000) (by decide +kernel) (lk_d S_588 ml_12_164 (lk_d S_591 ml_12_164 (lk_d S_590 ml_12_164 (lk_d S_461 ml_12_157 lk_n)))) odX12_after
def ct_593 : aCt := (mX12_number, [ag_861, ag_53, ag_197], ([sl_908, sl_892, sl_912], []), [pon_38], mdn_872, [], (nat_lit 0))
set_option maxRecDepth 100000 in
theorem S_593 : aSpec wd ct_593 := bChk_ok wx_ok btX12_number (nds := []) (fk := []) (rk := (1, [])) (sp := 0) (fuel := 3000) (by decide +kernel) lk_n odX12_number
def ct_594 : aCt := (mX12_after, [ag_861, ag_905, ag_53, ag_197], ([sl_908, sl_892, sl_906], []), [pon_1005], mdn_914, [], (nat_lit 3))
set_option maxRecDepth 100000 in
theorem S_594 : aSpec wd ct_594 := bChk_ok wx_ok btX12_after (nds := []) (fk := []) (rk := (1, [])) (sp := 0) (fuel := 3000) (by decide +kernel) (lk_d S_593 ml_12_164 (lk_d S_484 ml_12_157 lk_n)) odX12_after
def ct_595 : aCt := (mX12_number, [ag_861, ag_53, ag_252], ([sl_894, sl_895, sl_906], []), [pon_1005], mdn_914, [], (nat_lit 1))
set_option maxRecDepth 100000 in
theorem S_595 : aSpec wd ct_595 := bChk_ok wx_ok btX12_number (nds := []) (fk := []) (rk := (1, [])) (sp := 0) (fuel := 3000) (by decide +kernel) (lk_d S_460 ml_12_127 lk_n) odX12_number
def pon_1012 : aPo := (some (.inl [((.ofNat (nat_lit 0)), (.ofNat (nat_lit 0)), (nat_lit 1))]), [some [((.negSucc (nat_lit 2147483647)), (.ofNat (nat_lit 0)), (nat_lit 1)), ((.ofNat (nat_lit 16)), (.ofNat (nat_lit 2147483647)), (nat_lit 1))], none, none], [], [])
def pon_1013 : aPo := (some (.inl [((.ofNat (nat_lit 1)), (.ofNat (nat_lit 1)), (nat_lit 1))]), [some [((.ofNat (nat_lit 1)), (.ofNat (nat_lit 15)), (nat_lit 1))], none, none], [], [])
def ct_596 : aCt := (mX12_in, [ag_1, ag_53, ag_252], ([], []), [pon_1012, pon_1013], mdn_872, [], (nat_lit 0))
set_option maxRecDepth 100000 in
theorem S_596 : aSpec wd ct_596 := bChk_ok wx_ok btX12_in (nds := []) (fk := []) (rk := (1, [])) (sp := 0) (fuel := 3000) (by decide +kernel) lk_n odX12_in
def pon_1014 : aPo := (some (.inl [((.ofNat (nat_lit 1)), (.ofNat (nat_lit 15)), (nat_lit 1))]), [], [sl_908, sl_892, sl_906], [])
def pon_1015 : aPo := (some (.inl [((.ofNat (nat_lit 1)), (.ofNat (nat_lit 15)), (nat_lit 1))]), [], [sl_894, sl_895, sl_906], [])
def ct_597 : aCt := (mX12_number, [ag_861, ag_53, ag_252], ([sl_908, sl_892, sl_906], []), [pon_1008, pon_1014, pon_1015], mdn_918, [], (nat_lit 2))
set_option maxRecDepth 100000 in
theorem S_597 : aSpec wd ct_597 := bChk_ok wx_ok btX12_number (nds := []) (fk := []) (rk := (1, [])) (sp := 0) (fuel := 3000) (by decide +kernel) (lk_d S_X12_next_0 ml_12_121 (lk_d S_460 ml_12_127 (lk_d S_464 ml_12_127 (lk_d S_596 ml_12_149 lk_n)))) odX12_number
def ct_598 : aCt := (mX12_number, [ag_861, ag_53, ag_252], ([sl_894, sl_895, sl_912], []), [pon_38], mdn_872, [], (nat_lit 0))
set_option maxRecDepth 100000 in
theorem S_598 : aSpec wd ct_598 := bChk_ok wx_ok btX12_number (nds := []) (fk := []) (rk := (1, [])) (sp := 0) (fuel := 3000) (by decide +kernel) lk_n odX12_number
def ct_599 : aCt := (mX12_after, [ag_861, ag_905, ag_53, ag_252], ([sl_894, sl_895, sl_906], []), [pon_1011, pon_1014, pon_1015], mdn_918, [], (nat_lit 4))
set_option maxRecDepth 100000 in
theorem S_599 : aSpec wd ct_599 := bChk_ok wx_ok btX12_after (nds := []) (fk := []) (rk := (1, [])) (sp := 0) (fuel := 3000) (by decide +kernel) (lk_d S_595 ml_12_164 (lk_d S_598 ml_12_164 (lk_d S_597 ml_12_164 (lk_d S_461 ml_12_157 lk_n)))) odX12_after
def ct_600 : aCt := (mX12_number, [ag_861, ag_53, ag_252], ([sl_908, sl_892, sl_912], []), [pon_38], mdn_872, [], (nat_lit 0))
set_option maxRecDepth 100000 in
theorem S_600 : aSpec wd ct_600 := bChk_ok wx_ok btX12_number (nds := []) (fk := []) (rk := (1, [])) (sp := 0) (fuel := 3000) (by decide +kernel) lk_n odX12_number
def ct_601 : aCt := (mX12_after, [ag_861, ag_905, ag_53, ag_252], ([sl_908, sl_892, sl_906], []), [pon_1005], mdn_914, [], (nat_lit 3))
set_option maxRecDepth 100000 in
theorem S_601 : aSpec wd ct_601 := bChk_ok wx_ok btX12_after (nds := []) (fk := []) (rk := (1, [])) (sp := 0) (fuel := 3000) (by decide +kernel) (lk_d S_600 ml_12_164 (lk_d S_484 ml_12_157 lk_n)) odX12_after
def ct_602 : aCt := (mX12_number, [ag_861, ag_53, ag_252], ([sl_926, sl_903, sl_912], []), [pon_38], mdn_872, [], (nat_lit 0))
set_option maxRecDepth 100000 in
theorem S_602 : aSpec wd ct_602 := bChk_ok wx_ok btX12_number (nds := []) (fk := []) (rk := (1, [])) (sp := 0) (fuel := 3000) (by decide +kernel) lk_n odX12_number
def ct_603 : aCt := (mX12_after, [ag_861, ag_905, ag_53, ag_252], ([sl_926, sl_903, sl_912], []), [pon_38], mdn_872, [], (nat_lit 1))
set_option maxRecDepth 100000 in
theorem S_603 : aSpec wd ct_603 := bChk_ok wx_ok btX12_after (nds := []) (fk := []) (rk := (1, [])) (sp := 0) (fuel := 3000) (by decide +kernel) (lk_d S_602 ml_12_164 (lk_d S_487 ml_12_157 lk_n)) odX12_after
def pon_1016 : aPo := (none, [], [sl_926, sl_903, sl_912, sl_963], [])
def sl_1017 : (Nat × Nat) × aI := (((nat_lit 200), (nat_lit 5)), [((.ofNat (nat_lit 1)), (.ofNat (nat_lit 12)), (nat_lit 1))])
def pon_1018 : aPo := (none, [], [sl_908, sl_892, sl_906, sl_1017], [])
def pon_1019 : aPo := (none, [], [sl_894, sl_895, sl_906, sl_1017], [])
def mdn_1020 : List (Nat × Nat × Nat) := [((nat_lit 196), (nat_lit 4), (nat_lit 11)), ((nat_lit 196), (nat_lit 13), (nat_lit 14)), ((nat_lit 198), (nat_lit 0), (nat_lit 8)), ((nat_lit 200), (nat_lit 5), (nat_lit 6)), ((nat_lit 200), (nat_lit 59), (nat_lit 107)), ((nat_lit 1000002), (nat_lit 0), (nat_lit 0))]
def lcn_1021 : Nat × aAg := ((nat_lit 1), .inl [((.ofNat (nat_lit 103)), (.ofNat (nat_lit 103)), (nat_lit 1))])
def lcn_1022 : Nat × aAg := ((nat_lit 5), .inl [((.ofNat (nat_lit 0)), (.ofNat (nat_lit 11)), (nat_lit 1))])
def sl_1023 : (Nat × Nat) × aI := (((nat_lit 200), (nat_lit 5)), [((.ofNat (nat_lit 11)), (.ofNat (nat_lit 11)), (nat_lit 1))])
def lcn_1024 : Nat × aAg := ((nat_lit 1), .inl [((.ofNat (nat_lit 99)), (.ofNat (nat_lit 99)), (nat_lit 1))])
def sl_1025 : (Nat × Nat) × aI := (((nat_lit 200), (nat_lit 5)), [((.ofNat (nat_lit 10)), (.ofNat (nat_lit 10)), (nat_lit 1))])
def lcn_1026 : Nat × aAg := ((nat_lit 1), .inl [((.ofNat (nat_lit 95)), (.ofNat (nat_lit 95)), (nat_lit 1))])
def lcn_1027 : Nat × aAg := ((nat_lit 5), .inl [((.ofNat (nat_lit 0)), (.ofNat (nat_lit 9)), (nat_lit 1))])
def sl_1028 : (Nat × Nat) × aI := (((nat_lit 200), (nat_lit 5)), [((.ofNat (nat_lit 9)), (.ofNat (nat_lit 9)), (nat_lit 1))])
def lcn_1029 : Nat × aAg := ((nat_lit 1), .inl [((.ofNat (nat_lit 91)), (.ofNat (nat_lit 91)), (nat_lit 1))])
def lcn_1030 : Nat × aAg := ((nat_lit 5), .inl [((.ofNat (nat_lit 0)), (.ofNat (nat_lit 8)), (nat_lit 1))])
def sl_1031 : (Nat × Nat) × aI := (((nat_lit 200), (nat_lit 5)), [((.ofNat (nat_lit 8)), (.ofNat (nat_lit 8)), (nat_lit 1))])
def lcn_1032 : Nat × aAg := ((nat_lit 1), .inl [((.ofNat (nat_lit 87)), (.ofNat (nat_lit 87)), (nat_lit 1))])
def sl_1033 : (Nat × Nat) × aI := (((nat_lit 200), (nat_lit 5)), [((.ofNat (nat_lit 7)), (.ofNat (nat_lit 7)), (nat_lit 1))])
def lcn_1034 : Nat × aAg := ((nat_lit 1), .inl [((.ofNat (nat_lit 83)), (.ofNat (nat_lit 83)), (nat_lit 1))])
def sl_1035 : (Nat × Nat) × aI := (((nat_lit 200), (nat_lit 5)), [((.ofNat (nat_lit 6)), (.ofNat (nat_lit 6)), (nat_lit 1))])
def lcn_1036 : Nat × aAg := ((nat_lit 1), .inl [((.ofNat (nat_lit 79)), (.ofNat (nat_lit 79)), (nat_lit 1))])
def lcn_1037 : Nat × aAg := ((nat_lit 5), .inl [((.ofNat (nat_lit 0)), (.ofNat (nat_lit 5)), (nat_lit 1))])
def sl_1038 : (Nat × Nat) × aI := (((nat_lit 200), (nat_lit 5)), [((.ofNat (nat_lit 5)), (.ofNat (nat_lit 5)), (nat_lit 1))])
def lcn_1039 : Nat × aAg := ((nat_lit 1), .inl [((.ofNat (nat_lit 75)), (.ofNat (nat_lit 75)), (nat_lit 1))])
def sl_1040 : (Nat × Nat) × aI := (((nat_lit 200), (nat_lit 5)), [((.ofNat (nat_lit 4)), (.ofNat (nat_lit 4)), (nat_lit 1))])
def lcn_1041 : Nat × aAg := ((nat_lit 1), .inl [((.ofNat (nat_lit 71)), (.ofNat (nat_lit 71)), (nat_lit 1))])
def lcn_1042 : Nat × aAg := ((nat_lit 5), .inl [((.ofNat (nat_lit 0)), (.ofNat (nat_lit 3)), (nat_lit 1))])
def sl_1043 : (Nat × Nat) × aI := (((nat_lit 200), (nat_lit 5)), [((.ofNat (nat_lit 3)), (.ofNat (nat_lit 3)), (nat_lit 1))])
def lcn_1044 : Nat × aAg := ((nat_lit 1), .inl [((.ofNat (nat_lit 67)), (.ofNat (nat_lit 67)), (nat_lit 1))])
def lcn_1045 : Nat × aAg := ((nat_lit 5), .inl [((.ofNat (nat_lit 0)), (.ofNat (nat_lit 2)), (nat_lit 1))])
def sl_1046 : (Nat × Nat) × aI := (((nat_lit 200), (nat_lit 5)), [((.ofNat (nat_lit 2)), (.ofNat (nat_lit 2)), (nat_lit 1))])
def lcn_1047 : Nat × aAg := ((nat_lit 1), .inl [((.ofNat (nat_lit 63)), (.ofNat (nat_lit 63)), (nat_lit 1))])
def sl_1048 : (Nat × Nat) × aI := (((nat_lit 200), (nat_lit 5)), [((.ofNat (nat_lit 1)), (.ofNat (nat_lit 1)), (nat_lit 1))])
def lcn_1049 : Nat × aAg := ((nat_lit 1), .inl [((.ofNat (nat_lit 59)), (.ofNat (nat_lit 59)), (nat_lit 1))])
def sl_1050 : (Nat × Nat) × aI := (((nat_lit 200), (nat_lit 5)), [((.ofNat (nat_lit 0)), (.ofNat (nat_lit 0)), (nat_lit 1))])
def sl_1051 : (Nat × Nat) × aI := (((nat_lit 200), (nat_lit 61)), [((.ofNat (nat_lit 1)), (.ofNat (nat_lit 99)), (nat_lit 1))])
def sl_1052 : (Nat × Nat) × aI := (((nat_lit 200), (nat_lit 61)), [((.ofNat (nat_lit 1)), (.ofNat (nat_lit 1)), (nat_lit 1))])
def sl_1053 : (Nat × Nat) × aI := (((nat_lit 200), (nat_lit 65)), [((.ofNat (nat_lit 1)), (.ofNat (nat_lit 99)), (nat_lit 1))])
def sl_1054 : (Nat × Nat) × aI := (((nat_lit 200), (nat_lit 65)), [((.ofNat (nat_lit 1)), (.ofNat (nat_lit 1)), (nat_lit 1))])
def sl_1055 : (Nat × Nat) × aI := (((nat_lit 200), (nat_lit 62)), [((.ofNat (nat_lit 1)), (.ofNat (nat_lit 15)), (nat_lit 1))])
def sl_1056 : (Nat × Nat) × aI := (((nat_lit 200), (nat_lit 62)), [((.ofNat (nat_lit 1)), (.ofNat (nat_lit 1)), (nat_lit 1))])
def sl_1057 : (Nat × Nat) × aI := (((nat_lit 200), (nat_lit 69)), [((.ofNat (nat_lit 1)), (.ofNat (nat_lit 99)), (nat_lit 1))])
def sl_1058 : (Nat × Nat) × aI := (((nat_lit 200), (nat_lit 69)), [((.ofNat (nat_lit 1)), (.ofNat (nat_lit 1)), (nat_lit 1))])
def sl_1059 : (Nat × Nat) × aI := (((nat_lit 200), (nat_lit 66)), [((.ofNat (nat_lit 1)), (.ofNat (nat_lit 15)), (nat_lit 1))])
def sl_1060 : (Nat × Nat) × aI := (((nat_lit 200), (nat_lit 66)), [((.ofNat (nat_lit 1)), (.ofNat (nat_lit 1)), (nat_lit 1))])
def sl_1061 : (Nat × Nat) × aI := (((nat_lit 200), (nat_lit 73)), [((.ofNat (nat_lit 1)), (.ofNat (nat_lit 99)), (nat_lit 1))])
def sl_1062 : (Nat × Nat) × aI := (((nat_lit 200), (nat_lit 73)), [((.ofNat (nat_lit 1)), (.ofNat (nat_lit 1)), (nat_lit 1))])
def sl_1063 : (Nat × Nat) × aI := (((nat_lit 200), (nat_lit 70)), [((.ofNat (nat_lit 1)), (.ofNat (nat_lit 15)), (nat_lit 1))])
def sl_1064 : (Nat × Nat) × aI := (((nat_lit 200), (nat_lit 70)), [((.ofNat (nat_lit 1)), (.ofNat (nat_lit 1)), (nat_lit 1))])
def sl_1065 : (Nat × Nat) × aI := (((nat_lit 200), (nat_lit 77)), [((.ofNat (nat_lit 1)), (.ofNat (nat_lit 99)), (nat_lit 1))])
def sl_1066 : (Nat × Nat) × aI := (((nat_lit 200), (nat_lit 77)), [((.ofNat (nat_lit 1)), (.ofNat (nat_lit 1)), (nat_lit 1))])
def sl_1067 : (Nat × Nat) × aI := (((nat_lit 200), (nat_lit 74)), [((.ofNat (nat_lit 1)), (.ofNat (nat_lit 15)), (nat_lit 1))])
def sl_1068 : (Nat × Nat) × aI := (((nat_lit 200), (nat_lit 74)), [((.ofNat (nat_lit 1)), (.ofNat (nat_lit 1)), (nat_lit 1))])
def sl_1069 : (Nat × Nat) × aI := (((nat_lit 200), (nat_lit 81)), [((.ofNat (nat_lit 1)), (.ofNat (nat_lit 99)), (nat_lit 1))])
def sl_1070 : (Nat × Nat) × aI := (((nat_lit 200), (nat_lit 81)), [((.ofNat (nat_lit 1)), (.ofNat (nat_lit 1)), (nat_lit 1))])
def sl_1071 : (Nat × Nat) × aI := (((nat_lit 200), (nat_lit 78)), [((.ofNat (nat_lit 1)), (.ofNat (nat_lit 15)), (nat_lit 1))])
def sl_1072 : (Nat × Nat) × aI := (((nat_lit 200), (nat_lit 78)), [((.ofNat (nat_lit 1)), (.ofNat (nat_lit 1)), (nat_lit 1))])
def lcn_1073 : Nat × aAg := ((nat_lit 5), .inl [((.ofNat (nat_lit 8)), (.ofNat (nat_lit 8)), (nat_lit 1))])
def sl_1074 : (Nat × Nat) × aI := (((nat_lit 200), (nat_lit 85)), [((.ofNat (nat_lit 1)), (.ofNat (nat_lit 99)), (nat_lit 1))])
def sl_1075 : (Nat × Nat) × aI := (((nat_lit 200), (nat_lit 85)), [((.ofNat (nat_lit 1)), (.ofNat (nat_lit 1)), (nat_lit 1))])
def sl_1076 : (Nat × Nat) × aI := (((nat_lit 200), (nat_lit 82)), [((.ofNat (nat_lit 1)), (.ofNat (nat_lit 15)), (nat_lit 1))])
def sl_1077 : (Nat × Nat) × aI := (((nat_lit 200), (nat_lit 82)), [((.ofNat (nat_lit 1)), (.ofNat (nat_lit 1)), (nat_lit 1))])
def lcn_1078 : Nat × aAg := ((nat_lit 5), .inl [((.ofNat (nat_lit 9)), (.ofNat (nat_lit 9)), (nat_lit 1))])
def sl_1079 : (Nat × Nat) × aI := (((nat_lit 200), (nat_lit 89)), [((.ofNat (nat_lit 1)), (.ofNat (nat_lit 99)), (nat_lit 1))])
def sl_1080 : (Nat × Nat) × aI := (((nat_lit 200), (nat_lit 89)), [((.ofNat (nat_lit 1)), (.ofNat (nat_lit 1)), (nat_lit 1))])
def sl_1081 : (Nat × Nat) × aI := (((nat_lit 200), (nat_lit 86)), [((.ofNat (nat_lit 1)), (.ofNat (nat_lit 15)), (nat_lit 1))])
def sl_1082 : (Nat × Nat) × aI := (((nat_lit 200), (nat_lit 86)), [((.ofNat (nat_lit 1)), (.ofNat (nat_lit 1)), (nat_lit 1))])
def lcn_1083 : Nat × aAg := ((nat_lit 5), .inl [((.ofNat (nat_lit 11)), (.ofNat (nat_lit 11)), (nat_lit 1))])
def lcn_1084 : Nat × aAg := ((nat_lit 5), .inl [((.ofNat (nat_lit 10)), (.ofNat (nat_lit 11)), (nat_lit 1))])
def sl_1085 : (Nat × Nat) × aI := (((nat_lit 200), (nat_lit 93)), [((.ofNat (nat_lit 1)), (.ofNat (nat_lit 99)), (nat_lit 1))])
def sl_1086 : (Nat × Nat) × aI := (((nat_lit 200), (nat_lit 93)), [((.ofNat (nat_lit 1)), (.ofNat (nat_lit 1)), (nat_lit 1))])
def sl_1087 : (Nat × Nat) × aI := (((nat_lit 200), (nat_lit 90)), [((.ofNat (nat_lit 1)), (.ofNat (nat_lit 15)), (nat_lit 1))])
def sl_1088 : (Nat × Nat) × aI := (((nat_lit 200), (nat_lit 90)), [((.ofNat (nat_lit 1)), (.ofNat (nat_lit 1)), (nat_lit 1))])
def sl_1089 : (Nat × Nat) × aI := (((nat_lit 200), (nat_lit 97)), [((.ofNat (nat_lit 1)), (.ofNat (nat_lit 99)), (nat_lit 1))])
def sl_1090 : (Nat × Nat) × aI := (((nat_lit 200), (nat_lit 97)), [((.ofNat (nat_lit 1)), (.ofNat (nat_lit 1)), (nat_lit 1))])
def sl_1091 : (Nat × Nat) × aI := (((nat_lit 200), (nat_lit 94)), [((.ofNat (nat_lit 1)), (.ofNat (nat_lit 15)), (nat_lit 1))])
def sl_1092 : (Nat × Nat) × aI := (((nat_lit 200), (nat_lit 94)), [((.ofNat (nat_lit 1)), (.ofNat (nat_lit 1)), (nat_lit 1))])
def sl_1093 : (Nat × Nat) × aI := (((nat_lit 200), (nat_lit 105)), [((.ofNat (nat_lit 1)), (.ofNat (nat_lit 99)), (nat_lit 1))])
def sl_1094 : (Nat × Nat) × aI := (((nat_lit 200), (nat_lit 105)), [((.ofNat (nat_lit 1)), (.ofNat (nat_lit 1)), (nat_lit 1))])
def sl_1095 : (Nat × Nat) × aI := (((nat_lit 200), (nat_lit 101)), [((.ofNat (nat_lit 1)), (.ofNat (nat_lit 99)), (nat_lit 1))])
def sl_1096 : (Nat × Nat) × aI := (((nat_lit 200), (nat_lit 101)), [((.ofNat (nat_lit 1)), (.ofNat (nat_lit 1)), (nat_lit 1))])
def sl_1097 : (Nat × Nat) × aI := (((nat_lit 200), (nat_lit 98)), [((.ofNat (nat_lit 1)), (.ofNat (nat_lit 15)), (nat_lit 1))])
def sl_1098 : (Nat × Nat) × aI := (((nat_lit 200), (nat_lit 98)), [((.ofNat (nat_lit 1)), (.ofNat (nat_lit 1)), (nat_lit 1))])
def sl_1099 : (Nat × Nat) × aI := (((nat_lit 200), (nat_lit 106)), [((.ofNat (nat_lit 1)), (.ofNat (nat_lit 15)), (nat_lit 1))])
def sl_1100 : (Nat × Nat) × aI := (((nat_lit 200), (nat_lit 106)), [((.ofNat (nat_lit 1)), (.ofNat (nat_lit 1)), (nat_lit 1))])
def sl_1101 : (Nat × Nat) × aI := (((nat_lit 200), (nat_lit 102)), [((.ofNat (nat_lit 1)), (.ofNat (nat_lit 15)), (nat_lit 1))])
def sl_1102 : (Nat × Nat) × aI := (((nat_lit 200), (nat_lit 102)), [((.ofNat (nat_lit 1)), (.ofNat (nat_lit 1)), (nat_lit 1))])
def ct_604 : aCt := (mX12_wayLine, [ag_861], ([sl_894, sl_895, sl_906, sl_963], []), [pon_1016, pon_1018, pon_1019], mdn_1020, [], (nat_lit 5))
set_option maxRecDepth 100000 in
theorem S_604 : aSpec wd ct_604 := bChk_ok wx_ok btX12_wayLine (nds := [((nat_lit 48), [lcn_898, lcn_1021, lcn_250, lcn_144, lcn_451, lcn_1022], [], [sl_926, sl_903, sl_1023], [], (28, [(2, -12), (3, -1)])), ((nat_lit 48), [lcn_898, lcn_1024, lcn_250, lcn_144, lcn_451, lcn_1022], [], [sl_926, sl_903, sl_1025], [], (28, [(2, -12), (3, -1)])), ((nat_lit 48), [lcn_898, lcn_1026, lcn_250, lcn_144, lcn_451, lcn_1027], [], [sl_926, sl_903, sl_1028], [], (24, [(2, -10), (3, -1)])), ((nat_lit 48), [lcn_898, lcn_1029, lcn_250, lcn_144, lcn_451, lcn_1030], [], [sl_926, sl_903, sl_1031], [], (22, [(2, -9), (3, -1)])), ((nat_lit 48), [lcn_898, lcn_1032, lcn_250, lcn_144, lcn_451, lcn_648], [], [sl_926, sl_903, sl_1033], [], (20, [(2, -8), (3, -1)])), ((nat_lit 48), [lcn_898, lcn_1034, lcn_250, lcn_144, lcn_451, lcn_993], [], [sl_926, sl_903, sl_1035], [], (18, [(2, -7), (3, -1)])), ((nat_lit 48), [lcn_898, lcn_1036, lcn_250, lcn_144, lcn_451, lcn_1037], [], [sl_926, sl_903, sl_1038], [], (16, [(2, -6), (3, -1)])), ((nat_lit 48), [lcn_898, lcn_1039, lcn_250, lcn_144, lcn_451, lcn_399], [], [sl_926, sl_903, sl_1040], [], (14, [(2, -5), (3, -1)])), ((nat_lit 48), [lcn_898, lcn_1041, lcn_250, lcn_144, lcn_451, lcn_1042], [], [sl_926, sl_903, sl_1043], [], (12, [(2, -4), (3, -1)])), ((nat_lit 48), [lcn_898, lcn_1044, lcn_250, lcn_144, lcn_451, lcn_1045], [], [sl_926, sl_903, sl_1046], [], (10, [(2, -3), (3, -1)])), ((nat_lit 48), [lcn_898, lcn_1047, lcn_250, lcn_144, lcn_451, lcn_525], [], [sl_926, sl_903, sl_1048], [], (8, [(2, -2), (3, -1)])), ((nat_lit 48), [lcn_898, lcn_1049, lcn_250, lcn_144, lcn_451, lcn_472], [], [sl_926, sl_903, sl_1050], [], (5, [])), ((nat_lit 131), [lcn_898, lcn_1049, lcn_250, lcn_144, lcn_421, lcn_472], [], [sl_894, sl_895, sl_906, sl_1050], [], (4, [])), ((nat_lit 131), [lcn_898, lcn_1049, lcn_250, lcn_144, lcn_421, lcn_472], [], [sl_908, sl_892, sl_906, sl_1050], [], (4, [])), ((nat_lit 131), [lcn_898, lcn_1047, lcn_250, lcn_144, lcn_421, lcn_470], [], [sl_894, sl_895, sl_906, sl_1048], [], (4, [])), ((nat_lit 131), [lcn_898, lcn_1047, lcn_250, lcn_144, lcn_421, lcn_470], [], [sl_908, sl_892, sl_906, sl_1048], [], (4, [])), ((nat_lit 140), [lcn_898, lcn_1049, lcn_250, lcn_144, lcn_421, lcn_472], [], [sl_894, sl_895, sl_906, sl_1050], [], (3, [])), ((nat_lit 140), [lcn_898, lcn_1049, lcn_250, lcn_144, lcn_421, lcn_472], [], [sl_908, sl_892, sl_906, sl_1050], [], (3, [])), ((nat_lit 131), [lcn_898, lcn_1044, lcn_250, lcn_144, lcn_421, lcn_468], [], [sl_894, sl_895, sl_906, sl_1046], [], (4, [])), ((nat_lit 131), [lcn_898, lcn_1044, lcn_250, lcn_144, lcn_421, lcn_468], [], [sl_908, sl_892, sl_906, sl_1046], [], (4, [])), ((nat_lit 140), [lcn_898, lcn_1047, lcn_250, lcn_144, lcn_421, lcn_470], [], [sl_894, sl_895, sl_906, sl_1048], [], (3, [])), ((nat_lit 140), [lcn_898, lcn_1047, lcn_250, lcn_144, lcn_421, lcn_470], [], [sl_908, sl_892, sl_906, sl_1048], [], (3, [])), ((nat_lit 157), [lcn_898, lcn_1049, lcn_250, lcn_144, lcn_421, lcn_472], [], [sl_894, sl_895, sl_906, sl_1050, sl_1051], [], (2, [])), ((nat_lit 157), [lcn_898, lcn_1049, lcn_250, lcn_144, lcn_421, lcn_472], [], [sl_908, sl_892, sl_906, sl_1050, sl_1051], [], (2, [])), ((nat_lit 157), [lcn_898, lcn_1049, lcn_250, lcn_144, lcn_421, lcn_472], [], [sl_926, sl_903, sl_912, sl_1050, sl_1052], [], (2, [])), ((nat_lit 131), [lcn_898, lcn_1041, lcn_250, lcn_144, lcn_421, lcn_466], [], [sl_894, sl_895, sl_906, sl_1043], [], (4, [])), ((nat_lit 131), [lcn_898, lcn_1041, lcn_250, lcn_144, lcn_421, lcn_466], [], [sl_908, sl_892, sl_906, sl_1043], [], (4, [])), ((nat_lit 140), [lcn_898, lcn_1044, lcn_250, lcn_144, lcn_421, lcn_468], [], [sl_894, sl_895, sl_906, sl_1046], [], (3, [])), ((nat_lit 140), [lcn_898, lcn_1044, lcn_250, lcn_144, lcn_421, lcn_468], [], [sl_908, sl_892, sl_906, sl_1046], [], (3, [])), ((nat_lit 157), [lcn_898, lcn_1047, lcn_250, lcn_144, lcn_421, lcn_470], [], [sl_894, sl_895, sl_906, sl_1048, sl_1053], [], (2, [])), ((nat_lit 157), [lcn_898, lcn_1047, lcn_250, lcn_144, lcn_421, lcn_470], [], [sl_908, sl_892, sl_906, sl_1048, sl_1053], [], (2, [])), ((nat_lit 157), [lcn_898, lcn_1047, lcn_250, lcn_144, lcn_421, lcn_470], [], [sl_926, sl_903, sl_912, sl_1048, sl_1054], [], (2, [])), ((nat_lit 174), [lcn_898, lcn_1049, lcn_250, lcn_144, lcn_421, lcn_472], [], [sl_894, sl_895, sl_906, sl_1050, sl_1051, sl_1055], [], (1, [])), ((nat_lit 174), [lcn_898, lcn_1049, lcn_250, lcn_144, lcn_421, lcn_472], [], [sl_908, sl_892, sl_906, sl_1050, sl_1051, sl_1055], [], (1, [])), ((nat_lit 174), [lcn_898, lcn_1049, lcn_250, lcn_144, lcn_421, lcn_472], [], [sl_926, sl_903, sl_912, sl_1050, sl_1051, sl_1056], [], (1, [])), ((nat_lit 131), [lcn_898, lcn_1039, lcn_250, lcn_144, lcn_421, lcn_464], [], [sl_894, sl_895, sl_906, sl_1040], [], (4, [])), ((nat_lit 131), [lcn_898, lcn_1039, lcn_250, lcn_144, lcn_421, lcn_464], [], [sl_908, sl_892, sl_906, sl_1040], [], (4, [])), ((nat_lit 140), [lcn_898, lcn_1041, lcn_250, lcn_144, lcn_421, lcn_466], [], [sl_894, sl_895, sl_906, sl_1043], [], (3, [])), ((nat_lit 140), [lcn_898, lcn_1041, lcn_250, lcn_144, lcn_421, lcn_466], [], [sl_908, sl_892, sl_906, sl_1043], [], (3, [])), ((nat_lit 157), [lcn_898, lcn_1044, lcn_250, lcn_144, lcn_421, lcn_468], [], [sl_894, sl_895, sl_906, sl_1046, sl_1057], [], (2, [])), ((nat_lit 157), [lcn_898, lcn_1044, lcn_250, lcn_144, lcn_421, lcn_468], [], [sl_908, sl_892, sl_906, sl_1046, sl_1057], [], (2, [])), ((nat_lit 157), [lcn_898, lcn_1044, lcn_250, lcn_144, lcn_421, lcn_468], [], [sl_926, sl_903, sl_912, sl_1046, sl_1058], [], (2, [])), ((nat_lit 174), [lcn_898, lcn_1047, lcn_250, lcn_144, lcn_421, lcn_470], [], [sl_894, sl_895, sl_906, sl_1048, sl_1053, sl_1059], [], (1, [])), ((nat_lit 174), [lcn_898, lcn_1047, lcn_250, lcn_144, lcn_421, lcn_470], [], [sl_908, sl_892, sl_906, sl_1048, sl_1053, sl_1059], [], (1, [])), ((nat_lit 174), [lcn_898, lcn_1047, lcn_250, lcn_144, lcn_421, lcn_470], [], [sl_926, sl_903, sl_912, sl_1048, sl_1053, sl_1060], [], (1, [])), ((nat_lit 191), [lcn_898, lcn_1049, lcn_250, lcn_144, lcn_421, lcn_472], [], [sl_894, sl_895, sl_906, sl_1048, sl_1051, sl_1055], [], (0, [])), ((nat_lit 191), [lcn_898, lcn_1049, lcn_250, lcn_144, lcn_421, lcn_472], [], [sl_908, sl_892, sl_906, sl_1048, sl_1051, sl_1055], [], (0, [])), ((nat_lit 191), [lcn_898, lcn_1049, lcn_250, lcn_144, lcn_421, lcn_472], [], [sl_926, sl_903, sl_912, sl_1050, sl_1051, sl_1056], [], (0, [])), ((nat_lit 131), [lcn_898, lcn_1036, lcn_250, lcn_144, lcn_421, lcn_462], [], [sl_894, sl_895, sl_906, sl_1038], [], (4, [])), ((nat_lit 131), [lcn_898, lcn_1036, lcn_250, lcn_144, lcn_421, lcn_462], [], [sl_908, sl_892, sl_906, sl_1038], [], (4, [])), ((nat_lit 140), [lcn_898, lcn_1039, lcn_250, lcn_144, lcn_421, lcn_464], [], [sl_894, sl_895, sl_906, sl_1040], [], (3, [])), ((nat_lit 140), [lcn_898, lcn_1039, lcn_250, lcn_144, lcn_421, lcn_464], [], [sl_908, sl_892, sl_906, sl_1040], [], (3, [])), ((nat_lit 157), [lcn_898, lcn_1041, lcn_250, lcn_144, lcn_421, lcn_466], [], [sl_894, sl_895, sl_906, sl_1043, sl_1061], [], (2, [])), ((nat_lit 157), [lcn_898, lcn_1041, lcn_250, lcn_144, lcn_421, lcn_466], [], [sl_908, sl_892, sl_906, sl_1043, sl_1061], [], (2, [])), ((nat_lit 157), [lcn_898, lcn_1041, lcn_250, lcn_144, lcn_421, lcn_466], [], [sl_926, sl_903, sl_912, sl_1043, sl_1062], [], (2, [])), ((nat_lit 174), [lcn_898, lcn_1044, lcn_250, lcn_144, lcn_421, lcn_468], [], [sl_894, sl_895, sl_906, sl_1046, sl_1057, sl_1063], [], (1, [])), ((nat_lit 174), [lcn_898, lcn_1044, lcn_250, lcn_144, lcn_421, lcn_468], [], [sl_908, sl_892, sl_906, sl_1046, sl_1057, sl_1063], [], (1, [])), ((nat_lit 174), [lcn_898, lcn_1044, lcn_250, lcn_144, lcn_421, lcn_468], [], [sl_926, sl_903, sl_912, sl_1046, sl_1057, sl_1064], [], (1, [])), ((nat_lit 191), [lcn_898, lcn_1047, lcn_250, lcn_144, lcn_421, lcn_470], [], [sl_894, sl_895, sl_906, sl_1046, sl_1053, sl_1059], [], (0, [])), ((nat_lit 191), [lcn_898, lcn_1047, lcn_250, lcn_144, lcn_421, lcn_470], [], [sl_908, sl_892, sl_906, sl_1046, sl_1053, sl_1059], [], (0, [])), ((nat_lit 191), [lcn_898, lcn_1047, lcn_250, lcn_144, lcn_421, lcn_470], [], [sl_926, sl_903, sl_912, sl_1048, sl_1053, sl_1060], [], (0, [])), ((nat_lit 131), [lcn_898, lcn_1034, lcn_250, lcn_144, lcn_421, lcn_460], [], [sl_894, sl_895, sl_906, sl_1035], [], (4, [])), ((nat_lit 131), [lcn_898, lcn_1034, lcn_250, lcn_144, lcn_421, lcn_460], [], [sl_908, sl_892, sl_906, sl_1035], [], (4, [])), ((nat_lit 140), [lcn_898, lcn_1036, lcn_250, lcn_144, lcn_421, lcn_462], [], [sl_894, sl_895, sl_906, sl_1038], [], (3, [])), ((nat_lit 140), [lcn_898, lcn_1036, lcn_250, lcn_144, lcn_421, lcn_462], [], [sl_908, sl_892, sl_906, sl_1038], [], (3, [])), ((nat_lit 157), [lcn_898, lcn_1039, lcn_250, lcn_144, lcn_421, lcn_464], [], [sl_894, sl_895, sl_906, sl_1040, sl_1065], [], (2, [])), ((nat_lit 157), [lcn_898, lcn_1039, lcn_250, lcn_144, lcn_421, lcn_464], [], [sl_908, sl_892, sl_906, sl_1040, sl_1065], [], (2, [])), ((nat_lit 157), [lcn_898, lcn_1039, lcn_250, lcn_144, lcn_421, lcn_464], [], [sl_926, sl_903, sl_912, sl_1040, sl_1066], [], (2, [])), ((nat_lit 174), [lcn_898, lcn_1041, lcn_250, lcn_144, lcn_421, lcn_466], [], [sl_894, sl_895, sl_906, sl_1043, sl_1061, sl_1067], [], (1, [])), ((nat_lit 174), [lcn_898, lcn_1041, lcn_250, lcn_144, lcn_421, lcn_466], [], [sl_908, sl_892, sl_906, sl_1043, sl_1061, sl_1067], [], (1, [])), ((nat_lit 174), [lcn_898, lcn_1041, lcn_250, lcn_144, lcn_421, lcn_466], [], [sl_926, sl_903, sl_912, sl_1043, sl_1061, sl_1068], [], (1, [])), ((nat_lit 191), [lcn_898, lcn_1044, lcn_250, lcn_144, lcn_421, lcn_468], [], [sl_894, sl_895, sl_906, sl_1043, sl_1057, sl_1063], [], (0, [])), ((nat_lit 191), [lcn_898, lcn_1044, lcn_250, lcn_144, lcn_421, lcn_468], [], [sl_908, sl_892, sl_906, sl_1043, sl_1057, sl_1063], [], (0, [])), ((nat_lit 191), [lcn_898, lcn_1044, lcn_250, lcn_144, lcn_421, lcn_468], [], [sl_926, sl_903, sl_912, sl_1046, sl_1057, sl_1064], [], (0, [])), ((nat_lit 131), [lcn_898, lcn_1032, lcn_250, lcn_144, lcn_421, lcn_456], [], [sl_894, sl_895, sl_906, sl_1033], [], (4, [])), ((nat_lit 131), [lcn_898, lcn_1032, lcn_250, lcn_144, lcn_421, lcn_456], [], [sl_908, sl_892, sl_906, sl_1033], [], (4, [])), ((nat_lit 140), [lcn_898, lcn_1034, lcn_250, lcn_144, lcn_421, lcn_460], [], [sl_894, sl_895, sl_906, sl_1035], [], (3, [])), ((nat_lit 140), [lcn_898, lcn_1034, lcn_250, lcn_144, lcn_421, lcn_460], [], [sl_908, sl_892, sl_906, sl_1035], [], (3, [])), ((nat_lit 157), [lcn_898, lcn_1036, lcn_250, lcn_144, lcn_421, lcn_462], [], [sl_894, sl_895, sl_906, sl_1038, sl_1069], [], (2, [])), ((nat_lit 157), [lcn_898, lcn_1036, lcn_250, lcn_144, lcn_421, lcn_462], [], [sl_908, sl_892, sl_906, sl_1038, sl_1069], [], (2, [])), ((nat_lit 157), [lcn_898, lcn_1036, lcn_250, lcn_144, lcn_421, lcn_462], [], [sl_926, sl_903, sl_912, sl_1038, sl_1070], [], (2, [])), ((nat_lit 174), [lcn_898, lcn_1039, lcn_250, lcn_144, lcn_421, lcn_464], [], [sl_894, sl_895, sl_906, sl_1040, sl_1065, sl_1071], [], (1, [])), ((nat_lit 174), [lcn_898, lcn_1039, lcn_250, lcn_144, lcn_421, lcn_464], [], [sl_908, sl_892, sl_906, sl_1040, sl_1065, sl_1071], [], (1, [])), ((nat_lit 174), [lcn_898, lcn_1039, lcn_250, lcn_144, lcn_421, lcn_464], [], [sl_926, sl_903, sl_912, sl_1040, sl_1065, sl_1072], [], (1, [])), ((nat_lit 191), [lcn_898, lcn_1041, lcn_250, lcn_144, lcn_421, lcn_466], [], [sl_894, sl_895, sl_906, sl_1040, sl_1061, sl_1067], [], (0, [])), ((nat_lit 191), [lcn_898, lcn_1041, lcn_250, lcn_144, lcn_421, lcn_466], [], [sl_908, sl_892, sl_906, sl_1040, sl_1061, sl_1067], [], (0, [])), ((nat_lit 191), [lcn_898, lcn_1041, lcn_250, lcn_144, lcn_421, lcn_466], [], [sl_926, sl_903, sl_912, sl_1043, sl_1061, sl_1068], [], (0, [])), ((nat_lit 131), [lcn_898, lcn_1029, lcn_250, lcn_144, lcn_421, lcn_1073], [], [sl_894, sl_895, sl_906, sl_1031], [], (4, [])), ((nat_lit 131), [lcn_898, lcn_1029, lcn_250, lcn_144, lcn_421, lcn_1073], [], [sl_908, sl_892, sl_906, sl_1031], [], (4, [])), ((nat_lit 140), [lcn_898, lcn_1032, lcn_250, lcn_144, lcn_421, lcn_456], [], [sl_894, sl_895, sl_906, sl_1033], [], (3, [])), ((nat_lit 140), [lcn_898, lcn_1032, lcn_250, lcn_144, lcn_421, lcn_456], [], [sl_908, sl_892, sl_906, sl_1033], [], (3, [])), ((nat_lit 157), [lcn_898, lcn_1034, lcn_250, lcn_144, lcn_421, lcn_460], [], [sl_894, sl_895, sl_906, sl_1035, sl_1074], [], (2, [])), ((nat_lit 157), [lcn_898, lcn_1034, lcn_250, lcn_144, lcn_421, lcn_460], [], [sl_908, sl_892, sl_906, sl_1035, sl_1074], [], (2, [])), ((nat_lit 157), [lcn_898, lcn_1034, lcn_250, lcn_144, lcn_421, lcn_460], [], [sl_926, sl_903, sl_912, sl_1035, sl_1075], [], (2, [])), ((nat_lit 174), [lcn_898, lcn_1036, lcn_250, lcn_144, lcn_421, lcn_462], [], [sl_894, sl_895, sl_906, sl_1038, sl_1069, sl_1076], [], (1, [])), ((nat_lit 174), [lcn_898, lcn_1036, lcn_250, lcn_144, lcn_421, lcn_462], [], [sl_908, sl_892, sl_906, sl_1038, sl_1069, sl_1076], [], (1, [])), ((nat_lit 174), [lcn_898, lcn_1036, lcn_250, lcn_144, lcn_421, lcn_462], [], [sl_926, sl_903, sl_912, sl_1038, sl_1069, sl_1077], [], (1, [])), ((nat_lit 191), [lcn_898, lcn_1039, lcn_250, lcn_144, lcn_421, lcn_464], [], [sl_894, sl_895, sl_906, sl_1038, sl_1065, sl_1071], [], (0, [])), ((nat_lit 191), [lcn_898, lcn_1039, lcn_250, lcn_144, lcn_421, lcn_464], [], [sl_908, sl_892, sl_906, sl_1038, sl_1065, sl_1071], [], (0, [])), ((nat_lit 191), [lcn_898, lcn_1039, lcn_250, lcn_144, lcn_421, lcn_464], [], [sl_926, sl_903, sl_912, sl_1040, sl_1065, sl_1072], [], (0, [])), ((nat_lit 131), [lcn_898, lcn_1026, lcn_250, lcn_144, lcn_421, lcn_1078], [], [sl_894, sl_895, sl_906, sl_1028], [], (4, [])), ((nat_lit 131), [lcn_898, lcn_1026, lcn_250, lcn_144, lcn_421, lcn_1078], [], [sl_908, sl_892, sl_906, sl_1028], [], (4, [])), ((nat_lit 140), [lcn_898, lcn_1029, lcn_250, lcn_144, lcn_421, lcn_1073], [], [sl_894, sl_895, sl_906, sl_1031], [], (3, [])), ((nat_lit 140), [lcn_898, lcn_1029, lcn_250, lcn_144, lcn_421, lcn_1073], [], [sl_908, sl_892, sl_906, sl_1031], [], (3, [])), ((nat_lit 157), [lcn_898, lcn_1032, lcn_250, lcn_144, lcn_421, lcn_456], [], [sl_894, sl_895, sl_906, sl_1033, sl_1079], [], (2, [])), ((nat_lit 157), [lcn_898, lcn_1032, lcn_250, lcn_144, lcn_421, lcn_456], [], [sl_908, sl_892, sl_906, sl_1033, sl_1079], [], (2, [])), ((nat_lit 157), [lcn_898, lcn_1032, lcn_250, lcn_144, lcn_421, lcn_456], [], [sl_926, sl_903, sl_912, sl_1033, sl_1080], [], (2, [])), ((nat_lit 174), [lcn_898, lcn_1034, lcn_250, lcn_144, lcn_421, lcn_460], [], [sl_894, sl_895, sl_906, sl_1035, sl_1074, sl_1081], [], (1, [])), ((nat_lit 174), [lcn_898, lcn_1034, lcn_250, lcn_144, lcn_421, lcn_460], [], [sl_908, sl_892, sl_906, sl_1035, sl_1074, sl_1081], [], (1, [])), ((nat_lit 174), [lcn_898, lcn_1034, lcn_250, lcn_144, lcn_421, lcn_460], [], [sl_926, sl_903, sl_912, sl_1035, sl_1074, sl_1082], [], (1, [])), ((nat_lit 191), [lcn_898, lcn_1036, lcn_250, lcn_144, lcn_421, lcn_462], [], [sl_894, sl_895, sl_906, sl_1035, sl_1069, sl_1076], [], (0, [])), ((nat_lit 191), [lcn_898, lcn_1036, lcn_250, lcn_144, lcn_421, lcn_462], [], [sl_908, sl_892, sl_906, sl_1035, sl_1069, sl_1076], [], (0, [])), ((nat_lit 191), [lcn_898, lcn_1036, lcn_250, lcn_144, lcn_421, lcn_462], [], [sl_926, sl_903, sl_912, sl_1038, sl_1069, sl_1077], [], (0, [])), ((nat_lit 131), [lcn_898, lcn_1021, lcn_250, lcn_144, lcn_421, lcn_1083], [], [sl_894, sl_895, sl_906, sl_1023], [], (4, [])), ((nat_lit 131), [lcn_898, lcn_1021, lcn_250, lcn_144, lcn_421, lcn_1083], [], [sl_908, sl_892, sl_906, sl_1023], [], (4, [])), ((nat_lit 131), [lcn_898, lcn_1024, lcn_250, lcn_144, lcn_421, lcn_1084], [], [sl_894, sl_895, sl_906, sl_1025], [], (4, [])), ((nat_lit 131), [lcn_898, lcn_1024, lcn_250, lcn_144, lcn_421, lcn_1084], [], [sl_908, sl_892, sl_906, sl_1025], [], (4, [])), ((nat_lit 140), [lcn_898, lcn_1026, lcn_250, lcn_144, lcn_421, lcn_1078], [], [sl_894, sl_895, sl_906, sl_1028], [], (3, [])), ((nat_lit 140), [lcn_898, lcn_1026, lcn_250, lcn_144, lcn_421, lcn_1078], [], [sl_908, sl_892, sl_906, sl_1028], [], (3, [])), ((nat_lit 157), [lcn_898, lcn_1029, lcn_250, lcn_144, lcn_421, lcn_1073], [], [sl_894, sl_895, sl_906, sl_1031, sl_1085], [], (2, [])), ((nat_lit 157), [lcn_898, lcn_1029, lcn_250, lcn_144, lcn_421, lcn_1073], [], [sl_908, sl_892, sl_906, sl_1031, sl_1085], [], (2, [])), ((nat_lit 157), [lcn_898, lcn_1029, lcn_250, lcn_144, lcn_421, lcn_1073], [], [sl_926, sl_903, sl_912, sl_1031, sl_1086], [], (2, [])), ((nat_lit 174), [lcn_898, lcn_1032, lcn_250, lcn_144, lcn_421, lcn_456], [], [sl_894, sl_895, sl_906, sl_1033, sl_1079, sl_1087], [], (1, [])), ((nat_lit 174), [lcn_898, lcn_1032, lcn_250, lcn_144, lcn_421, lcn_456], [], [sl_908, sl_892, sl_906, sl_1033, sl_1079, sl_1087], [], (1, [])), ((nat_lit 174), [lcn_898, lcn_1032, lcn_250, lcn_144, lcn_421, lcn_456], [], [sl_926, sl_903, sl_912, sl_1033, sl_1079, sl_1088], [], (1, [])), ((nat_lit 191), [lcn_898, lcn_1034, lcn_250, lcn_144, lcn_421, lcn_460], [], [sl_894, sl_895, sl_906, sl_1033, sl_1074, sl_1081], [], (0, [])), ((nat_lit 191), [lcn_898, lcn_1034, lcn_250, lcn_144, lcn_421, lcn_460], [], [sl_908, sl_892, sl_906, sl_1033, sl_1074, sl_1081], [], (0, [])), ((nat_lit 191), [lcn_898, lcn_1034, lcn_250, lcn_144, lcn_421, lcn_460], [], [sl_926, sl_903, sl_912, sl_1035, sl_1074, sl_1082], [], (0, [])), ((nat_lit 140), [lcn_898, lcn_1021, lcn_250, lcn_144, lcn_421, lcn_1083], [], [sl_894, sl_895, sl_906, sl_1023], [], (3, [])), ((nat_lit 140), [lcn_898, lcn_1021, lcn_250, lcn_144, lcn_421, lcn_1083], [], [sl_908, sl_892, sl_906, sl_1023], [], (3, [])), ((nat_lit 140), [lcn_898, lcn_1024, lcn_250, lcn_144, lcn_421, lcn_1084], [], [sl_894, sl_895, sl_906, sl_1025], [], (3, [])), ((nat_lit 140), [lcn_898, lcn_1024, lcn_250, lcn_144, lcn_421, lcn_1084], [], [sl_908, sl_892, sl_906, sl_1025], [], (3, [])), ((nat_lit 157), [lcn_898, lcn_1026, lcn_250, lcn_144, lcn_421, lcn_1078], [], [sl_894, sl_895, sl_906, sl_1028, sl_1089], [], (2, [])), ((nat_lit 157), [lcn_898, lcn_1026, lcn_250, lcn_144, lcn_421, lcn_1078], [], [sl_908, sl_892, sl_906, sl_1028, sl_1089], [], (2, [])), ((nat_lit 157), [lcn_898, lcn_1026, lcn_250, lcn_144, lcn_421, lcn_1078], [], [sl_926, sl_903, sl_912, sl_1028, sl_1090], [], (2, [])), ((nat_lit 174), [lcn_898, lcn_1029, lcn_250, lcn_144, lcn_421, lcn_1073], [], [sl_894, sl_895, sl_906, sl_1031, sl_1085, sl_1091], [], (1, [])), ((nat_lit 174), [lcn_898, lcn_1029, lcn_250, lcn_144, lcn_421, lcn_1073], [], [sl_908, sl_892, sl_906, sl_1031, sl_1085, sl_1091], [], (1, [])), ((nat_lit 174), [lcn_898, lcn_1029, lcn_250, lcn_144, lcn_421, lcn_1073], [], [sl_926, sl_903, sl_912, sl_1031, sl_1085, sl_1092], [], (1, [])), ((nat_lit 191), [lcn_898, lcn_1032, lcn_250, lcn_144, lcn_421, lcn_456], [], [sl_894, sl_895, sl_906, sl_1031, sl_1079, sl_1087], [], (0, [])), ((nat_lit 191), [lcn_898, lcn_1032, lcn_250, lcn_144, lcn_421, lcn_456], [], [sl_908, sl_892, sl_906, sl_1031, sl_1079, sl_1087], [], (0, [])), ((nat_lit 191), [lcn_898, lcn_1032, lcn_250, lcn_144, lcn_421, lcn_456], [], [sl_926, sl_903, sl_912, sl_1033, sl_1079, sl_1088], [], (0, [])), ((nat_lit 157), [lcn_898, lcn_1021, lcn_250, lcn_144, lcn_421, lcn_1083], [], [sl_894, sl_895, sl_906, sl_1023, sl_1093], [], (2, [])), ((nat_lit 157), [lcn_898, lcn_1021, lcn_250, lcn_144, lcn_421, lcn_1083], [], [sl_908, sl_892, sl_906, sl_1023, sl_1093], [], (2, [])), ((nat_lit 157), [lcn_898, lcn_1021, lcn_250, lcn_144, lcn_421, lcn_1083], [], [sl_926, sl_903, sl_912, sl_1023, sl_1094], [], (2, [])), ((nat_lit 157), [lcn_898, lcn_1024, lcn_250, lcn_144, lcn_421, lcn_1084], [], [sl_894, sl_895, sl_906, sl_1025, sl_1095], [], (2, [])), ((nat_lit 157), [lcn_898, lcn_1024, lcn_250, lcn_144, lcn_421, lcn_1084], [], [sl_908, sl_892, sl_906, sl_1025, sl_1095], [], (2, [])), ((nat_lit 157), [lcn_898, lcn_1024, lcn_250, lcn_144, lcn_421, lcn_1084], [], [sl_926, sl_903, sl_912, sl_1025, sl_1096], [], (2, [])), ((nat_lit 174), [lcn_898, lcn_1026, lcn_250, lcn_144, lcn_421, lcn_1078], [], [sl_894, sl_895, sl_906, sl_1028, sl_1089, sl_1097], [], (1, [])), ((nat_lit 174), [lcn_898, lcn_1026, lcn_250, lcn_144, lcn_421, lcn_1078], [], [sl_908, sl_892, sl_906, sl_1028, sl_1089, sl_1097], [], (1, [])), ((nat_lit 174), [lcn_898, lcn_1026, lcn_250, lcn_144, lcn_421, lcn_1078], [], [sl_926, sl_903, sl_912, sl_1028, sl_1089, sl_1098], [], (1, [])), ((nat_lit 191), [lcn_898, lcn_1029, lcn_250, lcn_144, lcn_421, lcn_1073], [], [sl_894, sl_895, sl_906, sl_1028, sl_1085, sl_1091], [], (0, [])), ((nat_lit 191), [lcn_898, lcn_1029, lcn_250, lcn_144, lcn_421, lcn_1073], [], [sl_908, sl_892, sl_906, sl_1028, sl_1085, sl_1091], [], (0, [])), ((nat_lit 191), [lcn_898, lcn_1029, lcn_250, lcn_144, lcn_421, lcn_1073], [], [sl_926, sl_903, sl_912, sl_1031, sl_1085, sl_1092], [], (0, [])), ((nat_lit 174), [lcn_898, lcn_1021, lcn_250, lcn_144, lcn_421, lcn_1083], [], [sl_894, sl_895, sl_906, sl_1023, sl_1093, sl_1099], [], (1, [])), ((nat_lit 174), [lcn_898, lcn_1021, lcn_250, lcn_144, lcn_421, lcn_1083], [], [sl_908, sl_892, sl_906, sl_1023, sl_1093, sl_1099], [], (1, [])), ((nat_lit 174), [lcn_898, lcn_1021, lcn_250, lcn_144, lcn_421, lcn_1083], [], [sl_926, sl_903, sl_912, sl_1023, sl_1093, sl_1100], [], (1, [])), ((nat_lit 174), [lcn_898, lcn_1024, lcn_250, lcn_144, lcn_421, lcn_1084], [], [sl_894, sl_895, sl_906, sl_1025, sl_1095, sl_1101], [], (1, [])), ((nat_lit 174), [lcn_898, lcn_1024, lcn_250, lcn_144, lcn_421, lcn_1084], [], [sl_908, sl_892, sl_906, sl_1025, sl_1095, sl_1101], [], (1, [])), ((nat_lit 174), [lcn_898, lcn_1024, lcn_250, lcn_144, lcn_421, lcn_1084], [], [sl_926, sl_903, sl_912, sl_1025, sl_1095, sl_1102], [], (1, [])), ((nat_lit 191), [lcn_898, lcn_1026, lcn_250, lcn_144, lcn_421, lcn_1078], [], [sl_894, sl_895, sl_906, sl_1025, sl_1089, sl_1097], [], (0, [])), ((nat_lit 191), [lcn_898, lcn_1026, lcn_250, lcn_144, lcn_421, lcn_1078], [], [sl_908, sl_892, sl_906, sl_1025, sl_1089, sl_1097], [], (0, [])), ((nat_lit 191), [lcn_898, lcn_1026, lcn_250, lcn_144, lcn_421, lcn_1078], [], [sl_926, sl_903, sl_912, sl_1028, sl_1089, sl_1098], [], (0, [])), ((nat_lit 191), [lcn_898, lcn_1021, lcn_250, lcn_144, lcn_421, lcn_1083], [], [sl_894, sl_895, sl_906, sl_968, sl_1093, sl_1099], [], (0, [])), ((nat_lit 191), [lcn_898, lcn_1021, lcn_250, lcn_144, lcn_421, lcn_1083], [], [sl_908, sl_892, sl_906, sl_968, sl_1093, sl_1099], [], (0, [])), ((nat_lit 191), [lcn_898, lcn_1021, lcn_250, lcn_144, lcn_421, lcn_1083], [], [sl_926, sl_903, sl_912, sl_1023, sl_1093, sl_1100], [], (0, [])), ((nat_lit 191), [lcn_898, lcn_1024, lcn_250, lcn_144, lcn_421, lcn_1084], [], [sl_894, sl_895, sl_906, sl_1023, sl_1095, sl_1101], [], (0, [])), ((nat_lit 191), [lcn_898, lcn_1024, lcn_250, lcn_144, lcn_421, lcn_1084], [], [sl_908, sl_892, sl_906, sl_1023, sl_1095, sl_1101], [], (0, [])), ((nat_lit 191), [lcn_898, lcn_1024, lcn_250, lcn_144, lcn_421, lcn_1084], [], [sl_926, sl_903, sl_912, sl_1025, sl_1095, sl_1102], [], (0, []))]) (fk := [17]) (rk := (29, [])) (sp := 3138574813118855512616503269083047089411096323939509469184) (fuel := 3000) (by decide +kernel) (lk_d S_574 ml_12_161 (lk_d S_X12_next_0 ml_12_121 (lk_d S_573 ml_12_153 (lk_d S_576 ml_12_153 (lk_d S_575 ml_12_153 (lk_d S_587 ml_12_230 (lk_d S_586 ml_12_230 (lk_d S_585 ml_12_230 (lk_d S_584 ml_12_230 (lk_d S_583 ml_12_230 (lk_d S_582 ml_12_230 (lk_d S_581 ml_12_230 (lk_d S_580 ml_12_230 (lk_d S_579 ml_12_230 (lk_d S_578 ml_12_230 (lk_d S_592 ml_12_213 (lk_d S_599 ml_12_213 (lk_d S_594 ml_12_213 (lk_d S_601 ml_12_213 (lk_d S_603 ml_12_213 (lk_d S_577 ml_12_230 (lk_d S_559 ml_12_127 lk_n)))))))))))))))))))))) odX12_wayLine
def ct_605 : aCt := (mX12_islandPassed, [ag_861], ([sl_908, sl_892, sl_906], []), [pon_928], mdn_914, [], (nat_lit 3))
set_option maxRecDepth 100000 in
theorem S_605 : aSpec wd ct_605 := bChk_ok wx_ok btX12_islandPassed (nds := []) (fk := []) (rk := (1, [])) (sp := 0) (fuel := 3000) (by decide +kernel) (lk_d S_575 ml_12_153 lk_n) odX12_islandPassed
def ct_606 : aCt := (mX12_named, [ag_861, ag_170, ag_153], ([sl_908, sl_892, sl_912], []), [pon_37], mdn_872, [], (nat_lit 0))
set_option maxRecDepth 100000 in
theorem S_606 : aSpec wd ct_606 := bChk_ok wx_ok btX12_named (nds := []) (fk := []) (rk := (1, [])) (sp := 0) (fuel := 3000) (by decide +kernel) lk_n odX12_named
def ct_607 : aCt := (mX12_wayLine, [ag_861], ([sl_908, sl_892, sl_906, sl_963], []), [pon_913], mdn_914, [], (nat_lit 4))
set_option maxRecDepth 100000 in
theorem S_607 : aSpec wd ct_607 := bChk_ok wx_ok btX12_wayLine (nds := [((nat_lit 48), [lcn_898, lcn_1021, lcn_589, lcn_101, lcn_423, lcn_1022], [], [sl_908, sl_892, sl_912, sl_1023], [], (11, [(0, -1)])), ((nat_lit 48), [lcn_898, lcn_1024, lcn_589, lcn_101, lcn_423, lcn_1022], [], [sl_908, sl_892, sl_912, sl_1025], [], (11, [(0, -1)])), ((nat_lit 48), [lcn_898, lcn_1026, lcn_589, lcn_101, lcn_423, lcn_1027], [], [sl_908, sl_892, sl_912, sl_1028], [], (9, [(0, -1)])), ((nat_lit 48), [lcn_898, lcn_1029, lcn_589, lcn_101, lcn_423, lcn_1030], [], [sl_908, sl_892, sl_912, sl_1031], [], (8, [(0, -1)])), ((nat_lit 48), [lcn_898, lcn_1032, lcn_589, lcn_101, lcn_423, lcn_648], [], [sl_908, sl_892, sl_912, sl_1033], [], (7, [(0, -1)])), ((nat_lit 48), [lcn_898, lcn_1034, lcn_589, lcn_101, lcn_423, lcn_993], [], [sl_908, sl_892, sl_912, sl_1035], [], (6, [(0, -1)])), ((nat_lit 48), [lcn_898, lcn_1036, lcn_589, lcn_101, lcn_423, lcn_1037], [], [sl_908, sl_892, sl_912, sl_1038], [], (5, [(0, -1)])), ((nat_lit 48), [lcn_898, lcn_1039, lcn_589, lcn_101, lcn_423, lcn_399], [], [sl_908, sl_892, sl_912, sl_1040], [], (4, [(0, -1)])), ((nat_lit 48), [lcn_898, lcn_1041, lcn_589, lcn_101, lcn_423, lcn_1042], [], [sl_908, sl_892, sl_912, sl_1043], [], (3, [(0, -1)])), ((nat_lit 48), [lcn_898, lcn_1044, lcn_589, lcn_101, lcn_423, lcn_1045], [], [sl_908, sl_892, sl_912, sl_1046], [], (2, [(0, -1)])), ((nat_lit 48), [lcn_898, lcn_1047, lcn_589, lcn_101, lcn_423, lcn_525], [], [sl_908, sl_892, sl_912, sl_1048], [], (1, [(0, -1)])), ((nat_lit 48), [lcn_898, lcn_1049, lcn_589, lcn_101, lcn_423, lcn_472], [], [sl_908, sl_892, sl_912, sl_1050], [], (0, []))]) (fk := [17]) (rk := (12, [])) (sp := 281474976710656) (fuel := 3000) (by decide +kernel) (lk_d S_605 ml_12_161 (lk_d S_606 ml_12_153 lk_n)) odX12_wayLine
end Pk3
section Pk4
def ag_1103 : aAg := .inl [((.ofNat (nat_lit 7)), (.ofNat (nat_lit 11)), (nat_lit 1))]
def mdn_1104 : List (Nat × Nat × Nat) := [((nat_lit 196), (nat_lit 4), (nat_lit 11)), ((nat_lit 196), (nat_lit 13), (nat_lit 14)), ((nat_lit 198), (nat_lit 0), (nat_lit 8)), ((nat_lit 200), (nat_lit 190), (nat_lit 195)), ((nat_lit 200), (nat_lit 259), (nat_lit 299)), ((nat_lit 1000002), (nat_lit 0), (nat_lit 0))]
def lcn_1105 : Nat × aAg := ((nat_lit 1), .inl [((.ofNat (nat_lit 7)), (.ofNat (nat_lit 11)), (nat_lit 1))])
def ct_608 : aCt := (mX12_newName, [ag_861, ag_1103], ([sl_894, sl_895, sl_906], []), [pon_915, pon_916, pon_917], mdn_1104, [], (nat_lit 2))
set_option maxRecDepth 100000 in
theorem S_608 : aSpec wd ct_608 := bChk_ok wx_ok btX12_newName (nds := [((nat_lit 45), [lcn_898, lcn_1105, lcn_296], [], [sl_894, sl_895, sl_906], [], (8, [(1, -1)]))]) (fk := []) (rk := (9, [])) (sp := 35184372088832) (fuel := 3000) (by decide +kernel) (lk_d S_562 ml_12_143 (lk_d S_563 ml_12_146 (lk_d S_X12_next_0 ml_12_121 (lk_d S_559 ml_12_127 lk_n)))) odX12_newName
def ct_609 : aCt := (mX12_wrong, [ag_861, ag_53, ag_876], ([sl_912], []), [pon_49], mdn_872, [], (nat_lit 0))
set_option maxRecDepth 100000 in
theorem S_609 : aSpec wd ct_609 := bChk_ok wx_ok btX12_wrong (nds := []) (fk := []) (rk := (1, [])) (sp := 0) (fuel := 3000) (by decide +kernel) lk_n odX12_wrong
def ct_610 : aCt := (mX12_islandPassed, [ag_861], ([sl_894, sl_895, sl_912], []), [pon_37], mdn_872, [], (nat_lit 1))
set_option maxRecDepth 100000 in
theorem S_610 : aSpec wd ct_610 := bChk_ok wx_ok btX12_islandPassed (nds := []) (fk := []) (rk := (1, [])) (sp := 0) (fuel := 3000) (by decide +kernel) (lk_d S_576 ml_12_153 lk_n) odX12_islandPassed
set_option maxRecDepth 100000 in
theorem btX12_islandBehind : bTab oX12_islandBehind tX12_islandBehind := ⟨ofX12_islandBehind, by decide +kernel⟩
def ct_611 : aCt := (mX12_islandBehind, [ag_861, ag_905], ([sl_894, sl_895, sl_906], []), [pon_934, pon_1000, pon_1001], mdn_918, [], (nat_lit 4))
set_option maxRecDepth 100000 in
theorem S_611 : aSpec wd ct_611 := bChk_ok wx_ok btX12_islandBehind (nds := []) (fk := []) (rk := (1, [])) (sp := 0) (fuel := 3000) (by decide +kernel) (lk_d S_574 ml_12_161 (lk_d S_610 ml_12_161 (lk_d S_605 ml_12_161 (lk_d S_461 ml_12_157 lk_n)))) odX12_islandBehind
def ct_612 : aCt := (mX12_islandPassed, [ag_861], ([sl_908, sl_892, sl_912], []), [pon_37], mdn_872, [], (nat_lit 1))
set_option maxRecDepth 100000 in
theorem S_612 : aSpec wd ct_612 := bChk_ok wx_ok btX12_islandPassed (nds := []) (fk := []) (rk := (1, [])) (sp := 0) (fuel := 3000) (by decide +kernel) (lk_d S_606 ml_12_153 lk_n) odX12_islandPassed
def ct_613 : aCt := (mX12_islandBehind, [ag_861, ag_905], ([sl_908, sl_892, sl_906], []), [pon_928], mdn_914, [], (nat_lit 3))
set_option maxRecDepth 100000 in
theorem S_613 : aSpec wd ct_613 := bChk_ok wx_ok btX12_islandBehind (nds := []) (fk := []) (rk := (1, [])) (sp := 0) (fuel := 3000) (by decide +kernel) (lk_d S_612 ml_12_161 (lk_d S_484 ml_12_157 lk_n)) odX12_islandBehind
def ct_614 : aCt := (mX12_number, [ag_861, ag_170, ag_197], ([sl_894, sl_895, sl_906], []), [pon_928], mdn_914, [], (nat_lit 1))
set_option maxRecDepth 100000 in
theorem S_614 : aSpec wd ct_614 := bChk_ok wx_ok btX12_number (nds := []) (fk := []) (rk := (1, [])) (sp := 0) (fuel := 3000) (by decide +kernel) (lk_d S_460 ml_12_127 lk_n) odX12_number
def pon_1106 : aPo := (some (.inl [((.ofNat (nat_lit 0)), (.ofNat (nat_lit 0)), (nat_lit 1))]), [some [((.negSucc (nat_lit 2147483647)), (.negSucc (nat_lit 0)), (nat_lit 1)), ((.ofNat (nat_lit 100)), (.ofNat (nat_lit 2147483647)), (nat_lit 1))], none, none], [], [])
def pon_1107 : aPo := (some (.inl [((.ofNat (nat_lit 1)), (.ofNat (nat_lit 1)), (nat_lit 1))]), [some [((.ofNat (nat_lit 0)), (.ofNat (nat_lit 99)), (nat_lit 1))], none, none], [], [])
def ct_615 : aCt := (mX12_in, [ag_1, ag_170, ag_197], ([], []), [pon_1106, pon_1107], mdn_872, [], (nat_lit 0))
set_option maxRecDepth 100000 in
theorem S_615 : aSpec wd ct_615 := bChk_ok wx_ok btX12_in (nds := []) (fk := []) (rk := (1, [])) (sp := 0) (fuel := 3000) (by decide +kernel) lk_n odX12_in
def pon_1108 : aPo := (some (.inl [((.ofNat (nat_lit 0)), (.ofNat (nat_lit 99)), (nat_lit 1))]), [], [sl_908, sl_892, sl_906], [])
def pon_1109 : aPo := (some (.inl [((.ofNat (nat_lit 0)), (.ofNat (nat_lit 99)), (nat_lit 1))]), [], [sl_894, sl_895, sl_906], [])
def ct_616 : aCt := (mX12_number, [ag_861, ag_170, ag_197], ([sl_908, sl_892, sl_906], []), [pon_931, pon_1108, pon_1109], mdn_918, [], (nat_lit 2))
set_option maxRecDepth 100000 in
theorem S_616 : aSpec wd ct_616 := bChk_ok wx_ok btX12_number (nds := []) (fk := []) (rk := (1, [])) (sp := 0) (fuel := 3000) (by decide +kernel) (lk_d S_X12_next_0 ml_12_121 (lk_d S_460 ml_12_127 (lk_d S_464 ml_12_127 (lk_d S_615 ml_12_149 lk_n)))) odX12_number
def ct_617 : aCt := (mX12_number, [ag_861, ag_170, ag_197], ([sl_894, sl_895, sl_912], []), [pon_37], mdn_872, [], (nat_lit 0))
set_option maxRecDepth 100000 in
theorem S_617 : aSpec wd ct_617 := bChk_ok wx_ok btX12_number (nds := []) (fk := []) (rk := (1, [])) (sp := 0) (fuel := 3000) (by decide +kernel) lk_n odX12_number
def ct_618 : aCt := (mX12_after, [ag_861, ag_905, ag_170, ag_197], ([sl_894, sl_895, sl_906], []), [pon_934, pon_1108, pon_1109], mdn_918, [], (nat_lit 4))
set_option maxRecDepth 100000 in
theorem S_618 : aSpec wd ct_618 := bChk_ok wx_ok btX12_after (nds := []) (fk := []) (rk := (1, [])) (sp := 0) (fuel := 3000) (by decide +kernel) (lk_d S_614 ml_12_164 (lk_d S_617 ml_12_164 (lk_d S_616 ml_12_164 (lk_d S_461 ml_12_157 lk_n)))) odX12_after
def ct_619 : aCt := (mX12_number, [ag_861, ag_170, ag_197], ([sl_908, sl_892, sl_912], []), [pon_37], mdn_872, [], (nat_lit 0))
set_option maxRecDepth 100000 in
theorem S_619 : aSpec wd ct_619 := bChk_ok wx_ok btX12_number (nds := []) (fk := []) (rk := (1, [])) (sp := 0) (fuel := 3000) (by decide +kernel) lk_n odX12_number
def ct_620 : aCt := (mX12_after, [ag_861, ag_905, ag_170, ag_197], ([sl_908, sl_892, sl_906], []), [pon_928], mdn_914, [], (nat_lit 3))
set_option maxRecDepth 100000 in
theorem S_620 : aSpec wd ct_620 := bChk_ok wx_ok btX12_after (nds := []) (fk := []) (rk := (1, [])) (sp := 0) (fuel := 3000) (by decide +kernel) (lk_d S_619 ml_12_164 (lk_d S_484 ml_12_157 lk_n)) odX12_after
def ct_621 : aCt := (mX12_number, [ag_861, ag_170, ag_197], ([sl_926, sl_903, sl_912], []), [pon_37], mdn_872, [], (nat_lit 0))
set_option maxRecDepth 100000 in
theorem S_621 : aSpec wd ct_621 := bChk_ok wx_ok btX12_number (nds := []) (fk := []) (rk := (1, [])) (sp := 0) (fuel := 3000) (by decide +kernel) lk_n odX12_number
def ct_622 : aCt := (mX12_after, [ag_861, ag_905, ag_170, ag_197], ([sl_926, sl_903, sl_912], []), [pon_37], mdn_872, [], (nat_lit 1))
set_option maxRecDepth 100000 in
theorem S_622 : aSpec wd ct_622 := bChk_ok wx_ok btX12_after (nds := []) (fk := []) (rk := (1, [])) (sp := 0) (fuel := 3000) (by decide +kernel) (lk_d S_621 ml_12_164 (lk_d S_487 ml_12_157 lk_n)) odX12_after
def pon_1110 : aPo := (none, [], [sl_926, sl_903, sl_912, sl_964], [])
def sl_1111 : (Nat × Nat) × aI := (((nat_lit 200), (nat_lit 6)), [((.ofNat (nat_lit 1)), (.ofNat (nat_lit 5)), (nat_lit 1))])
def pon_1112 : aPo := (none, [], [sl_908, sl_892, sl_906, sl_1111], [])
def pon_1113 : aPo := (none, [], [sl_894, sl_895, sl_906, sl_1111], [])
def mdn_1114 : List (Nat × Nat × Nat) := [((nat_lit 196), (nat_lit 4), (nat_lit 11)), ((nat_lit 196), (nat_lit 13), (nat_lit 14)), ((nat_lit 198), (nat_lit 0), (nat_lit 8)), ((nat_lit 200), (nat_lit 6), (nat_lit 7)), ((nat_lit 200), (nat_lit 107), (nat_lit 127)), ((nat_lit 200), (nat_lit 190), (nat_lit 195)), ((nat_lit 200), (nat_lit 259), (nat_lit 299)), ((nat_lit 1000002), (nat_lit 0), (nat_lit 0))]
def lcn_1115 : Nat × aAg := ((nat_lit 1), .inl [((.ofNat (nat_lit 107)), (.ofNat (nat_lit 123)), (nat_lit 4))])
def ct_623 : aCt := (mX12_whaleLine, [ag_861], ([sl_894, sl_895, sl_906, sl_964], []), [pon_1110, pon_1112, pon_1113], mdn_1114, [], (nat_lit 5))
set_option maxRecDepth 100000 in
theorem S_623 : aSpec wd ct_623 := bChk_ok wx_ok btX12_whaleLine (nds := [((nat_lit 121), [lcn_898, lcn_1115, lcn_613], [], [sl_894, sl_895, sl_906, sl_964], [], (4, [])), ((nat_lit 121), [lcn_898, lcn_1115, lcn_613], [], [sl_908, sl_892, sl_906, sl_964], [], (4, [])), ((nat_lit 135), [lcn_898, lcn_1115, lcn_613], [], [sl_894, sl_895, sl_906, sl_964], [], (3, [])), ((nat_lit 135), [lcn_898, lcn_1115, lcn_613], [], [sl_908, sl_892, sl_906, sl_964], [], (3, [])), ((nat_lit 135), [lcn_898, lcn_1115, lcn_613], [], [sl_926, sl_903, sl_912, sl_964], [], (3, [])), ((nat_lit 152), [lcn_898, lcn_1115, lcn_613], [], [sl_894, sl_895, sl_906, sl_964], [], (2, [])), ((nat_lit 152), [lcn_898, lcn_1115, lcn_613], [], [sl_908, sl_892, sl_906, sl_964], [], (2, [])), ((nat_lit 152), [lcn_898, lcn_1115, lcn_613], [], [sl_926, sl_903, sl_912, sl_964], [], (2, [])), ((nat_lit 169), [lcn_898, lcn_1115, lcn_613], [], [sl_894, sl_895, sl_906, sl_964], [], (1, [])), ((nat_lit 169), [lcn_898, lcn_1115, lcn_613], [], [sl_908, sl_892, sl_906, sl_964], [], (1, [])), ((nat_lit 169), [lcn_898, lcn_1115, lcn_613], [], [sl_926, sl_903, sl_912, sl_964], [], (1, [])), ((nat_lit 187), [lcn_898, lcn_1115, lcn_613], [], [sl_894, sl_895, sl_906, sl_1111], [], (0, [])), ((nat_lit 187), [lcn_898, lcn_1115, lcn_613], [], [sl_908, sl_892, sl_906, sl_1111], [], (0, [])), ((nat_lit 187), [lcn_898, lcn_1115, lcn_613], [], [sl_926, sl_903, sl_912, sl_964], [], (0, []))]) (fk := []) (rk := (5, [])) (sp := 196160177525381121621787801157800225175660017409385824256) (fuel := 3000) (by decide +kernel) (lk_d S_X12_next_0 ml_12_121 (lk_d S_608 ml_12_223 (lk_d S_611 ml_12_246 (lk_d S_613 ml_12_246 (lk_d S_X12_isWord_1 ml_12_117 (lk_d S_X12_isWord_0 ml_12_117 (lk_d S_618 ml_12_213 (lk_d S_620 ml_12_213 (lk_d S_622 ml_12_213 (lk_d S_460 ml_12_127 (lk_d S_609 ml_12_127 lk_n))))))))))) odX12_whaleLine
def ct_624 : aCt := (mX12_newName, [ag_861, ag_1103], ([sl_908, sl_892, sl_906], []), [pon_913], mdn_914, [], (nat_lit 2))
set_option maxRecDepth 100000 in
theorem S_624 : aSpec wd ct_624 := bChk_ok wx_ok btX12_newName (nds := []) (fk := []) (rk := (1, [])) (sp := 0) (fuel := 3000) (by decide +kernel) (lk_d S_568 ml_12_143 lk_n) odX12_newName
def ct_625 : aCt := (mX12_whaleLine, [ag_861], ([sl_908, sl_892, sl_906, sl_964], []), [pon_913], mdn_914, [], (nat_lit 3))
set_option maxRecDepth 100000 in
theorem S_625 : aSpec wd ct_625 := bChk_ok wx_ok btX12_whaleLine (nds := []) (fk := []) (rk := (1, [])) (sp := 0) (fuel := 3000) (by decide +kernel) (lk_d S_624 ml_12_223 (lk_d S_X12_isWord_1 ml_12_117 (lk_d S_609 ml_12_127 lk_n))) odX12_whaleLine
def ag_1116 : aAg := .inl [((.ofNat (nat_lit 19)), (.ofNat (nat_lit 19)), (nat_lit 1))]
def mdn_1117 : List (Nat × Nat × Nat) := [((nat_lit 196), (nat_lit 4), (nat_lit 11)), ((nat_lit 196), (nat_lit 13), (nat_lit 14)), ((nat_lit 198), (nat_lit 0), (nat_lit 8)), ((nat_lit 200), (nat_lit 202), (nat_lit 203)), ((nat_lit 200), (nat_lit 355), (nat_lit 363)), ((nat_lit 1000002), (nat_lit 0), (nat_lit 0))]
def lcn_1118 : Nat × aAg := ((nat_lit 1), .inl [((.ofNat (nat_lit 19)), (.ofNat (nat_lit 19)), (nat_lit 1))])
def ct_626 : aCt := (mX12_newName, [ag_861, ag_1116], ([sl_894, sl_895, sl_906], []), [pon_915, pon_916, pon_917], mdn_1117, [], (nat_lit 2))
set_option maxRecDepth 100000 in
theorem S_626 : aSpec wd ct_626 := bChk_ok wx_ok btX12_newName (nds := [((nat_lit 45), [lcn_898, lcn_1118, lcn_296], [], [sl_894, sl_895, sl_906], [], (8, [(0, -1)]))]) (fk := []) (rk := (9, [])) (sp := 35184372088832) (fuel := 3000) (by decide +kernel) (lk_d S_562 ml_12_143 (lk_d S_563 ml_12_146 (lk_d S_X12_next_0 ml_12_121 (lk_d S_559 ml_12_127 lk_n)))) odX12_newName
def pon_1119 : aPo := (some (.inl [((.negSucc (nat_lit 0)), (.negSucc (nat_lit 0)), (nat_lit 1)), ((.ofNat (nat_lit 7)), (.ofNat (nat_lit 19)), (nat_lit 1))]), [], [], [])
def ct_627 : aCt := (mX12_find, [ag_861], ([sl_895, sl_948, sl_949, sl_950, sl_951, sl_952, sl_953, sl_954], []), [pon_1119], mdn_872, [], (nat_lit 0))
set_option maxRecDepth 100000 in
theorem S_627 : aSpec wd ct_627 := bChk_ok wx_ok btX12_find (nds := [((nat_lit 2), [lcn_898, lcn_175], [], [sl_895, sl_948, sl_949, sl_950, sl_951, sl_952, sl_953, sl_954], [], (167, [])), ((nat_lit 46), [lcn_898, lcn_175, lcn_589, lcn_101], [], [sl_895, sl_948, sl_949, sl_950, sl_951, sl_952, sl_953, sl_954], [], (166, [])), ((nat_lit 2), [lcn_898, lcn_202, lcn_589, lcn_101], [], [sl_895, sl_948, sl_949, sl_950, sl_951, sl_952, sl_953, sl_954], [], (165, [])), ((nat_lit 46), [lcn_898, lcn_202, lcn_589, lcn_101], [], [sl_895, sl_948, sl_949, sl_950, sl_951, sl_952, sl_953, sl_954], [], (164, [])), ((nat_lit 2), [lcn_898, lcn_167, lcn_589, lcn_101], [], [sl_895, sl_948, sl_949, sl_950, sl_951, sl_952, sl_953, sl_954], [], (163, [])), ((nat_lit 46), [lcn_898, lcn_167, lcn_589, lcn_101], [], [sl_895, sl_948, sl_949, sl_950, sl_951, sl_952, sl_953, sl_954], [], (162, [])), ((nat_lit 2), [lcn_898, lcn_976, lcn_589, lcn_101], [], [sl_895, sl_948, sl_949, sl_950, sl_951, sl_952, sl_953, sl_954], [], (161, [])), ((nat_lit 46), [lcn_898, lcn_976, lcn_589, lcn_101], [], [sl_895, sl_948, sl_949, sl_950, sl_951, sl_952, sl_953, sl_954], [], (160, [])), ((nat_lit 2), [lcn_898, lcn_977, lcn_589, lcn_101], [], [sl_895, sl_948, sl_949, sl_950, sl_951, sl_952, sl_953, sl_954], [], (159, [])), ((nat_lit 46), [lcn_898, lcn_977, lcn_589, lcn_101], [], [sl_895, sl_948, sl_949, sl_950, sl_951, sl_952, sl_953, sl_954], [], (158, [])), ((nat_lit 2), [lcn_898, lcn_978, lcn_589, lcn_101], [], [sl_895, sl_948, sl_949, sl_950, sl_951, sl_952, sl_953, sl_954], [], (157, [])), ((nat_lit 46), [lcn_898, lcn_978, lcn_589, lcn_101], [], [sl_895, sl_948, sl_949, sl_950, sl_951, sl_952, sl_953, sl_954], [], (156, [])), ((nat_lit 2), [lcn_898, lcn_979, lcn_589, lcn_101], [], [sl_895, sl_948, sl_949, sl_950, sl_951, sl_952, sl_953, sl_954], [], (155, [])), ((nat_lit 46), [lcn_898, lcn_979, lcn_589, lcn_101], [], [sl_895, sl_948, sl_949, sl_950, sl_951, sl_952, sl_953, sl_954], [], (154, [])), ((nat_lit 2), [lcn_898, lcn_980, lcn_589, lcn_408], [], [sl_895, sl_948, sl_949, sl_950, sl_951, sl_952, sl_953, sl_954], [], (230, [(0, -11)])), ((nat_lit 46), [lcn_898, lcn_981, lcn_444, lcn_408], [], [sl_895, sl_948, sl_949, sl_950, sl_951, sl_952, sl_953, sl_954], [], (229, [(0, -11), (1, -1)])), ((nat_lit 46), [lcn_898, lcn_981, lcn_589, lcn_408], [], [sl_895, sl_948, sl_949, sl_950, sl_951, sl_952, sl_953, sl_954], [], (220, [(0, -11)]))]) (fk := []) (rk := (168, [])) (sp := 70368744177668) (fuel := 3000) (by decide +kernel) lk_n odX12_find
def ag_1120 : aAg := .inl [((.negSucc (nat_lit 0)), (.negSucc (nat_lit 0)), (nat_lit 1)), ((.ofNat (nat_lit 7)), (.ofNat (nat_lit 19)), (nat_lit 1))]
def ct_628 : aCt := (mX12_in, [ag_1120, ag_170, ag_153], ([], []), [pon_996], mdn_872, [], (nat_lit 0))
set_option maxRecDepth 100000 in
theorem S_628 : aSpec wd ct_628 := bChk_ok wx_ok btX12_in (nds := []) (fk := []) (rk := (1, [])) (sp := 0) (fuel := 3000) (by decide +kernel) lk_n odX12_in
def ct_629 : aCt := (mX12_named, [ag_861, ag_170, ag_153], ([sl_894, sl_895, sl_906, sl_948, sl_949, sl_950, sl_951, sl_952, sl_953, sl_954], []), [pon_928], mdn_914, [], (nat_lit 2))
set_option maxRecDepth 100000 in
theorem S_629 : aSpec wd ct_629 := bChk_ok wx_ok btX12_named (nds := []) (fk := []) (rk := (1, [])) (sp := 0) (fuel := 3000) (by decide +kernel) (lk_d S_627 ml_12_146 (lk_d S_562 ml_12_143 (lk_d S_628 ml_12_149 (lk_d S_572 ml_12_127 lk_n)))) odX12_named
def ct_630 : aCt := (mX12_islandPassed, [ag_861], ([sl_894, sl_895, sl_906, sl_948, sl_949, sl_950, sl_951, sl_952, sl_953, sl_954], []), [pon_928], mdn_914, [], (nat_lit 3))
set_option maxRecDepth 100000 in
theorem S_630 : aSpec wd ct_630 := bChk_ok wx_ok btX12_islandPassed (nds := []) (fk := []) (rk := (1, [])) (sp := 0) (fuel := 3000) (by decide +kernel) (lk_d S_629 ml_12_153 lk_n) odX12_islandPassed
def ct_631 : aCt := (mX12_named, [ag_861, ag_170, ag_153], ([sl_908, sl_892, sl_906, sl_948, sl_949, sl_950, sl_951, sl_952, sl_953, sl_954], []), [pon_928], mdn_914, [], (nat_lit 2))
set_option maxRecDepth 100000 in
theorem S_631 : aSpec wd ct_631 := bChk_ok wx_ok btX12_named (nds := []) (fk := []) (rk := (1, [])) (sp := 0) (fuel := 3000) (by decide +kernel) (lk_d S_568 ml_12_143 lk_n) odX12_named
def ct_632 : aCt := (mX12_islandPassed, [ag_861], ([sl_908, sl_892, sl_906, sl_948, sl_949, sl_950, sl_951, sl_952, sl_953, sl_954], []), [pon_928], mdn_914, [], (nat_lit 3))
set_option maxRecDepth 100000 in
theorem S_632 : aSpec wd ct_632 := bChk_ok wx_ok btX12_islandPassed (nds := []) (fk := []) (rk := (1, [])) (sp := 0) (fuel := 3000) (by decide +kernel) (lk_d S_631 ml_12_153 lk_n) odX12_islandPassed
def ct_633 : aCt := (mX12_named, [ag_861, ag_170, ag_153], ([sl_894, sl_895, sl_912, sl_948, sl_949, sl_950, sl_951, sl_952, sl_953, sl_954], []), [pon_37], mdn_872, [], (nat_lit 0))
set_option maxRecDepth 100000 in
theorem S_633 : aSpec wd ct_633 := bChk_ok wx_ok btX12_named (nds := []) (fk := []) (rk := (1, [])) (sp := 0) (fuel := 3000) (by decide +kernel) lk_n odX12_named
def ct_634 : aCt := (mX12_islandPassed, [ag_861], ([sl_894, sl_895, sl_912, sl_948, sl_949, sl_950, sl_951, sl_952, sl_953, sl_954], []), [pon_37], mdn_872, [], (nat_lit 1))
set_option maxRecDepth 100000 in
theorem S_634 : aSpec wd ct_634 := bChk_ok wx_ok btX12_islandPassed (nds := []) (fk := []) (rk := (1, [])) (sp := 0) (fuel := 3000) (by decide +kernel) (lk_d S_633 ml_12_153 lk_n) odX12_islandPassed
def ct_635 : aCt := (mX12_islandBehind, [ag_861, ag_905], ([sl_894, sl_895, sl_906, sl_948, sl_949, sl_950, sl_951, sl_952, sl_953, sl_954], []), [pon_934], mdn_918, [], (nat_lit 4))
set_option maxRecDepth 100000 in
theorem S_635 : aSpec wd ct_635 := bChk_ok wx_ok btX12_islandBehind (nds := []) (fk := []) (rk := (1, [])) (sp := 0) (fuel := 3000) (by decide +kernel) (lk_d S_630 ml_12_161 (lk_d S_634 ml_12_161 (lk_d S_632 ml_12_161 (lk_d S_461 ml_12_157 lk_n)))) odX12_islandBehind
def ct_636 : aCt := (mX12_named, [ag_861, ag_170, ag_153], ([sl_908, sl_892, sl_912, sl_948, sl_949, sl_950, sl_951, sl_952, sl_953, sl_954], []), [pon_37], mdn_872, [], (nat_lit 0))
set_option maxRecDepth 100000 in
theorem S_636 : aSpec wd ct_636 := bChk_ok wx_ok btX12_named (nds := []) (fk := []) (rk := (1, [])) (sp := 0) (fuel := 3000) (by decide +kernel) lk_n odX12_named
def ct_637 : aCt := (mX12_islandPassed, [ag_861], ([sl_908, sl_892, sl_912, sl_948, sl_949, sl_950, sl_951, sl_952, sl_953, sl_954], []), [pon_37], mdn_872, [], (nat_lit 1))
set_option maxRecDepth 100000 in
theorem S_637 : aSpec wd ct_637 := bChk_ok wx_ok btX12_islandPassed (nds := []) (fk := []) (rk := (1, [])) (sp := 0) (fuel := 3000) (by decide +kernel) (lk_d S_636 ml_12_153 lk_n) odX12_islandPassed
def ct_638 : aCt := (mX12_islandBehind, [ag_861, ag_905], ([sl_908, sl_892, sl_906, sl_948, sl_949, sl_950, sl_951, sl_952, sl_953, sl_954], []), [pon_928], mdn_914, [], (nat_lit 3))
set_option maxRecDepth 100000 in
theorem S_638 : aSpec wd ct_638 := bChk_ok wx_ok btX12_islandBehind (nds := []) (fk := []) (rk := (1, [])) (sp := 0) (fuel := 3000) (by decide +kernel) (lk_d S_637 ml_12_161 (lk_d S_484 ml_12_157 lk_n)) odX12_islandBehind
def ct_639 : aCt := (mX12_must, [ag_861, ag_905], ([sl_894, sl_895, sl_912], []), [pon_49], mdn_872, [], (nat_lit 0))
set_option maxRecDepth 100000 in
theorem S_639 : aSpec wd ct_639 := bChk_ok wx_ok btX12_must (nds := []) (fk := []) (rk := (1, [])) (sp := 0) (fuel := 3000) (by decide +kernel) lk_n odX12_must
def ct_640 : aCt := (mX12_islandBehind, [ag_861, ag_905], ([sl_894, sl_895, sl_912, sl_948, sl_949, sl_950, sl_951, sl_952, sl_953, sl_954], []), [pon_37], mdn_872, [], (nat_lit 2))
set_option maxRecDepth 100000 in
theorem S_640 : aSpec wd ct_640 := bChk_ok wx_ok btX12_islandBehind (nds := []) (fk := []) (rk := (1, [])) (sp := 0) (fuel := 3000) (by decide +kernel) (lk_d S_634 ml_12_161 (lk_d S_639 ml_12_157 lk_n)) odX12_islandBehind
def ag_1121 : aAg := .inl [((.ofNat (nat_lit 18)), (.ofNat (nat_lit 18)), (nat_lit 1))]
def mdn_1122 : List (Nat × Nat × Nat) := [((nat_lit 196), (nat_lit 4), (nat_lit 11)), ((nat_lit 196), (nat_lit 13), (nat_lit 14)), ((nat_lit 198), (nat_lit 0), (nat_lit 8)), ((nat_lit 200), (nat_lit 201), (nat_lit 202)), ((nat_lit 200), (nat_lit 347), (nat_lit 355)), ((nat_lit 1000002), (nat_lit 0), (nat_lit 0))]
def lcn_1123 : Nat × aAg := ((nat_lit 1), .inl [((.ofNat (nat_lit 18)), (.ofNat (nat_lit 18)), (nat_lit 1))])
def ct_641 : aCt := (mX12_newName, [ag_861, ag_1121], ([sl_894, sl_895, sl_906], []), [pon_915, pon_916, pon_917], mdn_1122, [], (nat_lit 2))
set_option maxRecDepth 100000 in
theorem S_641 : aSpec wd ct_641 := bChk_ok wx_ok btX12_newName (nds := [((nat_lit 45), [lcn_898, lcn_1123, lcn_296], [], [sl_894, sl_895, sl_906], [], (8, [(0, -1)]))]) (fk := []) (rk := (9, [])) (sp := 35184372088832) (fuel := 3000) (by decide +kernel) (lk_d S_562 ml_12_143 (lk_d S_563 ml_12_146 (lk_d S_X12_next_0 ml_12_121 (lk_d S_559 ml_12_127 lk_n)))) odX12_newName
def ag_1124 : aAg := .inl [((.ofNat (nat_lit 17)), (.ofNat (nat_lit 17)), (nat_lit 1))]
def mdn_1125 : List (Nat × Nat × Nat) := [((nat_lit 196), (nat_lit 4), (nat_lit 11)), ((nat_lit 196), (nat_lit 13), (nat_lit 14)), ((nat_lit 198), (nat_lit 0), (nat_lit 8)), ((nat_lit 200), (nat_lit 200), (nat_lit 201)), ((nat_lit 200), (nat_lit 339), (nat_lit 347)), ((nat_lit 1000002), (nat_lit 0), (nat_lit 0))]
def lcn_1126 : Nat × aAg := ((nat_lit 1), .inl [((.ofNat (nat_lit 17)), (.ofNat (nat_lit 17)), (nat_lit 1))])
def ct_642 : aCt := (mX12_newName, [ag_861, ag_1124], ([sl_894, sl_895, sl_906], []), [pon_915, pon_916, pon_917], mdn_1125, [], (nat_lit 2))
set_option maxRecDepth 100000 in
theorem S_642 : aSpec wd ct_642 := bChk_ok wx_ok btX12_newName (nds := [((nat_lit 45), [lcn_898, lcn_1126, lcn_296], [], [sl_894, sl_895, sl_906], [], (8, [(0, -1)]))]) (fk := []) (rk := (9, [])) (sp := 35184372088832) (fuel := 3000) (by decide +kernel) (lk_d S_562 ml_12_143 (lk_d S_563 ml_12_146 (lk_d S_X12_next_0 ml_12_121 (lk_d S_559 ml_12_127 lk_n)))) odX12_newName
def ag_1127 : aAg := .inl [((.ofNat (nat_lit 16)), (.ofNat (nat_lit 16)), (nat_lit 1))]
def mdn_1128 : List (Nat × Nat × Nat) := [((nat_lit 196), (nat_lit 4), (nat_lit 11)), ((nat_lit 196), (nat_lit 13), (nat_lit 14)), ((nat_lit 198), (nat_lit 0), (nat_lit 8)), ((nat_lit 200), (nat_lit 199), (nat_lit 200)), ((nat_lit 200), (nat_lit 331), (nat_lit 339)), ((nat_lit 1000002), (nat_lit 0), (nat_lit 0))]
def lcn_1129 : Nat × aAg := ((nat_lit 1), .inl [((.ofNat (nat_lit 16)), (.ofNat (nat_lit 16)), (nat_lit 1))])
def ct_643 : aCt := (mX12_newName, [ag_861, ag_1127], ([sl_894, sl_895, sl_906], []), [pon_915, pon_916, pon_917], mdn_1128, [], (nat_lit 2))
set_option maxRecDepth 100000 in
theorem S_643 : aSpec wd ct_643 := bChk_ok wx_ok btX12_newName (nds := [((nat_lit 45), [lcn_898, lcn_1129, lcn_296], [], [sl_894, sl_895, sl_906], [], (8, [(0, -1)]))]) (fk := []) (rk := (9, [])) (sp := 35184372088832) (fuel := 3000) (by decide +kernel) (lk_d S_562 ml_12_143 (lk_d S_563 ml_12_146 (lk_d S_X12_next_0 ml_12_121 (lk_d S_559 ml_12_127 lk_n)))) odX12_newName
def mdn_1130 : List (Nat × Nat × Nat) := [((nat_lit 196), (nat_lit 4), (nat_lit 11)), ((nat_lit 196), (nat_lit 13), (nat_lit 14)), ((nat_lit 198), (nat_lit 0), (nat_lit 8)), ((nat_lit 200), (nat_lit 198), (nat_lit 199)), ((nat_lit 200), (nat_lit 323), (nat_lit 331)), ((nat_lit 1000002), (nat_lit 0), (nat_lit 0))]
def lcn_1131 : Nat × aAg := ((nat_lit 1), .inl [((.ofNat (nat_lit 15)), (.ofNat (nat_lit 15)), (nat_lit 1))])
def ct_644 : aCt := (mX12_newName, [ag_861, ag_252], ([sl_894, sl_895, sl_906], []), [pon_915, pon_916, pon_917], mdn_1130, [], (nat_lit 2))
set_option maxRecDepth 100000 in
theorem S_644 : aSpec wd ct_644 := bChk_ok wx_ok btX12_newName (nds := [((nat_lit 45), [lcn_898, lcn_1131, lcn_296], [], [sl_894, sl_895, sl_906], [], (8, [(0, -1)]))]) (fk := []) (rk := (9, [])) (sp := 35184372088832) (fuel := 3000) (by decide +kernel) (lk_d S_562 ml_12_143 (lk_d S_563 ml_12_146 (lk_d S_X12_next_0 ml_12_121 (lk_d S_559 ml_12_127 lk_n)))) odX12_newName
def ag_1132 : aAg := .inl [((.ofNat (nat_lit 14)), (.ofNat (nat_lit 14)), (nat_lit 1))]
def mdn_1133 : List (Nat × Nat × Nat) := [((nat_lit 196), (nat_lit 4), (nat_lit 11)), ((nat_lit 196), (nat_lit 13), (nat_lit 14)), ((nat_lit 198), (nat_lit 0), (nat_lit 8)), ((nat_lit 200), (nat_lit 197), (nat_lit 198)), ((nat_lit 200), (nat_lit 315), (nat_lit 323)), ((nat_lit 1000002), (nat_lit 0), (nat_lit 0))]
def lcn_1134 : Nat × aAg := ((nat_lit 1), .inl [((.ofNat (nat_lit 14)), (.ofNat (nat_lit 14)), (nat_lit 1))])
def ct_645 : aCt := (mX12_newName, [ag_861, ag_1132], ([sl_894, sl_895, sl_906], []), [pon_915, pon_916, pon_917], mdn_1133, [], (nat_lit 2))
set_option maxRecDepth 100000 in
theorem S_645 : aSpec wd ct_645 := bChk_ok wx_ok btX12_newName (nds := [((nat_lit 45), [lcn_898, lcn_1134, lcn_296], [], [sl_894, sl_895, sl_906], [], (8, [(0, -1)]))]) (fk := []) (rk := (9, [])) (sp := 35184372088832) (fuel := 3000) (by decide +kernel) (lk_d S_562 ml_12_143 (lk_d S_563 ml_12_146 (lk_d S_X12_next_0 ml_12_121 (lk_d S_559 ml_12_127 lk_n)))) odX12_newName
def ag_1135 : aAg := .inl [((.ofNat (nat_lit 13)), (.ofNat (nat_lit 13)), (nat_lit 1))]
def mdn_1136 : List (Nat × Nat × Nat) := [((nat_lit 196), (nat_lit 4), (nat_lit 11)), ((nat_lit 196), (nat_lit 13), (nat_lit 14)), ((nat_lit 198), (nat_lit 0), (nat_lit 8)), ((nat_lit 200), (nat_lit 196), (nat_lit 197)), ((nat_lit 200), (nat_lit 307), (nat_lit 315)), ((nat_lit 1000002), (nat_lit 0), (nat_lit 0))]
def lcn_1137 : Nat × aAg := ((nat_lit 1), .inl [((.ofNat (nat_lit 13)), (.ofNat (nat_lit 13)), (nat_lit 1))])
def ct_646 : aCt := (mX12_newName, [ag_861, ag_1135], ([sl_894, sl_895, sl_906], []), [pon_915, pon_916, pon_917], mdn_1136, [], (nat_lit 2))
set_option maxRecDepth 100000 in
theorem S_646 : aSpec wd ct_646 := bChk_ok wx_ok btX12_newName (nds := [((nat_lit 45), [lcn_898, lcn_1137, lcn_296], [], [sl_894, sl_895, sl_906], [], (8, [(0, -1)]))]) (fk := []) (rk := (9, [])) (sp := 35184372088832) (fuel := 3000) (by decide +kernel) (lk_d S_562 ml_12_143 (lk_d S_563 ml_12_146 (lk_d S_X12_next_0 ml_12_121 (lk_d S_559 ml_12_127 lk_n)))) odX12_newName
def ag_1138 : aAg := .inl [((.ofNat (nat_lit 12)), (.ofNat (nat_lit 12)), (nat_lit 1))]
def mdn_1139 : List (Nat × Nat × Nat) := [((nat_lit 196), (nat_lit 4), (nat_lit 11)), ((nat_lit 196), (nat_lit 13), (nat_lit 14)), ((nat_lit 198), (nat_lit 0), (nat_lit 8)), ((nat_lit 200), (nat_lit 195), (nat_lit 196)), ((nat_lit 200), (nat_lit 299), (nat_lit 307)), ((nat_lit 1000002), (nat_lit 0), (nat_lit 0))]
def lcn_1140 : Nat × aAg := ((nat_lit 1), .inl [((.ofNat (nat_lit 12)), (.ofNat (nat_lit 12)), (nat_lit 1))])
def ct_647 : aCt := (mX12_newName, [ag_861, ag_1138], ([sl_894, sl_895, sl_906], []), [pon_915, pon_916, pon_917], mdn_1139, [], (nat_lit 2))
set_option maxRecDepth 100000 in
theorem S_647 : aSpec wd ct_647 := bChk_ok wx_ok btX12_newName (nds := [((nat_lit 45), [lcn_898, lcn_1140, lcn_296], [], [sl_894, sl_895, sl_906], [], (8, [(0, -1)]))]) (fk := []) (rk := (9, [])) (sp := 35184372088832) (fuel := 3000) (by decide +kernel) (lk_d S_562 ml_12_143 (lk_d S_563 ml_12_146 (lk_d S_X12_next_0 ml_12_121 (lk_d S_559 ml_12_127 lk_n)))) odX12_newName
def ct_648 : aCt := (mX12_named, [ag_861, ag_170, ag_153], ([sl_926, sl_903, sl_912, sl_948, sl_949, sl_950, sl_951, sl_952, sl_953, sl_954], []), [pon_37], mdn_872, [], (nat_lit 0))
set_option maxRecDepth 100000 in
theorem S_648 : aSpec wd ct_648 := bChk_ok wx_ok btX12_named (nds := []) (fk := []) (rk := (1, [])) (sp := 0) (fuel := 3000) (by decide +kernel) lk_n odX12_named
def ct_649 : aCt := (mX12_islandPassed, [ag_861], ([sl_926, sl_903, sl_912, sl_948, sl_949, sl_950, sl_951, sl_952, sl_953, sl_954], []), [pon_37], mdn_872, [], (nat_lit 1))
set_option maxRecDepth 100000 in
theorem S_649 : aSpec wd ct_649 := bChk_ok wx_ok btX12_islandPassed (nds := []) (fk := []) (rk := (1, [])) (sp := 0) (fuel := 3000) (by decide +kernel) (lk_d S_648 ml_12_153 lk_n) odX12_islandPassed
def ct_650 : aCt := (mX12_islandBehind, [ag_861, ag_905], ([sl_926, sl_903, sl_912, sl_948, sl_949, sl_950, sl_951, sl_952, sl_953, sl_954], []), [pon_37], mdn_872, [], (nat_lit 2))
set_option maxRecDepth 100000 in
theorem S_650 : aSpec wd ct_650 := bChk_ok wx_ok btX12_islandBehind (nds := []) (fk := []) (rk := (1, [])) (sp := 0) (fuel := 3000) (by decide +kernel) (lk_d S_649 ml_12_161 (lk_d S_487 ml_12_157 lk_n)) odX12_islandBehind
def ct_651 : aCt := (mX12_number, [ag_861, ag_53, ag_197], ([sl_926, sl_903, sl_912], []), [pon_38], mdn_872, [], (nat_lit 0))
set_option maxRecDepth 100000 in
theorem S_651 : aSpec wd ct_651 := bChk_ok wx_ok btX12_number (nds := []) (fk := []) (rk := (1, [])) (sp := 0) (fuel := 3000) (by decide +kernel) lk_n odX12_number
def ct_652 : aCt := (mX12_after, [ag_861, ag_905, ag_53, ag_197], ([sl_926, sl_903, sl_912], []), [pon_38], mdn_872, [], (nat_lit 1))
set_option maxRecDepth 100000 in
theorem S_652 : aSpec wd ct_652 := bChk_ok wx_ok btX12_after (nds := []) (fk := []) (rk := (1, [])) (sp := 0) (fuel := 3000) (by decide +kernel) (lk_d S_651 ml_12_164 (lk_d S_487 ml_12_157 lk_n)) odX12_after
def ct_653 : aCt := (mX12_number, [ag_861, ag_170, ag_204], ([sl_926, sl_903, sl_912], []), [pon_37], mdn_872, [], (nat_lit 0))
set_option maxRecDepth 100000 in
theorem S_653 : aSpec wd ct_653 := bChk_ok wx_ok btX12_number (nds := []) (fk := []) (rk := (1, [])) (sp := 0) (fuel := 3000) (by decide +kernel) lk_n odX12_number
def ct_654 : aCt := (mX12_after, [ag_861, ag_905, ag_170, ag_204], ([sl_926, sl_903, sl_912], []), [pon_37], mdn_872, [], (nat_lit 1))
set_option maxRecDepth 100000 in
theorem S_654 : aSpec wd ct_654 := bChk_ok wx_ok btX12_after (nds := []) (fk := []) (rk := (1, [])) (sp := 0) (fuel := 3000) (by decide +kernel) (lk_d S_653 ml_12_164 (lk_d S_487 ml_12_157 lk_n)) odX12_after
def sl_1141 : (Nat × Nat) × aI := (((nat_lit 200), (nat_lit 7)), [((.ofNat (nat_lit 0)), (.ofNat (nat_lit 7)), (nat_lit 1))])
def pon_1142 : aPo := (none, [], [sl_926, sl_903, sl_912], [])
def mdn_1143 : List (Nat × Nat × Nat) := [((nat_lit 196), (nat_lit 4), (nat_lit 11)), ((nat_lit 196), (nat_lit 13), (nat_lit 14)), ((nat_lit 198), (nat_lit 0), (nat_lit 8)), ((nat_lit 200), (nat_lit 127), (nat_lit 159)), ((nat_lit 200), (nat_lit 195), (nat_lit 203)), ((nat_lit 200), (nat_lit 299), (nat_lit 363)), ((nat_lit 1000002), (nat_lit 0), (nat_lit 0))]
def lcn_1144 : Nat × aAg := ((nat_lit 1), .inl [((.ofNat (nat_lit 155)), (.ofNat (nat_lit 155)), (nat_lit 1))])
def sl_1145 : (Nat × Nat) × aI := (((nat_lit 200), (nat_lit 7)), [((.ofNat (nat_lit 7)), (.ofNat (nat_lit 7)), (nat_lit 1))])
def sl_1146 : (Nat × Nat) × aI := (((nat_lit 200), (nat_lit 155)), [((.ofNat (nat_lit 0)), (.ofNat (nat_lit 0)), (nat_lit 1))])
def lcn_1147 : Nat × aAg := ((nat_lit 1), .inl [((.ofNat (nat_lit 151)), (.ofNat (nat_lit 151)), (nat_lit 1))])
def sl_1148 : (Nat × Nat) × aI := (((nat_lit 200), (nat_lit 7)), [((.ofNat (nat_lit 6)), (.ofNat (nat_lit 6)), (nat_lit 1))])
def sl_1149 : (Nat × Nat) × aI := (((nat_lit 200), (nat_lit 151)), [((.ofNat (nat_lit 0)), (.ofNat (nat_lit 0)), (nat_lit 1))])
def lcn_1150 : Nat × aAg := ((nat_lit 1), .inl [((.ofNat (nat_lit 147)), (.ofNat (nat_lit 147)), (nat_lit 1))])
def sl_1151 : (Nat × Nat) × aI := (((nat_lit 200), (nat_lit 7)), [((.ofNat (nat_lit 5)), (.ofNat (nat_lit 5)), (nat_lit 1))])
def sl_1152 : (Nat × Nat) × aI := (((nat_lit 200), (nat_lit 147)), [((.ofNat (nat_lit 0)), (.ofNat (nat_lit 0)), (nat_lit 1))])
def lcn_1153 : Nat × aAg := ((nat_lit 1), .inl [((.ofNat (nat_lit 143)), (.ofNat (nat_lit 143)), (nat_lit 1))])
def sl_1154 : (Nat × Nat) × aI := (((nat_lit 200), (nat_lit 7)), [((.ofNat (nat_lit 4)), (.ofNat (nat_lit 4)), (nat_lit 1))])
def sl_1155 : (Nat × Nat) × aI := (((nat_lit 200), (nat_lit 143)), [((.ofNat (nat_lit 0)), (.ofNat (nat_lit 0)), (nat_lit 1))])
def lcn_1156 : Nat × aAg := ((nat_lit 1), .inl [((.ofNat (nat_lit 139)), (.ofNat (nat_lit 139)), (nat_lit 1))])
def sl_1157 : (Nat × Nat) × aI := (((nat_lit 200), (nat_lit 7)), [((.ofNat (nat_lit 3)), (.ofNat (nat_lit 3)), (nat_lit 1))])
def sl_1158 : (Nat × Nat) × aI := (((nat_lit 200), (nat_lit 139)), [((.ofNat (nat_lit 0)), (.ofNat (nat_lit 0)), (nat_lit 1))])
def lcn_1159 : Nat × aAg := ((nat_lit 1), .inl [((.ofNat (nat_lit 135)), (.ofNat (nat_lit 135)), (nat_lit 1))])
def sl_1160 : (Nat × Nat) × aI := (((nat_lit 200), (nat_lit 7)), [((.ofNat (nat_lit 2)), (.ofNat (nat_lit 2)), (nat_lit 1))])
def sl_1161 : (Nat × Nat) × aI := (((nat_lit 200), (nat_lit 135)), [((.ofNat (nat_lit 0)), (.ofNat (nat_lit 0)), (nat_lit 1))])
def lcn_1162 : Nat × aAg := ((nat_lit 1), .inl [((.ofNat (nat_lit 131)), (.ofNat (nat_lit 131)), (nat_lit 1))])
def sl_1163 : (Nat × Nat) × aI := (((nat_lit 200), (nat_lit 7)), [((.ofNat (nat_lit 1)), (.ofNat (nat_lit 1)), (nat_lit 1))])
def sl_1164 : (Nat × Nat) × aI := (((nat_lit 200), (nat_lit 131)), [((.ofNat (nat_lit 0)), (.ofNat (nat_lit 0)), (nat_lit 1))])
def lcn_1165 : Nat × aAg := ((nat_lit 1), .inl [((.ofNat (nat_lit 127)), (.ofNat (nat_lit 127)), (nat_lit 1))])
def sl_1166 : (Nat × Nat) × aI := (((nat_lit 200), (nat_lit 127)), [((.ofNat (nat_lit 0)), (.ofNat (nat_lit 0)), (nat_lit 1))])
def sl_1167 : (Nat × Nat) × aI := (((nat_lit 200), (nat_lit 156)), [((.ofNat (nat_lit 0)), (.ofNat (nat_lit 0)), (nat_lit 1))])
def sl_1168 : (Nat × Nat) × aI := (((nat_lit 200), (nat_lit 152)), [((.ofNat (nat_lit 0)), (.ofNat (nat_lit 0)), (nat_lit 1))])
def sl_1169 : (Nat × Nat) × aI := (((nat_lit 200), (nat_lit 148)), [((.ofNat (nat_lit 0)), (.ofNat (nat_lit 0)), (nat_lit 1))])
def sl_1170 : (Nat × Nat) × aI := (((nat_lit 200), (nat_lit 144)), [((.ofNat (nat_lit 0)), (.ofNat (nat_lit 0)), (nat_lit 1))])
def sl_1171 : (Nat × Nat) × aI := (((nat_lit 200), (nat_lit 140)), [((.ofNat (nat_lit 0)), (.ofNat (nat_lit 0)), (nat_lit 1))])
def sl_1172 : (Nat × Nat) × aI := (((nat_lit 200), (nat_lit 136)), [((.ofNat (nat_lit 0)), (.ofNat (nat_lit 0)), (nat_lit 1))])
def sl_1173 : (Nat × Nat) × aI := (((nat_lit 200), (nat_lit 132)), [((.ofNat (nat_lit 0)), (.ofNat (nat_lit 0)), (nat_lit 1))])
def sl_1174 : (Nat × Nat) × aI := (((nat_lit 200), (nat_lit 128)), [((.ofNat (nat_lit 0)), (.ofNat (nat_lit 0)), (nat_lit 1))])
def sl_1175 : (Nat × Nat) × aI := (((nat_lit 200), (nat_lit 157)), [((.ofNat (nat_lit 1)), (.ofNat (nat_lit 1)), (nat_lit 1))])
def sl_1176 : (Nat × Nat) × aI := (((nat_lit 200), (nat_lit 153)), [((.ofNat (nat_lit 1)), (.ofNat (nat_lit 1)), (nat_lit 1))])
def sl_1177 : (Nat × Nat) × aI := (((nat_lit 200), (nat_lit 149)), [((.ofNat (nat_lit 1)), (.ofNat (nat_lit 1)), (nat_lit 1))])
def sl_1178 : (Nat × Nat) × aI := (((nat_lit 200), (nat_lit 145)), [((.ofNat (nat_lit 1)), (.ofNat (nat_lit 1)), (nat_lit 1))])
def sl_1179 : (Nat × Nat) × aI := (((nat_lit 200), (nat_lit 141)), [((.ofNat (nat_lit 1)), (.ofNat (nat_lit 1)), (nat_lit 1))])
def sl_1180 : (Nat × Nat) × aI := (((nat_lit 200), (nat_lit 137)), [((.ofNat (nat_lit 1)), (.ofNat (nat_lit 1)), (nat_lit 1))])
def sl_1181 : (Nat × Nat) × aI := (((nat_lit 200), (nat_lit 133)), [((.ofNat (nat_lit 1)), (.ofNat (nat_lit 1)), (nat_lit 1))])
def sl_1182 : (Nat × Nat) × aI := (((nat_lit 200), (nat_lit 129)), [((.ofNat (nat_lit 1)), (.ofNat (nat_lit 1)), (nat_lit 1))])
def sl_1183 : (Nat × Nat) × aI := (((nat_lit 200), (nat_lit 158)), [((.ofNat (nat_lit 0)), (.ofNat (nat_lit 0)), (nat_lit 1))])
def sl_1184 : (Nat × Nat) × aI := (((nat_lit 200), (nat_lit 154)), [((.ofNat (nat_lit 0)), (.ofNat (nat_lit 0)), (nat_lit 1))])
def sl_1185 : (Nat × Nat) × aI := (((nat_lit 200), (nat_lit 150)), [((.ofNat (nat_lit 0)), (.ofNat (nat_lit 0)), (nat_lit 1))])
def sl_1186 : (Nat × Nat) × aI := (((nat_lit 200), (nat_lit 146)), [((.ofNat (nat_lit 0)), (.ofNat (nat_lit 0)), (nat_lit 1))])
def sl_1187 : (Nat × Nat) × aI := (((nat_lit 200), (nat_lit 142)), [((.ofNat (nat_lit 0)), (.ofNat (nat_lit 0)), (nat_lit 1))])
def sl_1188 : (Nat × Nat) × aI := (((nat_lit 200), (nat_lit 138)), [((.ofNat (nat_lit 0)), (.ofNat (nat_lit 0)), (nat_lit 1))])
def sl_1189 : (Nat × Nat) × aI := (((nat_lit 200), (nat_lit 134)), [((.ofNat (nat_lit 0)), (.ofNat (nat_lit 0)), (nat_lit 1))])
def sl_1190 : (Nat × Nat) × aI := (((nat_lit 200), (nat_lit 130)), [((.ofNat (nat_lit 0)), (.ofNat (nat_lit 0)), (nat_lit 1))])
def ct_655 : aCt := (mX12_boxLine, [ag_861], ([sl_894, sl_895, sl_906, sl_955, sl_945, sl_1141, sl_957, sl_948, sl_949, sl_950, sl_951, sl_952, sl_953, sl_954], []), [pon_1142], mdn_1143, [], (nat_lit 5))
set_option maxRecDepth 100000 in
theorem S_655 : aSpec wd ct_655 := bChk_ok wx_ok btX12_boxLine (nds := [((nat_lit 47), [lcn_898, lcn_1144], [], [sl_926, sl_903, sl_912, sl_955, sl_945, sl_1145, sl_957, sl_1146, sl_948, sl_949, sl_950, sl_951, sl_952, sl_953, sl_954], [], (4, [])), ((nat_lit 47), [lcn_898, lcn_1147], [], [sl_926, sl_903, sl_912, sl_955, sl_945, sl_1148, sl_957, sl_1149, sl_948, sl_949, sl_950, sl_951, sl_952, sl_953, sl_954], [], (4, [])), ((nat_lit 47), [lcn_898, lcn_1150], [], [sl_926, sl_903, sl_912, sl_955, sl_945, sl_1151, sl_957, sl_1152, sl_948, sl_949, sl_950, sl_951, sl_952, sl_953, sl_954], [], (4, [])), ((nat_lit 47), [lcn_898, lcn_1153], [], [sl_926, sl_903, sl_912, sl_955, sl_945, sl_1154, sl_957, sl_1155, sl_948, sl_949, sl_950, sl_951, sl_952, sl_953, sl_954], [], (4, [])), ((nat_lit 47), [lcn_898, lcn_1156], [], [sl_926, sl_903, sl_912, sl_955, sl_945, sl_1157, sl_957, sl_1158, sl_948, sl_949, sl_950, sl_951, sl_952, sl_953, sl_954], [], (4, [])), ((nat_lit 47), [lcn_898, lcn_1159], [], [sl_926, sl_903, sl_912, sl_955, sl_945, sl_1160, sl_957, sl_1161, sl_948, sl_949, sl_950, sl_951, sl_952, sl_953, sl_954], [], (4, [])), ((nat_lit 47), [lcn_898, lcn_1162], [], [sl_926, sl_903, sl_912, sl_955, sl_945, sl_1163, sl_957, sl_1164, sl_948, sl_949, sl_950, sl_951, sl_952, sl_953, sl_954], [], (4, [])), ((nat_lit 47), [lcn_898, lcn_1165], [], [sl_926, sl_903, sl_912, sl_955, sl_945, sl_946, sl_957, sl_1166, sl_948, sl_949, sl_950, sl_951, sl_952, sl_953, sl_954], [], (4, [])), ((nat_lit 62), [lcn_898, lcn_1144], [], [sl_926, sl_903, sl_912, sl_955, sl_945, sl_1145, sl_957, sl_1146, sl_1167, sl_948, sl_949, sl_950, sl_951, sl_952, sl_953, sl_954], [], (3, [])), ((nat_lit 62), [lcn_898, lcn_1147], [], [sl_926, sl_903, sl_912, sl_955, sl_945, sl_1148, sl_957, sl_1149, sl_1168, sl_948, sl_949, sl_950, sl_951, sl_952, sl_953, sl_954], [], (3, [])), ((nat_lit 62), [lcn_898, lcn_1150], [], [sl_926, sl_903, sl_912, sl_955, sl_945, sl_1151, sl_957, sl_1152, sl_1169, sl_948, sl_949, sl_950, sl_951, sl_952, sl_953, sl_954], [], (3, [])), ((nat_lit 62), [lcn_898, lcn_1153], [], [sl_926, sl_903, sl_912, sl_955, sl_945, sl_1154, sl_957, sl_1155, sl_1170, sl_948, sl_949, sl_950, sl_951, sl_952, sl_953, sl_954], [], (3, [])), ((nat_lit 62), [lcn_898, lcn_1156], [], [sl_926, sl_903, sl_912, sl_955, sl_945, sl_1157, sl_957, sl_1158, sl_1171, sl_948, sl_949, sl_950, sl_951, sl_952, sl_953, sl_954], [], (3, [])), ((nat_lit 62), [lcn_898, lcn_1159], [], [sl_926, sl_903, sl_912, sl_955, sl_945, sl_1160, sl_957, sl_1161, sl_1172, sl_948, sl_949, sl_950, sl_951, sl_952, sl_953, sl_954], [], (3, [])), ((nat_lit 62), [lcn_898, lcn_1162], [], [sl_926, sl_903, sl_912, sl_955, sl_945, sl_1163, sl_957, sl_1164, sl_1173, sl_948, sl_949, sl_950, sl_951, sl_952, sl_953, sl_954], [], (3, [])), ((nat_lit 62), [lcn_898, lcn_1165], [], [sl_926, sl_903, sl_912, sl_955, sl_945, sl_946, sl_957, sl_1166, sl_1174, sl_948, sl_949, sl_950, sl_951, sl_952, sl_953, sl_954], [], (3, [])), ((nat_lit 80), [lcn_898, lcn_1144], [], [sl_926, sl_903, sl_912, sl_955, sl_945, sl_1145, sl_957, sl_1146, sl_1167, sl_1175, sl_948, sl_949, sl_950, sl_951, sl_952, sl_953, sl_954], [], (2, [])), ((nat_lit 80), [lcn_898, lcn_1147], [], [sl_926, sl_903, sl_912, sl_955, sl_945, sl_1148, sl_957, sl_1149, sl_1168, sl_1176, sl_948, sl_949, sl_950, sl_951, sl_952, sl_953, sl_954], [], (2, [])), ((nat_lit 80), [lcn_898, lcn_1150], [], [sl_926, sl_903, sl_912, sl_955, sl_945, sl_1151, sl_957, sl_1152, sl_1169, sl_1177, sl_948, sl_949, sl_950, sl_951, sl_952, sl_953, sl_954], [], (2, [])), ((nat_lit 80), [lcn_898, lcn_1153], [], [sl_926, sl_903, sl_912, sl_955, sl_945, sl_1154, sl_957, sl_1155, sl_1170, sl_1178, sl_948, sl_949, sl_950, sl_951, sl_952, sl_953, sl_954], [], (2, [])), ((nat_lit 80), [lcn_898, lcn_1156], [], [sl_926, sl_903, sl_912, sl_955, sl_945, sl_1157, sl_957, sl_1158, sl_1171, sl_1179, sl_948, sl_949, sl_950, sl_951, sl_952, sl_953, sl_954], [], (2, [])), ((nat_lit 80), [lcn_898, lcn_1159], [], [sl_926, sl_903, sl_912, sl_955, sl_945, sl_1160, sl_957, sl_1161, sl_1172, sl_1180, sl_948, sl_949, sl_950, sl_951, sl_952, sl_953, sl_954], [], (2, [])), ((nat_lit 80), [lcn_898, lcn_1162], [], [sl_926, sl_903, sl_912, sl_955, sl_945, sl_1163, sl_957, sl_1164, sl_1173, sl_1181, sl_948, sl_949, sl_950, sl_951, sl_952, sl_953, sl_954], [], (2, [])), ((nat_lit 80), [lcn_898, lcn_1165], [], [sl_926, sl_903, sl_912, sl_955, sl_945, sl_946, sl_957, sl_1166, sl_1174, sl_1182, sl_948, sl_949, sl_950, sl_951, sl_952, sl_953, sl_954], [], (2, [])), ((nat_lit 99), [lcn_898, lcn_1144], [], [sl_926, sl_903, sl_912, sl_955, sl_945, sl_1145, sl_957, sl_1146, sl_1167, sl_1175, sl_1183, sl_948, sl_949, sl_950, sl_951, sl_952, sl_953, sl_954], [], (1, [])), ((nat_lit 99), [lcn_898, lcn_1147], [], [sl_926, sl_903, sl_912, sl_955, sl_945, sl_1148, sl_957, sl_1149, sl_1168, sl_1176, sl_1184, sl_948, sl_949, sl_950, sl_951, sl_952, sl_953, sl_954], [], (1, [])), ((nat_lit 99), [lcn_898, lcn_1150], [], [sl_926, sl_903, sl_912, sl_955, sl_945, sl_1151, sl_957, sl_1152, sl_1169, sl_1177, sl_1185, sl_948, sl_949, sl_950, sl_951, sl_952, sl_953, sl_954], [], (1, [])), ((nat_lit 99), [lcn_898, lcn_1153], [], [sl_926, sl_903, sl_912, sl_955, sl_945, sl_1154, sl_957, sl_1155, sl_1170, sl_1178, sl_1186, sl_948, sl_949, sl_950, sl_951, sl_952, sl_953, sl_954], [], (1, [])), ((nat_lit 99), [lcn_898, lcn_1156], [], [sl_926, sl_903, sl_912, sl_955, sl_945, sl_1157, sl_957, sl_1158, sl_1171, sl_1179, sl_1187, sl_948, sl_949, sl_950, sl_951, sl_952, sl_953, sl_954], [], (1, [])), ((nat_lit 99), [lcn_898, lcn_1159], [], [sl_926, sl_903, sl_912, sl_955, sl_945, sl_1160, sl_957, sl_1161, sl_1172, sl_1180, sl_1188, sl_948, sl_949, sl_950, sl_951, sl_952, sl_953, sl_954], [], (1, [])), ((nat_lit 99), [lcn_898, lcn_1162], [], [sl_926, sl_903, sl_912, sl_955, sl_945, sl_1163, sl_957, sl_1164, sl_1173, sl_1181, sl_1189, sl_948, sl_949, sl_950, sl_951, sl_952, sl_953, sl_954], [], (1, [])), ((nat_lit 99), [lcn_898, lcn_1165], [], [sl_926, sl_903, sl_912, sl_955, sl_945, sl_946, sl_957, sl_1166, sl_1174, sl_1182, sl_1190, sl_948, sl_949, sl_950, sl_951, sl_952, sl_953, sl_954], [], (1, [])), ((nat_lit 117), [lcn_898, lcn_1144], [], [sl_926, sl_903, sl_912, sl_955, sl_945, sl_1145, sl_957, sl_1146, sl_1167, sl_1175, sl_1183, sl_948, sl_949, sl_950, sl_951, sl_952, sl_953, sl_954], [], (0, [])), ((nat_lit 117), [lcn_898, lcn_1147], [], [sl_926, sl_903, sl_912, sl_955, sl_945, sl_1148, sl_957, sl_1149, sl_1168, sl_1176, sl_1184, sl_948, sl_949, sl_950, sl_951, sl_952, sl_953, sl_954], [], (0, [])), ((nat_lit 117), [lcn_898, lcn_1150], [], [sl_926, sl_903, sl_912, sl_955, sl_945, sl_1151, sl_957, sl_1152, sl_1169, sl_1177, sl_1185, sl_948, sl_949, sl_950, sl_951, sl_952, sl_953, sl_954], [], (0, [])), ((nat_lit 117), [lcn_898, lcn_1153], [], [sl_926, sl_903, sl_912, sl_955, sl_945, sl_1154, sl_957, sl_1155, sl_1170, sl_1178, sl_1186, sl_948, sl_949, sl_950, sl_951, sl_952, sl_953, sl_954], [], (0, [])), ((nat_lit 117), [lcn_898, lcn_1156], [], [sl_926, sl_903, sl_912, sl_955, sl_945, sl_1157, sl_957, sl_1158, sl_1171, sl_1179, sl_1187, sl_948, sl_949, sl_950, sl_951, sl_952, sl_953, sl_954], [], (0, [])), ((nat_lit 117), [lcn_898, lcn_1159], [], [sl_926, sl_903, sl_912, sl_955, sl_945, sl_1160, sl_957, sl_1161, sl_1172, sl_1180, sl_1188, sl_948, sl_949, sl_950, sl_951, sl_952, sl_953, sl_954], [], (0, [])), ((nat_lit 117), [lcn_898, lcn_1162], [], [sl_926, sl_903, sl_912, sl_955, sl_945, sl_1163, sl_957, sl_1164, sl_1173, sl_1181, sl_1189, sl_948, sl_949, sl_950, sl_951, sl_952, sl_953, sl_954], [], (0, [])), ((nat_lit 117), [lcn_898, lcn_1165], [], [sl_926, sl_903, sl_912, sl_955, sl_945, sl_946, sl_957, sl_1166, sl_1174, sl_1182, sl_1190, sl_948, sl_949, sl_950, sl_951, sl_952, sl_953, sl_954], [], (0, []))]) (fk := [18]) (rk := (5, [])) (sp := 166154133299623528659118015977095168) (fuel := 3000) (by decide +kernel) (lk_d S_626 ml_12_223 (lk_d S_641 ml_12_223 (lk_d S_642 ml_12_223 (lk_d S_643 ml_12_223 (lk_d S_644 ml_12_223 (lk_d S_645 ml_12_223 (lk_d S_646 ml_12_223 (lk_d S_647 ml_12_223 (lk_d S_635 ml_12_246 (lk_d S_640 ml_12_246 (lk_d S_638 ml_12_246 (lk_d S_650 ml_12_246 (lk_d S_652 ml_12_213 (lk_d S_654 ml_12_213 lk_n)))))))))))))) odX12_boxLine
def ct_656 : aCt := (mX12_newName, [ag_861, ag_1116], ([sl_908, sl_892, sl_906], []), [pon_913], mdn_914, [], (nat_lit 2))
set_option maxRecDepth 100000 in
theorem S_656 : aSpec wd ct_656 := bChk_ok wx_ok btX12_newName (nds := []) (fk := []) (rk := (1, [])) (sp := 0) (fuel := 3000) (by decide +kernel) (lk_d S_568 ml_12_143 lk_n) odX12_newName
def ct_657 : aCt := (mX12_islandBehind, [ag_861, ag_905], ([sl_908, sl_892, sl_912, sl_948, sl_949, sl_950, sl_951, sl_952, sl_953, sl_954], []), [pon_37], mdn_872, [], (nat_lit 2))
set_option maxRecDepth 100000 in
theorem S_657 : aSpec wd ct_657 := bChk_ok wx_ok btX12_islandBehind (nds := []) (fk := []) (rk := (1, [])) (sp := 0) (fuel := 3000) (by decide +kernel) (lk_d S_637 ml_12_161 (lk_d S_492 ml_12_157 lk_n)) odX12_islandBehind
def ct_658 : aCt := (mX12_newName, [ag_861, ag_1121], ([sl_908, sl_892, sl_906], []), [pon_913], mdn_914, [], (nat_lit 2))
set_option maxRecDepth 100000 in
theorem S_658 : aSpec wd ct_658 := bChk_ok wx_ok btX12_newName (nds := []) (fk := []) (rk := (1, [])) (sp := 0) (fuel := 3000) (by decide +kernel) (lk_d S_568 ml_12_143 lk_n) odX12_newName
def ct_659 : aCt := (mX12_newName, [ag_861, ag_1124], ([sl_908, sl_892, sl_906], []), [pon_913], mdn_914, [], (nat_lit 2))
set_option maxRecDepth 100000 in
theorem S_659 : aSpec wd ct_659 := bChk_ok wx_ok btX12_newName (nds := []) (fk := []) (rk := (1, [])) (sp := 0) (fuel := 3000) (by decide +kernel) (lk_d S_568 ml_12_143 lk_n) odX12_newName
def ct_660 : aCt := (mX12_newName, [ag_861, ag_1127], ([sl_908, sl_892, sl_906], []), [pon_913], mdn_914, [], (nat_lit 2))
set_option maxRecDepth 100000 in
theorem S_660 : aSpec wd ct_660 := bChk_ok wx_ok btX12_newName (nds := []) (fk := []) (rk := (1, [])) (sp := 0) (fuel := 3000) (by decide +kernel) (lk_d S_568 ml_12_143 lk_n) odX12_newName
def ct_661 : aCt := (mX12_newName, [ag_861, ag_252], ([sl_908, sl_892, sl_906], []), [pon_913], mdn_914, [], (nat_lit 2))
set_option maxRecDepth 100000 in
theorem S_661 : aSpec wd ct_661 := bChk_ok wx_ok btX12_newName (nds := []) (fk := []) (rk := (1, [])) (sp := 0) (fuel := 3000) (by decide +kernel) (lk_d S_568 ml_12_143 lk_n) odX12_newName
def ct_662 : aCt := (mX12_newName, [ag_861, ag_1132], ([sl_908, sl_892, sl_906], []), [pon_913], mdn_914, [], (nat_lit 2))
set_option maxRecDepth 100000 in
theorem S_662 : aSpec wd ct_662 := bChk_ok wx_ok btX12_newName (nds := []) (fk := []) (rk := (1, [])) (sp := 0) (fuel := 3000) (by decide +kernel) (lk_d S_568 ml_12_143 lk_n) odX12_newName
def ct_663 : aCt := (mX12_newName, [ag_861, ag_1135], ([sl_908, sl_892, sl_906], []), [pon_913], mdn_914, [], (nat_lit 2))
set_option maxRecDepth 100000 in
theorem S_663 : aSpec wd ct_663 := bChk_ok wx_ok btX12_newName (nds := []) (fk := []) (rk := (1, [])) (sp := 0) (fuel := 3000) (by decide +kernel) (lk_d S_568 ml_12_143 lk_n) odX12_newName
def ct_664 : aCt := (mX12_newName, [ag_861, ag_1138], ([sl_908, sl_892, sl_906], []), [pon_913], mdn_914, [], (nat_lit 2))
set_option maxRecDepth 100000 in
theorem S_664 : aSpec wd ct_664 := bChk_ok wx_ok btX12_newName (nds := []) (fk := []) (rk := (1, [])) (sp := 0) (fuel := 3000) (by decide +kernel) (lk_d S_568 ml_12_143 lk_n) odX12_newName
def ct_665 : aCt := (mX12_after, [ag_861, ag_905, ag_53, ag_197], ([sl_908, sl_892, sl_912], []), [pon_38], mdn_872, [], (nat_lit 1))
set_option maxRecDepth 100000 in
theorem S_665 : aSpec wd ct_665 := bChk_ok wx_ok btX12_after (nds := []) (fk := []) (rk := (1, [])) (sp := 0) (fuel := 3000) (by decide +kernel) (lk_d S_593 ml_12_164 (lk_d S_492 ml_12_157 lk_n)) odX12_after
def ct_666 : aCt := (mX12_number, [ag_861, ag_170, ag_204], ([sl_908, sl_892, sl_912], []), [pon_37], mdn_872, [], (nat_lit 0))
set_option maxRecDepth 100000 in
theorem S_666 : aSpec wd ct_666 := bChk_ok wx_ok btX12_number (nds := []) (fk := []) (rk := (1, [])) (sp := 0) (fuel := 3000) (by decide +kernel) lk_n odX12_number
def ct_667 : aCt := (mX12_after, [ag_861, ag_905, ag_170, ag_204], ([sl_908, sl_892, sl_912], []), [pon_37], mdn_872, [], (nat_lit 1))
set_option maxRecDepth 100000 in
theorem S_667 : aSpec wd ct_667 := bChk_ok wx_ok btX12_after (nds := []) (fk := []) (rk := (1, [])) (sp := 0) (fuel := 3000) (by decide +kernel) (lk_d S_666 ml_12_164 (lk_d S_492 ml_12_157 lk_n)) odX12_after
def mdn_1191 : List (Nat × Nat × Nat) := [((nat_lit 196), (nat_lit 9), (nat_lit 11)), ((nat_lit 196), (nat_lit 13), (nat_lit 14)), ((nat_lit 200), (nat_lit 127), (nat_lit 159)), ((nat_lit 1000002), (nat_lit 0), (nat_lit 0))]
def ct_668 : aCt := (mX12_boxLine, [ag_861], ([sl_908, sl_892, sl_906, sl_955, sl_945, sl_1141, sl_957, sl_948, sl_949, sl_950, sl_951, sl_952, sl_953, sl_954], []), [pon_913], mdn_1191, [], (nat_lit 3))
set_option maxRecDepth 100000 in
theorem S_668 : aSpec wd ct_668 := bChk_ok wx_ok btX12_boxLine (nds := [((nat_lit 47), [lcn_898, lcn_1144], [], [sl_908, sl_892, sl_912, sl_955, sl_945, sl_1145, sl_957, sl_1146, sl_948, sl_949, sl_950, sl_951, sl_952, sl_953, sl_954], [], (4, [])), ((nat_lit 47), [lcn_898, lcn_1147], [], [sl_908, sl_892, sl_912, sl_955, sl_945, sl_1148, sl_957, sl_1149, sl_948, sl_949, sl_950, sl_951, sl_952, sl_953, sl_954], [], (4, [])), ((nat_lit 47), [lcn_898, lcn_1150], [], [sl_908, sl_892, sl_912, sl_955, sl_945, sl_1151, sl_957, sl_1152, sl_948, sl_949, sl_950, sl_951, sl_952, sl_953, sl_954], [], (4, [])), ((nat_lit 47), [lcn_898, lcn_1153], [], [sl_908, sl_892, sl_912, sl_955, sl_945, sl_1154, sl_957, sl_1155, sl_948, sl_949, sl_950, sl_951, sl_952, sl_953, sl_954], [], (4, [])), ((nat_lit 47), [lcn_898, lcn_1156], [], [sl_908, sl_892, sl_912, sl_955, sl_945, sl_1157, sl_957, sl_1158, sl_948, sl_949, sl_950, sl_951, sl_952, sl_953, sl_954], [], (4, [])), ((nat_lit 47), [lcn_898, lcn_1159], [], [sl_908, sl_892, sl_912, sl_955, sl_945, sl_1160, sl_957, sl_1161, sl_948, sl_949, sl_950, sl_951, sl_952, sl_953, sl_954], [], (4, [])), ((nat_lit 47), [lcn_898, lcn_1162], [], [sl_908, sl_892, sl_912, sl_955, sl_945, sl_1163, sl_957, sl_1164, sl_948, sl_949, sl_950, sl_951, sl_952, sl_953, sl_954], [], (4, [])), ((nat_lit 47), [lcn_898, lcn_1165], [], [sl_908, sl_892, sl_912, sl_955, sl_945, sl_946, sl_957, sl_1166, sl_948, sl_949, sl_950, sl_951, sl_952, sl_953, sl_954], [], (4, [])), ((nat_lit 62), [lcn_898, lcn_1144], [], [sl_908, sl_892, sl_912, sl_955, sl_945, sl_1145, sl_957, sl_1146, sl_1167, sl_948, sl_949, sl_950, sl_951, sl_952, sl_953, sl_954], [], (3, [])), ((nat_lit 62), [lcn_898, lcn_1147], [], [sl_908, sl_892, sl_912, sl_955, sl_945, sl_1148, sl_957, sl_1149, sl_1168, sl_948, sl_949, sl_950, sl_951, sl_952, sl_953, sl_954], [], (3, [])), ((nat_lit 62), [lcn_898, lcn_1150], [], [sl_908, sl_892, sl_912, sl_955, sl_945, sl_1151, sl_957, sl_1152, sl_1169, sl_948, sl_949, sl_950, sl_951, sl_952, sl_953, sl_954], [], (3, [])), ((nat_lit 62), [lcn_898, lcn_1153], [], [sl_908, sl_892, sl_912, sl_955, sl_945, sl_1154, sl_957, sl_1155, sl_1170, sl_948, sl_949, sl_950, sl_951, sl_952, sl_953, sl_954], [], (3, [])), ((nat_lit 62), [lcn_898, lcn_1156], [], [sl_908, sl_892, sl_912, sl_955, sl_945, sl_1157, sl_957, sl_1158, sl_1171, sl_948, sl_949, sl_950, sl_951, sl_952, sl_953, sl_954], [], (3, [])), ((nat_lit 62), [lcn_898, lcn_1159], [], [sl_908, sl_892, sl_912, sl_955, sl_945, sl_1160, sl_957, sl_1161, sl_1172, sl_948, sl_949, sl_950, sl_951, sl_952, sl_953, sl_954], [], (3, [])), ((nat_lit 62), [lcn_898, lcn_1162], [], [sl_908, sl_892, sl_912, sl_955, sl_945, sl_1163, sl_957, sl_1164, sl_1173, sl_948, sl_949, sl_950, sl_951, sl_952, sl_953, sl_954], [], (3, [])), ((nat_lit 62), [lcn_898, lcn_1165], [], [sl_908, sl_892, sl_912, sl_955, sl_945, sl_946, sl_957, sl_1166, sl_1174, sl_948, sl_949, sl_950, sl_951, sl_952, sl_953, sl_954], [], (3, [])), ((nat_lit 80), [lcn_898, lcn_1144], [], [sl_908, sl_892, sl_912, sl_955, sl_945, sl_1145, sl_957, sl_1146, sl_1167, sl_1175, sl_948, sl_949, sl_950, sl_951, sl_952, sl_953, sl_954], [], (2, [])), ((nat_lit 80), [lcn_898, lcn_1147], [], [sl_908, sl_892, sl_912, sl_955, sl_945, sl_1148, sl_957, sl_1149, sl_1168, sl_1176, sl_948, sl_949, sl_950, sl_951, sl_952, sl_953, sl_954], [], (2, [])), ((nat_lit 80), [lcn_898, lcn_1150], [], [sl_908, sl_892, sl_912, sl_955, sl_945, sl_1151, sl_957, sl_1152, sl_1169, sl_1177, sl_948, sl_949, sl_950, sl_951, sl_952, sl_953, sl_954], [], (2, [])), ((nat_lit 80), [lcn_898, lcn_1153], [], [sl_908, sl_892, sl_912, sl_955, sl_945, sl_1154, sl_957, sl_1155, sl_1170, sl_1178, sl_948, sl_949, sl_950, sl_951, sl_952, sl_953, sl_954], [], (2, [])), ((nat_lit 80), [lcn_898, lcn_1156], [], [sl_908, sl_892, sl_912, sl_955, sl_945, sl_1157, sl_957, sl_1158, sl_1171, sl_1179, sl_948, sl_949, sl_950, sl_951, sl_952, sl_953, sl_954], [], (2, [])), ((nat_lit 80), [lcn_898, lcn_1159], [], [sl_908, sl_892, sl_912, sl_955, sl_945, sl_1160, sl_957, sl_1161, sl_1172, sl_1180, sl_948, sl_949, sl_950, sl_951, sl_952, sl_953, sl_954], [], (2, [])), ((nat_lit 80), [lcn_898, lcn_1162], [], [sl_908, sl_892, sl_912, sl_955, sl_945, sl_1163, sl_957, sl_1164, sl_1173, sl_1181, sl_948, sl_949, sl_950, sl_951, sl_952, sl_953, sl_954], [], (2, [])), ((nat_lit 80), [lcn_898, lcn_1165], [], [sl_908, sl_892, sl_912, sl_955, sl_945, sl_946, sl_957, sl_1166, sl_1174, sl_1182, sl_948, sl_949, sl_950, sl_951, sl_952, sl_953, sl_954], [], (2, [])), ((nat_lit 99), [lcn_898, lcn_1144], [], [sl_908, sl_892, sl_912, sl_955, sl_945, sl_1145, sl_957, sl_1146, sl_1167, sl_1175, sl_1183, sl_948, sl_949, sl_950, sl_951, sl_952, sl_953, sl_954], [], (1, [])), ((nat_lit 99), [lcn_898, lcn_1147], [], [sl_908, sl_892, sl_912, sl_955, sl_945, sl_1148, sl_957, sl_1149, sl_1168, sl_1176, sl_1184, sl_948, sl_949, sl_950, sl_951, sl_952, sl_953, sl_954], [], (1, [])), ((nat_lit 99), [lcn_898, lcn_1150], [], [sl_908, sl_892, sl_912, sl_955, sl_945, sl_1151, sl_957, sl_1152, sl_1169, sl_1177, sl_1185, sl_948, sl_949, sl_950, sl_951, sl_952, sl_953, sl_954], [], (1, [])), ((nat_lit 99), [lcn_898, lcn_1153], [], [sl_908, sl_892, sl_912, sl_955, sl_945, sl_1154, sl_957, sl_1155, sl_1170, sl_1178, sl_1186, sl_948, sl_949, sl_950, sl_951, sl_952, sl_953, sl_954], [], (1, [])), ((nat_lit 99), [lcn_898, lcn_1156], [], [sl_908, sl_892, sl_912, sl_955, sl_945, sl_1157, sl_957, sl_1158, sl_1171, sl_1179, sl_1187, sl_948, sl_949, sl_950, sl_951, sl_952, sl_953, sl_954], [], (1, [])), ((nat_lit 99), [lcn_898, lcn_1159], [], [sl_908, sl_892, sl_912, sl_955, sl_945, sl_1160, sl_957, sl_1161, sl_1172, sl_1180, sl_1188, sl_948, sl_949, sl_950, sl_951, sl_952, sl_953, sl_954], [], (1, [])), ((nat_lit 99), [lcn_898, lcn_1162], [], [sl_908, sl_892, sl_912, sl_955, sl_945, sl_1163, sl_957, sl_1164, sl_1173, sl_1181, sl_1189, sl_948, sl_949, sl_950, sl_951, sl_952, sl_953, sl_954], [], (1, [])), ((nat_lit 99), [lcn_898, lcn_1165], [], [sl_908, sl_892, sl_912, sl_955, sl_945, sl_946, sl_957, sl_1166, sl_1174, sl_1182, sl_1190, sl_948, sl_949, sl_950, sl_951, sl_952, sl_953, sl_954], [], (1, [])), ((nat_lit 117), [lcn_898, lcn_1144], [], [sl_908, sl_892, sl_912, sl_955, sl_945, sl_1145, sl_957, sl_1146, sl_1167, sl_1175, sl_1183, sl_948, sl_949, sl_950, sl_951, sl_952, sl_953, sl_954], [], (0, [])), ((nat_lit 117), [lcn_898, lcn_1147], [], [sl_908, sl_892, sl_912, sl_955, sl_945, sl_1148, sl_957, sl_1149, sl_1168, sl_1176, sl_1184, sl_948, sl_949, sl_950, sl_951, sl_952, sl_953, sl_954], [], (0, [])), ((nat_lit 117), [lcn_898, lcn_1150], [], [sl_908, sl_892, sl_912, sl_955, sl_945, sl_1151, sl_957, sl_1152, sl_1169, sl_1177, sl_1185, sl_948, sl_949, sl_950, sl_951, sl_952, sl_953, sl_954], [], (0, [])), ((nat_lit 117), [lcn_898, lcn_1153], [], [sl_908, sl_892, sl_912, sl_955, sl_945, sl_1154, sl_957, sl_1155, sl_1170, sl_1178, sl_1186, sl_948, sl_949, sl_950, sl_951, sl_952, sl_953, sl_954], [], (0, [])), ((nat_lit 117), [lcn_898, lcn_1156], [], [sl_908, sl_892, sl_912, sl_955, sl_945, sl_1157, sl_957, sl_1158, sl_1171, sl_1179, sl_1187, sl_948, sl_949, sl_950, sl_951, sl_952, sl_953, sl_954], [], (0, [])), ((nat_lit 117), [lcn_898, lcn_1159], [], [sl_908, sl_892, sl_912, sl_955, sl_945, sl_1160, sl_957, sl_1161, sl_1172, sl_1180, sl_1188, sl_948, sl_949, sl_950, sl_951, sl_952, sl_953, sl_954], [], (0, [])), ((nat_lit 117), [lcn_898, lcn_1162], [], [sl_908, sl_892, sl_912, sl_955, sl_945, sl_1163, sl_957, sl_1164, sl_1173, sl_1181, sl_1189, sl_948, sl_949, sl_950, sl_951, sl_952, sl_953, sl_954], [], (0, [])), ((nat_lit 117), [lcn_898, lcn_1165], [], [sl_908, sl_892, sl_912, sl_955, sl_945, sl_946, sl_957, sl_1166, sl_1174, sl_1182, sl_1190, sl_948, sl_949, sl_950, sl_951, sl_952, sl_953, sl_954], [], (0, []))]) (fk := [18]) (rk := (5, [])) (sp := 166154133299623528659118015977095168) (fuel := 3000) (by decide +kernel) (lk_d S_656 ml_12_223 (lk_d S_658 ml_12_223 (lk_d S_659 ml_12_223 (lk_d S_660 ml_12_223 (lk_d S_661 ml_12_223 (lk_d S_662 ml_12_223 (lk_d S_663 ml_12_223 (lk_d S_664 ml_12_223 (lk_d S_657 ml_12_246 (lk_d S_665 ml_12_213 (lk_d S_667 ml_12_213 lk_n))))))))))) odX12_boxLine
def ag_1192 : aAg := .inl [((.ofNat (nat_lit 11)), (.ofNat (nat_lit 11)), (nat_lit 1))]
def pon_1193 : aPo := (some (.inl [((.ofNat (nat_lit 0)), (.ofNat (nat_lit 0)), (nat_lit 1))]), [some [((.negSucc (nat_lit 0)), (.ofNat (nat_lit 6)), (nat_lit 1)), ((.ofNat (nat_lit 12)), (.ofNat (nat_lit 19)), (nat_lit 1))], none, none], [], [])
def pon_1194 : aPo := (some (.inl [((.ofNat (nat_lit 1)), (.ofNat (nat_lit 1)), (nat_lit 1))]), [some [((.ofNat (nat_lit 7)), (.ofNat (nat_lit 11)), (nat_lit 1))], none, none], [], [])
def ct_669 : aCt := (mX12_in, [ag_995, ag_133, ag_1192], ([], []), [pon_1193, pon_1194], mdn_872, [], (nat_lit 0))
set_option maxRecDepth 100000 in
theorem S_669 : aSpec wd ct_669 := bChk_ok wx_ok btX12_in (nds := []) (fk := []) (rk := (1, [])) (sp := 0) (fuel := 3000) (by decide +kernel) lk_n odX12_in
def pon_1195 : aPo := (some (.inl [((.ofNat (nat_lit 0)), (.ofNat (nat_lit 4)), (nat_lit 1))]), [], [sl_906], [])
def ct_670 : aCt := (mX12_named, [ag_861, ag_133, ag_1192], ([sl_894, sl_895, sl_906], []), [pon_928, pon_1195], mdn_914, [], (nat_lit 2))
set_option maxRecDepth 100000 in
theorem S_670 : aSpec wd ct_670 := bChk_ok wx_ok btX12_named (nds := []) (fk := []) (rk := (1, [])) (sp := 0) (fuel := 3000) (by decide +kernel) (lk_d S_562 ml_12_143 (lk_d S_563 ml_12_146 (lk_d S_669 ml_12_149 (lk_d S_572 ml_12_127 lk_n)))) odX12_named
def ct_671 : aCt := (mX12_mustName, [ag_861], ([sl_891, sl_892, sl_906], []), [pon_913], mdn_914, [], (nat_lit 1))
set_option maxRecDepth 100000 in
theorem S_671 : aSpec wd ct_671 := bChk_ok wx_ok btX12_mustName (nds := []) (fk := []) (rk := (1, [])) (sp := 0) (fuel := 3000) (by decide +kernel) (lk_d S_460 ml_12_127 lk_n) odX12_mustName
def ct_672 : aCt := (mX12_named, [ag_861, ag_170, ag_153], ([sl_891, sl_892, sl_906], []), [pon_928], mdn_914, [], (nat_lit 2))
set_option maxRecDepth 100000 in
theorem S_672 : aSpec wd ct_672 := bChk_ok wx_ok btX12_named (nds := []) (fk := []) (rk := (1, [])) (sp := 0) (fuel := 3000) (by decide +kernel) (lk_d S_671 ml_12_143 lk_n) odX12_named
def ct_673 : aCt := (mX12_islandPassed, [ag_861], ([sl_891, sl_892, sl_906], []), [pon_928], mdn_914, [], (nat_lit 3))
set_option maxRecDepth 100000 in
theorem S_673 : aSpec wd ct_673 := bChk_ok wx_ok btX12_islandPassed (nds := []) (fk := []) (rk := (1, [])) (sp := 0) (fuel := 3000) (by decide +kernel) (lk_d S_672 ml_12_153 lk_n) odX12_islandPassed
def ct_674 : aCt := (mX12_mustName, [ag_861], ([sl_889, sl_887, sl_906], []), [pon_913], mdn_914, [], (nat_lit 1))
set_option maxRecDepth 100000 in
theorem S_674 : aSpec wd ct_674 := bChk_ok wx_ok btX12_mustName (nds := []) (fk := []) (rk := (1, [])) (sp := 0) (fuel := 3000) (by decide +kernel) (lk_d S_460 ml_12_127 lk_n) odX12_mustName
def ct_675 : aCt := (mX12_named, [ag_861, ag_170, ag_153], ([sl_889, sl_887, sl_906], []), [pon_928], mdn_914, [], (nat_lit 2))
set_option maxRecDepth 100000 in
theorem S_675 : aSpec wd ct_675 := bChk_ok wx_ok btX12_named (nds := []) (fk := []) (rk := (1, [])) (sp := 0) (fuel := 3000) (by decide +kernel) (lk_d S_674 ml_12_143 lk_n) odX12_named
def ct_676 : aCt := (mX12_islandPassed, [ag_861], ([sl_889, sl_887, sl_906], []), [pon_928], mdn_914, [], (nat_lit 3))
set_option maxRecDepth 100000 in
theorem S_676 : aSpec wd ct_676 := bChk_ok wx_ok btX12_islandPassed (nds := []) (fk := []) (rk := (1, [])) (sp := 0) (fuel := 3000) (by decide +kernel) (lk_d S_675 ml_12_153 lk_n) odX12_islandPassed
def ct_677 : aCt := (mX12_mustName, [ag_861], ([sl_886, sl_887, sl_906], []), [pon_913], mdn_914, [], (nat_lit 1))
set_option maxRecDepth 100000 in
theorem S_677 : aSpec wd ct_677 := bChk_ok wx_ok btX12_mustName (nds := []) (fk := []) (rk := (1, [])) (sp := 0) (fuel := 3000) (by decide +kernel) (lk_d S_460 ml_12_127 lk_n) odX12_mustName
def ct_678 : aCt := (mX12_named, [ag_861, ag_170, ag_153], ([sl_886, sl_887, sl_906], []), [pon_928], mdn_914, [], (nat_lit 2))
set_option maxRecDepth 100000 in
theorem S_678 : aSpec wd ct_678 := bChk_ok wx_ok btX12_named (nds := []) (fk := []) (rk := (1, [])) (sp := 0) (fuel := 3000) (by decide +kernel) (lk_d S_677 ml_12_143 lk_n) odX12_named
def ct_679 : aCt := (mX12_islandPassed, [ag_861], ([sl_886, sl_887, sl_906], []), [pon_928], mdn_914, [], (nat_lit 3))
set_option maxRecDepth 100000 in
theorem S_679 : aSpec wd ct_679 := bChk_ok wx_ok btX12_islandPassed (nds := []) (fk := []) (rk := (1, [])) (sp := 0) (fuel := 3000) (by decide +kernel) (lk_d S_678 ml_12_153 lk_n) odX12_islandPassed
def pon_1196 : aPo := (some (.inl [((.ofNat (nat_lit 0)), (.ofNat (nat_lit 0)), (nat_lit 1))]), [], [sl_926, sl_903], [])
def ct_680 : aCt := (mX12_takesWord, [ag_861, ag_905], ([sl_926, sl_903, sl_906], []), [pon_1196, pon_909, pon_910], mdn_911, [], (nat_lit 2))
set_option maxRecDepth 100000 in
theorem S_680 : aSpec wd ct_680 := bChk_ok wx_ok btX12_takesWord (nds := []) (fk := []) (rk := (1, [])) (sp := 0) (fuel := 3000) (by decide +kernel) (lk_d S_X12_next_0 ml_12_121 (lk_d S_X12_isWord_0 ml_12_117 lk_n)) odX12_takesWord
def ct_681 : aCt := (mX12_must, [ag_861, ag_905], ([sl_926, sl_903], []), [pon_1142, pon_916, pon_917], mdn_918, [], (nat_lit 3))
set_option maxRecDepth 100000 in
theorem S_681 : aSpec wd ct_681 := bChk_ok wx_ok btX12_must (nds := []) (fk := []) (rk := (1, [])) (sp := 0) (fuel := 3000) (by decide +kernel) (lk_d S_680 ml_12_124 (lk_d S_460 ml_12_127 lk_n)) odX12_must
def pon_1197 : aPo := (some (.inl aTop), [], [sl_912], [])
def ct_682 : aCt := (mX12_number, [ag_861, ag_1, ag_204], ([sl_894, sl_895, sl_906], []), [pon_1197], mdn_914, [], (nat_lit 1))
set_option maxRecDepth 100000 in
theorem S_682 : aSpec wd ct_682 := bChk_ok wx_ok btX12_number (nds := []) (fk := []) (rk := (1, [])) (sp := 0) (fuel := 3000) (by decide +kernel) (lk_d S_460 ml_12_127 lk_n) odX12_number
def pon_1198 : aPo := (some (.inl [((.ofNat (nat_lit 0)), (.ofNat (nat_lit 0)), (nat_lit 1))]), [some aTop, none, none], [], [])
def pon_1199 : aPo := (some (.inl [((.ofNat (nat_lit 1)), (.ofNat (nat_lit 1)), (nat_lit 1))]), [some [((.negSucc (nat_lit 2147483647)), (.ofNat (nat_lit 9999)), (nat_lit 1))], none, none], [], [])
def ct_683 : aCt := (mX12_in, [ag_1, ag_1, ag_204], ([], []), [pon_1198, pon_1199], mdn_872, [], (nat_lit 0))
set_option maxRecDepth 100000 in
theorem S_683 : aSpec wd ct_683 := bChk_ok wx_ok btX12_in (nds := []) (fk := []) (rk := (1, [])) (sp := 0) (fuel := 3000) (by decide +kernel) lk_n odX12_in
def pon_1200 : aPo := (some (.inl aTop), [], [sl_908, sl_892, sl_912], [])
def pon_1201 : aPo := (some (.inl [((.negSucc (nat_lit 2147483647)), (.ofNat (nat_lit 9999)), (nat_lit 1))]), [], [sl_908, sl_892, sl_906], [])
def pon_1202 : aPo := (some (.inl [((.negSucc (nat_lit 2147483647)), (.ofNat (nat_lit 9999)), (nat_lit 1))]), [], [sl_894, sl_895, sl_906], [])
def ct_684 : aCt := (mX12_number, [ag_861, ag_1, ag_204], ([sl_908, sl_892, sl_906], []), [pon_1200, pon_1201, pon_1202], mdn_918, [], (nat_lit 2))
set_option maxRecDepth 100000 in
theorem S_684 : aSpec wd ct_684 := bChk_ok wx_ok btX12_number (nds := []) (fk := []) (rk := (1, [])) (sp := 0) (fuel := 3000) (by decide +kernel) (lk_d S_X12_next_0 ml_12_121 (lk_d S_460 ml_12_127 (lk_d S_464 ml_12_127 (lk_d S_683 ml_12_149 lk_n)))) odX12_number
def ct_685 : aCt := (mX12_number, [ag_861, ag_1, ag_204], ([sl_926, sl_903, sl_912], []), [pon_130], mdn_872, [], (nat_lit 0))
set_option maxRecDepth 100000 in
theorem S_685 : aSpec wd ct_685 := bChk_ok wx_ok btX12_number (nds := []) (fk := []) (rk := (1, [])) (sp := 0) (fuel := 3000) (by decide +kernel) lk_n odX12_number
def pon_1203 : aPo := (some (.inl aTop), [], [sl_926, sl_903, sl_912], [])
def ct_686 : aCt := (mX12_after, [ag_861, ag_905, ag_1, ag_204], ([sl_926, sl_903], []), [pon_1203, pon_1201, pon_1202], mdn_918, [], (nat_lit 4))
set_option maxRecDepth 100000 in
theorem S_686 : aSpec wd ct_686 := bChk_ok wx_ok btX12_after (nds := []) (fk := []) (rk := (1, [])) (sp := 0) (fuel := 3000) (by decide +kernel) (lk_d S_681 ml_12_157 (lk_d S_682 ml_12_164 (lk_d S_684 ml_12_164 (lk_d S_685 ml_12_164 lk_n)))) odX12_after
def pon_1204 : aPo := (none, [], [sl_926, sl_903, sl_912, sl_965], [])
def sl_1205 : (Nat × Nat) × aI := (((nat_lit 200), (nat_lit 8)), [((.ofNat (nat_lit 1)), (.ofNat (nat_lit 8)), (nat_lit 1))])
def pon_1206 : aPo := (none, [], [sl_908, sl_892, sl_906, sl_1205], [])
def pon_1207 : aPo := (none, [], [sl_894, sl_895, sl_906, sl_1205], [])
def mdn_1208 : List (Nat × Nat × Nat) := [((nat_lit 196), (nat_lit 4), (nat_lit 11)), ((nat_lit 196), (nat_lit 13), (nat_lit 14)), ((nat_lit 198), (nat_lit 0), (nat_lit 8)), ((nat_lit 200), (nat_lit 8), (nat_lit 9)), ((nat_lit 200), (nat_lit 159), (nat_lit 183)), ((nat_lit 1000002), (nat_lit 0), (nat_lit 0))]
def lcn_1209 : Nat × aAg := ((nat_lit 1), .inl [((.ofNat (nat_lit 159)), (.ofNat (nat_lit 180)), (nat_lit 3))])
def lcn_1210 : Nat × aAg := ((nat_lit 5), .inl [((.negSucc (nat_lit 2147483647)), (.ofNat (nat_lit 9999)), (nat_lit 1))])
def ct_687 : aCt := (mX12_spoutLine, [ag_861], ([sl_894, sl_895, sl_906, sl_965], []), [pon_1204, pon_1206, pon_1207], mdn_1208, [], (nat_lit 5))
set_option maxRecDepth 100000 in
theorem S_687 : aSpec wd ct_687 := bChk_ok wx_ok btX12_spoutLine (nds := [((nat_lit 53), [lcn_898, lcn_1209, lcn_612, lcn_144, lcn_351, lcn_648], [], [sl_926, sl_903, sl_965], [], (11, [(4, -1)])), ((nat_lit 136), [lcn_898, lcn_1209, lcn_612, lcn_144, lcn_351, lcn_1210], [], [sl_894, sl_895, sl_906, sl_965], [], (3, [])), ((nat_lit 136), [lcn_898, lcn_1209, lcn_612, lcn_144, lcn_351, lcn_1210], [], [sl_908, sl_892, sl_906, sl_965], [], (3, [])), ((nat_lit 145), [lcn_898, lcn_1209, lcn_612, lcn_144, lcn_351, lcn_1210], [], [sl_894, sl_895, sl_906, sl_965], [], (2, [])), ((nat_lit 145), [lcn_898, lcn_1209, lcn_612, lcn_144, lcn_351, lcn_1210], [], [sl_908, sl_892, sl_906, sl_965], [], (2, [])), ((nat_lit 155), [lcn_898, lcn_1209, lcn_612, lcn_144, lcn_351, lcn_1210], [], [sl_894, sl_895, sl_906, sl_965], [], (1, [])), ((nat_lit 155), [lcn_898, lcn_1209, lcn_612, lcn_144, lcn_351, lcn_1210], [], [sl_908, sl_892, sl_906, sl_965], [], (1, [])), ((nat_lit 166), [lcn_898, lcn_1209, lcn_612, lcn_144, lcn_351, lcn_1210], [], [sl_894, sl_895, sl_906, sl_1205], [], (0, [])), ((nat_lit 166), [lcn_898, lcn_1209, lcn_612, lcn_144, lcn_351, lcn_1210], [], [sl_908, sl_892, sl_906, sl_1205], [], (0, []))]) (fk := []) (rk := (12, [])) (sp := 93581821403947060474236224162924950908798859476992) (fuel := 3000) (by decide +kernel) (lk_d S_676 ml_12_161 (lk_d S_679 ml_12_161 (lk_d S_574 ml_12_161 (lk_d S_610 ml_12_161 (lk_d S_673 ml_12_161 (lk_d S_X12_next_0 ml_12_121 (lk_d S_670 ml_12_153 (lk_d S_686 ml_12_213 lk_n)))))))) odX12_spoutLine
def ct_688 : aCt := (mX12_named, [ag_861, ag_133, ag_1192], ([sl_908, sl_892, sl_906], []), [pon_928], mdn_914, [], (nat_lit 2))
set_option maxRecDepth 100000 in
theorem S_688 : aSpec wd ct_688 := bChk_ok wx_ok btX12_named (nds := []) (fk := []) (rk := (1, [])) (sp := 0) (fuel := 3000) (by decide +kernel) (lk_d S_568 ml_12_143 lk_n) odX12_named
def ct_689 : aCt := (mX12_number, [ag_861, ag_1, ag_204], ([sl_908, sl_892, sl_912], []), [pon_130], mdn_872, [], (nat_lit 0))
set_option maxRecDepth 100000 in
theorem S_689 : aSpec wd ct_689 := bChk_ok wx_ok btX12_number (nds := []) (fk := []) (rk := (1, [])) (sp := 0) (fuel := 3000) (by decide +kernel) lk_n odX12_number
def ct_690 : aCt := (mX12_after, [ag_861, ag_905, ag_1, ag_204], ([sl_908, sl_892, sl_912], []), [pon_130], mdn_872, [], (nat_lit 1))
set_option maxRecDepth 100000 in
theorem S_690 : aSpec wd ct_690 := bChk_ok wx_ok btX12_after (nds := []) (fk := []) (rk := (1, [])) (sp := 0) (fuel := 3000) (by decide +kernel) (lk_d S_492 ml_12_157 (lk_d S_689 ml_12_164 lk_n)) odX12_after
def ct_691 : aCt := (mX12_spoutLine, [ag_861], ([sl_908, sl_892, sl_906, sl_965], []), [pon_913], mdn_914, [], (nat_lit 3))
set_option maxRecDepth 100000 in
theorem S_691 : aSpec wd ct_691 := bChk_ok wx_ok btX12_spoutLine (nds := [((nat_lit 53), [lcn_898, lcn_1209, lcn_589, lcn_101, lcn_351, lcn_648], [], [sl_908, sl_892, sl_912, sl_965], [], (7, [(2, -1)]))]) (fk := []) (rk := (8, [])) (sp := 9007199254740992) (fuel := 3000) (by decide +kernel) (lk_d S_612 ml_12_161 (lk_d S_688 ml_12_153 (lk_d S_690 ml_12_213 lk_n))) odX12_spoutLine
def ct_692 : aCt := (mX12_begins, [ag_861, ag_905, ag_170], ([sl_894, sl_895, sl_906, sl_957], []), [pon_961, pon_962], mdn_914, [], (nat_lit 1))
set_option maxRecDepth 100000 in
theorem S_692 : aSpec wd ct_692 := bChk_ok wx_ok btX12_begins (nds := []) (fk := []) (rk := (1, [])) (sp := 0) (fuel := 3000) (by decide +kernel) (lk_d S_X12_isWord_0 ml_12_117 (lk_d S_542 ml_12_127 lk_n)) odX12_begins
def sl_1211 : (Nat × Nat) × aI := (((nat_lit 200), (nat_lit 7)), [((.ofNat (nat_lit 8)), (.ofNat (nat_lit 8)), (nat_lit 1))])
def ct_693 : aCt := (mX12_boxLine, [ag_861], ([sl_894, sl_943, sl_912, sl_955, sl_945, sl_1211, sl_957, sl_948, sl_949, sl_950, sl_951, sl_952, sl_953, sl_954], []), [pon_49], mdn_872, [], (nat_lit 0))
set_option maxRecDepth 100000 in
theorem S_693 : aSpec wd ct_693 := bChk_ok wx_ok btX12_boxLine (nds := []) (fk := [18]) (rk := (1, [])) (sp := 0) (fuel := 3000) (by decide +kernel) lk_n odX12_boxLine
def pon_1212 : aPo := (none, [], [sl_908, sl_892, sl_906, sl_945, sl_948], [])
def pon_1213 : aPo := (none, [], [sl_894, sl_895, sl_906, sl_945, sl_948], [])
def mdn_1214 : List (Nat × Nat × Nat) := [((nat_lit 196), (nat_lit 4), (nat_lit 11)), ((nat_lit 196), (nat_lit 13), (nat_lit 14)), ((nat_lit 198), (nat_lit 0), (nat_lit 8)), ((nat_lit 200), (nat_lit 4), (nat_lit 7)), ((nat_lit 200), (nat_lit 8), (nat_lit 9)), ((nat_lit 200), (nat_lit 10), (nat_lit 17)), ((nat_lit 200), (nat_lit 59), (nat_lit 184)), ((nat_lit 200), (nat_lit 190), (nat_lit 211)), ((nat_lit 200), (nat_lit 259), (nat_lit 363)), ((nat_lit 1000002), (nat_lit 0), (nat_lit 0))]
def ct_694 : aCt := (mX12_readLine, [ag_861], ([sl_894, sl_895, sl_906, sl_955, sl_945, sl_957, sl_948, sl_949, sl_950, sl_951, sl_952, sl_953, sl_954], []), [pon_986, pon_1212, pon_988, pon_1213, pon_989], mdn_1214, [], (nat_lit 6))
set_option maxRecDepth 100000 in
theorem S_694 : aSpec wd ct_694 := bChk_ok wx_ok btX12_readLine (nds := []) (fk := []) (rk := (1, [])) (sp := 0) (fuel := 3000) (by decide +kernel) (lk_d S_693 ml_12_205 (lk_d S_655 ml_12_205 (lk_d S_668 ml_12_205 (lk_d S_560 ml_12_189 (lk_d S_567 ml_12_196 (lk_d S_570 ml_12_196 (lk_d S_545 ml_12_208 (lk_d S_546 ml_12_202 (lk_d S_547 ml_12_199 (lk_d S_623 ml_12_202 (lk_d S_687 ml_12_208 (lk_d S_604 ml_12_199 (lk_d S_625 ml_12_202 (lk_d S_691 ml_12_208 (lk_d S_607 ml_12_199 (lk_d S_X12_isWord_0 ml_12_117 (lk_d S_561 ml_12_192 (lk_d S_692 ml_12_192 (lk_d S_460 ml_12_127 lk_n))))))))))))))))))) odX12_readLine
end Pk4
section Pk5
def ct_695 : aCt := (mX12_begins, [ag_861, ag_905, ag_53], ([sl_891, sl_892, sl_906, sl_957], []), [pon_37], mdn_872, [], (nat_lit 1))
set_option maxRecDepth 100000 in
theorem S_695 : aSpec wd ct_695 := bChk_ok wx_ok btX12_begins (nds := []) (fk := []) (rk := (1, [])) (sp := 0) (fuel := 3000) (by decide +kernel) (lk_d S_X12_isWord_2 ml_12_117 lk_n) odX12_begins
def ct_696 : aCt := (mX12_begins, [ag_861, ag_905, ag_170], ([sl_891, sl_892, sl_906, sl_957], []), [pon_37], mdn_872, [], (nat_lit 1))
set_option maxRecDepth 100000 in
theorem S_696 : aSpec wd ct_696 := bChk_ok wx_ok btX12_begins (nds := []) (fk := []) (rk := (1, [])) (sp := 0) (fuel := 3000) (by decide +kernel) (lk_d S_X12_isWord_2 ml_12_117 lk_n) odX12_begins
def ct_697 : aCt := (mX12_readLine, [ag_861], ([sl_891, sl_892, sl_906, sl_955, sl_945, sl_957, sl_948, sl_949, sl_950, sl_951, sl_952, sl_953, sl_954], []), [pon_913], mdn_914, [], (nat_lit 2))
set_option maxRecDepth 100000 in
theorem S_697 : aSpec wd ct_697 := bChk_ok wx_ok btX12_readLine (nds := []) (fk := []) (rk := (1, [])) (sp := 0) (fuel := 3000) (by decide +kernel) (lk_d S_X12_isWord_2 ml_12_117 (lk_d S_695 ml_12_192 (lk_d S_696 ml_12_192 (lk_d S_460 ml_12_127 lk_n)))) odX12_readLine
def sl_1215 : (Nat × Nat) × aI := (((nat_lit 196), (nat_lit 6)), [((.ofNat (nat_lit 0)), (.ofNat (nat_lit 0)), (nat_lit 1)), ((.ofNat (nat_lit 59)), (.ofNat (nat_lit 59)), (nat_lit 1))])
def ct_698 : aCt := (mX12_begins, [ag_861, ag_905, ag_53], ([sl_1215, sl_887, sl_906, sl_957], []), [pon_37], mdn_872, [], (nat_lit 1))
set_option maxRecDepth 100000 in
theorem S_698 : aSpec wd ct_698 := bChk_ok wx_ok btX12_begins (nds := []) (fk := []) (rk := (1, [])) (sp := 0) (fuel := 3000) (by decide +kernel) (lk_d S_X12_isWord_5 ml_12_117 lk_n) odX12_begins
def ct_699 : aCt := (mX12_begins, [ag_861, ag_905, ag_170], ([sl_1215, sl_887, sl_906, sl_957], []), [pon_37], mdn_872, [], (nat_lit 1))
set_option maxRecDepth 100000 in
theorem S_699 : aSpec wd ct_699 := bChk_ok wx_ok btX12_begins (nds := []) (fk := []) (rk := (1, [])) (sp := 0) (fuel := 3000) (by decide +kernel) (lk_d S_X12_isWord_5 ml_12_117 lk_n) odX12_begins
def ct_700 : aCt := (mX12_readLine, [ag_861], ([sl_1215, sl_887, sl_906, sl_955, sl_945, sl_957, sl_948, sl_949, sl_950, sl_951, sl_952, sl_953, sl_954], []), [pon_913], mdn_914, [], (nat_lit 2))
set_option maxRecDepth 100000 in
theorem S_700 : aSpec wd ct_700 := bChk_ok wx_ok btX12_readLine (nds := []) (fk := []) (rk := (1, [])) (sp := 0) (fuel := 3000) (by decide +kernel) (lk_d S_X12_isWord_5 ml_12_117 (lk_d S_698 ml_12_192 (lk_d S_699 ml_12_192 (lk_d S_460 ml_12_127 lk_n)))) odX12_readLine
def ct_701 : aCt := (mX12_postLine, [ag_861], ([sl_894, sl_943, sl_906, sl_955, sl_987, sl_957, sl_949, sl_950, sl_951, sl_952, sl_953, sl_954], []), [pon_913], mdn_914, [], (nat_lit 1))
set_option maxRecDepth 100000 in
theorem S_701 : aSpec wd ct_701 := bChk_ok wx_ok btX12_postLine (nds := []) (fk := []) (rk := (1, [])) (sp := 0) (fuel := 3000) (by decide +kernel) (lk_d S_559 ml_12_127 lk_n) odX12_postLine
def mdn_1216 : List (Nat × Nat × Nat) := [((nat_lit 196), (nat_lit 4), (nat_lit 11)), ((nat_lit 196), (nat_lit 13), (nat_lit 14)), ((nat_lit 198), (nat_lit 0), (nat_lit 8)), ((nat_lit 200), (nat_lit 184), (nat_lit 185)), ((nat_lit 200), (nat_lit 211), (nat_lit 219)), ((nat_lit 1000002), (nat_lit 0), (nat_lit 0))]
def ct_702 : aCt := (mX12_newName, [ag_861, ag_53], ([sl_894, sl_895, sl_906], []), [pon_915, pon_916, pon_917], mdn_1216, [], (nat_lit 2))
set_option maxRecDepth 100000 in
theorem S_702 : aSpec wd ct_702 := bChk_ok wx_ok btX12_newName (nds := [((nat_lit 45), [lcn_898, lcn_202, lcn_296], [], [sl_894, sl_895, sl_906], [], (8, [(0, -1)]))]) (fk := []) (rk := (9, [])) (sp := 35184372088832) (fuel := 3000) (by decide +kernel) (lk_d S_562 ml_12_143 (lk_d S_563 ml_12_146 (lk_d S_X12_next_0 ml_12_121 (lk_d S_559 ml_12_127 lk_n)))) odX12_newName
def pon_1217 : aPo := (some (.inl [((.ofNat (nat_lit 0)), (.ofNat (nat_lit 0)), (nat_lit 1))]), [], [sl_943], [])
def lcn_1218 : Nat × aAg := ((nat_lit 2), .inl [((.ofNat (nat_lit 10)), (.ofNat (nat_lit 10)), (nat_lit 1))])
set_option maxRecDepth 100000 in
theorem btX12_isSong : bTab oX12_isSong tX12_isSong := ⟨ofX12_isSong, by decide +kernel⟩
def ct_703 : aCt := (mX12_isSong, [ag_861, ag_170], ([sl_895], []), [pon_453, pon_1217], mdn_872, [], (nat_lit 0))
set_option maxRecDepth 100000 in
theorem S_703 : aSpec wd ct_703 := bChk_ok wx_ok btX12_isSong (nds := [((nat_lit 30), [lcn_898, lcn_175, lcn_1218, lcn_422, lcn_593], [], [sl_895], [], (8, [(0, 9), (1, -1)]))]) (fk := []) (rk := (18, [])) (sp := 1073741824) (fuel := 3000) (by decide +kernel) lk_n odX12_isSong
def ct_704 : aCt := (mX12_isSong, [ag_861, ag_170], ([sl_991], []), [pon_453, pon_37], mdn_872, [], (nat_lit 0))
set_option maxRecDepth 100000 in
theorem S_704 : aSpec wd ct_704 := bChk_ok wx_ok btX12_isSong (nds := [((nat_lit 30), [lcn_898, lcn_175, lcn_1218, lcn_422, lcn_446], [], [sl_991], [], (6, [(0, 7), (1, -1)]))]) (fk := []) (rk := (14, [])) (sp := 1073741824) (fuel := 3000) (by decide +kernel) lk_n odX12_isSong
def pon_1219 : aPo := (none, [], [sl_926, sl_903, sl_912, sl_987], [])
def sl_1220 : (Nat × Nat) × aI := (((nat_lit 200), (nat_lit 4)), [((.ofNat (nat_lit 2)), (.ofNat (nat_lit 2)), (nat_lit 1))])
def pon_1221 : aPo := (none, [], [sl_908, sl_892, sl_906, sl_1220], [])
def pon_1222 : aPo := (none, [], [sl_894, sl_895, sl_906, sl_1220], [])
def mdn_1223 : List (Nat × Nat × Nat) := [((nat_lit 196), (nat_lit 4), (nat_lit 11)), ((nat_lit 196), (nat_lit 13), (nat_lit 14)), ((nat_lit 198), (nat_lit 0), (nat_lit 8)), ((nat_lit 200), (nat_lit 4), (nat_lit 5)), ((nat_lit 200), (nat_lit 17), (nat_lit 24)), ((nat_lit 200), (nat_lit 184), (nat_lit 185)), ((nat_lit 200), (nat_lit 211), (nat_lit 219)), ((nat_lit 1000002), (nat_lit 0), (nat_lit 0))]
def lcn_1224 : Nat × aAg := ((nat_lit 4), .inl [((.ofNat (nat_lit 17)), (.ofNat (nat_lit 17)), (nat_lit 1))])
def sl_1225 : (Nat × Nat) × aI := (((nat_lit 200), (nat_lit 17)), [((.ofNat (nat_lit 2)), (.ofNat (nat_lit 6)), (nat_lit 1))])
def ct_705 : aCt := (mX12_islandLine, [ag_861], ([sl_894, sl_895, sl_906, sl_955, sl_987], []), [pon_1219, pon_1221, pon_1222], mdn_1223, [], (nat_lit 3))
set_option maxRecDepth 100000 in
theorem S_705 : aSpec wd ct_705 := bChk_ok wx_ok btX12_islandLine (nds := [((nat_lit 65), [lcn_898, lcn_202, lcn_444, lcn_144], [], [sl_894, sl_991, sl_906, sl_955, sl_987], [], (19, [(0, -1)])), ((nat_lit 65), [lcn_898, lcn_202, lcn_589, lcn_408], [], [sl_894, sl_895, sl_906, sl_955, sl_987], [], (12, [(0, -1)])), ((nat_lit 112), [lcn_898, lcn_202, lcn_589, lcn_422, lcn_451], [], [sl_894, sl_895, sl_906, sl_955, sl_987], [], (3, [(0, -2), (1, -1)])), ((nat_lit 112), [lcn_898, lcn_202, lcn_444, lcn_422, lcn_451], [], [sl_894, sl_991, sl_906, sl_955, sl_987], [], (10, [(0, -2), (1, -1)])), ((nat_lit 204), [lcn_898, lcn_202, lcn_444, lcn_101, lcn_1224, lcn_993], [], [sl_894, sl_991, sl_906, sl_955, sl_987, sl_1225], [], (6, [(0, -1)]))]) (fk := [14]) (rk := (20, [])) (sp := 25711008708143844408671393482650898498890112422543329113145344) (fuel := 3000) (by decide +kernel) (lk_d S_X12_next_0 ml_12_121 (lk_d S_702 ml_12_223 (lk_d S_704 ml_12_227 (lk_d S_703 ml_12_227 (lk_d S_565 ml_12_149 (lk_d S_460 ml_12_127 (lk_d S_559 ml_12_127 (lk_d S_566 ml_12_127 lk_n)))))))) odX12_islandLine
def ct_706 : aCt := (mX12_newName, [ag_861, ag_53], ([sl_908, sl_892, sl_906], []), [pon_913], mdn_914, [], (nat_lit 2))
set_option maxRecDepth 100000 in
theorem S_706 : aSpec wd ct_706 := bChk_ok wx_ok btX12_newName (nds := []) (fk := []) (rk := (1, [])) (sp := 0) (fuel := 3000) (by decide +kernel) (lk_d S_568 ml_12_143 lk_n) odX12_newName
def ct_707 : aCt := (mX12_islandLine, [ag_861], ([sl_908, sl_892, sl_906, sl_955, sl_987], []), [pon_913], mdn_914, [], (nat_lit 3))
set_option maxRecDepth 100000 in
theorem S_707 : aSpec wd ct_707 := bChk_ok wx_ok btX12_islandLine (nds := []) (fk := [14]) (rk := (1, [])) (sp := 0) (fuel := 3000) (by decide +kernel) (lk_d S_706 ml_12_223 lk_n) odX12_islandLine
def pon_1226 : aPo := (some (.inl [((.negSucc (nat_lit 0)), (.ofNat (nat_lit 0)), (nat_lit 1)), ((.ofNat (nat_lit 7)), (.ofNat (nat_lit 19)), (nat_lit 1))]), [], [], [])
def ct_708 : aCt := (mX12_find, [ag_861], ([sl_895, sl_949, sl_950, sl_951, sl_952, sl_953, sl_954], []), [pon_1226], mdn_872, [], (nat_lit 0))
set_option maxRecDepth 100000 in
theorem S_708 : aSpec wd ct_708 := bChk_ok wx_ok btX12_find (nds := [((nat_lit 2), [lcn_898, lcn_175], [], [sl_895, sl_949, sl_950, sl_951, sl_952, sl_953, sl_954], [], (176, [])), ((nat_lit 46), [lcn_898, lcn_175, lcn_444, lcn_408], [], [sl_943, sl_949, sl_950, sl_951, sl_952, sl_953, sl_954], [], (175, [(0, -1)])), ((nat_lit 46), [lcn_898, lcn_175, lcn_589, lcn_408], [], [sl_895, sl_949, sl_950, sl_951, sl_952, sl_953, sl_954], [], (166, [])), ((nat_lit 2), [lcn_898, lcn_202, lcn_589, lcn_408], [], [sl_895, sl_949, sl_950, sl_951, sl_952, sl_953, sl_954], [], (165, [])), ((nat_lit 46), [lcn_898, lcn_202, lcn_589, lcn_101], [], [sl_895, sl_949, sl_950, sl_951, sl_952, sl_953, sl_954], [], (164, [])), ((nat_lit 2), [lcn_898, lcn_167, lcn_589, lcn_101], [], [sl_895, sl_949, sl_950, sl_951, sl_952, sl_953, sl_954], [], (163, [])), ((nat_lit 46), [lcn_898, lcn_167, lcn_589, lcn_101], [], [sl_895, sl_949, sl_950, sl_951, sl_952, sl_953, sl_954], [], (162, [])), ((nat_lit 2), [lcn_898, lcn_976, lcn_589, lcn_101], [], [sl_895, sl_949, sl_950, sl_951, sl_952, sl_953, sl_954], [], (161, [])), ((nat_lit 46), [lcn_898, lcn_976, lcn_589, lcn_101], [], [sl_895, sl_949, sl_950, sl_951, sl_952, sl_953, sl_954], [], (160, [])), ((nat_lit 2), [lcn_898, lcn_977, lcn_589, lcn_101], [], [sl_895, sl_949, sl_950, sl_951, sl_952, sl_953, sl_954], [], (159, [])), ((nat_lit 46), [lcn_898, lcn_977, lcn_589, lcn_101], [], [sl_895, sl_949, sl_950, sl_951, sl_952, sl_953, sl_954], [], (158, [])), ((nat_lit 2), [lcn_898, lcn_978, lcn_589, lcn_101], [], [sl_895, sl_949, sl_950, sl_951, sl_952, sl_953, sl_954], [], (157, [])), ((nat_lit 46), [lcn_898, lcn_978, lcn_589, lcn_101], [], [sl_895, sl_949, sl_950, sl_951, sl_952, sl_953, sl_954], [], (156, [])), ((nat_lit 2), [lcn_898, lcn_979, lcn_589, lcn_101], [], [sl_895, sl_949, sl_950, sl_951, sl_952, sl_953, sl_954], [], (155, [])), ((nat_lit 46), [lcn_898, lcn_979, lcn_589, lcn_101], [], [sl_895, sl_949, sl_950, sl_951, sl_952, sl_953, sl_954], [], (154, [])), ((nat_lit 2), [lcn_898, lcn_980, lcn_589, lcn_408], [], [sl_895, sl_949, sl_950, sl_951, sl_952, sl_953, sl_954], [], (230, [(0, -11)])), ((nat_lit 46), [lcn_898, lcn_981, lcn_444, lcn_408], [], [sl_895, sl_949, sl_950, sl_951, sl_952, sl_953, sl_954], [], (229, [(0, -11), (1, -1)])), ((nat_lit 46), [lcn_898, lcn_981, lcn_589, lcn_408], [], [sl_895, sl_949, sl_950, sl_951, sl_952, sl_953, sl_954], [], (220, [(0, -11)]))]) (fk := []) (rk := (177, [])) (sp := 70368744177668) (fuel := 3000) (by decide +kernel) lk_n odX12_find
def ag_1227 : aAg := .inl [((.negSucc (nat_lit 0)), (.ofNat (nat_lit 0)), (nat_lit 1)), ((.ofNat (nat_lit 7)), (.ofNat (nat_lit 19)), (nat_lit 1))]
def pon_1228 : aPo := (some (.inl [((.ofNat (nat_lit 1)), (.ofNat (nat_lit 1)), (nat_lit 1))]), [some [((.ofNat (nat_lit 0)), (.ofNat (nat_lit 0)), (nat_lit 1))], none, none], [], [])
def ct_709 : aCt := (mX12_in, [ag_1227, ag_170, ag_153], ([], []), [pon_996, pon_1228], mdn_872, [], (nat_lit 0))
set_option maxRecDepth 100000 in
theorem S_709 : aSpec wd ct_709 := bChk_ok wx_ok btX12_in (nds := []) (fk := []) (rk := (1, [])) (sp := 0) (fuel := 3000) (by decide +kernel) lk_n odX12_in
def ct_710 : aCt := (mX12_named, [ag_861, ag_170, ag_153], ([sl_894, sl_895, sl_906, sl_949, sl_950, sl_951, sl_952, sl_953, sl_954], []), [pon_928, pon_961], mdn_914, [], (nat_lit 2))
set_option maxRecDepth 100000 in
theorem S_710 : aSpec wd ct_710 := bChk_ok wx_ok btX12_named (nds := []) (fk := []) (rk := (1, [])) (sp := 0) (fuel := 3000) (by decide +kernel) (lk_d S_708 ml_12_146 (lk_d S_562 ml_12_143 (lk_d S_709 ml_12_149 (lk_d S_572 ml_12_127 lk_n)))) odX12_named
def pon_1229 : aPo := (some (.inl [((.ofNat (nat_lit 0)), (.ofNat (nat_lit 0)), (nat_lit 1))]), [], [sl_908, sl_892, sl_906], [])
def pon_1230 : aPo := (some (.inl [((.ofNat (nat_lit 0)), (.ofNat (nat_lit 0)), (nat_lit 1))]), [], [sl_894, sl_895, sl_906], [])
def ct_711 : aCt := (mX12_islandPassed, [ag_861], ([sl_894, sl_895, sl_906, sl_949, sl_950, sl_951, sl_952, sl_953, sl_954], []), [pon_999, pon_1229, pon_1230], mdn_918, [], (nat_lit 3))
set_option maxRecDepth 100000 in
theorem S_711 : aSpec wd ct_711 := bChk_ok wx_ok btX12_islandPassed (nds := []) (fk := []) (rk := (1, [])) (sp := 0) (fuel := 3000) (by decide +kernel) (lk_d S_X12_next_0 ml_12_121 (lk_d S_710 ml_12_153 lk_n)) odX12_islandPassed
def ct_712 : aCt := (mX12_named, [ag_861, ag_170, ag_153], ([sl_908, sl_892, sl_906, sl_949, sl_950, sl_951, sl_952, sl_953, sl_954], []), [pon_928], mdn_914, [], (nat_lit 2))
set_option maxRecDepth 100000 in
theorem S_712 : aSpec wd ct_712 := bChk_ok wx_ok btX12_named (nds := []) (fk := []) (rk := (1, [])) (sp := 0) (fuel := 3000) (by decide +kernel) (lk_d S_568 ml_12_143 lk_n) odX12_named
def ct_713 : aCt := (mX12_islandPassed, [ag_861], ([sl_908, sl_892, sl_906, sl_949, sl_950, sl_951, sl_952, sl_953, sl_954], []), [pon_928], mdn_914, [], (nat_lit 3))
set_option maxRecDepth 100000 in
theorem S_713 : aSpec wd ct_713 := bChk_ok wx_ok btX12_islandPassed (nds := []) (fk := []) (rk := (1, [])) (sp := 0) (fuel := 3000) (by decide +kernel) (lk_d S_712 ml_12_153 lk_n) odX12_islandPassed
def ct_714 : aCt := (mX12_named, [ag_861, ag_170, ag_153], ([sl_894, sl_895, sl_912, sl_949, sl_950, sl_951, sl_952, sl_953, sl_954], []), [pon_37], mdn_872, [], (nat_lit 0))
set_option maxRecDepth 100000 in
theorem S_714 : aSpec wd ct_714 := bChk_ok wx_ok btX12_named (nds := []) (fk := []) (rk := (1, [])) (sp := 0) (fuel := 3000) (by decide +kernel) lk_n odX12_named
def ct_715 : aCt := (mX12_islandPassed, [ag_861], ([sl_894, sl_895, sl_912, sl_949, sl_950, sl_951, sl_952, sl_953, sl_954], []), [pon_37], mdn_872, [], (nat_lit 1))
set_option maxRecDepth 100000 in
theorem S_715 : aSpec wd ct_715 := bChk_ok wx_ok btX12_islandPassed (nds := []) (fk := []) (rk := (1, [])) (sp := 0) (fuel := 3000) (by decide +kernel) (lk_d S_714 ml_12_153 lk_n) odX12_islandPassed
def ct_716 : aCt := (mX12_islandBehind, [ag_861, ag_905], ([sl_894, sl_895, sl_906, sl_949, sl_950, sl_951, sl_952, sl_953, sl_954], []), [pon_934, pon_1229, pon_1230], mdn_918, [], (nat_lit 4))
set_option maxRecDepth 100000 in
theorem S_716 : aSpec wd ct_716 := bChk_ok wx_ok btX12_islandBehind (nds := []) (fk := []) (rk := (1, [])) (sp := 0) (fuel := 3000) (by decide +kernel) (lk_d S_711 ml_12_161 (lk_d S_715 ml_12_161 (lk_d S_713 ml_12_161 (lk_d S_461 ml_12_157 lk_n)))) odX12_islandBehind
def ct_717 : aCt := (mX12_named, [ag_861, ag_170, ag_153], ([sl_908, sl_892, sl_912, sl_949, sl_950, sl_951, sl_952, sl_953, sl_954], []), [pon_37], mdn_872, [], (nat_lit 0))
set_option maxRecDepth 100000 in
theorem S_717 : aSpec wd ct_717 := bChk_ok wx_ok btX12_named (nds := []) (fk := []) (rk := (1, [])) (sp := 0) (fuel := 3000) (by decide +kernel) lk_n odX12_named
def ct_718 : aCt := (mX12_islandPassed, [ag_861], ([sl_908, sl_892, sl_912, sl_949, sl_950, sl_951, sl_952, sl_953, sl_954], []), [pon_37], mdn_872, [], (nat_lit 1))
set_option maxRecDepth 100000 in
theorem S_718 : aSpec wd ct_718 := bChk_ok wx_ok btX12_islandPassed (nds := []) (fk := []) (rk := (1, [])) (sp := 0) (fuel := 3000) (by decide +kernel) (lk_d S_717 ml_12_153 lk_n) odX12_islandPassed
def ct_719 : aCt := (mX12_islandBehind, [ag_861, ag_905], ([sl_908, sl_892, sl_906, sl_949, sl_950, sl_951, sl_952, sl_953, sl_954], []), [pon_928], mdn_914, [], (nat_lit 3))
set_option maxRecDepth 100000 in
theorem S_719 : aSpec wd ct_719 := bChk_ok wx_ok btX12_islandBehind (nds := []) (fk := []) (rk := (1, [])) (sp := 0) (fuel := 3000) (by decide +kernel) (lk_d S_718 ml_12_161 (lk_d S_484 ml_12_157 lk_n)) odX12_islandBehind
def ct_720 : aCt := (mX12_islandBehind, [ag_861, ag_905], ([sl_894, sl_895, sl_912, sl_949, sl_950, sl_951, sl_952, sl_953, sl_954], []), [pon_37], mdn_872, [], (nat_lit 2))
set_option maxRecDepth 100000 in
theorem S_720 : aSpec wd ct_720 := bChk_ok wx_ok btX12_islandBehind (nds := []) (fk := []) (rk := (1, [])) (sp := 0) (fuel := 3000) (by decide +kernel) (lk_d S_715 ml_12_161 (lk_d S_639 ml_12_157 lk_n)) odX12_islandBehind
def ct_721 : aCt := (mX12_named, [ag_861, ag_170, ag_153], ([sl_926, sl_903, sl_912, sl_949, sl_950, sl_951, sl_952, sl_953, sl_954], []), [pon_37], mdn_872, [], (nat_lit 0))
set_option maxRecDepth 100000 in
theorem S_721 : aSpec wd ct_721 := bChk_ok wx_ok btX12_named (nds := []) (fk := []) (rk := (1, [])) (sp := 0) (fuel := 3000) (by decide +kernel) lk_n odX12_named
def ct_722 : aCt := (mX12_islandPassed, [ag_861], ([sl_926, sl_903, sl_912, sl_949, sl_950, sl_951, sl_952, sl_953, sl_954], []), [pon_37], mdn_872, [], (nat_lit 1))
set_option maxRecDepth 100000 in
theorem S_722 : aSpec wd ct_722 := bChk_ok wx_ok btX12_islandPassed (nds := []) (fk := []) (rk := (1, [])) (sp := 0) (fuel := 3000) (by decide +kernel) (lk_d S_721 ml_12_153 lk_n) odX12_islandPassed
def ct_723 : aCt := (mX12_islandBehind, [ag_861, ag_905], ([sl_926, sl_903, sl_912, sl_949, sl_950, sl_951, sl_952, sl_953, sl_954], []), [pon_37], mdn_872, [], (nat_lit 2))
set_option maxRecDepth 100000 in
theorem S_723 : aSpec wd ct_723 := bChk_ok wx_ok btX12_islandBehind (nds := []) (fk := []) (rk := (1, [])) (sp := 0) (fuel := 3000) (by decide +kernel) (lk_d S_722 ml_12_161 (lk_d S_487 ml_12_157 lk_n)) odX12_islandBehind
def ct_724 : aCt := (mX12_number, [ag_861, ag_170, ag_204], ([sl_894, sl_895, sl_906], []), [pon_928], mdn_914, [], (nat_lit 1))
set_option maxRecDepth 100000 in
theorem S_724 : aSpec wd ct_724 := bChk_ok wx_ok btX12_number (nds := []) (fk := []) (rk := (1, [])) (sp := 0) (fuel := 3000) (by decide +kernel) (lk_d S_460 ml_12_127 lk_n) odX12_number
def pon_1231 : aPo := (some (.inl [((.ofNat (nat_lit 0)), (.ofNat (nat_lit 0)), (nat_lit 1))]), [some [((.negSucc (nat_lit 2147483647)), (.negSucc (nat_lit 0)), (nat_lit 1)), ((.ofNat (nat_lit 10000)), (.ofNat (nat_lit 2147483647)), (nat_lit 1))], none, none], [], [])
def pon_1232 : aPo := (some (.inl [((.ofNat (nat_lit 1)), (.ofNat (nat_lit 1)), (nat_lit 1))]), [some [((.ofNat (nat_lit 0)), (.ofNat (nat_lit 9999)), (nat_lit 1))], none, none], [], [])
def ct_725 : aCt := (mX12_in, [ag_1, ag_170, ag_204], ([], []), [pon_1231, pon_1232], mdn_872, [], (nat_lit 0))
set_option maxRecDepth 100000 in
theorem S_725 : aSpec wd ct_725 := bChk_ok wx_ok btX12_in (nds := []) (fk := []) (rk := (1, [])) (sp := 0) (fuel := 3000) (by decide +kernel) lk_n odX12_in
def pon_1233 : aPo := (some (.inl [((.ofNat (nat_lit 0)), (.ofNat (nat_lit 9999)), (nat_lit 1))]), [], [sl_908, sl_892, sl_906], [])
def pon_1234 : aPo := (some (.inl [((.ofNat (nat_lit 0)), (.ofNat (nat_lit 9999)), (nat_lit 1))]), [], [sl_894, sl_895, sl_906], [])
def ct_726 : aCt := (mX12_number, [ag_861, ag_170, ag_204], ([sl_908, sl_892, sl_906], []), [pon_931, pon_1233, pon_1234], mdn_918, [], (nat_lit 2))
set_option maxRecDepth 100000 in
theorem S_726 : aSpec wd ct_726 := bChk_ok wx_ok btX12_number (nds := []) (fk := []) (rk := (1, [])) (sp := 0) (fuel := 3000) (by decide +kernel) (lk_d S_X12_next_0 ml_12_121 (lk_d S_460 ml_12_127 (lk_d S_464 ml_12_127 (lk_d S_725 ml_12_149 lk_n)))) odX12_number
def ct_727 : aCt := (mX12_number, [ag_861, ag_170, ag_204], ([sl_894, sl_895, sl_912], []), [pon_37], mdn_872, [], (nat_lit 0))
set_option maxRecDepth 100000 in
theorem S_727 : aSpec wd ct_727 := bChk_ok wx_ok btX12_number (nds := []) (fk := []) (rk := (1, [])) (sp := 0) (fuel := 3000) (by decide +kernel) lk_n odX12_number
def ct_728 : aCt := (mX12_after, [ag_861, ag_905, ag_170, ag_204], ([sl_894, sl_895, sl_906], []), [pon_934, pon_1233, pon_1234], mdn_918, [], (nat_lit 4))
set_option maxRecDepth 100000 in
theorem S_728 : aSpec wd ct_728 := bChk_ok wx_ok btX12_after (nds := []) (fk := []) (rk := (1, [])) (sp := 0) (fuel := 3000) (by decide +kernel) (lk_d S_724 ml_12_164 (lk_d S_727 ml_12_164 (lk_d S_726 ml_12_164 (lk_d S_461 ml_12_157 lk_n)))) odX12_after
def ct_729 : aCt := (mX12_after, [ag_861, ag_905, ag_170, ag_204], ([sl_908, sl_892, sl_906], []), [pon_928], mdn_914, [], (nat_lit 3))
set_option maxRecDepth 100000 in
theorem S_729 : aSpec wd ct_729 := bChk_ok wx_ok btX12_after (nds := []) (fk := []) (rk := (1, [])) (sp := 0) (fuel := 3000) (by decide +kernel) (lk_d S_666 ml_12_164 (lk_d S_484 ml_12_157 lk_n)) odX12_after
def pon_1235 : aPo := (none, [], [sl_926, sl_903, sl_912, sl_1141], [])
def sl_1236 : (Nat × Nat) × aI := (((nat_lit 200), (nat_lit 7)), [((.ofNat (nat_lit 1)), (.ofNat (nat_lit 8)), (nat_lit 1))])
def pon_1237 : aPo := (none, [], [sl_908, sl_892, sl_906, sl_1236], [])
def pon_1238 : aPo := (none, [], [sl_894, sl_895, sl_906, sl_1236], [])
def mdn_1239 : List (Nat × Nat × Nat) := [((nat_lit 196), (nat_lit 4), (nat_lit 11)), ((nat_lit 196), (nat_lit 13), (nat_lit 14)), ((nat_lit 198), (nat_lit 0), (nat_lit 8)), ((nat_lit 200), (nat_lit 7), (nat_lit 8)), ((nat_lit 200), (nat_lit 127), (nat_lit 159)), ((nat_lit 200), (nat_lit 195), (nat_lit 203)), ((nat_lit 200), (nat_lit 299), (nat_lit 363)), ((nat_lit 1000002), (nat_lit 0), (nat_lit 0))]
def sl_1240 : (Nat × Nat) × aI := (((nat_lit 200), (nat_lit 157)), [((.ofNat (nat_lit 1)), (.ofNat (nat_lit 99)), (nat_lit 1))])
def sl_1241 : (Nat × Nat) × aI := (((nat_lit 200), (nat_lit 153)), [((.ofNat (nat_lit 1)), (.ofNat (nat_lit 99)), (nat_lit 1))])
def sl_1242 : (Nat × Nat) × aI := (((nat_lit 200), (nat_lit 149)), [((.ofNat (nat_lit 1)), (.ofNat (nat_lit 99)), (nat_lit 1))])
def sl_1243 : (Nat × Nat) × aI := (((nat_lit 200), (nat_lit 145)), [((.ofNat (nat_lit 1)), (.ofNat (nat_lit 99)), (nat_lit 1))])
def sl_1244 : (Nat × Nat) × aI := (((nat_lit 200), (nat_lit 141)), [((.ofNat (nat_lit 1)), (.ofNat (nat_lit 99)), (nat_lit 1))])
def sl_1245 : (Nat × Nat) × aI := (((nat_lit 200), (nat_lit 137)), [((.ofNat (nat_lit 1)), (.ofNat (nat_lit 99)), (nat_lit 1))])
def sl_1246 : (Nat × Nat) × aI := (((nat_lit 200), (nat_lit 133)), [((.ofNat (nat_lit 1)), (.ofNat (nat_lit 99)), (nat_lit 1))])
def sl_1247 : (Nat × Nat) × aI := (((nat_lit 200), (nat_lit 129)), [((.ofNat (nat_lit 1)), (.ofNat (nat_lit 99)), (nat_lit 1))])
def sl_1248 : (Nat × Nat) × aI := (((nat_lit 200), (nat_lit 158)), [((.ofNat (nat_lit 0)), (.ofNat (nat_lit 9999)), (nat_lit 1))])
def sl_1249 : (Nat × Nat) × aI := (((nat_lit 200), (nat_lit 154)), [((.ofNat (nat_lit 0)), (.ofNat (nat_lit 9999)), (nat_lit 1))])
def sl_1250 : (Nat × Nat) × aI := (((nat_lit 200), (nat_lit 150)), [((.ofNat (nat_lit 0)), (.ofNat (nat_lit 9999)), (nat_lit 1))])
def sl_1251 : (Nat × Nat) × aI := (((nat_lit 200), (nat_lit 146)), [((.ofNat (nat_lit 0)), (.ofNat (nat_lit 9999)), (nat_lit 1))])
def sl_1252 : (Nat × Nat) × aI := (((nat_lit 200), (nat_lit 142)), [((.ofNat (nat_lit 0)), (.ofNat (nat_lit 9999)), (nat_lit 1))])
def sl_1253 : (Nat × Nat) × aI := (((nat_lit 200), (nat_lit 138)), [((.ofNat (nat_lit 0)), (.ofNat (nat_lit 9999)), (nat_lit 1))])
def sl_1254 : (Nat × Nat) × aI := (((nat_lit 200), (nat_lit 134)), [((.ofNat (nat_lit 0)), (.ofNat (nat_lit 9999)), (nat_lit 1))])
def sl_1255 : (Nat × Nat) × aI := (((nat_lit 200), (nat_lit 130)), [((.ofNat (nat_lit 0)), (.ofNat (nat_lit 9999)), (nat_lit 1))])
def ct_730 : aCt := (mX12_boxLine, [ag_861], ([sl_894, sl_895, sl_906, sl_955, sl_987, sl_1141, sl_957, sl_949, sl_950, sl_951, sl_952, sl_953, sl_954], []), [pon_1235, pon_1237, pon_1238], mdn_1239, [], (nat_lit 5))
set_option maxRecDepth 100000 in
theorem S_730 : aSpec wd ct_730 := bChk_ok wx_ok btX12_boxLine (nds := [((nat_lit 47), [lcn_898, lcn_1144], [], [sl_894, sl_895, sl_906, sl_955, sl_987, sl_1145, sl_957, sl_1146, sl_949, sl_950, sl_951, sl_952, sl_953, sl_954], [], (4, [])), ((nat_lit 47), [lcn_898, lcn_1144], [], [sl_908, sl_892, sl_906, sl_955, sl_987, sl_1145, sl_957, sl_1146, sl_949, sl_950, sl_951, sl_952, sl_953, sl_954], [], (4, [])), ((nat_lit 47), [lcn_898, lcn_1144], [], [sl_926, sl_903, sl_912, sl_955, sl_987, sl_1145, sl_957, sl_1146, sl_949, sl_950, sl_951, sl_952, sl_953, sl_954], [], (4, [])), ((nat_lit 47), [lcn_898, lcn_1147], [], [sl_894, sl_895, sl_906, sl_955, sl_987, sl_1148, sl_957, sl_1149, sl_949, sl_950, sl_951, sl_952, sl_953, sl_954], [], (4, [])), ((nat_lit 47), [lcn_898, lcn_1147], [], [sl_908, sl_892, sl_906, sl_955, sl_987, sl_1148, sl_957, sl_1149, sl_949, sl_950, sl_951, sl_952, sl_953, sl_954], [], (4, [])), ((nat_lit 47), [lcn_898, lcn_1147], [], [sl_926, sl_903, sl_912, sl_955, sl_987, sl_1148, sl_957, sl_1149, sl_949, sl_950, sl_951, sl_952, sl_953, sl_954], [], (4, [])), ((nat_lit 47), [lcn_898, lcn_1150], [], [sl_894, sl_895, sl_906, sl_955, sl_987, sl_1151, sl_957, sl_1152, sl_949, sl_950, sl_951, sl_952, sl_953, sl_954], [], (4, [])), ((nat_lit 47), [lcn_898, lcn_1150], [], [sl_908, sl_892, sl_906, sl_955, sl_987, sl_1151, sl_957, sl_1152, sl_949, sl_950, sl_951, sl_952, sl_953, sl_954], [], (4, [])), ((nat_lit 47), [lcn_898, lcn_1150], [], [sl_926, sl_903, sl_912, sl_955, sl_987, sl_1151, sl_957, sl_1152, sl_949, sl_950, sl_951, sl_952, sl_953, sl_954], [], (4, [])), ((nat_lit 47), [lcn_898, lcn_1153], [], [sl_894, sl_895, sl_906, sl_955, sl_987, sl_1154, sl_957, sl_1155, sl_949, sl_950, sl_951, sl_952, sl_953, sl_954], [], (4, [])), ((nat_lit 47), [lcn_898, lcn_1153], [], [sl_908, sl_892, sl_906, sl_955, sl_987, sl_1154, sl_957, sl_1155, sl_949, sl_950, sl_951, sl_952, sl_953, sl_954], [], (4, [])), ((nat_lit 47), [lcn_898, lcn_1153], [], [sl_926, sl_903, sl_912, sl_955, sl_987, sl_1154, sl_957, sl_1155, sl_949, sl_950, sl_951, sl_952, sl_953, sl_954], [], (4, [])), ((nat_lit 47), [lcn_898, lcn_1156], [], [sl_894, sl_895, sl_906, sl_955, sl_987, sl_1157, sl_957, sl_1158, sl_949, sl_950, sl_951, sl_952, sl_953, sl_954], [], (4, [])), ((nat_lit 47), [lcn_898, lcn_1156], [], [sl_908, sl_892, sl_906, sl_955, sl_987, sl_1157, sl_957, sl_1158, sl_949, sl_950, sl_951, sl_952, sl_953, sl_954], [], (4, [])), ((nat_lit 47), [lcn_898, lcn_1156], [], [sl_926, sl_903, sl_912, sl_955, sl_987, sl_1157, sl_957, sl_1158, sl_949, sl_950, sl_951, sl_952, sl_953, sl_954], [], (4, [])), ((nat_lit 47), [lcn_898, lcn_1159], [], [sl_894, sl_895, sl_906, sl_955, sl_987, sl_1160, sl_957, sl_1161, sl_949, sl_950, sl_951, sl_952, sl_953, sl_954], [], (4, [])), ((nat_lit 47), [lcn_898, lcn_1159], [], [sl_908, sl_892, sl_906, sl_955, sl_987, sl_1160, sl_957, sl_1161, sl_949, sl_950, sl_951, sl_952, sl_953, sl_954], [], (4, [])), ((nat_lit 47), [lcn_898, lcn_1159], [], [sl_926, sl_903, sl_912, sl_955, sl_987, sl_1160, sl_957, sl_1161, sl_949, sl_950, sl_951, sl_952, sl_953, sl_954], [], (4, [])), ((nat_lit 47), [lcn_898, lcn_1162], [], [sl_894, sl_895, sl_906, sl_955, sl_987, sl_1163, sl_957, sl_1164, sl_949, sl_950, sl_951, sl_952, sl_953, sl_954], [], (4, [])), ((nat_lit 47), [lcn_898, lcn_1162], [], [sl_908, sl_892, sl_906, sl_955, sl_987, sl_1163, sl_957, sl_1164, sl_949, sl_950, sl_951, sl_952, sl_953, sl_954], [], (4, [])), ((nat_lit 47), [lcn_898, lcn_1162], [], [sl_926, sl_903, sl_912, sl_955, sl_987, sl_1163, sl_957, sl_1164, sl_949, sl_950, sl_951, sl_952, sl_953, sl_954], [], (4, [])), ((nat_lit 47), [lcn_898, lcn_1165], [], [sl_894, sl_895, sl_906, sl_955, sl_987, sl_946, sl_957, sl_1166, sl_949, sl_950, sl_951, sl_952, sl_953, sl_954], [], (4, [])), ((nat_lit 47), [lcn_898, lcn_1165], [], [sl_908, sl_892, sl_906, sl_955, sl_987, sl_946, sl_957, sl_1166, sl_949, sl_950, sl_951, sl_952, sl_953, sl_954], [], (4, [])), ((nat_lit 47), [lcn_898, lcn_1165], [], [sl_926, sl_903, sl_912, sl_955, sl_987, sl_946, sl_957, sl_1166, sl_949, sl_950, sl_951, sl_952, sl_953, sl_954], [], (4, [])), ((nat_lit 62), [lcn_898, lcn_1144], [], [sl_894, sl_895, sl_906, sl_955, sl_987, sl_1145, sl_957, sl_1146, sl_1167, sl_949, sl_950, sl_951, sl_952, sl_953, sl_954], [], (3, [])), ((nat_lit 62), [lcn_898, lcn_1144], [], [sl_908, sl_892, sl_906, sl_955, sl_987, sl_1145, sl_957, sl_1146, sl_1167, sl_949, sl_950, sl_951, sl_952, sl_953, sl_954], [], (3, [])), ((nat_lit 62), [lcn_898, lcn_1144], [], [sl_926, sl_903, sl_912, sl_955, sl_987, sl_1145, sl_957, sl_1146, sl_1167, sl_949, sl_950, sl_951, sl_952, sl_953, sl_954], [], (3, [])), ((nat_lit 62), [lcn_898, lcn_1147], [], [sl_894, sl_895, sl_906, sl_955, sl_987, sl_1148, sl_957, sl_1149, sl_1168, sl_949, sl_950, sl_951, sl_952, sl_953, sl_954], [], (3, [])), ((nat_lit 62), [lcn_898, lcn_1147], [], [sl_908, sl_892, sl_906, sl_955, sl_987, sl_1148, sl_957, sl_1149, sl_1168, sl_949, sl_950, sl_951, sl_952, sl_953, sl_954], [], (3, [])), ((nat_lit 62), [lcn_898, lcn_1147], [], [sl_926, sl_903, sl_912, sl_955, sl_987, sl_1148, sl_957, sl_1149, sl_1168, sl_949, sl_950, sl_951, sl_952, sl_953, sl_954], [], (3, [])), ((nat_lit 62), [lcn_898, lcn_1150], [], [sl_894, sl_895, sl_906, sl_955, sl_987, sl_1151, sl_957, sl_1152, sl_1169, sl_949, sl_950, sl_951, sl_952, sl_953, sl_954], [], (3, [])), ((nat_lit 62), [lcn_898, lcn_1150], [], [sl_908, sl_892, sl_906, sl_955, sl_987, sl_1151, sl_957, sl_1152, sl_1169, sl_949, sl_950, sl_951, sl_952, sl_953, sl_954], [], (3, [])), ((nat_lit 62), [lcn_898, lcn_1150], [], [sl_926, sl_903, sl_912, sl_955, sl_987, sl_1151, sl_957, sl_1152, sl_1169, sl_949, sl_950, sl_951, sl_952, sl_953, sl_954], [], (3, [])), ((nat_lit 62), [lcn_898, lcn_1153], [], [sl_894, sl_895, sl_906, sl_955, sl_987, sl_1154, sl_957, sl_1155, sl_1170, sl_949, sl_950, sl_951, sl_952, sl_953, sl_954], [], (3, [])), ((nat_lit 62), [lcn_898, lcn_1153], [], [sl_908, sl_892, sl_906, sl_955, sl_987, sl_1154, sl_957, sl_1155, sl_1170, sl_949, sl_950, sl_951, sl_952, sl_953, sl_954], [], (3, [])), ((nat_lit 62), [lcn_898, lcn_1153], [], [sl_926, sl_903, sl_912, sl_955, sl_987, sl_1154, sl_957, sl_1155, sl_1170, sl_949, sl_950, sl_951, sl_952, sl_953, sl_954], [], (3, [])), ((nat_lit 62), [lcn_898, lcn_1156], [], [sl_894, sl_895, sl_906, sl_955, sl_987, sl_1157, sl_957, sl_1158, sl_1171, sl_949, sl_950, sl_951, sl_952, sl_953, sl_954], [], (3, [])), ((nat_lit 62), [lcn_898, lcn_1156], [], [sl_908, sl_892, sl_906, sl_955, sl_987, sl_1157, sl_957, sl_1158, sl_1171, sl_949, sl_950, sl_951, sl_952, sl_953, sl_954], [], (3, [])), ((nat_lit 62), [lcn_898, lcn_1156], [], [sl_926, sl_903, sl_912, sl_955, sl_987, sl_1157, sl_957, sl_1158, sl_1171, sl_949, sl_950, sl_951, sl_952, sl_953, sl_954], [], (3, [])), ((nat_lit 62), [lcn_898, lcn_1159], [], [sl_894, sl_895, sl_906, sl_955, sl_987, sl_1160, sl_957, sl_1161, sl_1172, sl_949, sl_950, sl_951, sl_952, sl_953, sl_954], [], (3, [])), ((nat_lit 62), [lcn_898, lcn_1159], [], [sl_908, sl_892, sl_906, sl_955, sl_987, sl_1160, sl_957, sl_1161, sl_1172, sl_949, sl_950, sl_951, sl_952, sl_953, sl_954], [], (3, [])), ((nat_lit 62), [lcn_898, lcn_1159], [], [sl_926, sl_903, sl_912, sl_955, sl_987, sl_1160, sl_957, sl_1161, sl_1172, sl_949, sl_950, sl_951, sl_952, sl_953, sl_954], [], (3, [])), ((nat_lit 62), [lcn_898, lcn_1162], [], [sl_894, sl_895, sl_906, sl_955, sl_987, sl_1163, sl_957, sl_1164, sl_1173, sl_949, sl_950, sl_951, sl_952, sl_953, sl_954], [], (3, [])), ((nat_lit 62), [lcn_898, lcn_1162], [], [sl_908, sl_892, sl_906, sl_955, sl_987, sl_1163, sl_957, sl_1164, sl_1173, sl_949, sl_950, sl_951, sl_952, sl_953, sl_954], [], (3, [])), ((nat_lit 62), [lcn_898, lcn_1162], [], [sl_926, sl_903, sl_912, sl_955, sl_987, sl_1163, sl_957, sl_1164, sl_1173, sl_949, sl_950, sl_951, sl_952, sl_953, sl_954], [], (3, [])), ((nat_lit 62), [lcn_898, lcn_1165], [], [sl_894, sl_895, sl_906, sl_955, sl_987, sl_946, sl_957, sl_1166, sl_1174, sl_949, sl_950, sl_951, sl_952, sl_953, sl_954], [], (3, [])), ((nat_lit 62), [lcn_898, lcn_1165], [], [sl_908, sl_892, sl_906, sl_955, sl_987, sl_946, sl_957, sl_1166, sl_1174, sl_949, sl_950, sl_951, sl_952, sl_953, sl_954], [], (3, [])), ((nat_lit 62), [lcn_898, lcn_1165], [], [sl_926, sl_903, sl_912, sl_955, sl_987, sl_946, sl_957, sl_1166, sl_1174, sl_949, sl_950, sl_951, sl_952, sl_953, sl_954], [], (3, [])), ((nat_lit 80), [lcn_898, lcn_1144], [], [sl_894, sl_895, sl_906, sl_955, sl_987, sl_1145, sl_957, sl_1146, sl_1167, sl_1240, sl_949, sl_950, sl_951, sl_952, sl_953, sl_954], [], (2, [])), ((nat_lit 80), [lcn_898, lcn_1144], [], [sl_908, sl_892, sl_906, sl_955, sl_987, sl_1145, sl_957, sl_1146, sl_1167, sl_1240, sl_949, sl_950, sl_951, sl_952, sl_953, sl_954], [], (2, [])), ((nat_lit 80), [lcn_898, lcn_1144], [], [sl_926, sl_903, sl_912, sl_955, sl_987, sl_1145, sl_957, sl_1146, sl_1167, sl_1175, sl_949, sl_950, sl_951, sl_952, sl_953, sl_954], [], (2, [])), ((nat_lit 80), [lcn_898, lcn_1147], [], [sl_894, sl_895, sl_906, sl_955, sl_987, sl_1148, sl_957, sl_1149, sl_1168, sl_1241, sl_949, sl_950, sl_951, sl_952, sl_953, sl_954], [], (2, [])), ((nat_lit 80), [lcn_898, lcn_1147], [], [sl_908, sl_892, sl_906, sl_955, sl_987, sl_1148, sl_957, sl_1149, sl_1168, sl_1241, sl_949, sl_950, sl_951, sl_952, sl_953, sl_954], [], (2, [])), ((nat_lit 80), [lcn_898, lcn_1147], [], [sl_926, sl_903, sl_912, sl_955, sl_987, sl_1148, sl_957, sl_1149, sl_1168, sl_1176, sl_949, sl_950, sl_951, sl_952, sl_953, sl_954], [], (2, [])), ((nat_lit 80), [lcn_898, lcn_1150], [], [sl_894, sl_895, sl_906, sl_955, sl_987, sl_1151, sl_957, sl_1152, sl_1169, sl_1242, sl_949, sl_950, sl_951, sl_952, sl_953, sl_954], [], (2, [])), ((nat_lit 80), [lcn_898, lcn_1150], [], [sl_908, sl_892, sl_906, sl_955, sl_987, sl_1151, sl_957, sl_1152, sl_1169, sl_1242, sl_949, sl_950, sl_951, sl_952, sl_953, sl_954], [], (2, [])), ((nat_lit 80), [lcn_898, lcn_1150], [], [sl_926, sl_903, sl_912, sl_955, sl_987, sl_1151, sl_957, sl_1152, sl_1169, sl_1177, sl_949, sl_950, sl_951, sl_952, sl_953, sl_954], [], (2, [])), ((nat_lit 80), [lcn_898, lcn_1153], [], [sl_894, sl_895, sl_906, sl_955, sl_987, sl_1154, sl_957, sl_1155, sl_1170, sl_1243, sl_949, sl_950, sl_951, sl_952, sl_953, sl_954], [], (2, [])), ((nat_lit 80), [lcn_898, lcn_1153], [], [sl_908, sl_892, sl_906, sl_955, sl_987, sl_1154, sl_957, sl_1155, sl_1170, sl_1243, sl_949, sl_950, sl_951, sl_952, sl_953, sl_954], [], (2, [])), ((nat_lit 80), [lcn_898, lcn_1153], [], [sl_926, sl_903, sl_912, sl_955, sl_987, sl_1154, sl_957, sl_1155, sl_1170, sl_1178, sl_949, sl_950, sl_951, sl_952, sl_953, sl_954], [], (2, [])), ((nat_lit 80), [lcn_898, lcn_1156], [], [sl_894, sl_895, sl_906, sl_955, sl_987, sl_1157, sl_957, sl_1158, sl_1171, sl_1244, sl_949, sl_950, sl_951, sl_952, sl_953, sl_954], [], (2, [])), ((nat_lit 80), [lcn_898, lcn_1156], [], [sl_908, sl_892, sl_906, sl_955, sl_987, sl_1157, sl_957, sl_1158, sl_1171, sl_1244, sl_949, sl_950, sl_951, sl_952, sl_953, sl_954], [], (2, [])), ((nat_lit 80), [lcn_898, lcn_1156], [], [sl_926, sl_903, sl_912, sl_955, sl_987, sl_1157, sl_957, sl_1158, sl_1171, sl_1179, sl_949, sl_950, sl_951, sl_952, sl_953, sl_954], [], (2, [])), ((nat_lit 80), [lcn_898, lcn_1159], [], [sl_894, sl_895, sl_906, sl_955, sl_987, sl_1160, sl_957, sl_1161, sl_1172, sl_1245, sl_949, sl_950, sl_951, sl_952, sl_953, sl_954], [], (2, [])), ((nat_lit 80), [lcn_898, lcn_1159], [], [sl_908, sl_892, sl_906, sl_955, sl_987, sl_1160, sl_957, sl_1161, sl_1172, sl_1245, sl_949, sl_950, sl_951, sl_952, sl_953, sl_954], [], (2, [])), ((nat_lit 80), [lcn_898, lcn_1159], [], [sl_926, sl_903, sl_912, sl_955, sl_987, sl_1160, sl_957, sl_1161, sl_1172, sl_1180, sl_949, sl_950, sl_951, sl_952, sl_953, sl_954], [], (2, [])), ((nat_lit 80), [lcn_898, lcn_1162], [], [sl_894, sl_895, sl_906, sl_955, sl_987, sl_1163, sl_957, sl_1164, sl_1173, sl_1246, sl_949, sl_950, sl_951, sl_952, sl_953, sl_954], [], (2, [])), ((nat_lit 80), [lcn_898, lcn_1162], [], [sl_908, sl_892, sl_906, sl_955, sl_987, sl_1163, sl_957, sl_1164, sl_1173, sl_1246, sl_949, sl_950, sl_951, sl_952, sl_953, sl_954], [], (2, [])), ((nat_lit 80), [lcn_898, lcn_1162], [], [sl_926, sl_903, sl_912, sl_955, sl_987, sl_1163, sl_957, sl_1164, sl_1173, sl_1181, sl_949, sl_950, sl_951, sl_952, sl_953, sl_954], [], (2, [])), ((nat_lit 80), [lcn_898, lcn_1165], [], [sl_894, sl_895, sl_906, sl_955, sl_987, sl_946, sl_957, sl_1166, sl_1174, sl_1247, sl_949, sl_950, sl_951, sl_952, sl_953, sl_954], [], (2, [])), ((nat_lit 80), [lcn_898, lcn_1165], [], [sl_908, sl_892, sl_906, sl_955, sl_987, sl_946, sl_957, sl_1166, sl_1174, sl_1247, sl_949, sl_950, sl_951, sl_952, sl_953, sl_954], [], (2, [])), ((nat_lit 80), [lcn_898, lcn_1165], [], [sl_926, sl_903, sl_912, sl_955, sl_987, sl_946, sl_957, sl_1166, sl_1174, sl_1182, sl_949, sl_950, sl_951, sl_952, sl_953, sl_954], [], (2, [])), ((nat_lit 99), [lcn_898, lcn_1144], [], [sl_894, sl_895, sl_906, sl_955, sl_987, sl_1145, sl_957, sl_1146, sl_1167, sl_1240, sl_1248, sl_949, sl_950, sl_951, sl_952, sl_953, sl_954], [], (1, [])), ((nat_lit 99), [lcn_898, lcn_1144], [], [sl_908, sl_892, sl_906, sl_955, sl_987, sl_1145, sl_957, sl_1146, sl_1167, sl_1240, sl_1248, sl_949, sl_950, sl_951, sl_952, sl_953, sl_954], [], (1, [])), ((nat_lit 99), [lcn_898, lcn_1144], [], [sl_926, sl_903, sl_912, sl_955, sl_987, sl_1145, sl_957, sl_1146, sl_1167, sl_1240, sl_1183, sl_949, sl_950, sl_951, sl_952, sl_953, sl_954], [], (1, [])), ((nat_lit 99), [lcn_898, lcn_1147], [], [sl_894, sl_895, sl_906, sl_955, sl_987, sl_1148, sl_957, sl_1149, sl_1168, sl_1241, sl_1249, sl_949, sl_950, sl_951, sl_952, sl_953, sl_954], [], (1, [])), ((nat_lit 99), [lcn_898, lcn_1147], [], [sl_908, sl_892, sl_906, sl_955, sl_987, sl_1148, sl_957, sl_1149, sl_1168, sl_1241, sl_1249, sl_949, sl_950, sl_951, sl_952, sl_953, sl_954], [], (1, [])), ((nat_lit 99), [lcn_898, lcn_1147], [], [sl_926, sl_903, sl_912, sl_955, sl_987, sl_1148, sl_957, sl_1149, sl_1168, sl_1241, sl_1184, sl_949, sl_950, sl_951, sl_952, sl_953, sl_954], [], (1, [])), ((nat_lit 99), [lcn_898, lcn_1150], [], [sl_894, sl_895, sl_906, sl_955, sl_987, sl_1151, sl_957, sl_1152, sl_1169, sl_1242, sl_1250, sl_949, sl_950, sl_951, sl_952, sl_953, sl_954], [], (1, [])), ((nat_lit 99), [lcn_898, lcn_1150], [], [sl_908, sl_892, sl_906, sl_955, sl_987, sl_1151, sl_957, sl_1152, sl_1169, sl_1242, sl_1250, sl_949, sl_950, sl_951, sl_952, sl_953, sl_954], [], (1, [])), ((nat_lit 99), [lcn_898, lcn_1150], [], [sl_926, sl_903, sl_912, sl_955, sl_987, sl_1151, sl_957, sl_1152, sl_1169, sl_1242, sl_1185, sl_949, sl_950, sl_951, sl_952, sl_953, sl_954], [], (1, [])), ((nat_lit 99), [lcn_898, lcn_1153], [], [sl_894, sl_895, sl_906, sl_955, sl_987, sl_1154, sl_957, sl_1155, sl_1170, sl_1243, sl_1251, sl_949, sl_950, sl_951, sl_952, sl_953, sl_954], [], (1, [])), ((nat_lit 99), [lcn_898, lcn_1153], [], [sl_908, sl_892, sl_906, sl_955, sl_987, sl_1154, sl_957, sl_1155, sl_1170, sl_1243, sl_1251, sl_949, sl_950, sl_951, sl_952, sl_953, sl_954], [], (1, [])), ((nat_lit 99), [lcn_898, lcn_1153], [], [sl_926, sl_903, sl_912, sl_955, sl_987, sl_1154, sl_957, sl_1155, sl_1170, sl_1243, sl_1186, sl_949, sl_950, sl_951, sl_952, sl_953, sl_954], [], (1, [])), ((nat_lit 99), [lcn_898, lcn_1156], [], [sl_894, sl_895, sl_906, sl_955, sl_987, sl_1157, sl_957, sl_1158, sl_1171, sl_1244, sl_1252, sl_949, sl_950, sl_951, sl_952, sl_953, sl_954], [], (1, [])), ((nat_lit 99), [lcn_898, lcn_1156], [], [sl_908, sl_892, sl_906, sl_955, sl_987, sl_1157, sl_957, sl_1158, sl_1171, sl_1244, sl_1252, sl_949, sl_950, sl_951, sl_952, sl_953, sl_954], [], (1, [])), ((nat_lit 99), [lcn_898, lcn_1156], [], [sl_926, sl_903, sl_912, sl_955, sl_987, sl_1157, sl_957, sl_1158, sl_1171, sl_1244, sl_1187, sl_949, sl_950, sl_951, sl_952, sl_953, sl_954], [], (1, [])), ((nat_lit 99), [lcn_898, lcn_1159], [], [sl_894, sl_895, sl_906, sl_955, sl_987, sl_1160, sl_957, sl_1161, sl_1172, sl_1245, sl_1253, sl_949, sl_950, sl_951, sl_952, sl_953, sl_954], [], (1, [])), ((nat_lit 99), [lcn_898, lcn_1159], [], [sl_908, sl_892, sl_906, sl_955, sl_987, sl_1160, sl_957, sl_1161, sl_1172, sl_1245, sl_1253, sl_949, sl_950, sl_951, sl_952, sl_953, sl_954], [], (1, [])), ((nat_lit 99), [lcn_898, lcn_1159], [], [sl_926, sl_903, sl_912, sl_955, sl_987, sl_1160, sl_957, sl_1161, sl_1172, sl_1245, sl_1188, sl_949, sl_950, sl_951, sl_952, sl_953, sl_954], [], (1, [])), ((nat_lit 99), [lcn_898, lcn_1162], [], [sl_894, sl_895, sl_906, sl_955, sl_987, sl_1163, sl_957, sl_1164, sl_1173, sl_1246, sl_1254, sl_949, sl_950, sl_951, sl_952, sl_953, sl_954], [], (1, [])), ((nat_lit 99), [lcn_898, lcn_1162], [], [sl_908, sl_892, sl_906, sl_955, sl_987, sl_1163, sl_957, sl_1164, sl_1173, sl_1246, sl_1254, sl_949, sl_950, sl_951, sl_952, sl_953, sl_954], [], (1, [])), ((nat_lit 99), [lcn_898, lcn_1162], [], [sl_926, sl_903, sl_912, sl_955, sl_987, sl_1163, sl_957, sl_1164, sl_1173, sl_1246, sl_1189, sl_949, sl_950, sl_951, sl_952, sl_953, sl_954], [], (1, [])), ((nat_lit 99), [lcn_898, lcn_1165], [], [sl_894, sl_895, sl_906, sl_955, sl_987, sl_946, sl_957, sl_1166, sl_1174, sl_1247, sl_1255, sl_949, sl_950, sl_951, sl_952, sl_953, sl_954], [], (1, [])), ((nat_lit 99), [lcn_898, lcn_1165], [], [sl_908, sl_892, sl_906, sl_955, sl_987, sl_946, sl_957, sl_1166, sl_1174, sl_1247, sl_1255, sl_949, sl_950, sl_951, sl_952, sl_953, sl_954], [], (1, [])), ((nat_lit 99), [lcn_898, lcn_1165], [], [sl_926, sl_903, sl_912, sl_955, sl_987, sl_946, sl_957, sl_1166, sl_1174, sl_1247, sl_1190, sl_949, sl_950, sl_951, sl_952, sl_953, sl_954], [], (1, [])), ((nat_lit 117), [lcn_898, lcn_1144], [], [sl_894, sl_895, sl_906, sl_955, sl_987, sl_1211, sl_957, sl_1146, sl_1167, sl_1240, sl_1248, sl_949, sl_950, sl_951, sl_952, sl_953, sl_954], [], (0, [])), ((nat_lit 117), [lcn_898, lcn_1144], [], [sl_908, sl_892, sl_906, sl_955, sl_987, sl_1211, sl_957, sl_1146, sl_1167, sl_1240, sl_1248, sl_949, sl_950, sl_951, sl_952, sl_953, sl_954], [], (0, [])), ((nat_lit 117), [lcn_898, lcn_1144], [], [sl_926, sl_903, sl_912, sl_955, sl_987, sl_1145, sl_957, sl_1146, sl_1167, sl_1240, sl_1183, sl_949, sl_950, sl_951, sl_952, sl_953, sl_954], [], (0, [])), ((nat_lit 117), [lcn_898, lcn_1147], [], [sl_894, sl_895, sl_906, sl_955, sl_987, sl_1145, sl_957, sl_1149, sl_1168, sl_1241, sl_1249, sl_949, sl_950, sl_951, sl_952, sl_953, sl_954], [], (0, [])), ((nat_lit 117), [lcn_898, lcn_1147], [], [sl_908, sl_892, sl_906, sl_955, sl_987, sl_1145, sl_957, sl_1149, sl_1168, sl_1241, sl_1249, sl_949, sl_950, sl_951, sl_952, sl_953, sl_954], [], (0, [])), ((nat_lit 117), [lcn_898, lcn_1147], [], [sl_926, sl_903, sl_912, sl_955, sl_987, sl_1148, sl_957, sl_1149, sl_1168, sl_1241, sl_1184, sl_949, sl_950, sl_951, sl_952, sl_953, sl_954], [], (0, [])), ((nat_lit 117), [lcn_898, lcn_1150], [], [sl_894, sl_895, sl_906, sl_955, sl_987, sl_1148, sl_957, sl_1152, sl_1169, sl_1242, sl_1250, sl_949, sl_950, sl_951, sl_952, sl_953, sl_954], [], (0, [])), ((nat_lit 117), [lcn_898, lcn_1150], [], [sl_908, sl_892, sl_906, sl_955, sl_987, sl_1148, sl_957, sl_1152, sl_1169, sl_1242, sl_1250, sl_949, sl_950, sl_951, sl_952, sl_953, sl_954], [], (0, [])), ((nat_lit 117), [lcn_898, lcn_1150], [], [sl_926, sl_903, sl_912, sl_955, sl_987, sl_1151, sl_957, sl_1152, sl_1169, sl_1242, sl_1185, sl_949, sl_950, sl_951, sl_952, sl_953, sl_954], [], (0, [])), ((nat_lit 117), [lcn_898, lcn_1153], [], [sl_894, sl_895, sl_906, sl_955, sl_987, sl_1151, sl_957, sl_1155, sl_1170, sl_1243, sl_1251, sl_949, sl_950, sl_951, sl_952, sl_953, sl_954], [], (0, [])), ((nat_lit 117), [lcn_898, lcn_1153], [], [sl_908, sl_892, sl_906, sl_955, sl_987, sl_1151, sl_957, sl_1155, sl_1170, sl_1243, sl_1251, sl_949, sl_950, sl_951, sl_952, sl_953, sl_954], [], (0, [])), ((nat_lit 117), [lcn_898, lcn_1153], [], [sl_926, sl_903, sl_912, sl_955, sl_987, sl_1154, sl_957, sl_1155, sl_1170, sl_1243, sl_1186, sl_949, sl_950, sl_951, sl_952, sl_953, sl_954], [], (0, [])), ((nat_lit 117), [lcn_898, lcn_1156], [], [sl_894, sl_895, sl_906, sl_955, sl_987, sl_1154, sl_957, sl_1158, sl_1171, sl_1244, sl_1252, sl_949, sl_950, sl_951, sl_952, sl_953, sl_954], [], (0, [])), ((nat_lit 117), [lcn_898, lcn_1156], [], [sl_908, sl_892, sl_906, sl_955, sl_987, sl_1154, sl_957, sl_1158, sl_1171, sl_1244, sl_1252, sl_949, sl_950, sl_951, sl_952, sl_953, sl_954], [], (0, [])), ((nat_lit 117), [lcn_898, lcn_1156], [], [sl_926, sl_903, sl_912, sl_955, sl_987, sl_1157, sl_957, sl_1158, sl_1171, sl_1244, sl_1187, sl_949, sl_950, sl_951, sl_952, sl_953, sl_954], [], (0, [])), ((nat_lit 117), [lcn_898, lcn_1159], [], [sl_894, sl_895, sl_906, sl_955, sl_987, sl_1157, sl_957, sl_1161, sl_1172, sl_1245, sl_1253, sl_949, sl_950, sl_951, sl_952, sl_953, sl_954], [], (0, [])), ((nat_lit 117), [lcn_898, lcn_1159], [], [sl_908, sl_892, sl_906, sl_955, sl_987, sl_1157, sl_957, sl_1161, sl_1172, sl_1245, sl_1253, sl_949, sl_950, sl_951, sl_952, sl_953, sl_954], [], (0, [])), ((nat_lit 117), [lcn_898, lcn_1159], [], [sl_926, sl_903, sl_912, sl_955, sl_987, sl_1160, sl_957, sl_1161, sl_1172, sl_1245, sl_1188, sl_949, sl_950, sl_951, sl_952, sl_953, sl_954], [], (0, [])), ((nat_lit 117), [lcn_898, lcn_1162], [], [sl_894, sl_895, sl_906, sl_955, sl_987, sl_1160, sl_957, sl_1164, sl_1173, sl_1246, sl_1254, sl_949, sl_950, sl_951, sl_952, sl_953, sl_954], [], (0, [])), ((nat_lit 117), [lcn_898, lcn_1162], [], [sl_908, sl_892, sl_906, sl_955, sl_987, sl_1160, sl_957, sl_1164, sl_1173, sl_1246, sl_1254, sl_949, sl_950, sl_951, sl_952, sl_953, sl_954], [], (0, [])), ((nat_lit 117), [lcn_898, lcn_1162], [], [sl_926, sl_903, sl_912, sl_955, sl_987, sl_1163, sl_957, sl_1164, sl_1173, sl_1246, sl_1189, sl_949, sl_950, sl_951, sl_952, sl_953, sl_954], [], (0, [])), ((nat_lit 117), [lcn_898, lcn_1165], [], [sl_894, sl_895, sl_906, sl_955, sl_987, sl_1163, sl_957, sl_1166, sl_1174, sl_1247, sl_1255, sl_949, sl_950, sl_951, sl_952, sl_953, sl_954], [], (0, [])), ((nat_lit 117), [lcn_898, lcn_1165], [], [sl_908, sl_892, sl_906, sl_955, sl_987, sl_1163, sl_957, sl_1166, sl_1174, sl_1247, sl_1255, sl_949, sl_950, sl_951, sl_952, sl_953, sl_954], [], (0, [])), ((nat_lit 117), [lcn_898, lcn_1165], [], [sl_926, sl_903, sl_912, sl_955, sl_987, sl_946, sl_957, sl_1166, sl_1174, sl_1247, sl_1190, sl_949, sl_950, sl_951, sl_952, sl_953, sl_954], [], (0, []))]) (fk := [18]) (rk := (5, [])) (sp := 166154133299623528659118015977095168) (fuel := 3000) (by decide +kernel) (lk_d S_626 ml_12_223 (lk_d S_641 ml_12_223 (lk_d S_642 ml_12_223 (lk_d S_643 ml_12_223 (lk_d S_644 ml_12_223 (lk_d S_645 ml_12_223 (lk_d S_646 ml_12_223 (lk_d S_647 ml_12_223 (lk_d S_716 ml_12_246 (lk_d S_720 ml_12_246 (lk_d S_719 ml_12_246 (lk_d S_723 ml_12_246 (lk_d S_592 ml_12_213 (lk_d S_728 ml_12_213 (lk_d S_594 ml_12_213 (lk_d S_729 ml_12_213 (lk_d S_652 ml_12_213 (lk_d S_654 ml_12_213 lk_n)))))))))))))))))) odX12_boxLine
def ct_731 : aCt := (mX12_islandBehind, [ag_861, ag_905], ([sl_908, sl_892, sl_912, sl_949, sl_950, sl_951, sl_952, sl_953, sl_954], []), [pon_37], mdn_872, [], (nat_lit 2))
set_option maxRecDepth 100000 in
theorem S_731 : aSpec wd ct_731 := bChk_ok wx_ok btX12_islandBehind (nds := []) (fk := []) (rk := (1, [])) (sp := 0) (fuel := 3000) (by decide +kernel) (lk_d S_718 ml_12_161 (lk_d S_492 ml_12_157 lk_n)) odX12_islandBehind
def ct_732 : aCt := (mX12_boxLine, [ag_861], ([sl_908, sl_892, sl_906, sl_955, sl_987, sl_1141, sl_957, sl_949, sl_950, sl_951, sl_952, sl_953, sl_954], []), [pon_913], mdn_1191, [], (nat_lit 3))
set_option maxRecDepth 100000 in
theorem S_732 : aSpec wd ct_732 := bChk_ok wx_ok btX12_boxLine (nds := [((nat_lit 47), [lcn_898, lcn_1144], [], [sl_908, sl_892, sl_912, sl_955, sl_987, sl_1145, sl_957, sl_1146, sl_949, sl_950, sl_951, sl_952, sl_953, sl_954], [], (4, [])), ((nat_lit 47), [lcn_898, lcn_1147], [], [sl_908, sl_892, sl_912, sl_955, sl_987, sl_1148, sl_957, sl_1149, sl_949, sl_950, sl_951, sl_952, sl_953, sl_954], [], (4, [])), ((nat_lit 47), [lcn_898, lcn_1150], [], [sl_908, sl_892, sl_912, sl_955, sl_987, sl_1151, sl_957, sl_1152, sl_949, sl_950, sl_951, sl_952, sl_953, sl_954], [], (4, [])), ((nat_lit 47), [lcn_898, lcn_1153], [], [sl_908, sl_892, sl_912, sl_955, sl_987, sl_1154, sl_957, sl_1155, sl_949, sl_950, sl_951, sl_952, sl_953, sl_954], [], (4, [])), ((nat_lit 47), [lcn_898, lcn_1156], [], [sl_908, sl_892, sl_912, sl_955, sl_987, sl_1157, sl_957, sl_1158, sl_949, sl_950, sl_951, sl_952, sl_953, sl_954], [], (4, [])), ((nat_lit 47), [lcn_898, lcn_1159], [], [sl_908, sl_892, sl_912, sl_955, sl_987, sl_1160, sl_957, sl_1161, sl_949, sl_950, sl_951, sl_952, sl_953, sl_954], [], (4, [])), ((nat_lit 47), [lcn_898, lcn_1162], [], [sl_908, sl_892, sl_912, sl_955, sl_987, sl_1163, sl_957, sl_1164, sl_949, sl_950, sl_951, sl_952, sl_953, sl_954], [], (4, [])), ((nat_lit 47), [lcn_898, lcn_1165], [], [sl_908, sl_892, sl_912, sl_955, sl_987, sl_946, sl_957, sl_1166, sl_949, sl_950, sl_951, sl_952, sl_953, sl_954], [], (4, [])), ((nat_lit 62), [lcn_898, lcn_1144], [], [sl_908, sl_892, sl_912, sl_955, sl_987, sl_1145, sl_957, sl_1146, sl_1167, sl_949, sl_950, sl_951, sl_952, sl_953, sl_954], [], (3, [])), ((nat_lit 62), [lcn_898, lcn_1147], [], [sl_908, sl_892, sl_912, sl_955, sl_987, sl_1148, sl_957, sl_1149, sl_1168, sl_949, sl_950, sl_951, sl_952, sl_953, sl_954], [], (3, [])), ((nat_lit 62), [lcn_898, lcn_1150], [], [sl_908, sl_892, sl_912, sl_955, sl_987, sl_1151, sl_957, sl_1152, sl_1169, sl_949, sl_950, sl_951, sl_952, sl_953, sl_954], [], (3, [])), ((nat_lit 62), [lcn_898, lcn_1153], [], [sl_908, sl_892, sl_912, sl_955, sl_987, sl_1154, sl_957, sl_1155, sl_1170, sl_949, sl_950, sl_951, sl_952, sl_953, sl_954], [], (3, [])), ((nat_lit 62), [lcn_898, lcn_1156], [], [sl_908, sl_892, sl_912, sl_955, sl_987, sl_1157, sl_957, sl_1158, sl_1171, sl_949, sl_950, sl_951, sl_952, sl_953, sl_954], [], (3, [])), ((nat_lit 62), [lcn_898, lcn_1159], [], [sl_908, sl_892, sl_912, sl_955, sl_987, sl_1160, sl_957, sl_1161, sl_1172, sl_949, sl_950, sl_951, sl_952, sl_953, sl_954], [], (3, [])), ((nat_lit 62), [lcn_898, lcn_1162], [], [sl_908, sl_892, sl_912, sl_955, sl_987, sl_1163, sl_957, sl_1164, sl_1173, sl_949, sl_950, sl_951, sl_952, sl_953, sl_954], [], (3, [])), ((nat_lit 62), [lcn_898, lcn_1165], [], [sl_908, sl_892, sl_912, sl_955, sl_987, sl_946, sl_957, sl_1166, sl_1174, sl_949, sl_950, sl_951, sl_952, sl_953, sl_954], [], (3, [])), ((nat_lit 80), [lcn_898, lcn_1144], [], [sl_908, sl_892, sl_912, sl_955, sl_987, sl_1145, sl_957, sl_1146, sl_1167, sl_1175, sl_949, sl_950, sl_951, sl_952, sl_953, sl_954], [], (2, [])), ((nat_lit 80), [lcn_898, lcn_1147], [], [sl_908, sl_892, sl_912, sl_955, sl_987, sl_1148, sl_957, sl_1149, sl_1168, sl_1176, sl_949, sl_950, sl_951, sl_952, sl_953, sl_954], [], (2, [])), ((nat_lit 80), [lcn_898, lcn_1150], [], [sl_908, sl_892, sl_912, sl_955, sl_987, sl_1151, sl_957, sl_1152, sl_1169, sl_1177, sl_949, sl_950, sl_951, sl_952, sl_953, sl_954], [], (2, [])), ((nat_lit 80), [lcn_898, lcn_1153], [], [sl_908, sl_892, sl_912, sl_955, sl_987, sl_1154, sl_957, sl_1155, sl_1170, sl_1178, sl_949, sl_950, sl_951, sl_952, sl_953, sl_954], [], (2, [])), ((nat_lit 80), [lcn_898, lcn_1156], [], [sl_908, sl_892, sl_912, sl_955, sl_987, sl_1157, sl_957, sl_1158, sl_1171, sl_1179, sl_949, sl_950, sl_951, sl_952, sl_953, sl_954], [], (2, [])), ((nat_lit 80), [lcn_898, lcn_1159], [], [sl_908, sl_892, sl_912, sl_955, sl_987, sl_1160, sl_957, sl_1161, sl_1172, sl_1180, sl_949, sl_950, sl_951, sl_952, sl_953, sl_954], [], (2, [])), ((nat_lit 80), [lcn_898, lcn_1162], [], [sl_908, sl_892, sl_912, sl_955, sl_987, sl_1163, sl_957, sl_1164, sl_1173, sl_1181, sl_949, sl_950, sl_951, sl_952, sl_953, sl_954], [], (2, [])), ((nat_lit 80), [lcn_898, lcn_1165], [], [sl_908, sl_892, sl_912, sl_955, sl_987, sl_946, sl_957, sl_1166, sl_1174, sl_1182, sl_949, sl_950, sl_951, sl_952, sl_953, sl_954], [], (2, [])), ((nat_lit 99), [lcn_898, lcn_1144], [], [sl_908, sl_892, sl_912, sl_955, sl_987, sl_1145, sl_957, sl_1146, sl_1167, sl_1175, sl_1183, sl_949, sl_950, sl_951, sl_952, sl_953, sl_954], [], (1, [])), ((nat_lit 99), [lcn_898, lcn_1147], [], [sl_908, sl_892, sl_912, sl_955, sl_987, sl_1148, sl_957, sl_1149, sl_1168, sl_1176, sl_1184, sl_949, sl_950, sl_951, sl_952, sl_953, sl_954], [], (1, [])), ((nat_lit 99), [lcn_898, lcn_1150], [], [sl_908, sl_892, sl_912, sl_955, sl_987, sl_1151, sl_957, sl_1152, sl_1169, sl_1177, sl_1185, sl_949, sl_950, sl_951, sl_952, sl_953, sl_954], [], (1, [])), ((nat_lit 99), [lcn_898, lcn_1153], [], [sl_908, sl_892, sl_912, sl_955, sl_987, sl_1154, sl_957, sl_1155, sl_1170, sl_1178, sl_1186, sl_949, sl_950, sl_951, sl_952, sl_953, sl_954], [], (1, [])), ((nat_lit 99), [lcn_898, lcn_1156], [], [sl_908, sl_892, sl_912, sl_955, sl_987, sl_1157, sl_957, sl_1158, sl_1171, sl_1179, sl_1187, sl_949, sl_950, sl_951, sl_952, sl_953, sl_954], [], (1, [])), ((nat_lit 99), [lcn_898, lcn_1159], [], [sl_908, sl_892, sl_912, sl_955, sl_987, sl_1160, sl_957, sl_1161, sl_1172, sl_1180, sl_1188, sl_949, sl_950, sl_951, sl_952, sl_953, sl_954], [], (1, [])), ((nat_lit 99), [lcn_898, lcn_1162], [], [sl_908, sl_892, sl_912, sl_955, sl_987, sl_1163, sl_957, sl_1164, sl_1173, sl_1181, sl_1189, sl_949, sl_950, sl_951, sl_952, sl_953, sl_954], [], (1, [])), ((nat_lit 99), [lcn_898, lcn_1165], [], [sl_908, sl_892, sl_912, sl_955, sl_987, sl_946, sl_957, sl_1166, sl_1174, sl_1182, sl_1190, sl_949, sl_950, sl_951, sl_952, sl_953, sl_954], [], (1, [])), ((nat_lit 117), [lcn_898, lcn_1144], [], [sl_908, sl_892, sl_912, sl_955, sl_987, sl_1145, sl_957, sl_1146, sl_1167, sl_1175, sl_1183, sl_949, sl_950, sl_951, sl_952, sl_953, sl_954], [], (0, [])), ((nat_lit 117), [lcn_898, lcn_1147], [], [sl_908, sl_892, sl_912, sl_955, sl_987, sl_1148, sl_957, sl_1149, sl_1168, sl_1176, sl_1184, sl_949, sl_950, sl_951, sl_952, sl_953, sl_954], [], (0, [])), ((nat_lit 117), [lcn_898, lcn_1150], [], [sl_908, sl_892, sl_912, sl_955, sl_987, sl_1151, sl_957, sl_1152, sl_1169, sl_1177, sl_1185, sl_949, sl_950, sl_951, sl_952, sl_953, sl_954], [], (0, [])), ((nat_lit 117), [lcn_898, lcn_1153], [], [sl_908, sl_892, sl_912, sl_955, sl_987, sl_1154, sl_957, sl_1155, sl_1170, sl_1178, sl_1186, sl_949, sl_950, sl_951, sl_952, sl_953, sl_954], [], (0, [])), ((nat_lit 117), [lcn_898, lcn_1156], [], [sl_908, sl_892, sl_912, sl_955, sl_987, sl_1157, sl_957, sl_1158, sl_1171, sl_1179, sl_1187, sl_949, sl_950, sl_951, sl_952, sl_953, sl_954], [], (0, [])), ((nat_lit 117), [lcn_898, lcn_1159], [], [sl_908, sl_892, sl_912, sl_955, sl_987, sl_1160, sl_957, sl_1161, sl_1172, sl_1180, sl_1188, sl_949, sl_950, sl_951, sl_952, sl_953, sl_954], [], (0, [])), ((nat_lit 117), [lcn_898, lcn_1162], [], [sl_908, sl_892, sl_912, sl_955, sl_987, sl_1163, sl_957, sl_1164, sl_1173, sl_1181, sl_1189, sl_949, sl_950, sl_951, sl_952, sl_953, sl_954], [], (0, [])), ((nat_lit 117), [lcn_898, lcn_1165], [], [sl_908, sl_892, sl_912, sl_955, sl_987, sl_946, sl_957, sl_1166, sl_1174, sl_1182, sl_1190, sl_949, sl_950, sl_951, sl_952, sl_953, sl_954], [], (0, []))]) (fk := [18]) (rk := (5, [])) (sp := 166154133299623528659118015977095168) (fuel := 3000) (by decide +kernel) (lk_d S_656 ml_12_223 (lk_d S_658 ml_12_223 (lk_d S_659 ml_12_223 (lk_d S_660 ml_12_223 (lk_d S_661 ml_12_223 (lk_d S_662 ml_12_223 (lk_d S_663 ml_12_223 (lk_d S_664 ml_12_223 (lk_d S_731 ml_12_246 (lk_d S_665 ml_12_213 (lk_d S_667 ml_12_213 lk_n))))))))))) odX12_boxLine
def ct_733 : aCt := (mX12_boxLine, [ag_861], ([sl_894, sl_943, sl_912, sl_955, sl_987, sl_1211, sl_957, sl_949, sl_950, sl_951, sl_952, sl_953, sl_954], []), [pon_49], mdn_872, [], (nat_lit 0))
set_option maxRecDepth 100000 in
theorem S_733 : aSpec wd ct_733 := bChk_ok wx_ok btX12_boxLine (nds := []) (fk := [18]) (rk := (1, [])) (sp := 0) (fuel := 3000) (by decide +kernel) lk_n odX12_boxLine
def pon_1256 : aPo := (none, [], [sl_908, sl_892, sl_906, sl_987, sl_949], [])
def pon_1257 : aPo := (none, [], [sl_894, sl_895, sl_906, sl_987, sl_949], [])
def mdn_1258 : List (Nat × Nat × Nat) := [((nat_lit 196), (nat_lit 4), (nat_lit 11)), ((nat_lit 196), (nat_lit 13), (nat_lit 14)), ((nat_lit 198), (nat_lit 0), (nat_lit 8)), ((nat_lit 200), (nat_lit 4), (nat_lit 9)), ((nat_lit 200), (nat_lit 17), (nat_lit 24)), ((nat_lit 200), (nat_lit 59), (nat_lit 183)), ((nat_lit 200), (nat_lit 184), (nat_lit 185)), ((nat_lit 200), (nat_lit 190), (nat_lit 203)), ((nat_lit 200), (nat_lit 211), (nat_lit 219)), ((nat_lit 200), (nat_lit 259), (nat_lit 363)), ((nat_lit 1000002), (nat_lit 0), (nat_lit 0))]
def ct_734 : aCt := (mX12_readLine, [ag_861], ([sl_894, sl_895, sl_906, sl_955, sl_987, sl_957, sl_949, sl_950, sl_951, sl_952, sl_953, sl_954], []), [pon_1219, pon_1256, pon_1221, pon_1257, pon_1222], mdn_1258, [], (nat_lit 6))
set_option maxRecDepth 100000 in
theorem S_734 : aSpec wd ct_734 := bChk_ok wx_ok btX12_readLine (nds := []) (fk := []) (rk := (1, [])) (sp := 0) (fuel := 3000) (by decide +kernel) (lk_d S_733 ml_12_205 (lk_d S_730 ml_12_205 (lk_d S_732 ml_12_205 (lk_d S_701 ml_12_189 (lk_d S_705 ml_12_196 (lk_d S_707 ml_12_196 (lk_d S_545 ml_12_208 (lk_d S_546 ml_12_202 (lk_d S_547 ml_12_199 (lk_d S_623 ml_12_202 (lk_d S_687 ml_12_208 (lk_d S_604 ml_12_199 (lk_d S_625 ml_12_202 (lk_d S_691 ml_12_208 (lk_d S_607 ml_12_199 (lk_d S_X12_isWord_0 ml_12_117 (lk_d S_561 ml_12_192 (lk_d S_692 ml_12_192 (lk_d S_460 ml_12_127 lk_n))))))))))))))))))) odX12_readLine
def ct_735 : aCt := (mX12_readLine, [ag_861], ([sl_891, sl_892, sl_906, sl_955, sl_987, sl_957, sl_949, sl_950, sl_951, sl_952, sl_953, sl_954], []), [pon_913], mdn_914, [], (nat_lit 2))
set_option maxRecDepth 100000 in
theorem S_735 : aSpec wd ct_735 := bChk_ok wx_ok btX12_readLine (nds := []) (fk := []) (rk := (1, [])) (sp := 0) (fuel := 3000) (by decide +kernel) (lk_d S_X12_isWord_2 ml_12_117 (lk_d S_695 ml_12_192 (lk_d S_696 ml_12_192 (lk_d S_460 ml_12_127 lk_n)))) odX12_readLine
def ct_736 : aCt := (mX12_readLine, [ag_861], ([sl_1215, sl_887, sl_906, sl_955, sl_987, sl_957, sl_949, sl_950, sl_951, sl_952, sl_953, sl_954], []), [pon_913], mdn_914, [], (nat_lit 2))
set_option maxRecDepth 100000 in
theorem S_736 : aSpec wd ct_736 := bChk_ok wx_ok btX12_readLine (nds := []) (fk := []) (rk := (1, [])) (sp := 0) (fuel := 3000) (by decide +kernel) (lk_d S_X12_isWord_5 ml_12_117 (lk_d S_698 ml_12_192 (lk_d S_699 ml_12_192 (lk_d S_460 ml_12_127 lk_n)))) odX12_readLine
def ct_737 : aCt := (mX12_postLine, [ag_861], ([sl_894, sl_943, sl_906, sl_955, sl_1220, sl_957, sl_950, sl_951, sl_952, sl_953, sl_954], []), [pon_913], mdn_914, [], (nat_lit 1))
set_option maxRecDepth 100000 in
theorem S_737 : aSpec wd ct_737 := bChk_ok wx_ok btX12_postLine (nds := []) (fk := []) (rk := (1, [])) (sp := 0) (fuel := 3000) (by decide +kernel) (lk_d S_559 ml_12_127 lk_n) odX12_postLine
def mdn_1259 : List (Nat × Nat × Nat) := [((nat_lit 196), (nat_lit 4), (nat_lit 11)), ((nat_lit 196), (nat_lit 13), (nat_lit 14)), ((nat_lit 198), (nat_lit 0), (nat_lit 8)), ((nat_lit 200), (nat_lit 185), (nat_lit 186)), ((nat_lit 200), (nat_lit 219), (nat_lit 227)), ((nat_lit 1000002), (nat_lit 0), (nat_lit 0))]
def ct_738 : aCt := (mX12_newName, [ag_861, ag_22], ([sl_894, sl_895, sl_906], []), [pon_915, pon_916, pon_917], mdn_1259, [], (nat_lit 2))
set_option maxRecDepth 100000 in
theorem S_738 : aSpec wd ct_738 := bChk_ok wx_ok btX12_newName (nds := [((nat_lit 45), [lcn_898, lcn_167, lcn_296], [], [sl_894, sl_895, sl_906], [], (8, [(0, -1)]))]) (fk := []) (rk := (9, [])) (sp := 35184372088832) (fuel := 3000) (by decide +kernel) (lk_d S_562 ml_12_143 (lk_d S_563 ml_12_146 (lk_d S_X12_next_0 ml_12_121 (lk_d S_559 ml_12_127 lk_n)))) odX12_newName
def lcn_1260 : Nat × aAg := ((nat_lit 2), .inl [((.ofNat (nat_lit 10)), (.ofNat (nat_lit 17)), (nat_lit 7))])
def ct_739 : aCt := (mX12_isSong, [ag_861, ag_535], ([sl_895], []), [pon_453, pon_1217], mdn_872, [], (nat_lit 0))
set_option maxRecDepth 100000 in
theorem S_739 : aSpec wd ct_739 := bChk_ok wx_ok btX12_isSong (nds := [((nat_lit 30), [lcn_898, lcn_641, lcn_1260, lcn_422, lcn_593], [], [sl_895], [], (8, [(2, 9), (3, -1)]))]) (fk := []) (rk := (18, [])) (sp := 1073741824) (fuel := 3000) (by decide +kernel) lk_n odX12_isSong
end Pk5
